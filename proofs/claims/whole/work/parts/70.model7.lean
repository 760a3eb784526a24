theorem dg_par {x : Nat → Nat} (h : ∀ j, x j < 65536) : dg_v x 56 % 2 = x 0 % 2 := by
  have h1 := dg_bit (x := x) (n := 56) (i := 0) (by decide) h
  rw [Nat.pow_zero, Nat.div_one] at h1
  rw [h1]
  show x 0 / 2 ^ 0 % 2 = _
  rw [Nat.pow_zero, Nat.div_one]
theorem gc_strip {a b K : Nat} (he : a % 2 = 0) (hK : K % 2 = 1) (h : Nat.gcd a b = K) : Nat.gcd (a / 2) b = K := by
  have hb : b % 2 = 1 := by
    rcases (show b % 2 = 0 ∨ b % 2 = 1 by omega) with q | q
    · have h1 : 2 ∣ Nat.gcd a b := Nat.dvd_gcd (Nat.dvd_of_mod_eq_zero he) (Nat.dvd_of_mod_eq_zero q)
      rw [h] at h1
      have := Nat.mod_eq_zero_of_dvd h1
      omega
    · exact q
  have h2 := ar_strip 1 (a / 2) hb
  rw [show 2 ^ 1 * (a / 2) = a by omega, h] at h2
  exact h2.symm
theorem gc_sub {a b K : Nat} (hle : b ≤ a) (h : Nat.gcd a b = K) : Nat.gcd b (a - b) = K := by
  rw [Nat.gcd_comm, Nat.gcd_sub_self_left hle, h]
theorem gc_sub2 {a b K : Nat} (hle : a ≤ b) (h : Nat.gcd a b = K) : Nat.gcd a (b - a) = K := by
  rw [Nat.gcd_comm, Nat.gcd_sub_self_left hle, Nat.gcd_comm, h]
theorem gc_odd {a b : Nat} (h : ¬ (a % 2 = 0 ∧ b % 2 = 0)) : Nat.gcd a b % 2 = 1 := by
  rcases (show Nat.gcd a b % 2 = 0 ∨ Nat.gcd a b % 2 = 1 by omega) with q | q
  · exfalso
    apply h
    have h1 := Nat.dvd_of_mod_eq_zero q
    exact ⟨Nat.mod_eq_zero_of_dvd (Nat.dvd_trans h1 (Nat.gcd_dvd_left a b)), Nat.mod_eq_zero_of_dvd (Nat.dvd_trans h1 (Nat.gcd_dvd_right a b))⟩
  · exact q
theorem gc_dbl (K k : Nat) : 2 * (K * 2 ^ k) + 0 = K * 2 ^ (k + 1) := by
  rw [Nat.add_zero, Nat.pow_succ, Nat.mul_comm 2 (K * 2 ^ k), Nat.mul_assoc]
theorem gc_half {a t T : Nat} (he : a % 2 = 0) (h : a * 2 ^ t = T) : a / 2 * 2 ^ (t + 1) = T := by
  rw [Nat.pow_succ, Nat.mul_comm (2 ^ t) 2, ← Nat.mul_assoc, show a / 2 * 2 = a by omega, h]
theorem gc_tw {a t T : Nat} (ha : a ≠ 0) (h : a * 2 ^ t = T) (hT : T < 2 ^ 896) : t < 896 := by
  rcases Nat.lt_or_ge t 896 with q | q
  · exact q
  · have h1 := Nat.pow_le_pow_right (n := 2) (by decide) q
    have h2 : 1 * 2 ^ t ≤ a * 2 ^ t := Nat.mul_le_mul_right _ (by omega)
    omega
theorem dv_bit {X G m : Nat} (hG : 0 < G) : X / 2 ^ m = 2 * (X / 2 ^ (m + 1)) + X / 2 ^ m % 2 ∧ (2 * (X / 2 ^ (m + 1) % G) + X / 2 ^ m % 2 < 2 * G) := by
  have h1 : X / 2 ^ (m + 1) = X / 2 ^ m / 2 := by rw [Nat.pow_succ, Nat.div_div_eq_div_mul]
  have h2 := Nat.mod_lt (X / 2 ^ (m + 1)) hG
  refine ⟨by rw [h1]; omega, by omega⟩
theorem dv_q {Y G b r : Nat} (hG : 0 < G) (hr : r = 2 * (Y % G) + b) (h2 : r < 2 * G) (Z : Nat) (hZ : Z = 2 * Y + b) : (r < G → Z % G = r ∧ Z / G = 2 * (Y / G)) ∧ (G ≤ r → Z % G = r - G ∧ Z / G = 2 * (Y / G) + 1) := by
  have h1 := Nat.div_add_mod Y G
  have e : Z = r + G * (2 * (Y / G)) := by
    have : G * (2 * (Y / G)) = 2 * (G * (Y / G)) := by ac_rfl
    omega
  constructor
  · intro q
    rw [e, Nat.add_mul_mod_self_left, Nat.mod_eq_of_lt q, Nat.add_mul_div_left _ _ hG, Nat.div_eq_of_lt q]
    exact ⟨rfl, by omega⟩
  · intro q
    have e2 : Z = (r - G) + G * (2 * (Y / G) + 1) := by
      rw [Nat.mul_add, Nat.mul_one]
      omega
    rw [e2, Nat.add_mul_mod_self_left, Nat.mod_eq_of_lt (show r - G < G by omega), Nat.add_mul_div_left _ _ hG, Nat.div_eq_of_lt (show r - G < G by omega)]
    exact ⟨rfl, by omega⟩
set_option maxHeartbeats 8000000 in
set_option maxRecDepth 100000 in
/-- common -/
theorem c_Model_common (l : Launch) (dC : Nat → ClassId) (dI : Nat → Nat → Nat) (sz : Nat) (m0 ma mS mt mo mb mg mh mr : Nat) (cA cJ : ClassId) (er : Int32) (n : Nat) (sv : Int32) (a : Nat → Int64) (S ft fo fb fg fh fr : Nat → Nat) (hfo : ∀ i, fo i < 65536) (hfb : ∀ i, fb i < 65536) (hfg : ∀ i, fg i < 65536) (hfh : ∀ i, fh i < 65536) (hBn : dg_v fb 56 ≠ 0) : Met l y_Model_common w_Model_common ({ frames := 1, cells := 0, slots := 0, locals := 23 }) (xc_W [.ref m0] dC dI (mw m0 ma mS mt mo mb mg mh mr cA cJ er n sv a S ft fo fb fg fh fr) [(cA, .int), (cJ, .long)] sz) (va_Qv (S := (Nat → Nat) × (Nat → Nat)) (fun u => (∀ i, u.1 i < 65536) ∧ (∀ i, u.2 i < 65536) ∧ dg_v u.1 56 = Nat.gcd (dg_v fo 56) (dg_v fb 56)) (fun u t => va_P (dC, dI) classes (mw m0 ma mS mt mo mb mg mh mr cA cJ er n sv a S ft fo fb u.1 u.2 fr) t.heap ∧ va_D (va_A (mw m0 ma mS mt mo mb mg mh mr cA cJ er n sv a S ft fo fb fg fh fr) sz) (mw m0 ma mS mt mo mb mg mh mr cA cJ er n sv a S ft fo fb u.1 u.2 fr)) (va_A (mw m0 ma mS mt mo mb mg mh mr cA cJ er n sv a S ft fo fb fg fh fr) sz)) 0 0 (va_A (mw m0 ma mS mt mo mb mg mh mr cA cJ er n sv a S ft fo fb fg fh fr) sz) := by
  refine Met.ofW (cc := b_Model_common) (maxL := 4) (ret := none) (by decide) rfl ?_
  intro p e s m args below meth c s₁ B hml hv
  obtain ⟨rfl, hsz, hP, hK, hD0⟩ := hv
  have hx := B.exec
  have hb := B.bytes
  have hr := B.returns
  have hts : ∀ w ∈ gw_tbl, w.before ([.ref m0] : List Value).toArray s = true := fun w h => atoms_spec (ws := w_Model_common) B.pre w (List.mem_cons_of_mem _ h)
  have hown : s.vm.findClass R_Model = some m.cls := findClass_of_methodNamed B.named
  have hlocks := B.notSynchronized
  subst hsz
  have hD := hD0.self (sz := s.heap.size)
  generalize hAe : va_A (mw m0 ma mS mt mo mb mg mh mr cA cJ er n sv a S ft fo fb fg fh fr) s.heap.size = A at hD ⊢
  have hA : ∀ q : Nat, s.heap.size ≤ q → A q := fun q h => by rw [← hAe]; exact Or.inr h
  have hS : va_S A s.heap s.heap [] := va_S.rf
  have hl := lv_entry ([.ref m0]) (n := 4) (Nat.le_of_ble_eq_true rfl)
  rw [lg_entry_eq]
  generalize (lg_sl ([.ref m0]) ++ List.replicate (4 - (lg_sl ([.ref m0])).length) Slot.unset).toArray = ls at hl ⊢
  have hl : lv_has ls 4 [(0, .ref m0)] := hl
  refine lv_aload_n hx hb d_Model_common_0 rfl (lv_at hl 0 rfl) ?_
  refine va_get (D := (dC, dI)) (ci := 3) (v := .ref mo) (C := R_Model) (T := F_Model) (N := 11) hx hb hts i_Model hown hK hP 0 rfl rfl 6 (by decide) (hts _ k_fl_Model_21) (fun _ h9 => h9) rfl d_Model_common_1 ?_
  refine lv_aload_n hx hb d_Model_common_4 rfl (lv_at hl 0 rfl) ?_
  refine va_get (D := (dC, dI)) (ci := 3) (v := .ref mg) (C := R_Model) (T := F_Model) (N := 11) hx hb hts i_Model hown hK hP 0 rfl rfl 8 (by decide) (hts _ k_fl_Model_27) (fun _ h9 => h9) rfl d_Model_common_5 ?_
  have hFc := va_free (wc := [(mo, .inl (cA, 56, .inl (xn_f fo))), (mg, .inl (cA, 56, .inl (xn_f fg)))]) hD hS hA [4, 6] rfl
  refine va_callv (va_runS (As := [.ref mo, .ref mg]) (rest := []) ⟨hx, hb, hml, hown, hts⟩ (c_Model_copy l dC dI s.heap.size cA mo mg fo fg hfo hfg) (cwS 2 hts (gw_S k_ml_Model_79 k_st_Model_copy k_ini_Model k_code_Model_copy) rfl rfl rfl (by decide +kernel) ⟨Nat.le_of_ble_eq_true rfl, Nat.le_of_ble_eq_true rfl⟩) ⟨xc_W_blind, fun U hU hW => ⟨rfl, by rw [hU], by rw [hU]; exact hP.sub (ws' := [(mo, .inl (cA, 56, .inl (xn_f fo))), (mg, .inl (cA, 56, .inl (xn_f fg)))]) [4, 6] rfl, va_K.moved hW.alike (hK.sub (tys' := [(cA, .int)]) [0] rfl), (hD.sub (ws' := [(mo, .inl (cA, 56, .inl (xn_f fo))), (mg, .inl (cA, 56, .inl (xn_f fg)))]) [4, 6] (by decide) rfl).weaken (fun _ _ _ _ => trivial)⟩⟩ rfl rfl hl.1 rfl (lv_room (Nat.le_of_ble_eq_true rfl)) d_Model_common_8 ⟨Nat.zero_le _, Nat.zero_le _⟩) hS (fun q _ h => hFc q h) hFc (fun u t_ H locs ht_ hvm_ w1 hB hz1 hk1 hS => ?_)
  obtain ⟨G0, e_G0⟩ : ∃ z, z = u := ⟨u, rfl⟩
  rw [← e_G0] at w1 hB
  rw [ht_] at hB
  obtain ⟨hP, hD⟩ := xj_2 4 6 hP hD rfl rfl hk1 hB
  have hP : va_P (dC, dI) classes (mw m0 ma mS mt mo mb mg mh mr cA cJ er n sv a S ft fo fb G0 fh fr) H := hP
  have hD : va_D A (mw m0 ma mS mt mo mb mg mh mr cA cJ er n sv a S ft fo fb G0 fh fr) := hD
  refine lv_aload_n hx hb d_Model_common_11 rfl (lv_at hl 0 rfl) ?_
  refine va_get (D := (dC, dI)) (ci := 3) (v := .ref mb) (C := R_Model) (T := F_Model) (N := 11) hx hb hts i_Model hown hK hP 0 rfl rfl 7 (by decide) (hts _ k_fl_Model_24) (fun _ h9 => h9) rfl d_Model_common_12 ?_
  refine lv_aload_n hx hb d_Model_common_15 rfl (lv_at hl 0 rfl) ?_
  refine va_get (D := (dC, dI)) (ci := 3) (v := .ref mh) (C := R_Model) (T := F_Model) (N := 11) hx hb hts i_Model hown hK hP 0 rfl rfl 9 (by decide) (hts _ k_fl_Model_30) (fun _ h9 => h9) rfl d_Model_common_16 ?_
  have hFc := va_free (wc := [(mb, .inl (cA, 56, .inl (xn_f fb))), (mh, .inl (cA, 56, .inl (xn_f fh)))]) hD hS hA [5, 7] rfl
  refine va_callv (va_runS (As := [.ref mb, .ref mh]) (rest := []) ⟨hx, hb, hml, hown, hts⟩ (c_Model_copy l dC dI H.size cA mb mh fb fh hfb hfh) (cwS 2 hts (gw_S k_ml_Model_79 k_st_Model_copy k_ini_Model k_code_Model_copy) rfl rfl rfl (by decide +kernel) ⟨Nat.le_of_ble_eq_true rfl, Nat.le_of_ble_eq_true rfl⟩) ⟨xc_W_blind, fun U hU hW => ⟨rfl, by rw [hU], by rw [hU]; exact hP.sub (ws' := [(mb, .inl (cA, 56, .inl (xn_f fb))), (mh, .inl (cA, 56, .inl (xn_f fh)))]) [5, 7] rfl, va_K.moved hW.alike (hK.sub (tys' := [(cA, .int)]) [0] rfl), (hD.sub (ws' := [(mb, .inl (cA, 56, .inl (xn_f fb))), (mh, .inl (cA, 56, .inl (xn_f fh)))]) [5, 7] (by decide) rfl).weaken (fun _ _ _ _ => trivial)⟩⟩ rfl rfl hl.1 rfl (lv_room (Nat.le_of_ble_eq_true rfl)) d_Model_common_19 ⟨Nat.zero_le _, Nat.zero_le _⟩) hS (fun q _ h => hFc q h) hFc (fun u t_ H locs ht_ hvm_ w2 hB hz1 hk1 hS => ?_)
  obtain ⟨H0, e_H0⟩ : ∃ z, z = u := ⟨u, rfl⟩
  rw [← e_H0] at w2 hB
  rw [ht_] at hB
  obtain ⟨hP, hD⟩ := xj_2 5 7 hP hD rfl rfl hk1 hB
  have hP : va_P (dC, dI) classes (mw m0 ma mS mt mo mb mg mh mr cA cJ er n sv a S ft fo fb G0 H0 fr) H := hP
  have hD : va_D A (mw m0 ma mS mt mo mb mg mh mr cA cJ er n sv a S ft fo fb G0 H0 fr) := hD
  refine lv_aload_n hx hb d_Model_common_22 rfl (lv_at hl 0 rfl) ?_
  refine va_get (D := (dC, dI)) (ci := 3) (v := .ref mg) (C := R_Model) (T := F_Model) (N := 11) hx hb hts i_Model hown hK hP 0 rfl rfl 8 (by decide) (hts _ k_fl_Model_27) (fun _ h9 => h9) rfl d_Model_common_23 ?_
  refine vp_callSi (W.runS (As := [.ref mg]) (rest := []) ⟨hx, hb, hml, hown, hts⟩ (c_Model_isZero l dC dI cA mg G0 w1.1) (cwS 1 hts (gw_S k_ml_Model_83 k_st_Model_isZero k_ini_Model k_code_Model_isZero) rfl rfl rfl (by decide +kernel) ⟨Nat.le_of_ble_eq_true rfl, Nat.le_of_ble_eq_true rfl⟩) ⟨xc_R_blind, fun U hU hW => ⟨rfl, by rw [hU]; exact hP.sub (ws' := [(mg, .inl (cA, 56, .inl (xn_f G0)))]) [6] rfl, va_K.moved hW.alike (hK.sub (tys' := [(cA, .int)]) [0] rfl)⟩⟩ rfl rfl hl.1 rfl (lv_room (Nat.le_of_ble_eq_true rfl)) d_Model_common_26 ⟨Nat.zero_le _, Nat.zero_le _⟩) (fun rz e_z => ?_)
  refine lv_if_eq (tgt := 44) hx hb d_Model_common_29 (by decide) (fun hz => ?_) (fun hz => ?_)
  rotate_left
  · have hT0 : dg_v G0 56 = 0 := by
      rcases Nat.eq_zero_or_pos (dg_v G0 56) with q | q
      · exact q
      · rw [if_neg (by omega)] at e_z; exact absurd e_z hz
    refine lv_aload_n hx hb d_Model_common_32 rfl (lv_at hl 0 rfl) ?_
    refine va_get (D := (dC, dI)) (ci := 3) (v := .ref mh) (C := R_Model) (T := F_Model) (N := 11) hx hb hts i_Model hown hK hP 0 rfl rfl 9 (by decide) (hts _ k_fl_Model_30) (fun _ h9 => h9) rfl d_Model_common_33 ?_
    refine lv_aload_n hx hb d_Model_common_36 rfl (lv_at hl 0 rfl) ?_
    refine va_get (D := (dC, dI)) (ci := 3) (v := .ref mg) (C := R_Model) (T := F_Model) (N := 11) hx hb hts i_Model hown hK hP 0 rfl rfl 8 (by decide) (hts _ k_fl_Model_27) (fun _ h9 => h9) rfl d_Model_common_37 ?_
    have hFc := va_free (wc := [(mh, .inl (cA, 56, .inl (xn_f H0))), (mg, .inl (cA, 56, .inl (xn_f G0)))]) hD hS hA [7, 6] rfl
    refine va_callv (va_runS (As := [.ref mh, .ref mg]) (rest := []) ⟨hx, hb, hml, hown, hts⟩ (c_Model_copy l dC dI H.size cA mh mg H0 G0 w2.1 w1.1) (cwS 2 hts (gw_S k_ml_Model_79 k_st_Model_copy k_ini_Model k_code_Model_copy) rfl rfl rfl (by decide +kernel) ⟨Nat.le_of_ble_eq_true rfl, Nat.le_of_ble_eq_true rfl⟩) ⟨xc_W_blind, fun U hU hW => ⟨rfl, by rw [hU], by rw [hU]; exact hP.sub (ws' := [(mh, .inl (cA, 56, .inl (xn_f H0))), (mg, .inl (cA, 56, .inl (xn_f G0)))]) [7, 6] rfl, va_K.moved hW.alike (hK.sub (tys' := [(cA, .int)]) [0] rfl), (hD.sub (ws' := [(mh, .inl (cA, 56, .inl (xn_f H0))), (mg, .inl (cA, 56, .inl (xn_f G0)))]) [7, 6] (by decide) rfl).weaken (fun _ _ _ _ => trivial)⟩⟩ rfl rfl hl.1 rfl (lv_room (Nat.le_of_ble_eq_true rfl)) d_Model_common_40 ⟨Nat.zero_le _, Nat.zero_le _⟩) hS (fun q _ h => hFc q h) hFc (fun u t_ H locs ht_ hvm_ w3 hB hz1 hk1 hS => ?_)
    obtain ⟨G1, e_G1⟩ : ∃ z, z = u := ⟨u, rfl⟩
    rw [← e_G1] at w3 hB
    rw [ht_] at hB
    obtain ⟨hP, hD⟩ := xj_2 7 6 hP hD rfl rfl hk1 hB
    have hP : va_P (dC, dI) classes (mw m0 ma mS mt mo mb mg mh mr cA cJ er n sv a S ft fo fb G1 H0 fr) H := hP
    have hD : va_D A (mw m0 ma mS mt mo mb mg mh mr cA cJ er n sv a S ft fo fb G1 H0 fr) := hD
    have hpost : (∀ i, G1 i < 65536) ∧ (∀ i, H0 i < 65536) ∧ dg_v G1 56 = Nat.gcd (dg_v fo 56) (dg_v fb 56) := ⟨w3.1, w2.1, by rw [w3.2, w2.2, ← w1.2, hT0, Nat.gcd_zero_left]⟩
    exact W.vret hx hb hr (fun T_ ht_ hW_ => ⟨⟨(G1, H0), rfl, hpost, by show va_P (dC, dI) classes _ T_.heap; rw [ht_]; exact hP, hD⟩, hS.F ht_⟩) hS.2.2 d_Model_common_43
  have hT0 : dg_v G0 56 ≠ 0 := fun q => by rw [if_pos q] at e_z; exact absurd e_z (by rw [hz]; decide)
  have after : ∀ (tw1 : Nat) (G3 H3 : Nat → Nat), (∀ i, G3 i < 65536) → (∀ i, H3 i < 65536) → (dg_v G3 56 ≠ 0) → (dg_v G3 56 * 2 ^ tw1 = dg_v fo 56) → (dg_v H3 56 * 2 ^ tw1 = dg_v fb 56) → (¬ (dg_v G3 56 % 2 = 0 ∧ dg_v H3 56 % 2 = 0)) → (tw1 < 896) → ∀ (H : Heap) (locs : List Loc), va_P (dC, dI) classes (mw m0 ma mS mt mo mb mg mh mr cA cJ er n sv a S ft fo fb G3 H3 fr) H → va_D A (mw m0 ma mS mt mo mb mg mh mr cA cJ er n sv a S ft fo fb G3 H3 fr) → va_S A s.heap H locs → ∀ (ls : Array Slot), lv_has ls 4 [(1, .int (nI tw1)), (0, .ref m0)] → W p l e (headSpec w_Model_common ({ frames := 1, cells := 0, slots := 0, locals := 23 })).room s m ([.ref m0] : List Value).toArray below meth c H locs 0 0 (MQ below (va_Qv (S := (Nat → Nat) × (Nat → Nat)) (fun u => (∀ i, u.1 i < 65536) ∧ (∀ i, u.2 i < 65536) ∧ dg_v u.1 56 = Nat.gcd (dg_v fo 56) (dg_v fb 56)) (fun u t => va_P (dC, dI) classes (mw m0 ma mS mt mo mb mg mh mr cA cJ er n sv a S ft fo fb u.1 u.2 fr) t.heap ∧ va_D A (mw m0 ma mS mt mo mb mg mh mr cA cJ er n sv a S ft fo fb u.1 u.2 fr)) A) ([.ref m0] : List Value).toArray s 0 0 A) (F0 m 88 ls []) := by
    intro tw1 G3 H3 hG3 hH3 hn3 hg3 hh3 hne htw H locs hP hD hS ls hl
    obtain ⟨K, eK⟩ : ∃ K, K = Nat.gcd (dg_v G3 56) (dg_v H3 56) := ⟨_, rfl⟩
    have hKo : K % 2 = 1 := by rw [eK]; exact gc_odd hne
    have hKg : K * 2 ^ tw1 = Nat.gcd (dg_v fo 56) (dg_v fb 56) := by rw [eK, ← Nat.gcd_mul_right, hg3, hh3]
    have loopT : ∀ (n0 : Nat) (k : Nat) (G Hh : Nat → Nat), (k ≤ tw1) → (∀ i, G i < 65536) → (∀ i, Hh i < 65536) → (dg_v G 56 = K * 2 ^ k) → (tw1 + 1 ≤ k + n0) → ∀ (H : Heap) (locs : List Loc), va_P (dC, dI) classes (mw m0 ma mS mt mo mb mg mh mr cA cJ er n sv a S ft fo fb G Hh fr) H → va_D A (mw m0 ma mS mt mo mb mg mh mr cA cJ er n sv a S ft fo fb G Hh fr) → va_S A s.heap H locs → ∀ (ls : Array Slot), lv_has ls 4 [(2, .int (nI k)), (1, .int (nI tw1)), (0, .ref m0)] → W p l e (headSpec w_Model_common ({ frames := 1, cells := 0, slots := 0, locals := 23 })).room s m ([.ref m0] : List Value).toArray below meth c H locs 0 0 (MQ below (va_Qv (S := (Nat → Nat) × (Nat → Nat)) (fun u => (∀ i, u.1 i < 65536) ∧ (∀ i, u.2 i < 65536) ∧ dg_v u.1 56 = Nat.gcd (dg_v fo 56) (dg_v fb 56)) (fun u t => va_P (dC, dI) classes (mw m0 ma mS mt mo mb mg mh mr cA cJ er n sv a S ft fo fb u.1 u.2 fr) t.heap ∧ va_D A (mw m0 ma mS mt mo mb mg mh mr cA cJ er n sv a S ft fo fb u.1 u.2 fr)) A) ([.ref m0] : List Value).toArray s 0 0 A) (F0 m 224 ls []) := by
      intro n0
      induction n0 with
      | zero => intro k G Hh hk hG hH hv hn_; exact absurd hn_ (by omega)
      | succ n0 ih =>
        intro k G Hh hk hG hH hv hn_ H locs hP hD hS ls hl
        refine lv_iload_n hx hb d_Model_common_224 rfl (lv_at hl 0 rfl) ?_
        refine lv_iload_n hx hb d_Model_common_225 rfl (lv_at hl 1 rfl) ?_
        refine xn_icmp_ge (tgt := 243) hx hb (by omega) (by omega) d_Model_common_226 (by decide) (fun hge => ?_) (fun hge => ?_)
        · have hkt : k = tw1 := by omega
          subst hkt
          have hpost : (∀ i, G i < 65536) ∧ (∀ i, Hh i < 65536) ∧ dg_v G 56 = Nat.gcd (dg_v fo 56) (dg_v fb 56) := ⟨hG, hH, by rw [hv]; exact hKg⟩
          exact W.vret hx hb hr (fun T_ ht_ hW_ => ⟨⟨(G, Hh), rfl, hpost, by show va_P (dC, dI) classes _ T_.heap; rw [ht_]; exact hP, hD⟩, hS.F ht_⟩) hS.2.2 d_Model_common_243
        refine lv_aload_n hx hb d_Model_common_229 rfl (lv_at hl 2 rfl) ?_
        refine va_get (D := (dC, dI)) (ci := 3) (v := .ref mg) (C := R_Model) (T := F_Model) (N := 11) hx hb hts i_Model hown hK hP 0 rfl rfl 8 (by decide) (hts _ k_fl_Model_27) (fun _ h9 => h9) rfl d_Model_common_230 ?_
        refine lv_iconst (v := nI 0) hx hb d_Model_common_233 rfl ?_
        have hfit : 2 * dg_v G 56 + 0 < dg_p 56 := by
          rw [hv]
          have h1 := dg_lt (g := fb) 56 (fun i _ => hfb i)
          have h2 : Nat.gcd (dg_v fo 56) (dg_v fb 56) ≤ dg_v fb 56 := Nat.gcd_le_right _ (Nat.pos_of_ne_zero hBn)
          have h3 : K * 2 ^ (k + 1) ≤ K * 2 ^ tw1 := Nat.mul_le_mul_left _ (Nat.pow_le_pow_right (by decide) (by omega))
          rw [Nat.pow_succ, ← Nat.mul_assoc] at h3
          omega
        have hFc := va_free (wc := [(mg, .inl (cA, 56, .inl (xn_f G)))]) hD hS hA [6] rfl
        refine va_callv (va_runS (As := [.ref mg, .int (nI 0)]) (rest := []) ⟨hx, hb, hml, hown, hts⟩ (c_Model_twice l dC dI H.size cA mg G 0 hG (by decide) hfit) (cwS 2 hts (gw_S k_ml_Model_97 k_st_Model_twice k_ini_Model k_code_Model_twice) rfl rfl rfl (by decide +kernel) ⟨Nat.le_of_ble_eq_true rfl, Nat.le_of_ble_eq_true rfl⟩) ⟨xc_W_blind, fun U hU hW => ⟨rfl, by rw [hU], by rw [hU]; exact hP.sub (ws' := [(mg, .inl (cA, 56, .inl (xn_f G)))]) [6] rfl, va_K.moved hW.alike (hK.sub (tys' := [(cA, .int)]) [0] rfl), (hD.sub (ws' := [(mg, .inl (cA, 56, .inl (xn_f G)))]) [6] (by decide) rfl).weaken (fun _ _ _ _ => trivial)⟩⟩ rfl rfl hl.1 rfl (lv_room (Nat.le_of_ble_eq_true rfl)) d_Model_common_234 ⟨Nat.zero_le _, Nat.zero_le _⟩) hS (fun q _ h => hFc q h) hFc (fun u t_ H locs ht_ hvm_ w1 hB hz1 hk1 hS => ?_)
        obtain ⟨G2, e_G2⟩ : ∃ z, z = u := ⟨u, rfl⟩
        rw [← e_G2] at w1 hB
        rw [ht_] at hB
        obtain ⟨hP, hD⟩ := xj_1 6 hP hD rfl hk1 hB
        have hP : va_P (dC, dI) classes (mw m0 ma mS mt mo mb mg mh mr cA cJ er n sv a S ft fo fb G2 Hh fr) H := hP
        have hD : va_D A (mw m0 ma mS mt mo mb mg mh mr cA cJ er n sv a S ft fo fb G2 Hh fr) := hD
        refine lv_iinc (v := nI (k + 1)) (lv' := [(2, .int (nI (k + 1))), (1, .int (nI tw1)), (0, .ref m0)]) hx hb d_Model_common_237 hl (k := 0) rfl (nI_1 _) (by decide) rfl (fun ls hl => ?_)
        refine lv_goto (tgt := 224) hx hb d_Model_common_240 (by decide) ?_
        exact ih (k + 1) G2 Hh (by omega) w1.1 hH (by rw [w1.2, hv]; exact gc_dbl K k) (by omega) H locs hP hD hS ls (lv_sub hl [0, 1, 2] rfl)
    have loopB : ∀ (n2 : Nat) (G Hh : Nat → Nat), (∀ i, G i < 65536) → (∀ i, Hh i < 65536) → (dg_v G 56 ≠ 0) → (Nat.gcd (dg_v G 56) (dg_v Hh 56) = K) → (dg_v G 56 + dg_v Hh 56 + 1 ≤ n2) → ∀ (H : Heap) (locs : List Loc), va_P (dC, dI) classes (mw m0 ma mS mt mo mb mg mh mr cA cJ er n sv a S ft fo fb G Hh fr) H → va_D A (mw m0 ma mS mt mo mb mg mh mr cA cJ er n sv a S ft fo fb G Hh fr) → va_S A s.heap H locs → ∀ (ls : Array Slot), lv_has ls 4 [(1, .int (nI tw1)), (0, .ref m0)] → W p l e (headSpec w_Model_common ({ frames := 1, cells := 0, slots := 0, locals := 23 })).room s m ([.ref m0] : List Value).toArray below meth c H locs 0 0 (MQ below (va_Qv (S := (Nat → Nat) × (Nat → Nat)) (fun u => (∀ i, u.1 i < 65536) ∧ (∀ i, u.2 i < 65536) ∧ dg_v u.1 56 = Nat.gcd (dg_v fo 56) (dg_v fb 56)) (fun u t => va_P (dC, dI) classes (mw m0 ma mS mt mo mb mg mh mr cA cJ er n sv a S ft fo fb u.1 u.2 fr) t.heap ∧ va_D A (mw m0 ma mS mt mo mb mg mh mr cA cJ er n sv a S ft fo fb u.1 u.2 fr)) A) ([.ref m0] : List Value).toArray s 0 0 A) (F0 m 88 ls []) := by
      intro n2
      induction n2 with
      | zero => intro G Hh hG hH hn hgc hn_; exact absurd hn_ (by omega)
      | succ n2 ih2 =>
        intro G Hh hG hH hn hgc hn_ H locs hP hD hS ls hl
        refine lv_aload_n hx hb d_Model_common_88 rfl (lv_at hl 1 rfl) ?_
        refine va_get (D := (dC, dI)) (ci := 3) (v := .ref mh) (C := R_Model) (T := F_Model) (N := 11) hx hb hts i_Model hown hK hP 0 rfl rfl 9 (by decide) (hts _ k_fl_Model_30) (fun _ h9 => h9) rfl d_Model_common_89 ?_
        refine vp_callSi (W.runS (As := [.ref mh]) (rest := []) ⟨hx, hb, hml, hown, hts⟩ (c_Model_isZero l dC dI cA mh Hh hH) (cwS 1 hts (gw_S k_ml_Model_83 k_st_Model_isZero k_ini_Model k_code_Model_isZero) rfl rfl rfl (by decide +kernel) ⟨Nat.le_of_ble_eq_true rfl, Nat.le_of_ble_eq_true rfl⟩) ⟨xc_R_blind, fun U hU hW => ⟨rfl, by rw [hU]; exact hP.sub (ws' := [(mh, .inl (cA, 56, .inl (xn_f Hh)))]) [7] rfl, va_K.moved hW.alike (hK.sub (tys' := [(cA, .int)]) [0] rfl)⟩⟩ rfl rfl hl.1 rfl (lv_room (Nat.le_of_ble_eq_true rfl)) d_Model_common_92 ⟨Nat.zero_le _, Nat.zero_le _⟩) (fun rz2 e_z2 => ?_)
        refine lv_if_ne (tgt := 222) hx hb d_Model_common_95 (by decide) (fun hz2 => ?_) (fun hz2 => ?_)
        · have hH0 : dg_v Hh 56 = 0 := by
            rcases Nat.eq_zero_or_pos (dg_v Hh 56) with q | q
            · exact q
            · rw [if_neg (by omega)] at e_z2; exact absurd e_z2 hz2
          refine lv_iconst (v := nI 0) hx hb d_Model_common_222 rfl ?_
          refine lv_istore_n (lv' := [(2, .int (nI 0)), (1, .int (nI tw1)), (0, .ref m0)]) hx hb d_Model_common_223 rfl hl (by decide) rfl (fun ls hl => ?_)
          exact loopT (tw1 + 1) 0 G Hh (Nat.zero_le _) hG hH (by rw [hH0, Nat.gcd_zero_right] at hgc; rw [hgc, Nat.pow_zero, Nat.mul_one]) (by omega) H locs hP hD hS ls (lv_sub hl [0, 1, 2] rfl)
        have hH0 : dg_v Hh 56 ≠ 0 := fun q => by rw [if_pos q] at e_z2; exact absurd e_z2 (by rw [hz2]; decide)
        have odd : ∀ (G1 H1 : Nat → Nat), (∀ i, G1 i < 65536) → (∀ i, H1 i < 65536) → (dg_v G1 56 ≠ 0) → (dg_v H1 56 ≠ 0) → (Nat.gcd (dg_v G1 56) (dg_v H1 56) = K) → (dg_v G1 56 + dg_v H1 56 ≤ dg_v G 56 + dg_v Hh 56) → ∀ (H : Heap) (locs : List Loc), va_P (dC, dI) classes (mw m0 ma mS mt mo mb mg mh mr cA cJ er n sv a S ft fo fb G1 H1 fr) H → va_D A (mw m0 ma mS mt mo mb mg mh mr cA cJ er n sv a S ft fo fb G1 H1 fr) → va_S A s.heap H locs → ∀ (ls : Array Slot), lv_has ls 4 [(1, .int (nI tw1)), (0, .ref m0)] → W p l e (headSpec w_Model_common ({ frames := 1, cells := 0, slots := 0, locals := 23 })).room s m ([.ref m0] : List Value).toArray below meth c H locs 0 0 (MQ below (va_Qv (S := (Nat → Nat) × (Nat → Nat)) (fun u => (∀ i, u.1 i < 65536) ∧ (∀ i, u.2 i < 65536) ∧ dg_v u.1 56 = Nat.gcd (dg_v fo 56) (dg_v fb 56)) (fun u t => va_P (dC, dI) classes (mw m0 ma mS mt mo mb mg mh mr cA cJ er n sv a S ft fo fb u.1 u.2 fr) t.heap ∧ va_D A (mw m0 ma mS mt mo mb mg mh mr cA cJ er n sv a S ft fo fb u.1 u.2 fr)) A) ([.ref m0] : List Value).toArray s 0 0 A) (F0 m 140 ls []) := by
          intro G1 H1 hG1 hH1 hn1 hn2 hgc1 hsum H locs hP hD hS ls hl
          refine lv_aload_n hx hb d_Model_common_140 rfl (lv_at hl 1 rfl) ?_
          refine va_get (D := (dC, dI)) (ci := 3) (v := .ref mg) (C := R_Model) (T := F_Model) (N := 11) hx hb hts i_Model hown hK hP 0 rfl rfl 8 (by decide) (hts _ k_fl_Model_27) (fun _ h9 => h9) rfl d_Model_common_141 ?_
          refine lv_aload_n hx hb d_Model_common_144 rfl (lv_at hl 1 rfl) ?_
          refine va_get (D := (dC, dI)) (ci := 3) (v := .ref mh) (C := R_Model) (T := F_Model) (N := 11) hx hb hts i_Model hown hK hP 0 rfl rfl 9 (by decide) (hts _ k_fl_Model_30) (fun _ h9 => h9) rfl d_Model_common_145 ?_
          refine vp_callSi (W.runS (As := [.ref mg, .ref mh]) (rest := []) ⟨hx, hb, hml, hown, hts⟩ (c_Model_cmp l dC dI cA mg mh G1 H1 hG1 hH1) (cwS 2 hts (gw_S k_ml_Model_90 k_st_Model_cmp k_ini_Model k_code_Model_cmp) rfl rfl rfl (by decide +kernel) ⟨Nat.le_of_ble_eq_true rfl, Nat.le_of_ble_eq_true rfl⟩) ⟨xc_R_blind, fun U hU hW => ⟨rfl, by rw [hU]; exact hP.sub (ws' := [(mg, .inl (cA, 56, .inl (xn_f G1))), (mh, .inl (cA, 56, .inl (xn_f H1)))]) [6, 7] rfl, va_K.moved hW.alike (hK.sub (tys' := [(cA, .int)]) [0] rfl)⟩⟩ rfl rfl hl.1 rfl (lv_room (Nat.le_of_ble_eq_true rfl)) d_Model_common_148 ⟨Nat.zero_le _, Nat.zero_le _⟩) (fun rc e_c => ?_)
          refine lv_if_le (tgt := 208) hx hb d_Model_common_151 (by decide) (fun hc => ?_) (fun hc => ?_)
          · have hle : dg_v G1 56 ≤ dg_v H1 56 := by
              rcases Nat.lt_or_ge (dg_v H1 56) (dg_v G1 56) with q | q
              · rw [if_neg (by omega), if_pos q] at e_c; rw [e_c] at hc; exact absurd hc (by decide)
              · exact q
            refine lv_aload_n hx hb d_Model_common_208 rfl (lv_at hl 1 rfl) ?_
            refine va_get (D := (dC, dI)) (ci := 3) (v := .ref mh) (C := R_Model) (T := F_Model) (N := 11) hx hb hts i_Model hown hK hP 0 rfl rfl 9 (by decide) (hts _ k_fl_Model_30) (fun _ h9 => h9) rfl d_Model_common_209 ?_
            refine lv_aload_n hx hb d_Model_common_212 rfl (lv_at hl 1 rfl) ?_
            refine va_get (D := (dC, dI)) (ci := 3) (v := .ref mg) (C := R_Model) (T := F_Model) (N := 11) hx hb hts i_Model hown hK hP 0 rfl rfl 8 (by decide) (hts _ k_fl_Model_27) (fun _ h9 => h9) rfl d_Model_common_213 ?_
            have hFc := va_free (wc := [(mh, .inl (cA, 56, .inl (xn_f H1))), (mg, .inl (cA, 56, .inl (xn_f G1)))]) hD hS hA [7, 6] rfl
            refine va_callv (va_runS (As := [.ref mh, .ref mg]) (rest := []) ⟨hx, hb, hml, hown, hts⟩ (c_Model_less l dC dI H.size cA mh mg H1 G1 hH1 hG1 hle) (cwS 2 hts (gw_S k_ml_Model_94 k_st_Model_less k_ini_Model k_code_Model_less) rfl rfl rfl (by decide +kernel) ⟨Nat.le_of_ble_eq_true rfl, Nat.le_of_ble_eq_true rfl⟩) ⟨xc_W_blind, fun U hU hW => ⟨rfl, by rw [hU], by rw [hU]; exact hP.sub (ws' := [(mh, .inl (cA, 56, .inl (xn_f H1))), (mg, .inl (cA, 56, .inl (xn_f G1)))]) [7, 6] rfl, va_K.moved hW.alike (hK.sub (tys' := [(cA, .int)]) [0] rfl), (hD.sub (ws' := [(mh, .inl (cA, 56, .inl (xn_f H1))), (mg, .inl (cA, 56, .inl (xn_f G1)))]) [7, 6] (by decide) rfl).weaken (fun _ _ _ _ => trivial)⟩⟩ rfl rfl hl.1 rfl (lv_room (Nat.le_of_ble_eq_true rfl)) d_Model_common_216 ⟨Nat.zero_le _, Nat.zero_le _⟩) hS (fun q _ h => hFc q h) hFc (fun u t_ H locs ht_ hvm_ w5 hB hz1 hk1 hS => ?_)
            obtain ⟨H2, e_H2⟩ : ∃ z, z = u := ⟨u, rfl⟩
            rw [← e_H2] at w5 hB
            rw [ht_] at hB
            obtain ⟨hP, hD⟩ := xj_2 7 6 hP hD rfl rfl hk1 hB
            have hP : va_P (dC, dI) classes (mw m0 ma mS mt mo mb mg mh mr cA cJ er n sv a S ft fo fb G1 H2 fr) H := hP
            have hD : va_D A (mw m0 ma mS mt mo mb mg mh mr cA cJ er n sv a S ft fo fb G1 H2 fr) := hD
            refine lv_goto (tgt := 88) hx hb d_Model_common_219 (by decide) ?_
            exact ih2 G1 H2 hG1 w5.1 hn1 (by rw [w5.2]; exact gc_sub2 hle hgc1) (by omega) H locs hP hD hS ls (lv_sub hl [0, 1] rfl)
          have hlt : dg_v H1 56 < dg_v G1 56 := by
            rcases Nat.lt_trichotomy (dg_v H1 56) (dg_v G1 56) with q | q | q
            · exact q
            · rw [if_neg (by omega), if_neg (by omega)] at e_c; rw [e_c] at hc; exact absurd (by decide) hc
            · rw [if_pos q] at e_c; rw [e_c] at hc; exact absurd (by decide) hc
          refine lv_aload_n hx hb d_Model_common_154 rfl (lv_at hl 1 rfl) ?_
          refine va_get (D := (dC, dI)) (ci := 3) (v := .ref mg) (C := R_Model) (T := F_Model) (N := 11) hx hb hts i_Model hown hK hP 0 rfl rfl 8 (by decide) (hts _ k_fl_Model_27) (fun _ h9 => h9) rfl d_Model_common_155 ?_
          refine lv_aload_n hx hb d_Model_common_158 rfl (lv_at hl 1 rfl) ?_
          refine va_get (D := (dC, dI)) (ci := 3) (v := .ref mh) (C := R_Model) (T := F_Model) (N := 11) hx hb hts i_Model hown hK hP 0 rfl rfl 9 (by decide) (hts _ k_fl_Model_30) (fun _ h9 => h9) rfl d_Model_common_159 ?_
          have hFc := va_free (wc := [(mg, .inl (cA, 56, .inl (xn_f G1))), (mh, .inl (cA, 56, .inl (xn_f H1)))]) hD hS hA [6, 7] rfl
          refine va_callv (va_runS (As := [.ref mg, .ref mh]) (rest := []) ⟨hx, hb, hml, hown, hts⟩ (c_Model_less l dC dI H.size cA mg mh G1 H1 hG1 hH1 (Nat.le_of_lt hlt)) (cwS 2 hts (gw_S k_ml_Model_94 k_st_Model_less k_ini_Model k_code_Model_less) rfl rfl rfl (by decide +kernel) ⟨Nat.le_of_ble_eq_true rfl, Nat.le_of_ble_eq_true rfl⟩) ⟨xc_W_blind, fun U hU hW => ⟨rfl, by rw [hU], by rw [hU]; exact hP.sub (ws' := [(mg, .inl (cA, 56, .inl (xn_f G1))), (mh, .inl (cA, 56, .inl (xn_f H1)))]) [6, 7] rfl, va_K.moved hW.alike (hK.sub (tys' := [(cA, .int)]) [0] rfl), (hD.sub (ws' := [(mg, .inl (cA, 56, .inl (xn_f G1))), (mh, .inl (cA, 56, .inl (xn_f H1)))]) [6, 7] (by decide) rfl).weaken (fun _ _ _ _ => trivial)⟩⟩ rfl rfl hl.1 rfl (lv_room (Nat.le_of_ble_eq_true rfl)) d_Model_common_162 ⟨Nat.zero_le _, Nat.zero_le _⟩) hS (fun q _ h => hFc q h) hFc (fun u t_ H locs ht_ hvm_ w5 hB hz1 hk1 hS => ?_)
          obtain ⟨G2, e_G2⟩ : ∃ z, z = u := ⟨u, rfl⟩
          rw [← e_G2] at w5 hB
          rw [ht_] at hB
          obtain ⟨hP, hD⟩ := xj_2 6 7 hP hD rfl rfl hk1 hB
          have hP : va_P (dC, dI) classes (mw m0 ma mS mt mo mb mg mh mr cA cJ er n sv a S ft fo fb G2 H1 fr) H := hP
          have hD : va_D A (mw m0 ma mS mt mo mb mg mh mr cA cJ er n sv a S ft fo fb G2 H1 fr) := hD
          refine lv_iconst (v := nI 0) hx hb d_Model_common_165 rfl ?_
          refine lv_istore_n (lv' := [(2, .int (nI 0)), (1, .int (nI tw1)), (0, .ref m0)]) hx hb d_Model_common_166 rfl hl (by decide) rfl (fun ls hl => ?_)
          have loop5 : ∀ (n5 : Nat) (k : Nat) (Ga Ha : Nat → Nat), (k ≤ 56) → (∀ i, Ga i = if i < k then H1 i else G2 i) → (∀ i, Ha i = if i < k then G2 i else H1 i) → (57 ≤ k + n5) → ∀ (H : Heap) (locs : List Loc), va_P (dC, dI) classes (mw m0 ma mS mt mo mb mg mh mr cA cJ er n sv a S ft fo fb Ga Ha fr) H → va_D A (mw m0 ma mS mt mo mb mg mh mr cA cJ er n sv a S ft fo fb Ga Ha fr) → va_S A s.heap H locs → ∀ (ls : Array Slot), lv_has ls 4 [(2, .int (nI k)), (1, .int (nI tw1)), (0, .ref m0)] → W p l e (headSpec w_Model_common ({ frames := 1, cells := 0, slots := 0, locals := 23 })).room s m ([.ref m0] : List Value).toArray below meth c H locs 0 0 (MQ below (va_Qv (S := (Nat → Nat) × (Nat → Nat)) (fun u => (∀ i, u.1 i < 65536) ∧ (∀ i, u.2 i < 65536) ∧ dg_v u.1 56 = Nat.gcd (dg_v fo 56) (dg_v fb 56)) (fun u t => va_P (dC, dI) classes (mw m0 ma mS mt mo mb mg mh mr cA cJ er n sv a S ft fo fb u.1 u.2 fr) t.heap ∧ va_D A (mw m0 ma mS mt mo mb mg mh mr cA cJ er n sv a S ft fo fb u.1 u.2 fr)) A) ([.ref m0] : List Value).toArray s 0 0 A) (F0 m 167 ls []) := by
            intro n5
            induction n5 with
            | zero => intro k Ga Ha hk5 hGa hHa hn_; exact absurd hn_ (by omega)
            | succ n5 ih5 =>
              intro k Ga Ha hk5 hGa hHa hn_ H locs hP hD hS ls hl
              refine lv_iload_n hx hb d_Model_common_167 rfl (lv_at hl 0 rfl) ?_
              refine lv_bipush (v := nI 56) hx hb d_Model_common_168 rfl ?_
              refine xn_icmp_ge (tgt := 205) hx hb (by omega) (by omega) d_Model_common_170 (by decide) (fun hge9 => ?_) (fun hge9 => ?_)
              · refine lv_goto (tgt := 88) hx hb d_Model_common_205 (by decide) ?_
                have e1 : dg_v Ga 56 = dg_v H1 56 := dg_congr 56 (fun i hi => by rw [hGa, if_pos (by omega)])
                have e2 : dg_v Ha 56 = dg_v G2 56 := dg_congr 56 (fun i hi => by rw [hHa, if_pos (by omega)])
                exact ih2 Ga Ha (fun i => by rw [hGa]; split; exact hH1 i; exact w5.1 i) (fun i => by rw [hHa]; split; exact w5.1 i; exact hH1 i) (by rw [e1]; exact hn2) (by rw [e1, e2, w5.2]; exact gc_sub (Nat.le_of_lt hlt) hgc1) (by omega) H locs hP hD hS ls (lv_sub hl [1, 2] rfl)
              refine lv_aload_n hx hb d_Model_common_173 rfl (lv_at hl 2 rfl) ?_
              refine va_get (D := (dC, dI)) (ci := 3) (v := .ref mg) (C := R_Model) (T := F_Model) (N := 11) hx hb hts i_Model hown hK hP 0 rfl rfl 8 (by decide) (hts _ k_fl_Model_27) (fun _ h9 => h9) rfl d_Model_common_174 ?_
              refine lv_iload_n hx hb d_Model_common_177 rfl (lv_at hl 0 rfl) ?_
              have eg : Ga k = G2 k := by rw [hGa, if_neg (Nat.lt_irrefl _)]
              have eh : Ha k = H1 k := by rw [hHa, if_neg (Nat.lt_irrefl _)]
              refine xn_iald hx hb hK hP 6 0 rfl rfl (i := k) (by omega) (by omega) d_Model_common_178 ?_
              refine lv_istore_n (lv' := [(3, .int (nI (Ga k))), (2, .int (nI k)), (1, .int (nI tw1)), (0, .ref m0)]) hx hb d_Model_common_179 rfl hl (by decide) rfl (fun ls hl => ?_)
              refine lv_aload_n hx hb d_Model_common_180 rfl (lv_at hl 3 rfl) ?_
              refine va_get (D := (dC, dI)) (ci := 3) (v := .ref mg) (C := R_Model) (T := F_Model) (N := 11) hx hb hts i_Model hown hK hP 0 rfl rfl 8 (by decide) (hts _ k_fl_Model_27) (fun _ h9 => h9) rfl d_Model_common_181 ?_
              refine lv_iload_n hx hb d_Model_common_184 rfl (lv_at hl 1 rfl) ?_
              refine lv_aload_n hx hb d_Model_common_185 rfl (lv_at hl 3 rfl) ?_
              refine va_get (D := (dC, dI)) (ci := 3) (v := .ref mh) (C := R_Model) (T := F_Model) (N := 11) hx hb hts i_Model hown hK hP 0 rfl rfl 9 (by decide) (hts _ k_fl_Model_30) (fun _ h9 => h9) rfl d_Model_common_186 ?_
              refine lv_iload_n hx hb d_Model_common_189 rfl (lv_at hl 1 rfl) ?_
              refine xn_iald hx hb hK hP 7 0 rfl rfl (i := k) (by omega) (by omega) d_Model_common_190 ?_
              refine xn_iast hx hb hK hP hD hS 6 0 rfl rfl (i := k) (x := Ha k) (by omega) (by omega) d_Model_common_191 (fun H locs hP hD hS => ?_)
              have hP : va_P (dC, dI) classes (mw m0 ma mS mt mo mb mg mh mr cA cJ er n sv a S ft fo fb (va_up Ga k (Ha k)) Ha fr) H := hP
              have hD : va_D A (mw m0 ma mS mt mo mb mg mh mr cA cJ er n sv a S ft fo fb (va_up Ga k (Ha k)) Ha fr) := hD
              refine lv_aload_n hx hb d_Model_common_192 rfl (lv_at hl 3 rfl) ?_
              refine va_get (D := (dC, dI)) (ci := 3) (v := .ref mh) (C := R_Model) (T := F_Model) (N := 11) hx hb hts i_Model hown hK hP 0 rfl rfl 9 (by decide) (hts _ k_fl_Model_30) (fun _ h9 => h9) rfl d_Model_common_193 ?_
              refine lv_iload_n hx hb d_Model_common_196 rfl (lv_at hl 1 rfl) ?_
              refine lv_iload_n hx hb d_Model_common_197 rfl (lv_at hl 0 rfl) ?_
              refine xn_iast hx hb hK hP hD hS 7 0 rfl rfl (i := k) (x := Ga k) (by omega) (by omega) d_Model_common_198 (fun H locs hP hD hS => ?_)
              have hP : va_P (dC, dI) classes (mw m0 ma mS mt mo mb mg mh mr cA cJ er n sv a S ft fo fb (va_up Ga k (Ha k)) (va_up Ha k (Ga k)) fr) H := hP
              have hD : va_D A (mw m0 ma mS mt mo mb mg mh mr cA cJ er n sv a S ft fo fb (va_up Ga k (Ha k)) (va_up Ha k (Ga k)) fr) := hD
              refine lv_iinc (v := nI (k + 1)) (lv' := [(2, .int (nI (k + 1))), (3, .int (nI (Ga k))), (1, .int (nI tw1)), (0, .ref m0)]) hx hb d_Model_common_199 hl (k := 1) rfl (nI_1 _) (by decide) rfl (fun ls hl => ?_)
              refine lv_goto (tgt := 167) hx hb d_Model_common_202 (by decide) ?_
              exact ih5 (k + 1) (va_up Ga k (Ha k)) (va_up Ha k (Ga k)) (by omega) (fun i => by
                                by_cases q : i = k
                                · rw [q, va_up_self, eh, if_pos (by omega)]
                                · rw [va_up_ne _ _ q, hGa]; by_cases q2 : i < k
                                  · rw [if_pos q2, if_pos (by omega)]
                                  · rw [if_neg q2, if_neg (by omega)]) (fun i => by
                                by_cases q : i = k
                                · rw [q, va_up_self, eg, if_pos (by omega)]
                                · rw [va_up_ne _ _ q, hHa]; by_cases q2 : i < k
                                  · rw [if_pos q2, if_pos (by omega)]
                                  · rw [if_neg q2, if_neg (by omega)]) (by omega) H locs hP hD hS ls (lv_sub hl [0, 2, 3] rfl)
          exact loop5 57 0 G2 H1 (Nat.zero_le _) (fun i => (if_neg (Nat.not_lt_zero _)).symm) (fun i => (if_neg (Nat.not_lt_zero _)).symm) (by omega) H locs hP hD hS ls (lv_sub hl [0, 1, 2] rfl)
        have loop6 : ∀ (n6 : Nat) (G1 H1 : Nat → Nat), (∀ i, G1 i < 65536) → (∀ i, H1 i < 65536) → (dg_v G1 56 ≠ 0) → (dg_v H1 56 ≠ 0) → (Nat.gcd (dg_v G1 56) (dg_v H1 56) = K) → (dg_v G1 56 + dg_v H1 56 ≤ dg_v G 56 + dg_v Hh 56) → (dg_v H1 56 + 1 ≤ n6) → ∀ (H : Heap) (locs : List Loc), va_P (dC, dI) classes (mw m0 ma mS mt mo mb mg mh mr cA cJ er n sv a S ft fo fb G1 H1 fr) H → va_D A (mw m0 ma mS mt mo mb mg mh mr cA cJ er n sv a S ft fo fb G1 H1 fr) → va_S A s.heap H locs → ∀ (ls : Array Slot), lv_has ls 4 [(1, .int (nI tw1)), (0, .ref m0)] → W p l e (headSpec w_Model_common ({ frames := 1, cells := 0, slots := 0, locals := 23 })).room s m ([.ref m0] : List Value).toArray below meth c H locs 0 0 (MQ below (va_Qv (S := (Nat → Nat) × (Nat → Nat)) (fun u => (∀ i, u.1 i < 65536) ∧ (∀ i, u.2 i < 65536) ∧ dg_v u.1 56 = Nat.gcd (dg_v fo 56) (dg_v fb 56)) (fun u t => va_P (dC, dI) classes (mw m0 ma mS mt mo mb mg mh mr cA cJ er n sv a S ft fo fb u.1 u.2 fr) t.heap ∧ va_D A (mw m0 ma mS mt mo mb mg mh mr cA cJ er n sv a S ft fo fb u.1 u.2 fr)) A) ([.ref m0] : List Value).toArray s 0 0 A) (F0 m 119 ls []) := by
          intro n6
          induction n6 with
          | zero => intro G1 H1 hG1 hH1 hn1 hn2 hgc1 hsum hn_; exact absurd hn_ (by omega)
          | succ n6 ih6 =>
            intro G1 H1 hG1 hH1 hn1 hn2 hgc1 hsum hn_ H locs hP hD hS ls hl
            have hpar := dg_par hH1
            have b0 := hH1 0
            refine lv_aload_n hx hb d_Model_common_119 rfl (lv_at hl 1 rfl) ?_
            refine va_get (D := (dC, dI)) (ci := 3) (v := .ref mh) (C := R_Model) (T := F_Model) (N := 11) hx hb hts i_Model hown hK hP 0 rfl rfl 9 (by decide) (hts _ k_fl_Model_30) (fun _ h9 => h9) rfl d_Model_common_120 ?_
            refine lv_iconst (v := nI 0) hx hb d_Model_common_123 rfl ?_
            refine xn_iald hx hb hK hP 7 0 rfl rfl (i := 0) (by omega) (by omega) d_Model_common_124 ?_
            refine lv_iconst (v := nI 1) hx hb d_Model_common_125 rfl ?_
            refine xe_iand (v := nI (H1 0 % 2)) hx hb d_Model_common_126 (nI_bit (by omega)) ?_
            refine xn_if_ne (tgt := 140) hx hb (by omega) d_Model_common_127 (by decide) (fun ho => ?_) (fun ho => ?_)
            · exact odd G1 H1 hG1 hH1 hn1 hn2 hgc1 hsum H locs hP hD hS ls (lv_sub hl [0, 1] rfl)
            refine lv_aload_n hx hb d_Model_common_130 rfl (lv_at hl 1 rfl) ?_
            refine va_get (D := (dC, dI)) (ci := 3) (v := .ref mh) (C := R_Model) (T := F_Model) (N := 11) hx hb hts i_Model hown hK hP 0 rfl rfl 9 (by decide) (hts _ k_fl_Model_30) (fun _ h9 => h9) rfl d_Model_common_131 ?_
            have hFc := va_free (wc := [(mh, .inl (cA, 56, .inl (xn_f H1)))]) hD hS hA [7] rfl
            refine va_callv (va_runS (As := [.ref mh]) (rest := []) ⟨hx, hb, hml, hown, hts⟩ (c_Model_half l dC dI H.size cA mh H1 hH1) (cwS 1 hts (gw_S k_ml_Model_87 k_st_Model_half k_ini_Model k_code_Model_half) rfl rfl rfl (by decide +kernel) ⟨Nat.le_of_ble_eq_true rfl, Nat.le_of_ble_eq_true rfl⟩) ⟨xc_W_blind, fun U hU hW => ⟨rfl, by rw [hU], by rw [hU]; exact hP.sub (ws' := [(mh, .inl (cA, 56, .inl (xn_f H1)))]) [7] rfl, va_K.moved hW.alike (hK.sub (tys' := [(cA, .int)]) [0] rfl), (hD.sub (ws' := [(mh, .inl (cA, 56, .inl (xn_f H1)))]) [7] (by decide) rfl).weaken (fun _ _ _ _ => trivial)⟩⟩ rfl rfl hl.1 rfl (lv_room (Nat.le_of_ble_eq_true rfl)) d_Model_common_134 ⟨Nat.zero_le _, Nat.zero_le _⟩) hS (fun q _ h => hFc q h) hFc (fun u t_ H locs ht_ hvm_ w6 hB hz1 hk1 hS => ?_)
            obtain ⟨H2, e_H2⟩ : ∃ z, z = u := ⟨u, rfl⟩
            rw [← e_H2] at w6 hB
            rw [ht_] at hB
            obtain ⟨hP, hD⟩ := xj_1 7 hP hD rfl hk1 hB
            have hP : va_P (dC, dI) classes (mw m0 ma mS mt mo mb mg mh mr cA cJ er n sv a S ft fo fb G1 H2 fr) H := hP
            have hD : va_D A (mw m0 ma mS mt mo mb mg mh mr cA cJ er n sv a S ft fo fb G1 H2 fr) := hD
            refine lv_goto (tgt := 119) hx hb d_Model_common_137 (by decide) ?_
            exact ih6 G1 H2 hG1 w6.1 hn1 (by omega) (by rw [w6.2, Nat.gcd_comm]; exact gc_strip (by omega) hKo (by rw [Nat.gcd_comm]; exact hgc1)) (by omega) (by omega) H locs hP hD hS ls (lv_sub hl [0, 1] rfl)
        have loop7 : ∀ (n7 : Nat) (G1 H1 : Nat → Nat), (∀ i, G1 i < 65536) → (∀ i, H1 i < 65536) → (dg_v G1 56 ≠ 0) → (dg_v H1 56 ≠ 0) → (Nat.gcd (dg_v G1 56) (dg_v H1 56) = K) → (dg_v G1 56 + dg_v H1 56 ≤ dg_v G 56 + dg_v Hh 56) → (dg_v G1 56 + 1 ≤ n7) → ∀ (H : Heap) (locs : List Loc), va_P (dC, dI) classes (mw m0 ma mS mt mo mb mg mh mr cA cJ er n sv a S ft fo fb G1 H1 fr) H → va_D A (mw m0 ma mS mt mo mb mg mh mr cA cJ er n sv a S ft fo fb G1 H1 fr) → va_S A s.heap H locs → ∀ (ls : Array Slot), lv_has ls 4 [(1, .int (nI tw1)), (0, .ref m0)] → W p l e (headSpec w_Model_common ({ frames := 1, cells := 0, slots := 0, locals := 23 })).room s m ([.ref m0] : List Value).toArray below meth c H locs 0 0 (MQ below (va_Qv (S := (Nat → Nat) × (Nat → Nat)) (fun u => (∀ i, u.1 i < 65536) ∧ (∀ i, u.2 i < 65536) ∧ dg_v u.1 56 = Nat.gcd (dg_v fo 56) (dg_v fb 56)) (fun u t => va_P (dC, dI) classes (mw m0 ma mS mt mo mb mg mh mr cA cJ er n sv a S ft fo fb u.1 u.2 fr) t.heap ∧ va_D A (mw m0 ma mS mt mo mb mg mh mr cA cJ er n sv a S ft fo fb u.1 u.2 fr)) A) ([.ref m0] : List Value).toArray s 0 0 A) (F0 m 98 ls []) := by
          intro n7
          induction n7 with
          | zero => intro G1 H1 hG1 hH1 hn1 hn2 hgc1 hsum hn_; exact absurd hn_ (by omega)
          | succ n7 ih7 =>
            intro G1 H1 hG1 hH1 hn1 hn2 hgc1 hsum hn_ H locs hP hD hS ls hl
            have hpar := dg_par hG1
            have b0 := hG1 0
            refine lv_aload_n hx hb d_Model_common_98 rfl (lv_at hl 1 rfl) ?_
            refine va_get (D := (dC, dI)) (ci := 3) (v := .ref mg) (C := R_Model) (T := F_Model) (N := 11) hx hb hts i_Model hown hK hP 0 rfl rfl 8 (by decide) (hts _ k_fl_Model_27) (fun _ h9 => h9) rfl d_Model_common_99 ?_
            refine lv_iconst (v := nI 0) hx hb d_Model_common_102 rfl ?_
            refine xn_iald hx hb hK hP 6 0 rfl rfl (i := 0) (by omega) (by omega) d_Model_common_103 ?_
            refine lv_iconst (v := nI 1) hx hb d_Model_common_104 rfl ?_
            refine xe_iand (v := nI (G1 0 % 2)) hx hb d_Model_common_105 (nI_bit (by omega)) ?_
            refine xn_if_ne (tgt := 119) hx hb (by omega) d_Model_common_106 (by decide) (fun ho => ?_) (fun ho => ?_)
            · exact loop6 (dg_v H1 56 + 1) G1 H1 hG1 hH1 hn1 hn2 hgc1 hsum (Nat.le_refl _) H locs hP hD hS ls (lv_sub hl [0, 1] rfl)
            refine lv_aload_n hx hb d_Model_common_109 rfl (lv_at hl 1 rfl) ?_
            refine va_get (D := (dC, dI)) (ci := 3) (v := .ref mg) (C := R_Model) (T := F_Model) (N := 11) hx hb hts i_Model hown hK hP 0 rfl rfl 8 (by decide) (hts _ k_fl_Model_27) (fun _ h9 => h9) rfl d_Model_common_110 ?_
            have hFc := va_free (wc := [(mg, .inl (cA, 56, .inl (xn_f G1)))]) hD hS hA [6] rfl
            refine va_callv (va_runS (As := [.ref mg]) (rest := []) ⟨hx, hb, hml, hown, hts⟩ (c_Model_half l dC dI H.size cA mg G1 hG1) (cwS 1 hts (gw_S k_ml_Model_87 k_st_Model_half k_ini_Model k_code_Model_half) rfl rfl rfl (by decide +kernel) ⟨Nat.le_of_ble_eq_true rfl, Nat.le_of_ble_eq_true rfl⟩) ⟨xc_W_blind, fun U hU hW => ⟨rfl, by rw [hU], by rw [hU]; exact hP.sub (ws' := [(mg, .inl (cA, 56, .inl (xn_f G1)))]) [6] rfl, va_K.moved hW.alike (hK.sub (tys' := [(cA, .int)]) [0] rfl), (hD.sub (ws' := [(mg, .inl (cA, 56, .inl (xn_f G1)))]) [6] (by decide) rfl).weaken (fun _ _ _ _ => trivial)⟩⟩ rfl rfl hl.1 rfl (lv_room (Nat.le_of_ble_eq_true rfl)) d_Model_common_113 ⟨Nat.zero_le _, Nat.zero_le _⟩) hS (fun q _ h => hFc q h) hFc (fun u t_ H locs ht_ hvm_ w6 hB hz1 hk1 hS => ?_)
            obtain ⟨G2, e_G2⟩ : ∃ z, z = u := ⟨u, rfl⟩
            rw [← e_G2] at w6 hB
            rw [ht_] at hB
            obtain ⟨hP, hD⟩ := xj_1 6 hP hD rfl hk1 hB
            have hP : va_P (dC, dI) classes (mw m0 ma mS mt mo mb mg mh mr cA cJ er n sv a S ft fo fb G2 H1 fr) H := hP
            have hD : va_D A (mw m0 ma mS mt mo mb mg mh mr cA cJ er n sv a S ft fo fb G2 H1 fr) := hD
            refine lv_goto (tgt := 98) hx hb d_Model_common_116 (by decide) ?_
            exact ih7 G2 H1 w6.1 hH1 (by omega) hn2 (by rw [w6.2]; exact gc_strip (by omega) hKo hgc1) (by omega) (by omega) H locs hP hD hS ls (lv_sub hl [0, 1] rfl)
        exact loop7 (dg_v G 56 + 1) G Hh hG hH hn hH0 hgc (Nat.le_refl _) (Nat.le_refl _) H locs hP hD hS ls (lv_sub hl [0, 1] rfl)
    exact loopB (dg_v G3 56 + dg_v H3 56 + 1) G3 H3 hG3 hH3 hn3 eK.symm (Nat.le_refl _) H locs hP hD hS ls (lv_sub hl [0, 1] rfl)
  have loop : ∀ (n0 : Nat) (tw1 : Nat) (G Hh : Nat → Nat), (∀ i, G i < 65536) → (∀ i, Hh i < 65536) → (dg_v G 56 ≠ 0) → (dg_v G 56 * 2 ^ tw1 = dg_v fo 56) → (dg_v Hh 56 * 2 ^ tw1 = dg_v fb 56) → (dg_v G 56 + 1 ≤ n0) → ∀ (H : Heap) (locs : List Loc), va_P (dC, dI) classes (mw m0 ma mS mt mo mb mg mh mr cA cJ er n sv a S ft fo fb G Hh fr) H → va_D A (mw m0 ma mS mt mo mb mg mh mr cA cJ er n sv a S ft fo fb G Hh fr) → va_S A s.heap H locs → ∀ (ls : Array Slot), lv_has ls 4 [(1, .int (nI tw1)), (0, .ref m0)] → W p l e (headSpec w_Model_common ({ frames := 1, cells := 0, slots := 0, locals := 23 })).room s m ([.ref m0] : List Value).toArray below meth c H locs 0 0 (MQ below (va_Qv (S := (Nat → Nat) × (Nat → Nat)) (fun u => (∀ i, u.1 i < 65536) ∧ (∀ i, u.2 i < 65536) ∧ dg_v u.1 56 = Nat.gcd (dg_v fo 56) (dg_v fb 56)) (fun u t => va_P (dC, dI) classes (mw m0 ma mS mt mo mb mg mh mr cA cJ er n sv a S ft fo fb u.1 u.2 fr) t.heap ∧ va_D A (mw m0 ma mS mt mo mb mg mh mr cA cJ er n sv a S ft fo fb u.1 u.2 fr)) A) ([.ref m0] : List Value).toArray s 0 0 A) (F0 m 46 ls []) := by
    intro n0
    induction n0 with
    | zero => intro tw1 G Hh hG hH hn hg3 hh3 hn_; exact absurd hn_ (by omega)
    | succ n0 ih =>
      intro tw1 G Hh hG hH hn hg3 hh3 hn_ H locs hP hD hS ls hl
      have hp1 := dg_par hG
      have hp2 := dg_par hH
      have b1 := hG 0
      have b2 := hH 0
      have htw := gc_tw hn hg3 (by have := dg_lt (g := fo) 56 (fun i _ => hfo i); rw [dg_56] at this; exact this)
      refine lv_aload_n hx hb d_Model_common_46 rfl (lv_at hl 1 rfl) ?_
      refine va_get (D := (dC, dI)) (ci := 3) (v := .ref mg) (C := R_Model) (T := F_Model) (N := 11) hx hb hts i_Model hown hK hP 0 rfl rfl 8 (by decide) (hts _ k_fl_Model_27) (fun _ h9 => h9) rfl d_Model_common_47 ?_
      refine lv_iconst (v := nI 0) hx hb d_Model_common_50 rfl ?_
      refine xn_iald hx hb hK hP 6 0 rfl rfl (i := 0) (by omega) (by omega) d_Model_common_51 ?_
      refine lv_iconst (v := nI 1) hx hb d_Model_common_52 rfl ?_
      refine xe_iand (v := nI (G 0 % 2)) hx hb d_Model_common_53 (nI_bit (by omega)) ?_
      refine xn_if_ne (tgt := 88) hx hb (by omega) d_Model_common_54 (by decide) (fun ho1 => ?_) (fun ho1 => ?_)
      · exact after tw1 G Hh hG hH hn hg3 hh3 (by omega) htw H locs hP hD hS ls (lv_sub hl [0, 1] rfl)
      refine lv_aload_n hx hb d_Model_common_57 rfl (lv_at hl 1 rfl) ?_
      refine va_get (D := (dC, dI)) (ci := 3) (v := .ref mh) (C := R_Model) (T := F_Model) (N := 11) hx hb hts i_Model hown hK hP 0 rfl rfl 9 (by decide) (hts _ k_fl_Model_30) (fun _ h9 => h9) rfl d_Model_common_58 ?_
      refine lv_iconst (v := nI 0) hx hb d_Model_common_61 rfl ?_
      refine xn_iald hx hb hK hP 7 0 rfl rfl (i := 0) (by omega) (by omega) d_Model_common_62 ?_
      refine lv_iconst (v := nI 1) hx hb d_Model_common_63 rfl ?_
      refine xe_iand (v := nI (Hh 0 % 2)) hx hb d_Model_common_64 (nI_bit (by omega)) ?_
      refine xn_if_ne (tgt := 88) hx hb (by omega) d_Model_common_65 (by decide) (fun ho2 => ?_) (fun ho2 => ?_)
      · exact after tw1 G Hh hG hH hn hg3 hh3 (by omega) htw H locs hP hD hS ls (lv_sub hl [0, 1] rfl)
      refine lv_aload_n hx hb d_Model_common_68 rfl (lv_at hl 1 rfl) ?_
      refine va_get (D := (dC, dI)) (ci := 3) (v := .ref mg) (C := R_Model) (T := F_Model) (N := 11) hx hb hts i_Model hown hK hP 0 rfl rfl 8 (by decide) (hts _ k_fl_Model_27) (fun _ h9 => h9) rfl d_Model_common_69 ?_
      have hFc := va_free (wc := [(mg, .inl (cA, 56, .inl (xn_f G)))]) hD hS hA [6] rfl
      refine va_callv (va_runS (As := [.ref mg]) (rest := []) ⟨hx, hb, hml, hown, hts⟩ (c_Model_half l dC dI H.size cA mg G hG) (cwS 1 hts (gw_S k_ml_Model_87 k_st_Model_half k_ini_Model k_code_Model_half) rfl rfl rfl (by decide +kernel) ⟨Nat.le_of_ble_eq_true rfl, Nat.le_of_ble_eq_true rfl⟩) ⟨xc_W_blind, fun U hU hW => ⟨rfl, by rw [hU], by rw [hU]; exact hP.sub (ws' := [(mg, .inl (cA, 56, .inl (xn_f G)))]) [6] rfl, va_K.moved hW.alike (hK.sub (tys' := [(cA, .int)]) [0] rfl), (hD.sub (ws' := [(mg, .inl (cA, 56, .inl (xn_f G)))]) [6] (by decide) rfl).weaken (fun _ _ _ _ => trivial)⟩⟩ rfl rfl hl.1 rfl (lv_room (Nat.le_of_ble_eq_true rfl)) d_Model_common_72 ⟨Nat.zero_le _, Nat.zero_le _⟩) hS (fun q _ h => hFc q h) hFc (fun u t_ H locs ht_ hvm_ w5 hB hz1 hk1 hS => ?_)
      obtain ⟨G2, e_G2⟩ : ∃ z, z = u := ⟨u, rfl⟩
      rw [← e_G2] at w5 hB
      rw [ht_] at hB
      obtain ⟨hP, hD⟩ := xj_1 6 hP hD rfl hk1 hB
      have hP : va_P (dC, dI) classes (mw m0 ma mS mt mo mb mg mh mr cA cJ er n sv a S ft fo fb G2 Hh fr) H := hP
      have hD : va_D A (mw m0 ma mS mt mo mb mg mh mr cA cJ er n sv a S ft fo fb G2 Hh fr) := hD
      refine lv_aload_n hx hb d_Model_common_75 rfl (lv_at hl 1 rfl) ?_
      refine va_get (D := (dC, dI)) (ci := 3) (v := .ref mh) (C := R_Model) (T := F_Model) (N := 11) hx hb hts i_Model hown hK hP 0 rfl rfl 9 (by decide) (hts _ k_fl_Model_30) (fun _ h9 => h9) rfl d_Model_common_76 ?_
      have hFc := va_free (wc := [(mh, .inl (cA, 56, .inl (xn_f Hh)))]) hD hS hA [7] rfl
      refine va_callv (va_runS (As := [.ref mh]) (rest := []) ⟨hx, hb, hml, hown, hts⟩ (c_Model_half l dC dI H.size cA mh Hh hH) (cwS 1 hts (gw_S k_ml_Model_87 k_st_Model_half k_ini_Model k_code_Model_half) rfl rfl rfl (by decide +kernel) ⟨Nat.le_of_ble_eq_true rfl, Nat.le_of_ble_eq_true rfl⟩) ⟨xc_W_blind, fun U hU hW => ⟨rfl, by rw [hU], by rw [hU]; exact hP.sub (ws' := [(mh, .inl (cA, 56, .inl (xn_f Hh)))]) [7] rfl, va_K.moved hW.alike (hK.sub (tys' := [(cA, .int)]) [0] rfl), (hD.sub (ws' := [(mh, .inl (cA, 56, .inl (xn_f Hh)))]) [7] (by decide) rfl).weaken (fun _ _ _ _ => trivial)⟩⟩ rfl rfl hl.1 rfl (lv_room (Nat.le_of_ble_eq_true rfl)) d_Model_common_79 ⟨Nat.zero_le _, Nat.zero_le _⟩) hS (fun q _ h => hFc q h) hFc (fun u t_ H locs ht_ hvm_ w6 hB hz1 hk1 hS => ?_)
      obtain ⟨H2, e_H2⟩ : ∃ z, z = u := ⟨u, rfl⟩
      rw [← e_H2] at w6 hB
      rw [ht_] at hB
      obtain ⟨hP, hD⟩ := xj_1 7 hP hD rfl hk1 hB
      have hP : va_P (dC, dI) classes (mw m0 ma mS mt mo mb mg mh mr cA cJ er n sv a S ft fo fb G2 H2 fr) H := hP
      have hD : va_D A (mw m0 ma mS mt mo mb mg mh mr cA cJ er n sv a S ft fo fb G2 H2 fr) := hD
      refine lv_iinc (v := nI (tw1 + 1)) (lv' := [(1, .int (nI (tw1 + 1))), (0, .ref m0)]) hx hb d_Model_common_82 hl (k := 0) rfl (nI_1 _) (by decide) rfl (fun ls hl => ?_)
      refine lv_goto (tgt := 46) hx hb d_Model_common_85 (by decide) ?_
      exact ih (tw1 + 1) G2 H2 w5.1 w6.1 (by omega) (by rw [w5.2]; exact gc_half (by omega) hg3) (by rw [w6.2]; exact gc_half (by omega) hh3) (by omega) H locs hP hD hS ls (lv_sub hl [0, 1] rfl)
  refine lv_iconst (v := nI 0) hx hb d_Model_common_44 rfl ?_
  refine lv_istore_n (lv' := [(1, .int (nI 0)), (0, .ref m0)]) hx hb d_Model_common_45 rfl hl (by decide) rfl (fun ls hl => ?_)
  exact loop (dg_v G0 56 + 1) 0 G0 H0 w1.1 w2.1 hT0 (by rw [w1.2, Nat.pow_zero, Nat.mul_one]) (by rw [w2.2, Nat.pow_zero, Nat.mul_one]) (Nat.le_refl _) H locs hP hD hS ls (lv_sub hl [0, 1] rfl)
