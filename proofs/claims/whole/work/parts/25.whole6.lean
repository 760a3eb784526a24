set_option maxHeartbeats 4000000 in
set_option maxRecDepth 100000 in
/-- countTwos -/
theorem c_Whole_countTwos (l : Launch) (dC : Nat → ClassId) (dI : Nat → Nat → Nat) (cA : ClassId) (h0 q0 : Nat) (cap len : Nat) (f : Nat → Nat) (sg : Int32) (hcap : cap ≤ 64) (ho : lb_n cap f len) : Met l y_Whole_countTwos w_Whole_countTwos ({ frames := 1, cells := 0, slots := 0, locals := 21 }) (xc_R [.ref h0] dC dI ([(h0, .inr (1, [.ref q0, .int (nI len), .int sg])), (q0, .inl (cA, cap, .inl (xn_f f)))]) [(cA, .int)]) (vp_Si (fun r => ∃ t : Nat, r = nI t ∧ t < 31 * len + 1 ∧ (lb_v f len = 0 → t = 0) ∧ (lb_v f len ≠ 0 → ∃ o, lb_v f len = 2 ^ t * o ∧ o % 2 = 1))) 0 0 (fun _ => False) := by
  refine Met.ofW (cc := b_Whole_countTwos) (maxL := 2) (ret := (some .int)) (by decide) rfl ?_
  intro p e s m args below meth c s₁ B hml hv
  obtain ⟨rfl, hP, hK⟩ := hv
  have hx := B.exec
  have hb := B.bytes
  have hr := B.returns
  have hts : ∀ w ∈ gw_tbl, w.before ([.ref h0] : List Value).toArray s = true := fun w h => atoms_spec (ws := w_Whole_countTwos) B.pre w (List.mem_cons_of_mem _ h)
  have hown : s.vm.findClass R_Whole = some m.cls := findClass_of_methodNamed B.named
  have hlocks := B.notSynchronized
  have hl := lv_entry ([.ref h0]) (n := 2) (Nat.le_of_ble_eq_true rfl)
  rw [lg_entry_eq]
  generalize (lg_sl ([.ref h0]) ++ List.replicate (2 - (lg_sl ([.ref h0])).length) Slot.unset).toArray = ls at hl ⊢
  have hl : lv_has ls 2 [(0, .ref h0)] := hl
  have hf := ho.2.1
  have hlen := ho.1
  refine lv_iconst (v := nI 0) hx hb d_Whole_countTwos_0 rfl ?_
  refine lv_istore_n (lv' := [(1, .int (nI 0)), (0, .ref h0)]) hx hb d_Whole_countTwos_1 rfl hl (by decide) rfl (fun ls hl => ?_)
  have loop : ∀ (n : Nat) (i : Nat), (i ≤ len) → (∀ j, j < i → f j = 0) → (len + 1 ≤ i + n) → ∀ (ls : Array Slot), lv_has ls 2 [(1, .int (nI i)), (0, .ref h0)] → W p l e (headSpec w_Whole_countTwos ({ frames := 1, cells := 0, slots := 0, locals := 21 })).room s m ([.ref h0] : List Value).toArray below meth c s.heap [] 0 0 (MQ below (vp_Si (fun r => ∃ t : Nat, r = nI t ∧ t < 31 * len + 1 ∧ (lb_v f len = 0 → t = 0) ∧ (lb_v f len ≠ 0 → ∃ o, lb_v f len = 2 ^ t * o ∧ o % 2 = 1))) ([.ref h0] : List Value).toArray s 0 0 (fun _ => False)) (F0 m 2 ls []) := by
    intro n
    induction n with
    | zero => intro i hi hz hn; exact absurd hn (by omega)
    | succ n ih =>
      intro i hi hz hn ls hl
      refine lv_iload_n hx hb d_Whole_countTwos_2 rfl (lv_at hl 0 rfl) ?_
      refine lv_aload_n hx hb d_Whole_countTwos_3 rfl (lv_at hl 1 rfl) ?_
      refine va_get (D := (dC, dI)) (ci := 1) (v := .int (nI len)) (C := R_Whole) (T := F_Whole) (N := 3) hx hb hts i_Whole hown hK hP 0 rfl rfl 1 (by decide) (hts _ k_fl_Whole_9) (fun _ h9 => h9) rfl d_Whole_countTwos_4 ?_
      refine xn_icmp_ge (tgt := 40) hx hb (by omega) (by omega) d_Whole_countTwos_7 (by decide) (fun hge => ?_) (fun hge => ?_)
      · refine lv_iconst (v := nI 0) hx hb d_Whole_countTwos_40 rfl ?_
        have hv : lb_v f len = 0 := by
          rw [lb_zero (a := 0) (Nat.zero_le _) (fun j _ hj => hz j (by omega))]
          rfl
        exact W.iret (v := nI 0) hx hb hr (fun T_ ht_ hW_ => ⟨_, rfl, ⟨0, rfl, by omega, fun _ => rfl, fun q => absurd hv q⟩, ht_⟩) (fun q hq => by cases hq) d_Whole_countTwos_41
      refine lv_aload_n hx hb d_Whole_countTwos_10 rfl (lv_at hl 1 rfl) ?_
      refine va_get (D := (dC, dI)) (ci := 1) (v := .ref q0) (C := R_Whole) (T := F_Whole) (N := 3) hx hb hts i_Whole hown hK hP 0 rfl rfl 0 (by decide) (hts _ k_fl_Whole_18) (fun _ h9 => h9) rfl d_Whole_countTwos_11 ?_
      refine lv_iload_n hx hb d_Whole_countTwos_14 rfl (lv_at hl 0 rfl) ?_
      refine xn_iald hx hb hK hP 1 0 rfl rfl (i := i) (by omega) (by omega) d_Whole_countTwos_15 ?_
      refine xn_if_eq (tgt := 34) hx hb (hf _) d_Whole_countTwos_16 (by decide) (fun hx0 => ?_) (fun hx0 => ?_)
      · refine lv_iinc (v := nI (i + 1)) (lv' := [(1, .int (nI (i + 1))), (0, .ref h0)]) hx hb d_Whole_countTwos_34 hl (k := 0) rfl (nI_1 _) (by decide) rfl (fun ls hl => ?_)
        refine lv_goto (tgt := 2) hx hb d_Whole_countTwos_37 (by decide) ?_
        exact ih (i + 1) (by omega) (fun j hj => by
            rcases Nat.lt_or_ge j i with q | q
            · exact hz j q
            · rw [show j = i by omega]; exact hx0) (by omega) ls (lv_sub hl [0, 1] rfl)
      obtain ⟨t, o, e1, e2⟩ := ct_ex (f i) hx0
      have hfi := hf i
      have ht31 : t < 31 := by
        rcases Nat.lt_or_ge t 31 with q | q
        · exact q
        · have h1 := Nat.pow_le_pow_right (n := 2) (by decide) q
          have h2 : 2 ^ t * 1 ≤ 2 ^ t * o := Nat.mul_le_mul_left _ (by omega)
          omega
      obtain ⟨o2, e3, e4⟩ := ct_main hz hge e1 e2 ht31
      refine lv_iload_n hx hb d_Whole_countTwos_19 rfl (lv_at hl 0 rfl) ?_
      refine lv_bipush (v := nI 31) hx hb d_Whole_countTwos_20 rfl ?_
      refine xn_imul hx hb d_Whole_countTwos_22 ?_
      refine lv_aload_n hx hb d_Whole_countTwos_23 rfl (lv_at hl 1 rfl) ?_
      refine va_get (D := (dC, dI)) (ci := 1) (v := .ref q0) (C := R_Whole) (T := F_Whole) (N := 3) hx hb hts i_Whole hown hK hP 0 rfl rfl 0 (by decide) (hts _ k_fl_Whole_18) (fun _ h9 => h9) rfl d_Whole_countTwos_24 ?_
      refine lv_iload_n hx hb d_Whole_countTwos_27 rfl (lv_at hl 0 rfl) ?_
      refine xn_iald hx hb hK hP 1 0 rfl rfl (i := i) (by omega) (by omega) d_Whole_countTwos_28 ?_
      refine vp_callSi (W.runS (As := [.int (nI (f i))]) (rest := [.int (nI (i * 31))]) ⟨hx, hb, hml, hown, hts⟩ (c_Int_ntz l dC dI (f i) t o e1 e2 hfi) ⟨callB_of 1 hts (gw_I k_code_Int_ntz) rfl rfl rfl (hts _ k_ini_Int) (hts _ k_ml_Whole_77) (by decide +kernel) ⟨Nat.le_of_ble_eq_true rfl, Nat.le_of_ble_eq_true rfl⟩, hts _ k_st_Int_ntz⟩ ⟨xc_R_blind, fun U hU hW => ⟨rfl, by rw [hU]; exact hP.sub (ws' := []) [] rfl, va_K.moved hW.alike (hK.sub (tys' := []) [] rfl)⟩⟩ rfl rfl hl.1 rfl (lv_room (Nat.le_of_ble_eq_true rfl)) d_Whole_countTwos_29 ⟨Nat.zero_le _, Nat.zero_le _⟩) (fun r_ e_r => ?_)
      subst e_r
      refine xn_iadd hx hb d_Whole_countTwos_32 ?_
      exact W.iret (v := nI (i * 31 + t)) hx hb hr (fun T_ ht_ hW_ => ⟨_, rfl, ⟨i * 31 + t, rfl, by omega, fun q => by
                exfalso
                rw [e3] at q
                have h1 := Nat.two_pow_pos (i * 31 + t)
                rcases Nat.mul_eq_zero.mp q with r | r <;> omega, fun _ => ⟨o2, e3, e4⟩⟩, ht_⟩) (fun q hq => by cases hq) d_Whole_countTwos_33
  exact loop (len + 1) 0 (Nat.zero_le _) (fun j hj => by omega) (by omega) ls (lv_sub hl [0, 1] rfl)
set_option maxHeartbeats 4000000 in
set_option maxRecDepth 100000 in
/-- bitLength -/
theorem c_Whole_bitLength (l : Launch) (dC : Nat → ClassId) (dI : Nat → Nat → Nat) (cA : ClassId) (h0 q0 : Nat) (cap len : Nat) (f : Nat → Nat) (sg : Int32) (hcap : cap ≤ 64) (ho : lb_n cap f len) : Met l y_Whole_bitLength w_Whole_bitLength ({ frames := 1, cells := 0, slots := 0, locals := 21 }) (xc_R [.ref h0] dC dI ([(h0, .inr (1, [.ref q0, .int (nI len), .int sg])), (q0, .inl (cA, cap, .inl (xn_f f)))]) [(cA, .int)]) (vp_Si (fun r => ∃ b : Nat, r = nI b ∧ b ≤ 31 * len ∧ lb_v f len < 2 ^ b ∧ (∀ q, b = q + 1 → 2 ^ q ≤ lb_v f len))) 0 0 (fun _ => False) := by
  refine Met.ofW (cc := b_Whole_bitLength) (maxL := 2) (ret := (some .int)) (by decide) rfl ?_
  intro p e s m args below meth c s₁ B hml hv
  obtain ⟨rfl, hP, hK⟩ := hv
  have hx := B.exec
  have hb := B.bytes
  have hr := B.returns
  have hts : ∀ w ∈ gw_tbl, w.before ([.ref h0] : List Value).toArray s = true := fun w h => atoms_spec (ws := w_Whole_bitLength) B.pre w (List.mem_cons_of_mem _ h)
  have hown : s.vm.findClass R_Whole = some m.cls := findClass_of_methodNamed B.named
  have hlocks := B.notSynchronized
  have hl := lv_entry ([.ref h0]) (n := 2) (Nat.le_of_ble_eq_true rfl)
  rw [lg_entry_eq]
  generalize (lg_sl ([.ref h0]) ++ List.replicate (2 - (lg_sl ([.ref h0])).length) Slot.unset).toArray = ls at hl ⊢
  have hl : lv_has ls 2 [(0, .ref h0)] := hl
  have hf := ho.2.1
  have hlen := ho.1
  refine lv_aload_n hx hb d_Whole_bitLength_0 rfl (lv_at hl 0 rfl) ?_
  refine va_get (D := (dC, dI)) (ci := 1) (v := .int (nI len)) (C := R_Whole) (T := F_Whole) (N := 3) hx hb hts i_Whole hown hK hP 0 rfl rfl 1 (by decide) (hts _ k_fl_Whole_9) (fun _ h9 => h9) rfl d_Whole_bitLength_1 ?_
  refine xn_if_ne (tgt := 9) hx hb (by omega) d_Whole_bitLength_4 (by decide) (fun h0l => ?_) (fun h0l => ?_)
  rotate_left
  · refine lv_iconst (v := nI 0) hx hb d_Whole_bitLength_7 rfl ?_
    subst h0l
    exact W.iret (v := nI 0) hx hb hr (fun T_ ht_ hW_ => ⟨_, rfl, ⟨0, rfl, Nat.zero_le _, by show (0 : Nat) < 1; decide, fun q hq => by omega⟩, ht_⟩) (fun q hq => by cases hq) d_Whole_bitLength_8
  obtain ⟨k, rfl⟩ : ∃ k, len = k + 1 := ⟨len - 1, by omega⟩
  refine lv_aload_n hx hb d_Whole_bitLength_9 rfl (lv_at hl 0 rfl) ?_
  refine va_get (D := (dC, dI)) (ci := 1) (v := .ref q0) (C := R_Whole) (T := F_Whole) (N := 3) hx hb hts i_Whole hown hK hP 0 rfl rfl 0 (by decide) (hts _ k_fl_Whole_18) (fun _ h9 => h9) rfl d_Whole_bitLength_10 ?_
  refine lv_aload_n hx hb d_Whole_bitLength_13 rfl (lv_at hl 0 rfl) ?_
  refine va_get (D := (dC, dI)) (ci := 1) (v := .int (nI (k + 1))) (C := R_Whole) (T := F_Whole) (N := 3) hx hb hts i_Whole hown hK hP 0 rfl rfl 1 (by decide) (hts _ k_fl_Whole_9) (fun _ h9 => h9) rfl d_Whole_bitLength_14 ?_
  refine lv_iconst (v := nI 1) hx hb d_Whole_bitLength_17 rfl ?_
  refine xn_isub hx hb (by omega) d_Whole_bitLength_18 ?_
  refine xn_iald hx hb hK hP 1 0 rfl rfl (i := (k + 1) - 1) (by omega) (by omega) d_Whole_bitLength_19 ?_
  rw [Nat.add_sub_cancel]
  have htop := ho.2.2 k rfl
  have e1 := Nat.log2_self_le htop
  have e2 := Nat.lt_log2_self (n := f k)
  obtain ⟨b, eb⟩ : ∃ b, b = (f k).log2 := ⟨_, rfl⟩
  rw [← eb] at e1 e2
  have hfk := hf k
  have hb31 : b < 31 := by
    rcases Nat.lt_or_ge b 31 with q | q
    · exact q
    · have h1 := Nat.pow_le_pow_right (n := 2) (by decide) q
      omega
  obtain ⟨e3, e4⟩ := bl_main hf e1 e2
  refine lv_istore_n (lv' := [(1, .int (nI (f k))), (0, .ref h0)]) hx hb d_Whole_bitLength_20 rfl hl (by decide) rfl (fun ls hl => ?_)
  refine lv_aload_n hx hb d_Whole_bitLength_21 rfl (lv_at hl 1 rfl) ?_
  refine va_get (D := (dC, dI)) (ci := 1) (v := .int (nI (k + 1))) (C := R_Whole) (T := F_Whole) (N := 3) hx hb hts i_Whole hown hK hP 0 rfl rfl 1 (by decide) (hts _ k_fl_Whole_9) (fun _ h9 => h9) rfl d_Whole_bitLength_22 ?_
  refine lv_bipush (v := nI 31) hx hb d_Whole_bitLength_25 rfl ?_
  refine xn_imul hx hb d_Whole_bitLength_27 ?_
  refine lv_iload_n hx hb d_Whole_bitLength_28 rfl (lv_at hl 0 rfl) ?_
  refine vp_callSi (W.runS (As := [.int (nI (f k))]) (rest := [.int (nI ((k + 1) * 31))]) ⟨hx, hb, hml, hown, hts⟩ (c_Int_nlz l dC dI (f k) b e1 e2 hb31) ⟨callB_of 1 hts (gw_I k_code_Int_nlz) rfl rfl rfl (hts _ k_ini_Int) (hts _ k_ml_Whole_42) (by decide +kernel) ⟨Nat.le_of_ble_eq_true rfl, Nat.le_of_ble_eq_true rfl⟩, hts _ k_st_Int_nlz⟩ ⟨xc_R_blind, fun U hU hW => ⟨rfl, by rw [hU]; exact hP.sub (ws' := []) [] rfl, va_K.moved hW.alike (hK.sub (tys' := []) [] rfl)⟩⟩ rfl rfl hl.1 rfl (lv_room (Nat.le_of_ble_eq_true rfl)) d_Whole_bitLength_29 ⟨Nat.zero_le _, Nat.zero_le _⟩) (fun r_ e_r => ?_)
  subst e_r
  refine lv_iconst (v := nI 1) hx hb d_Whole_bitLength_32 rfl ?_
  refine xn_isub hx hb (by omega) d_Whole_bitLength_33 ?_
  refine xn_isub hx hb (by omega) d_Whole_bitLength_34 ?_
  rw [show (k + 1) * 31 - (31 - b - 1) = k * 31 + b + 1 by omega]
  exact W.iret (v := nI (k * 31 + b + 1)) hx hb hr (fun T_ ht_ hW_ => ⟨_, rfl, ⟨k * 31 + b + 1, rfl, by omega, e4, fun q hq => by rw [show q = k * 31 + b by omega]; exact e3⟩, ht_⟩) (fun q hq => by cases hq) d_Whole_bitLength_35
set_option maxHeartbeats 4000000 in
set_option maxRecDepth 100000 in
/-- order -/
theorem c_Whole_order (l : Launch) (dC : Nat → ClassId) (dI : Nat → Nat → Nat) (cA : ClassId) (h0 q0 : Nat) (cap len : Nat) (f : Nat → Nat) (sg : Int32) (h0b q0b : Nat) (capb lenb : Nat) (fb : Nat → Nat) (sgb : Int32) (hcap : cap ≤ 64) (hcapb : capb ≤ 64) (ho : wh_ok cap f len sg) (hob : wh_ok capb fb lenb sgb) : Met l y_Whole_order w_Whole_order ({ frames := 1, cells := 0, slots := 0, locals := 22 }) (xc_R [.ref h0, .ref h0b] dC dI ([(h0, .inr (1, [.ref q0, .int (nI len), .int sg])), (q0, .inl (cA, cap, .inl (xn_f f))), (h0b, .inr (1, [.ref q0b, .int (nI lenb), .int sgb])), (q0b, .inl (cA, capb, .inl (xn_f fb)))]) [(cA, .int)]) (vp_Si (fun r => r = wh_c (wh_z f len sg) (wh_z fb lenb sgb))) 0 0 (fun _ => False) := by
  refine Met.ofW (cc := b_Whole_order) (maxL := 2) (ret := (some .int)) (by decide) rfl ?_
  intro p e s m args below meth c s₁ B hml hv
  obtain ⟨rfl, hP, hK⟩ := hv
  have hx := B.exec
  have hb := B.bytes
  have hr := B.returns
  have hts : ∀ w ∈ gw_tbl, w.before ([.ref h0, .ref h0b] : List Value).toArray s = true := fun w h => atoms_spec (ws := w_Whole_order) B.pre w (List.mem_cons_of_mem _ h)
  have hown : s.vm.findClass R_Whole = some m.cls := findClass_of_methodNamed B.named
  have hlocks := B.notSynchronized
  have hl := lv_entry ([.ref h0, .ref h0b]) (n := 2) (Nat.le_of_ble_eq_true rfl)
  rw [lg_entry_eq]
  generalize (lg_sl ([.ref h0, .ref h0b]) ++ List.replicate (2 - (lg_sl ([.ref h0, .ref h0b])).length) Slot.unset).toArray = ls at hl ⊢
  have hl : lv_has ls 2 [(0, .ref h0), (1, .ref h0b)] := hl
  refine lv_aload_n hx hb d_Whole_order_0 rfl (lv_at hl 0 rfl) ?_
  refine va_get (D := (dC, dI)) (ci := 1) (v := .int sg) (C := R_Whole) (T := F_Whole) (N := 3) hx hb hts i_Whole hown hK hP 0 rfl rfl 2 (by decide) (hts _ k_fl_Whole_15) (fun _ h9 => h9) rfl d_Whole_order_1 ?_
  refine lv_aload_n hx hb d_Whole_order_4 rfl (lv_at hl 1 rfl) ?_
  refine va_get (D := (dC, dI)) (ci := 1) (v := .int sgb) (C := R_Whole) (T := F_Whole) (N := 3) hx hb hts i_Whole hown hK hP 2 rfl rfl 2 (by decide) (hts _ k_fl_Whole_15) (fun _ h9 => h9) rfl d_Whole_order_5 ?_
  refine lv_icmp_eq (tgt := 28) hx hb d_Whole_order_8 (by decide) (fun hne => ?_) (fun hne => ?_)
  rotate_left
  · refine lv_aload_n hx hb d_Whole_order_11 rfl (lv_at hl 0 rfl) ?_
    refine va_get (D := (dC, dI)) (ci := 1) (v := .int sg) (C := R_Whole) (T := F_Whole) (N := 3) hx hb hts i_Whole hown hK hP 0 rfl rfl 2 (by decide) (hts _ k_fl_Whole_15) (fun _ h9 => h9) rfl d_Whole_order_12 ?_
    refine lv_aload_n hx hb d_Whole_order_15 rfl (lv_at hl 1 rfl) ?_
    refine va_get (D := (dC, dI)) (ci := 1) (v := .int sgb) (C := R_Whole) (T := F_Whole) (N := 3) hx hb hts i_Whole hown hK hP 2 rfl rfl 2 (by decide) (hts _ k_fl_Whole_15) (fun _ h9 => h9) rfl d_Whole_order_16 ?_
    refine lv_icmp_ge (tgt := 26) hx hb d_Whole_order_19 (by decide) (fun hge => ?_) (fun hge => ?_)
    · refine lv_iconst (v := nI 1) hx hb d_Whole_order_26 rfl ?_
      exact W.iret (v := nI 1) hx hb hr (fun T_ ht_ hW_ => ⟨_, rfl, ((wh_ordN ho hob hne).1 hge).symm, ht_⟩) (fun q hq => by cases hq) d_Whole_order_27
    refine lv_iconst (v := -1) hx hb d_Whole_order_22 (by decide) ?_
    refine lv_goto (tgt := 27) hx hb d_Whole_order_23 (by decide) ?_
    exact W.iret (v := (-1)) hx hb hr (fun T_ ht_ hW_ => ⟨_, rfl, ((wh_ordN ho hob hne).2 hge).symm, ht_⟩) (fun q hq => by cases hq) d_Whole_order_27
  refine lv_aload_n hx hb d_Whole_order_28 rfl (lv_at hl 0 rfl) ?_
  refine va_get (D := (dC, dI)) (ci := 1) (v := .int sg) (C := R_Whole) (T := F_Whole) (N := 3) hx hb hts i_Whole hown hK hP 0 rfl rfl 2 (by decide) (hts _ k_fl_Whole_15) (fun _ h9 => h9) rfl d_Whole_order_29 ?_
  refine lv_aload_n hx hb d_Whole_order_32 rfl (lv_at hl 0 rfl) ?_
  refine lv_aload_n hx hb d_Whole_order_33 rfl (lv_at hl 1 rfl) ?_
  refine vp_callSi (W.runV (As := [.ref h0b]) (rest := [.int sg]) ⟨hx, hb, hml, hown, hts⟩ (c_Whole_orderOfSizes l dC dI cA h0 q0 cap len f sg h0b q0b capb lenb fb sgb hcap hcapb ho hob) (cwV 1 hts (gw_V k_ml_Whole_48 k_im_Whole_orderOfSizes k_sel_Whole_orderOfSizes k_ini_Whole k_code_Whole_orderOfSizes) rfl rfl rfl (by decide +kernel) ⟨Nat.le_of_ble_eq_true rfl, Nat.le_of_ble_eq_true rfl⟩) ⟨xc_R_blind, va_recv hK hP (ci := 1) (q0 := 0) rfl rfl, fun U hU hW => ⟨rfl, by rw [hU]; exact hP.sub (ws' := [(h0, .inr (1, [.ref q0, .int (nI len), .int sg])), (q0, .inl (cA, cap, .inl (xn_f f))), (h0b, .inr (1, [.ref q0b, .int (nI lenb), .int sgb])), (q0b, .inl (cA, capb, .inl (xn_f fb)))]) [0, 1, 2, 3] rfl, va_K.moved hW.alike (hK.sub (tys' := [(cA, .int)]) [0] rfl)⟩⟩ rfl rfl hl.1 rfl (lv_room (Nat.le_of_ble_eq_true rfl)) d_Whole_order_34 ⟨Nat.zero_le _, Nat.zero_le _⟩) (fun r_ e_r => ?_)
  refine xe_imul (v := sg * r_) hx hb d_Whole_order_37 rfl ?_
  have hob2 := hob
  rw [← hne] at hob2
  exact W.iret (v := (sg * r_)) hx hb hr (fun T_ ht_ hW_ => ⟨_, rfl, by rw [e_r, ← hne]; exact wh_ord ho hob2, ht_⟩) (fun q hq => by cases hq) d_Whole_order_38
set_option maxHeartbeats 4000000 in
set_option maxRecDepth 100000 in
/-- setLong -/
theorem c_Whole_setLong (l : Launch) (dC : Nat → ClassId) (dI : Nat → Nat → Nat) (sz : Nat) (cA : ClassId) (h0 q0 : Nat) (cap len : Nat) (f : Nat → Nat) (sg : Int32) (v : Int64) (hcap : cap ≤ 64) (hcap4 : 4 ≤ cap) (hf : ∀ i, f i < 2147483648) : Met l y_Whole_setLong w_Whole_setLong ({ frames := 1, cells := 0, slots := 0, locals := 21 }) (xc_W [.ref h0, .long v] dC dI ([(h0, .inr (1, [.ref q0, .int (nI len), .int sg])), (q0, .inl (cA, cap, .inl (xn_f f)))]) [(cA, .int)] sz) (va_Qv (S := (Nat → Nat) × Nat × Int32) (fun u => wh_ok cap u.1 u.2.1 u.2.2 ∧ wh_z u.1 u.2.1 u.2.2 = v.toInt) (fun u t => va_P (dC, dI) classes ((fun u => [(h0, .inr (1, [.ref q0, .int (nI u.2.1), .int u.2.2])), (q0, .inl (cA, cap, .inl (xn_f u.1)))]) u) t.heap) (va_A ([(h0, .inr (1, [.ref q0, .int (nI len), .int sg])), (q0, .inl (cA, cap, .inl (xn_f f)))]) sz)) 0 0 (va_A ([(h0, .inr (1, [.ref q0, .int (nI len), .int sg])), (q0, .inl (cA, cap, .inl (xn_f f)))]) sz) := by
  refine Met.ofW (cc := b_Whole_setLong) (maxL := 7) (ret := none) (by decide) rfl ?_
  intro p e s m args below meth c s₁ B hml hv
  obtain ⟨rfl, hsz, hP, hK, hD0⟩ := hv
  have hx := B.exec
  have hb := B.bytes
  have hr := B.returns
  have hts : ∀ w ∈ gw_tbl, w.before ([.ref h0, .long v] : List Value).toArray s = true := fun w h => atoms_spec (ws := w_Whole_setLong) B.pre w (List.mem_cons_of_mem _ h)
  have hown : s.vm.findClass R_Whole = some m.cls := findClass_of_methodNamed B.named
  have hlocks := B.notSynchronized
  subst hsz
  have hD := hD0.self (sz := s.heap.size)
  generalize hAe : va_A ([(h0, .inr (1, [.ref q0, .int (nI len), .int sg])), (q0, .inl (cA, cap, .inl (xn_f f)))]) s.heap.size = A at hD ⊢
  have hA : ∀ q : Nat, s.heap.size ≤ q → A q := fun q h => by rw [← hAe]; exact Or.inr h
  have hS : va_S A s.heap s.heap [] := va_S.rf
  have hl := lv_entry ([.ref h0, .long v]) (n := 7) (Nat.le_of_ble_eq_true rfl)
  rw [lg_entry_eq]
  generalize (lg_sl ([.ref h0, .long v]) ++ List.replicate (7 - (lg_sl ([.ref h0, .long v])).length) Slot.unset).toArray = ls at hl ⊢
  have hl : lv_has ls 7 [(0, .ref h0), (1, .long v)] := hl
  obtain ⟨z, ez⟩ : ∃ z : Int, z = v.toInt := ⟨_, rfl⟩
  have hz1 : -9223372036854775808 ≤ z := by rw [ez]; exact Int64.le_toInt v
  have hz2 : z < 9223372036854775808 := by rw [ez]; exact Int64.toInt_lt v
  have ev : v = lZ z := by
    apply Int64.toInt_inj.mp
    rw [lZ_toInt hz1 hz2, ez]
  obtain ⟨sg2, es2⟩ : ∃ sg2 : Int32, sg2 = (if v.toInt < 0 then -1 else if v.toInt = 0 then 0 else 1) := ⟨_, rfl⟩
  have tail : ∀ (i : Nat) (F : Nat → Nat), (i ≤ cap) → (∀ k, F k < 2147483648) → (lb_v F i = z.natAbs) → (∀ k, i = k + 1 → F k ≠ 0) → ∀ (H : Heap) (locs : List Loc), va_P (dC, dI) classes ([(h0, .inr (1, [.ref q0, .int (nI len), .int sg2])), (q0, .inl (cA, cap, .inl (xn_f F)))]) H → va_D A ([(h0, .inr (1, [.ref q0, .int (nI len), .int sg2])), (q0, .inl (cA, cap, .inl (xn_f F)))]) → va_S A s.heap H locs → ∀ (ls : Array Slot), lv_has ls 7 [(5, .int (nI i)), (0, .ref h0)] → W p l e (headSpec w_Whole_setLong ({ frames := 1, cells := 0, slots := 0, locals := 21 })).room s m ([.ref h0, .long v] : List Value).toArray below meth c H locs 0 0 (MQ below (va_Qv (S := (Nat → Nat) × Nat × Int32) (fun u => wh_ok cap u.1 u.2.1 u.2.2 ∧ wh_z u.1 u.2.1 u.2.2 = v.toInt) (fun u t => va_P (dC, dI) classes ((fun u => [(h0, .inr (1, [.ref q0, .int (nI u.2.1), .int u.2.2])), (q0, .inl (cA, cap, .inl (xn_f u.1)))]) u) t.heap) A) ([.ref h0, .long v] : List Value).toArray s 0 0 A) (F0 m 73 ls []) := by
    intro i F hi hF hv htop H locs hP hD hS ls hl
    have hpost : wh_ok cap F i sg2 ∧ wh_z F i sg2 = v.toInt := by
      rw [← ez] at es2 ⊢
      have hn0 : lb_v F i = 0 ↔ i = 0 := lb_n0 (cap := cap) ⟨hi, hF, htop⟩
      rcases (show z < 0 ∨ z = 0 ∨ 0 < z by omega) with q | q | q
      · rw [if_pos q] at es2
        subst es2
        exact ⟨⟨hi, hF, Or.inr (Or.inr rfl), ⟨fun r => absurd r (by decide), fun r => by have := hn0.mpr r; omega⟩, htop⟩, by unfold wh_z; rw [wh_tm]; omega⟩
      · rw [if_neg (by omega), if_pos q] at es2
        subst es2
        exact ⟨⟨hi, hF, Or.inl rfl, ⟨fun _ => hn0.mp (by omega), fun _ => rfl⟩, htop⟩, by unfold wh_z; rw [wh_t0]; omega⟩
      · rw [if_neg (by omega), if_neg (by omega)] at es2
        subst es2
        exact ⟨⟨hi, hF, Or.inr (Or.inl rfl), ⟨fun r => absurd r (by decide), fun r => by have := hn0.mpr r; omega⟩, htop⟩, by unfold wh_z; rw [wh_t1]; omega⟩
    refine lv_aload_n hx hb d_Whole_setLong_73 rfl (lv_at hl 1 rfl) ?_
    refine lv_iload hx hb d_Whole_setLong_74 (lv_at hl 0 rfl) ?_
    refine va_put (D := (dC, dI)) (ci := 1) (v := .int (nI i)) (ty := .int) (C := R_Whole) (T := F_Whole) (N := 3) hx hb hts i_Whole t_Whole t_Whole_ok n_Whole hown hK hP hD hS 0 rfl rfl 1 (by decide) (hts _ k_fl_Whole_9) (fun _ h9 => h9) rfl (by decide +kernel) rfl rfl (Nat.le_of_ble_eq_true rfl) d_Whole_setLong_76 (fun H locs hP hD hS => ?_)
    have hP : va_P (dC, dI) classes ([(h0, .inr (1, [.ref q0, .int (nI i), .int sg2])), (q0, .inl (cA, cap, .inl (xn_f F)))]) H := hP
    have hD : va_D A ([(h0, .inr (1, [.ref q0, .int (nI i), .int sg2])), (q0, .inl (cA, cap, .inl (xn_f F)))]) := hD
    exact W.vret hx hb hr (fun T_ ht_ hW_ => ⟨⟨(F, i, sg2), rfl, hpost, by show va_P (dC, dI) classes _ T_.heap; rw [ht_]; exact hP⟩, hS.F ht_⟩) hS.2.2 d_Whole_setLong_79
  have loop : ∀ (n : Nat) (i r : Nat) (F : Nat → Nat), (i ≤ cap) → (∀ k, F k < 2147483648) → (lb_v F i + r * lb_p i = z.natAbs) → (∀ k, i = k + 1 → r = 0 → F k ≠ 0) → (cap + 1 ≤ i + n) → ∀ (H : Heap) (locs : List Loc), va_P (dC, dI) classes ([(h0, .inr (1, [.ref q0, .int (nI len), .int sg2])), (q0, .inl (cA, cap, .inl (xn_f F)))]) H → va_D A ([(h0, .inr (1, [.ref q0, .int (nI len), .int sg2])), (q0, .inl (cA, cap, .inl (xn_f F)))]) → va_S A s.heap H locs → ∀ (ls : Array Slot), lv_has ls 7 [(6, .int (nI i)), (5, .int (nI i)), (3, .long (lN r)), (0, .ref h0)] → W p l e (headSpec w_Whole_setLong ({ frames := 1, cells := 0, slots := 0, locals := 21 })).room s m ([.ref h0, .long v] : List Value).toArray below meth c H locs 0 0 (MQ below (va_Qv (S := (Nat → Nat) × Nat × Int32) (fun u => wh_ok cap u.1 u.2.1 u.2.2 ∧ wh_z u.1 u.2.1 u.2.2 = v.toInt) (fun u t => va_P (dC, dI) classes ((fun u => [(h0, .inr (1, [.ref q0, .int (nI u.2.1), .int u.2.2])), (q0, .inl (cA, cap, .inl (xn_f u.1)))]) u) t.heap) A) ([.ref h0, .long v] : List Value).toArray s 0 0 A) (F0 m 27 ls []) := by
    intro n
    induction n with
    | zero => intro i r F hi hF hv htop hn; exact absurd hn (by omega)
    | succ n ih =>
      intro i r F hi hF hv htop hn H locs hP hD hS ls hl
      have hr : r < 18446744073709551616 := by
        have h1 : r * 1 ≤ r * lb_p i := Nat.mul_le_mul_left _ (lb_pp i)
        omega
      have hr0 : 3 ≤ i → r = 0 := by
        intro q
        rcases Nat.eq_zero_or_pos r with q2 | q2
        · exact q2
        · have h1 := lb_ple q
          have h2 : 1 * lb_p i ≤ r * lb_p i := Nat.mul_le_mul_right _ q2
          have h3 : lb_p 3 = 9903520314283042199192993792 := by decide
          omega
      refine lv_iload hx hb d_Whole_setLong_27 (lv_at hl 0 rfl) ?_
      refine lv_aload_n hx hb d_Whole_setLong_29 rfl (lv_at hl 3 rfl) ?_
      refine va_get (D := (dC, dI)) (ci := 1) (v := .ref q0) (C := R_Whole) (T := F_Whole) (N := 3) hx hb hts i_Whole hown hK hP 0 rfl rfl 0 (by decide) (hts _ k_fl_Whole_18) (fun _ h9 => h9) rfl d_Whole_setLong_30 ?_
      refine va_alen (v := nI cap) hx hb hK hP 1 0 rfl rfl rfl d_Whole_setLong_33 ?_
      refine xn_icmp_ge (tgt := 73) hx hb (by omega) (by omega) d_Whole_setLong_34 (by decide) (fun hge => ?_) (fun hge => ?_)
      · have hr1 := hr0 (by omega)
        subst hr1
        exact tail i F hi hF (by omega) (fun k hk => htop k hk rfl) H locs hP hD hS ls (lv_sub hl [1, 3] rfl)
      refine lv_lload_n hx hb d_Whole_setLong_37 rfl (lv_at hl 2 rfl) ?_
      refine lv_lconst (v := lN 0) hx hb d_Whole_setLong_38 rfl ?_
      refine W.lcmp hx hb d_Whole_setLong_39 ?_
      refine lv_if_eq (tgt := 73) hx hb d_Whole_setLong_40 (by decide) (fun hcz => ?_) (fun hcz => ?_)
      · have hr1 := (lg_z2 hr).mp hcz
        subst hr1
        exact tail i F hi hF (by omega) (fun k hk => htop k hk rfl) H locs hP hD hS ls (lv_sub hl [1, 3] rfl)
      have hrn : r ≠ 0 := fun q => hcz ((lg_z2 hr).mpr q)
      refine lv_aload_n hx hb d_Whole_setLong_43 rfl (lv_at hl 3 rfl) ?_
      refine va_get (D := (dC, dI)) (ci := 1) (v := .ref q0) (C := R_Whole) (T := F_Whole) (N := 3) hx hb hts i_Whole hown hK hP 0 rfl rfl 0 (by decide) (hts _ k_fl_Whole_18) (fun _ h9 => h9) rfl d_Whole_setLong_44 ?_
      refine lv_iload hx hb d_Whole_setLong_47 (lv_at hl 0 rfl) ?_
      refine lv_lload_n hx hb d_Whole_setLong_49 rfl (lv_at hl 2 rfl) ?_
      refine lv_ldc2 (v := lN 2147483647) hx hb hown (hts _ k_ldc_Whole_28) d_Whole_setLong_50 ?_
      refine xe_land (v := lN (r % 2147483648)) hx hb d_Whole_setLong_53 (lN_mask hr) ?_
      refine xn_l2i hx hb d_Whole_setLong_54 ?_
      refine xn_iast hx hb hK hP hD hS 1 0 rfl rfl (i := i) (x := r % 2147483648) (by omega) (by omega) d_Whole_setLong_55 (fun H locs hP hD hS => ?_)
      have hP : va_P (dC, dI) classes ([(h0, .inr (1, [.ref q0, .int (nI len), .int sg2])), (q0, .inl (cA, cap, .inl (xn_f (va_up F i (r % 2147483648)))))]) H := hP
      have hD : va_D A ([(h0, .inr (1, [.ref q0, .int (nI len), .int sg2])), (q0, .inl (cA, cap, .inl (xn_f (va_up F i (r % 2147483648)))))]) := hD
      refine lv_lload_n hx hb d_Whole_setLong_56 rfl (lv_at hl 2 rfl) ?_
      refine lv_bipush (v := nI 31) hx hb d_Whole_setLong_57 rfl ?_
      refine lv_lushr (v := lN (r / 2147483648)) hx hb d_Whole_setLong_59 (lN_ush hr) ?_
      refine lv_lstore_n (lv' := [(3, .long (lN (r / 2147483648))), (6, .int (nI i)), (5, .int (nI i)), (0, .ref h0)]) hx hb d_Whole_setLong_60 rfl hl (by decide) rfl (fun ls hl => ?_)
      refine lv_iload hx hb d_Whole_setLong_61 (lv_at hl 1 rfl) ?_
      refine lv_iconst (v := nI 1) hx hb d_Whole_setLong_63 rfl ?_
      refine xn_iadd hx hb d_Whole_setLong_64 ?_
      refine lv_istore (lv' := [(5, .int (nI (i + 1))), (3, .long (lN (r / 2147483648))), (6, .int (nI i)), (0, .ref h0)]) hx hb d_Whole_setLong_65 hl (by decide) rfl (fun ls hl => ?_)
      refine lv_iinc (v := nI (i + 1)) (lv' := [(6, .int (nI (i + 1))), (5, .int (nI (i + 1))), (3, .long (lN (r / 2147483648))), (0, .ref h0)]) hx hb d_Whole_setLong_67 hl (k := 2) rfl (nI_1 _) (by decide) rfl (fun ls hl => ?_)
      refine lv_goto (tgt := 27) hx hb d_Whole_setLong_70 (by decide) ?_
      exact ih (i + 1) (r / 2147483648) (va_up F i (r % 2147483648)) (by omega) (fun k => by by_cases q : k = i <;> simp [va_up, q, hF, Nat.mod_lt]) (by
                rw [lb_v1, lb_up_ge F i _ (Nat.le_refl i), va_up_self, lb_p1]
                have h1 : (2147483648 * (r / 2147483648) + r % 2147483648) * lb_p i = r * lb_p i := by rw [Nat.div_add_mod]
                rw [Nat.add_mul, Nat.mul_comm 2147483648, Nat.mul_assoc, Nat.mul_comm 2147483648] at h1
                omega) (fun k hk hq => by
                rw [show k = i by omega, va_up_self]
                omega) (by omega) H locs hP hD hS ls (lv_sub hl [0, 1, 2, 3] rfl)
  have mid : (True) → ∀ (H : Heap) (locs : List Loc), va_P (dC, dI) classes ([(h0, .inr (1, [.ref q0, .int (nI len), .int sg])), (q0, .inl (cA, cap, .inl (xn_f f)))]) H → va_D A ([(h0, .inr (1, [.ref q0, .int (nI len), .int sg])), (q0, .inl (cA, cap, .inl (xn_f f)))]) → va_S A s.heap H locs → ∀ (ls : Array Slot), lv_has ls 7 [(3, .long (lN z.natAbs)), (0, .ref h0), (1, .long v)] → W p l e (headSpec w_Whole_setLong ({ frames := 1, cells := 0, slots := 0, locals := 21 })).room s m ([.ref h0, .long v] : List Value).toArray below meth c H locs 0 0 (MQ below (va_Qv (S := (Nat → Nat) × Nat × Int32) (fun u => wh_ok cap u.1 u.2.1 u.2.2 ∧ wh_z u.1 u.2.1 u.2.2 = v.toInt) (fun u t => va_P (dC, dI) classes ((fun u => [(h0, .inr (1, [.ref q0, .int (nI u.2.1), .int u.2.2])), (q0, .inl (cA, cap, .inl (xn_f u.1)))]) u) t.heap) A) ([.ref h0, .long v] : List Value).toArray s 0 0 A) (F0 m 13 ls []) := by
    intro  _hh H locs hP hD hS ls hl
    refine lv_aload_n hx hb d_Whole_setLong_13 rfl (lv_at hl 1 rfl) ?_
    refine lv_lload_n hx hb d_Whole_setLong_14 rfl (lv_at hl 2 rfl) ?_
    refine vp_callSi (W.runS (As := [.long v]) (rest := [.ref h0]) ⟨hx, hb, hml, hown, hts⟩ (c_Long_signum l dC dI v) ⟨callB_of 1 hts (gw_I k_code_Long_signum) rfl rfl rfl (hts _ k_ini_Long) (hts _ k_ml_Whole_22) (by decide +kernel) ⟨Nat.le_of_ble_eq_true rfl, Nat.le_of_ble_eq_true rfl⟩, hts _ k_st_Long_signum⟩ ⟨xc_R_blind, fun U hU hW => ⟨rfl, by rw [hU]; exact hP.sub (ws' := []) [] rfl, va_K.moved hW.alike (hK.sub (tys' := []) [] rfl)⟩⟩ rfl rfl hl.1 rfl (lv_room (Nat.le_of_ble_eq_true rfl)) d_Whole_setLong_15 ⟨Nat.zero_le _, Nat.zero_le _⟩) (fun r_ e_r => ?_)
    rw [← es2] at e_r
    have e_r := e_r.symm
    subst e_r
    refine va_put (D := (dC, dI)) (ci := 1) (v := .int sg2) (ty := .int) (C := R_Whole) (T := F_Whole) (N := 3) hx hb hts i_Whole t_Whole t_Whole_ok n_Whole hown hK hP hD hS 0 rfl rfl 2 (by decide) (hts _ k_fl_Whole_15) (fun _ h9 => h9) rfl (by decide +kernel) rfl rfl (Nat.le_of_ble_eq_true rfl) d_Whole_setLong_18 (fun H locs hP hD hS => ?_)
    have hP : va_P (dC, dI) classes ([(h0, .inr (1, [.ref q0, .int (nI len), .int sg2])), (q0, .inl (cA, cap, .inl (xn_f f)))]) H := hP
    have hD : va_D A ([(h0, .inr (1, [.ref q0, .int (nI len), .int sg2])), (q0, .inl (cA, cap, .inl (xn_f f)))]) := hD
    refine lv_iconst (v := nI 0) hx hb d_Whole_setLong_21 rfl ?_
    refine lv_istore (lv' := [(5, .int (nI 0)), (3, .long (lN z.natAbs)), (0, .ref h0), (1, .long v)]) hx hb d_Whole_setLong_22 hl (by decide) rfl (fun ls hl => ?_)
    refine lv_iconst (v := nI 0) hx hb d_Whole_setLong_24 rfl ?_
    refine lv_istore (lv' := [(6, .int (nI 0)), (5, .int (nI 0)), (3, .long (lN z.natAbs)), (0, .ref h0), (1, .long v)]) hx hb d_Whole_setLong_25 hl (by decide) rfl (fun ls hl => ?_)
    exact loop (cap + 1) 0 z.natAbs f (Nat.zero_le _) hf (by simp [lb_v, lb_p]) (fun k hk => by omega) (by omega) H locs hP hD hS ls (lv_sub hl [0, 1, 2, 3] rfl)
  refine lv_lload_n hx hb d_Whole_setLong_0 rfl (lv_at hl 1 rfl) ?_
  refine lv_lconst (v := lN 0) hx hb d_Whole_setLong_1 rfl ?_
  refine W.lcmp hx hb d_Whole_setLong_2 ?_
  refine lv_if_ge (tgt := 11) hx hb d_Whole_setLong_3 (by decide) (fun hge => ?_) (fun hge => ?_)
  · have hz0 : 0 ≤ z := by
      rw [lg_cmp] at hge
      split at hge
      · rename_i h1
        rw [gt_iff_lt, Int64.lt_iff_toInt_lt, ← ez] at h1
        have : (lN 0).toInt = 0 := by decide
        omega
      · split at hge
        · rename_i h1
          rw [ez, h1]
          decide
        · exact absurd hge (by decide)
    refine lv_lload_n hx hb d_Whole_setLong_11 rfl (lv_at hl 1 rfl) ?_
    refine lv_topl (fun v2 ev2 => ?_)
    rw [show v2 = lN z.natAbs by rw [ev2, ev, lZ_N]; congr 1; omega]
    refine lv_lstore_n (lv' := [(3, .long (lN z.natAbs)), (0, .ref h0), (1, .long v)]) hx hb d_Whole_setLong_12 rfl hl (by decide) rfl (fun ls hl => ?_)
    exact mid trivial s.heap [] hP hD hS ls (lv_sub hl [0, 1, 2] rfl)
  have hz0 : z < 0 := by
    rcases Int.lt_or_le z 0 with q | q
    · exact q
    · exfalso
      apply hge
      rw [lg_cmp]
      split
      · decide
      · split
        · decide
        · rename_i h1 h2
          exfalso
          apply h2
          apply Int64.toInt_inj.mp
          have h3 : (lN 0).toInt = 0 := by decide
          rw [gt_iff_lt, Int64.lt_iff_toInt_lt, ← ez, h3] at h1
          rw [← ez, h3]
          omega
  refine lv_lload_n hx hb d_Whole_setLong_6 rfl (lv_at hl 1 rfl) ?_
  refine lv_lneg hx hb d_Whole_setLong_7 ?_
  refine lv_topl (fun v2 ev2 => ?_)
  rw [show v2 = lN z.natAbs by rw [ev2, ev, lZ_neg, lZ_N]; congr 1; omega]
  refine lv_goto (tgt := 12) hx hb d_Whole_setLong_8 (by decide) ?_
  refine lv_lstore_n (lv' := [(3, .long (lN z.natAbs)), (0, .ref h0), (1, .long v)]) hx hb d_Whole_setLong_12 rfl hl (by decide) rfl (fun ls hl => ?_)
  exact mid trivial s.heap [] hP hD hS ls (lv_sub hl [0, 1, 2] rfl)
