set_option maxHeartbeats 4000000 in
set_option maxRecDepth 100000 in
/-- lessen -/
theorem c_Divisor_lessen (l : Launch) (dC : Nat → ClassId) (dI : Nat → Nat → Nat) (sz : Nat) (cA : ClassId) (h0a q0a : Nat) (capa lena : Nat) (fa : Nat → Nat) (sga : Int32) (h0b q0b : Nat) (capb lenb : Nat) (fb : Nat → Nat) (sgb : Int32) (hcapa : capa ≤ 64) (hcapb : capb ≤ 64) (hoa : wh_ok capa fa lena sga) (hob : wh_ok capb fb lenb sgb) (ha : lb_v fa lena % 2 = 1) (hb2 : lb_v fb lenb % 2 = 1) (hlt : lb_v fb lenb < lb_v fa lena) : Met l y_Divisor_lessen w_Divisor_lessen ({ frames := 2, cells := 0, slots := 0, locals := 50 }) (xc_W [.ref h0a, .ref h0b] dC dI ([(h0a, .inr (1, [.ref q0a, .int (nI lena), .int sga])), (q0a, .inl (cA, capa, .inl (xn_f fa))), (h0b, .inr (1, [.ref q0b, .int (nI lenb), .int sgb])), (q0b, .inl (cA, capb, .inl (xn_f fb)))]) [(cA, .int)] sz) (va_Qv (S := (Nat → Nat) × Nat × Int32) (fun u => wh_ok capa u.1 u.2.1 u.2.2 ∧ u.2.2 = sga ∧ lb_v u.1 u.2.1 % 2 = 1 ∧ (∃ t, 1 ≤ t ∧ lb_v fa lena - lb_v fb lenb = 2 ^ t * lb_v u.1 u.2.1)) (fun u t => va_P (dC, dI) classes ((fun u => [(h0a, .inr (1, [.ref q0a, .int (nI u.2.1), .int u.2.2])), (q0a, .inl (cA, capa, .inl (xn_f u.1))), (h0b, .inr (1, [.ref q0b, .int (nI lenb), .int sgb])), (q0b, .inl (cA, capb, .inl (xn_f fb)))]) u) t.heap) (va_A ([(h0a, .inr (1, [.ref q0a, .int (nI lena), .int sga])), (q0a, .inl (cA, capa, .inl (xn_f fa))), (h0b, .inr (1, [.ref q0b, .int (nI lenb), .int sgb])), (q0b, .inl (cA, capb, .inl (xn_f fb)))]) sz)) 0 0 (va_A ([(h0a, .inr (1, [.ref q0a, .int (nI lena), .int sga])), (q0a, .inl (cA, capa, .inl (xn_f fa))), (h0b, .inr (1, [.ref q0b, .int (nI lenb), .int sgb])), (q0b, .inl (cA, capb, .inl (xn_f fb)))]) sz) := by
  refine Met.ofW (cc := b_Divisor_lessen) (maxL := 2) (ret := none) (by decide) rfl ?_
  intro p e s m args below meth c s₁ B hml hv
  obtain ⟨rfl, hsz, hP, hK, hD0⟩ := hv
  have hx := B.exec
  have hb := B.bytes
  have hr := B.returns
  have hts : ∀ w ∈ gw_tbl, w.before ([.ref h0a, .ref h0b] : List Value).toArray s = true := fun w h => atoms_spec (ws := w_Divisor_lessen) B.pre w (List.mem_cons_of_mem _ h)
  have hown : s.vm.findClass R_Divisor = some m.cls := findClass_of_methodNamed B.named
  have hlocks := B.notSynchronized
  subst hsz
  have hD := hD0.self (sz := s.heap.size)
  generalize hAe : va_A ([(h0a, .inr (1, [.ref q0a, .int (nI lena), .int sga])), (q0a, .inl (cA, capa, .inl (xn_f fa))), (h0b, .inr (1, [.ref q0b, .int (nI lenb), .int sgb])), (q0b, .inl (cA, capb, .inl (xn_f fb)))]) s.heap.size = A at hD ⊢
  have hA : ∀ q : Nat, s.heap.size ≤ q → A q := fun q h => by rw [← hAe]; exact Or.inr h
  have hS : va_S A s.heap s.heap [] := va_S.rf
  have hl := lv_entry ([.ref h0a, .ref h0b]) (n := 2) (Nat.le_of_ble_eq_true rfl)
  rw [lg_entry_eq]
  generalize (lg_sl ([.ref h0a, .ref h0b]) ++ List.replicate (2 - (lg_sl ([.ref h0a, .ref h0b])).length) Slot.unset).toArray = ls at hl ⊢
  have hl : lv_has ls 2 [(0, .ref h0a), (1, .ref h0b)] := hl
  have hlena := hoa.1
  refine lv_aload_n hx hb d_Divisor_lessen_0 rfl (lv_at hl 0 rfl) ?_
  refine lv_aload_n hx hb d_Divisor_lessen_1 rfl (lv_at hl 0 rfl) ?_
  refine lv_aload_n hx hb d_Divisor_lessen_2 rfl (lv_at hl 1 rfl) ?_
  have hFc := va_free (wc := [(h0a, .inr (1, [.ref q0a, .int (nI lena), .int sga])), (q0a, .inl (cA, capa, .inl (xn_f fa))), (h0b, .inr (1, [.ref q0b, .int (nI lenb), .int sgb])), (q0b, .inl (cA, capb, .inl (xn_f fb)))]) hD hS hA [0, 1, 2, 3] rfl
  refine va_callv (va_runV (As := [.ref h0a, .ref h0b]) (rest := []) ⟨hx, hb, hml, hown, hts⟩ (c_Whole_diffA l dC dI s.heap.size cA h0a q0a capa lena fa sga h0b q0b capb lenb fb sgb hcapa hcapb (wh_n hoa) (wh_n hob) (by omega) hoa.1) (cwV 2 hts (gw_V k_ml_Divisor_64 k_im_Whole_setDifferenceOfSizes k_sel_Whole_setDifferenceOfSizes k_ini_Whole k_code_Whole_setDifferenceOfSizes) rfl rfl rfl (by decide +kernel) ⟨Nat.le_of_ble_eq_true rfl, Nat.le_of_ble_eq_true rfl⟩) ⟨xc_W_blind, va_recv hK hP (ci := 1) (q0 := 0) rfl rfl, fun U hU hW => ⟨rfl, by rw [hU], by rw [hU]; exact hP.sub (ws' := [(h0a, .inr (1, [.ref q0a, .int (nI lena), .int sga])), (q0a, .inl (cA, capa, .inl (xn_f fa))), (h0b, .inr (1, [.ref q0b, .int (nI lenb), .int sgb])), (q0b, .inl (cA, capb, .inl (xn_f fb)))]) [0, 1, 2, 3] rfl, va_K.moved hW.alike (hK.sub (tys' := [(cA, .int)]) [0] rfl), (hD.sub (ws' := [(h0a, .inr (1, [.ref q0a, .int (nI lena), .int sga])), (q0a, .inl (cA, capa, .inl (xn_f fa))), (h0b, .inr (1, [.ref q0b, .int (nI lenb), .int sgb])), (q0b, .inl (cA, capb, .inl (xn_f fb)))]) [0, 1, 2, 3] (by decide) rfl).weaken (fun _ _ _ _ => trivial)⟩⟩ rfl rfl hl.1 rfl (lv_room (Nat.le_of_ble_eq_true rfl)) d_Divisor_lessen_3 ⟨Nat.zero_le _, Nat.zero_le _⟩) hS (fun q _ h => hFc q h) hFc (fun u t_ H locs ht_ hvm_ hw hB hz1 hk1 hS => ?_)
  obtain ⟨F, len1, sg1⟩ := u
  rw [ht_] at hB
  obtain ⟨hP, hD⟩ := xj_4 0 1 2 3 hP hD rfl rfl rfl rfl hk1 hB
  have hP : va_P (dC, dI) classes ([(h0a, .inr (1, [.ref q0a, .int (nI len1), .int sg1])), (q0a, .inl (cA, capa, .inl (xn_f F))), (h0b, .inr (1, [.ref q0b, .int (nI lenb), .int sgb])), (q0b, .inl (cA, capb, .inl (xn_f fb)))]) H := hP
  have hD : va_D A ([(h0a, .inr (1, [.ref q0a, .int (nI len1), .int sg1])), (q0a, .inl (cA, capa, .inl (xn_f F))), (h0b, .inr (1, [.ref q0b, .int (nI lenb), .int sgb])), (q0b, .inl (cA, capb, .inl (xn_f fb)))]) := hD
  dsimp only at hw
  obtain ⟨hn1, hv1, hs1⟩ := hw
  have hne1 : lb_v F len1 ≠ 0 := by omega
  have hl1 := hn1.1
  rw [if_neg (fun q => hne1 ((lb_n0 hn1).mpr q))] at hs1
  have hs1 := hs1.symm
  subst hs1
  refine lv_aload_n hx hb d_Divisor_lessen_6 rfl (lv_at hl 0 rfl) ?_
  refine lv_aload_n hx hb d_Divisor_lessen_7 rfl (lv_at hl 0 rfl) ?_
  refine vp_callSi (W.runV (As := []) (rest := [.ref h0a]) ⟨hx, hb, hml, hown, hts⟩ (c_Whole_countTwos l dC dI cA h0a q0a capa len1 F sga hcapa hn1) (cwV 0 hts (gw_V k_ml_Divisor_34 k_im_Whole_countTwos k_sel_Whole_countTwos k_ini_Whole k_code_Whole_countTwos) rfl rfl rfl (by decide +kernel) ⟨Nat.le_of_ble_eq_true rfl, Nat.le_of_ble_eq_true rfl⟩) ⟨xc_R_blind, va_recv hK hP (ci := 1) (q0 := 0) rfl rfl, fun U hU hW => ⟨rfl, by rw [hU]; exact hP.sub (ws' := [(h0a, .inr (1, [.ref q0a, .int (nI len1), .int sga])), (q0a, .inl (cA, capa, .inl (xn_f F)))]) [0, 1] rfl, va_K.moved hW.alike (hK.sub (tys' := [(cA, .int)]) [0] rfl)⟩⟩ rfl rfl hl.1 rfl (lv_room (Nat.le_of_ble_eq_true rfl)) d_Divisor_lessen_8 ⟨Nat.zero_le _, Nat.zero_le _⟩) (fun r_ e_r => ?_)
  obtain ⟨t, et, ht1, -, ht2⟩ := e_r
  obtain ⟨o, ht3, ht4⟩ := ht2 hne1
  subst et
  have hFc := va_free (wc := [(h0a, .inr (1, [.ref q0a, .int (nI len1), .int sga])), (q0a, .inl (cA, capa, .inl (xn_f F)))]) hD hS hA [0, 1] rfl
  refine va_callv (va_runV (As := [.int (nI t)]) (rest := []) ⟨hx, hb, hml, hown, hts⟩ (c_Whole_shiftDown l dC dI H.size cA h0a q0a capa len1 F sga t hcapa hn1 (by omega)) (cwV 1 hts (gw_V k_ml_Divisor_38 k_im_Whole_shiftDown k_sel_Whole_shiftDown k_ini_Whole k_code_Whole_shiftDown) rfl rfl rfl (by decide +kernel) ⟨Nat.le_of_ble_eq_true rfl, Nat.le_of_ble_eq_true rfl⟩) ⟨xc_W_blind, va_recv hK hP (ci := 1) (q0 := 0) rfl rfl, fun U hU hW => ⟨rfl, by rw [hU], by rw [hU]; exact hP.sub (ws' := [(h0a, .inr (1, [.ref q0a, .int (nI len1), .int sga])), (q0a, .inl (cA, capa, .inl (xn_f F)))]) [0, 1] rfl, va_K.moved hW.alike (hK.sub (tys' := [(cA, .int)]) [0] rfl), (hD.sub (ws' := [(h0a, .inr (1, [.ref q0a, .int (nI len1), .int sga])), (q0a, .inl (cA, capa, .inl (xn_f F)))]) [0, 1] (by decide) rfl).weaken (fun _ _ _ _ => trivial)⟩⟩ rfl rfl hl.1 rfl (lv_room (Nat.le_of_ble_eq_true rfl)) d_Divisor_lessen_11 ⟨Nat.zero_le _, Nat.zero_le _⟩) hS (fun q _ h => hFc q h) hFc (fun u t_ H locs ht_ hvm_ hw hB hz1 hk1 hS => ?_)
  obtain ⟨G, len2, sg2⟩ := u
  rw [ht_] at hB
  obtain ⟨hP, hD⟩ := xj_2 0 1 hP hD rfl rfl hk1 hB
  have hP : va_P (dC, dI) classes ([(h0a, .inr (1, [.ref q0a, .int (nI len2), .int sg2])), (q0a, .inl (cA, capa, .inl (xn_f G))), (h0b, .inr (1, [.ref q0b, .int (nI lenb), .int sgb])), (q0b, .inl (cA, capb, .inl (xn_f fb)))]) H := hP
  have hD : va_D A ([(h0a, .inr (1, [.ref q0a, .int (nI len2), .int sg2])), (q0a, .inl (cA, capa, .inl (xn_f G))), (h0b, .inr (1, [.ref q0b, .int (nI lenb), .int sgb])), (q0b, .inl (cA, capb, .inl (xn_f fb)))]) := hD
  dsimp only at hw
  obtain ⟨hn2, hv2, hs2⟩ := hw
  rw [ht3, Nat.mul_div_cancel_left _ (Nat.two_pow_pos t)] at hv2
  have hne2 : lb_v G len2 ≠ 0 := by omega
  rw [if_neg (fun q => hne2 ((lb_n0 hn2).mpr q))] at hs2
  have hpost : wh_ok capa G len2 sg2 ∧ sg2 = sga ∧ lb_v G len2 % 2 = 1 ∧ (∃ t, 1 ≤ t ∧ lb_v fa lena - lb_v fb lenb = 2 ^ t * lb_v G len2) := by
    refine ⟨by rw [hs2]; exact wh_re hoa (by omega) hn2 hne2, hs2, by omega, t, ?_, by rw [← hv1, hv2]; exact ht3⟩
    rcases Nat.eq_zero_or_pos t with q | q
    · exfalso
      rw [q] at ht3
      omega
    · exact q
  exact W.vret hx hb hr (fun T_ ht_ hW_ => ⟨⟨(G, len2, sg2), rfl, hpost, by show va_P (dC, dI) classes _ T_.heap; rw [ht_]; exact hP⟩, hS.F ht_⟩) hS.2.2 d_Divisor_lessen_14
set_option maxHeartbeats 4000000 in
set_option maxRecDepth 100000 in
/-- makeEqual -/
theorem c_Divisor_makeEqual (l : Launch) (dC : Nat → ClassId) (dI : Nat → Nat → Nat) (sz : Nat) (cA : ClassId) (d0 h0r tw iv : Nat) (h0o q0o : Nat) (capo leno : Nat) (fo : Nat → Nat) (sgo : Int32) (q0r : Nat) (capr lenr : Nat) (fr : Nat → Nat) (sgr : Int32) (hcapo : capo ≤ 64) (hcapr : capr ≤ 64) (hoo : wh_ok capo fo leno sgo) (hor : wh_ok capr fr lenr sgr) (ho2 : lb_v fo leno % 2 = 1) (hr2 : lb_v fr lenr % 2 = 1) (hw0 : lb_v fo leno * lb_v fr lenr < 2 ^ 1611) : Met l y_Divisor_makeEqual w_Divisor_makeEqual ({ frames := 3, cells := 0, slots := 0, locals := 71 }) (xc_W [.ref d0] dC dI ([(d0, .inr (2, [.ref h0o, .ref h0r, .int (nI tw), .int (nI iv)])), (h0o, .inr (1, [.ref q0o, .int (nI leno), .int sgo])), (q0o, .inl (cA, capo, .inl (xn_f fo))), (h0r, .inr (1, [.ref q0r, .int (nI lenr), .int sgr])), (q0r, .inl (cA, capr, .inl (xn_f fr)))]) [(cA, .int)] sz) (va_Qv (S := (Nat → Nat) × Nat × (Nat → Nat) × Nat) (fun u => wh_ok capo u.1 u.2.1 sgo ∧ wh_ok capr u.2.2.1 u.2.2.2 sgr ∧ lb_v u.1 u.2.1 = Nat.gcd (lb_v fo leno) (lb_v fr lenr) ∧ lb_v u.1 u.2.1 % 2 = 1) (fun u t => va_P (dC, dI) classes ((fun u => [(d0, .inr (2, [.ref h0o, .ref h0r, .int (nI tw), .int (nI iv)])), (h0o, .inr (1, [.ref q0o, .int (nI u.2.1), .int sgo])), (q0o, .inl (cA, capo, .inl (xn_f u.1))), (h0r, .inr (1, [.ref q0r, .int (nI u.2.2.2), .int sgr])), (q0r, .inl (cA, capr, .inl (xn_f u.2.2.1)))]) u) t.heap) (va_A ([(d0, .inr (2, [.ref h0o, .ref h0r, .int (nI tw), .int (nI iv)])), (h0o, .inr (1, [.ref q0o, .int (nI leno), .int sgo])), (q0o, .inl (cA, capo, .inl (xn_f fo))), (h0r, .inr (1, [.ref q0r, .int (nI lenr), .int sgr])), (q0r, .inl (cA, capr, .inl (xn_f fr)))]) sz)) 0 0 (va_A ([(d0, .inr (2, [.ref h0o, .ref h0r, .int (nI tw), .int (nI iv)])), (h0o, .inr (1, [.ref q0o, .int (nI leno), .int sgo])), (q0o, .inl (cA, capo, .inl (xn_f fo))), (h0r, .inr (1, [.ref q0r, .int (nI lenr), .int sgr])), (q0r, .inl (cA, capr, .inl (xn_f fr)))]) sz) := by
  refine Met.ofW (cc := b_Divisor_makeEqual) (maxL := 3) (ret := none) (by decide) rfl ?_
  intro p e s m args below meth c s₁ B hml hv
  obtain ⟨rfl, hsz, hP, hK, hD0⟩ := hv
  have hx := B.exec
  have hb := B.bytes
  have hr := B.returns
  have hts : ∀ w ∈ gw_tbl, w.before ([.ref d0] : List Value).toArray s = true := fun w h => atoms_spec (ws := w_Divisor_makeEqual) B.pre w (List.mem_cons_of_mem _ h)
  have hown : s.vm.findClass R_Divisor = some m.cls := findClass_of_methodNamed B.named
  have hlocks := B.notSynchronized
  subst hsz
  have hD := hD0.self (sz := s.heap.size)
  generalize hAe : va_A ([(d0, .inr (2, [.ref h0o, .ref h0r, .int (nI tw), .int (nI iv)])), (h0o, .inr (1, [.ref q0o, .int (nI leno), .int sgo])), (q0o, .inl (cA, capo, .inl (xn_f fo))), (h0r, .inr (1, [.ref q0r, .int (nI lenr), .int sgr])), (q0r, .inl (cA, capr, .inl (xn_f fr)))]) s.heap.size = A at hD ⊢
  have hA : ∀ q : Nat, s.heap.size ≤ q → A q := fun q h => by rw [← hAe]; exact Or.inr h
  have hS : va_S A s.heap s.heap [] := va_S.rf
  have hl := lv_entry ([.ref d0]) (n := 3) (Nat.le_of_ble_eq_true rfl)
  rw [lg_entry_eq]
  generalize (lg_sl ([.ref d0]) ++ List.replicate (3 - (lg_sl ([.ref d0])).length) Slot.unset).toArray = ls at hl ⊢
  have hl : lv_has ls 3 [(0, .ref d0)] := hl
  refine lv_iconst (v := nI 0) hx hb d_Divisor_makeEqual_0 rfl ?_
  refine lv_istore_n (lv' := [(1, .int (nI 0)), (0, .ref d0)]) hx hb d_Divisor_makeEqual_1 rfl hl (by decide) rfl (fun ls hl => ?_)
  have loop : ∀ (n : Nat) (k : Nat) (F : Nat → Nat) (lenF : Nat) (G : Nat → Nat) (lenG : Nat), (k ≤ 1612) → (wh_ok capo F lenF sgo) → (wh_ok capr G lenG sgr) → (lb_v F lenF % 2 = 1) → (lb_v G lenG % 2 = 1) → (Nat.gcd (lb_v F lenF) (lb_v G lenG) = Nat.gcd (lb_v fo leno) (lb_v fr lenr)) → (lb_v F lenF * lb_v G lenG * 2 ^ k ≤ lb_v fo leno * lb_v fr lenr) → (1613 ≤ k + n) → ∀ (H : Heap) (locs : List Loc), va_P (dC, dI) classes ([(d0, .inr (2, [.ref h0o, .ref h0r, .int (nI tw), .int (nI iv)])), (h0o, .inr (1, [.ref q0o, .int (nI lenF), .int sgo])), (q0o, .inl (cA, capo, .inl (xn_f F))), (h0r, .inr (1, [.ref q0r, .int (nI lenG), .int sgr])), (q0r, .inl (cA, capr, .inl (xn_f G)))]) H → va_D A ([(d0, .inr (2, [.ref h0o, .ref h0r, .int (nI tw), .int (nI iv)])), (h0o, .inr (1, [.ref q0o, .int (nI lenF), .int sgo])), (q0o, .inl (cA, capo, .inl (xn_f F))), (h0r, .inr (1, [.ref q0r, .int (nI lenG), .int sgr])), (q0r, .inl (cA, capr, .inl (xn_f G)))]) → va_S A s.heap H locs → ∀ (ls : Array Slot), lv_has ls 3 [(1, .int (nI k)), (0, .ref d0)] → W p l e (headSpec w_Divisor_makeEqual ({ frames := 3, cells := 0, slots := 0, locals := 71 })).room s m ([.ref d0] : List Value).toArray below meth c H locs 0 0 (MQ below (va_Qv (S := (Nat → Nat) × Nat × (Nat → Nat) × Nat) (fun u => wh_ok capo u.1 u.2.1 sgo ∧ wh_ok capr u.2.2.1 u.2.2.2 sgr ∧ lb_v u.1 u.2.1 = Nat.gcd (lb_v fo leno) (lb_v fr lenr) ∧ lb_v u.1 u.2.1 % 2 = 1) (fun u t => va_P (dC, dI) classes ((fun u => [(d0, .inr (2, [.ref h0o, .ref h0r, .int (nI tw), .int (nI iv)])), (h0o, .inr (1, [.ref q0o, .int (nI u.2.1), .int sgo])), (q0o, .inl (cA, capo, .inl (xn_f u.1))), (h0r, .inr (1, [.ref q0r, .int (nI u.2.2.2), .int sgr])), (q0r, .inl (cA, capr, .inl (xn_f u.2.2.1)))]) u) t.heap) A) ([.ref d0] : List Value).toArray s 0 0 A) (F0 m 2 ls []) := by
    intro n
    induction n with
    | zero => intro k F lenF G lenG hk hF hG hF2 hG2 hgc hms hn; exact absurd hn (by omega)
    | succ n ih =>
      intro k F lenF G lenG hk hF hG hF2 hG2 hgc hms hn H locs hP hD hS ls hl
      refine lv_iload_n hx hb d_Divisor_makeEqual_2 rfl (lv_at hl 0 rfl) ?_
      refine lv_sipush (v := nI 1612) hx hb d_Divisor_makeEqual_3 rfl ?_
      refine xn_icmp_ge (tgt := 61) hx hb (by omega) (by omega) d_Divisor_makeEqual_6 (by decide) (fun hge => ?_) (fun hge => ?_)
      · exact (gd_stop (by omega) (by omega) hms hw0 hge).elim
      refine lv_aload_n hx hb d_Divisor_makeEqual_9 rfl (lv_at hl 1 rfl) ?_
      refine va_get (D := (dC, dI)) (ci := 2) (v := .ref h0o) (C := R_Divisor) (T := F_Divisor) (N := 4) hx hb hts i_Divisor hown hK hP 0 rfl rfl 0 (by decide) (hts _ k_fl_Divisor_14) (fun _ h9 => h9) rfl d_Divisor_makeEqual_10 ?_
      refine lv_aload_n hx hb d_Divisor_makeEqual_13 rfl (lv_at hl 1 rfl) ?_
      refine va_get (D := (dC, dI)) (ci := 2) (v := .ref h0r) (C := R_Divisor) (T := F_Divisor) (N := 4) hx hb hts i_Divisor hown hK hP 0 rfl rfl 1 (by decide) (hts _ k_fl_Divisor_20) (fun _ h9 => h9) rfl d_Divisor_makeEqual_14 ?_
      refine vp_callSi (W.runV (As := [.ref h0r]) (rest := []) ⟨hx, hb, hml, hown, hts⟩ (c_Whole_orderOfSizes l dC dI cA h0o q0o capo lenF F sgo h0r q0r capr lenG G sgr hcapo hcapr hF hG) (cwV 1 hts (gw_V k_ml_Divisor_56 k_im_Whole_orderOfSizes k_sel_Whole_orderOfSizes k_ini_Whole k_code_Whole_orderOfSizes) rfl rfl rfl (by decide +kernel) ⟨Nat.le_of_ble_eq_true rfl, Nat.le_of_ble_eq_true rfl⟩) ⟨xc_R_blind, va_recv hK hP (ci := 1) (q0 := 1) rfl rfl, fun U hU hW => ⟨rfl, by rw [hU]; exact hP.sub (ws' := [(h0o, .inr (1, [.ref q0o, .int (nI lenF), .int sgo])), (q0o, .inl (cA, capo, .inl (xn_f F))), (h0r, .inr (1, [.ref q0r, .int (nI lenG), .int sgr])), (q0r, .inl (cA, capr, .inl (xn_f G)))]) [1, 2, 3, 4] rfl, va_K.moved hW.alike (hK.sub (tys' := [(cA, .int)]) [0] rfl)⟩⟩ rfl rfl hl.1 rfl (lv_room (Nat.le_of_ble_eq_true rfl)) d_Divisor_makeEqual_17 ⟨Nat.zero_le _, Nat.zero_le _⟩) (fun r_ e_r => ?_)
      refine lv_istore_n (lv' := [(2, .int r_), (1, .int (nI k)), (0, .ref d0)]) hx hb d_Divisor_makeEqual_20 rfl hl (by decide) rfl (fun ls hl => ?_)
      refine lv_iload_n hx hb d_Divisor_makeEqual_21 rfl (lv_at hl 0 rfl) ?_
      refine lv_if_ne (tgt := 26) hx hb d_Divisor_makeEqual_22 (by decide) (fun hz => ?_) (fun hz => ?_)
      rotate_left
      · have hve : lb_v F lenF = lb_v G lenG := by
          rw [e_r] at hz
          rcases (show lb_v F lenF < lb_v G lenG ∨ lb_v G lenG < lb_v F lenF ∨ lb_v F lenF = lb_v G lenG by omega) with q | q | q
          · rw [if_pos q] at hz; exact absurd hz (by decide)
          · rw [if_neg (by omega), if_pos q] at hz; exact absurd hz (by decide)
          · exact q
        have hpost : wh_ok capo F lenF sgo ∧ wh_ok capr G lenG sgr ∧ lb_v F lenF = Nat.gcd (lb_v fo leno) (lb_v fr lenr) ∧ lb_v F lenF % 2 = 1 := ⟨hF, hG, by rw [← hgc, ← hve, Nat.gcd_self], hF2⟩
        exact W.vret hx hb hr (fun T_ ht_ hW_ => ⟨⟨(F, lenF, G, lenG), rfl, hpost, by show va_P (dC, dI) classes _ T_.heap; rw [ht_]; exact hP⟩, hS.F ht_⟩) hS.2.2 d_Divisor_makeEqual_25
      refine lv_iload_n hx hb d_Divisor_makeEqual_26 rfl (lv_at hl 0 rfl) ?_
      refine lv_if_le (tgt := 44) hx hb d_Divisor_makeEqual_27 (by decide) (fun hle => ?_) (fun hle => ?_)
      · have hlt : lb_v F lenF < lb_v G lenG := by
          rcases (show lb_v F lenF < lb_v G lenG ∨ lb_v G lenG < lb_v F lenF ∨ lb_v F lenF = lb_v G lenG by omega) with q | q | q
          · exact q
          · rw [if_neg (by omega), if_pos q] at e_r; rw [e_r] at hle; exact absurd hle (by decide)
          · rw [if_neg (by omega), if_neg (by omega)] at e_r; exact absurd e_r hz
        refine lv_aload_n hx hb d_Divisor_makeEqual_44 rfl (lv_at hl 2 rfl) ?_
        refine va_get (D := (dC, dI)) (ci := 2) (v := .ref h0r) (C := R_Divisor) (T := F_Divisor) (N := 4) hx hb hts i_Divisor hown hK hP 0 rfl rfl 1 (by decide) (hts _ k_fl_Divisor_20) (fun _ h9 => h9) rfl d_Divisor_makeEqual_45 ?_
        refine lv_aload_n hx hb d_Divisor_makeEqual_48 rfl (lv_at hl 2 rfl) ?_
        refine va_get (D := (dC, dI)) (ci := 2) (v := .ref h0o) (C := R_Divisor) (T := F_Divisor) (N := 4) hx hb hts i_Divisor hown hK hP 0 rfl rfl 0 (by decide) (hts _ k_fl_Divisor_14) (fun _ h9 => h9) rfl d_Divisor_makeEqual_49 ?_
        have hFc := va_free (wc := [(h0r, .inr (1, [.ref q0r, .int (nI lenG), .int sgr])), (q0r, .inl (cA, capr, .inl (xn_f G))), (h0o, .inr (1, [.ref q0o, .int (nI lenF), .int sgo])), (q0o, .inl (cA, capo, .inl (xn_f F)))]) hD hS hA [3, 4, 1, 2] rfl
        refine va_callv (va_runS (As := [.ref h0r, .ref h0o]) (rest := []) ⟨hx, hb, hml, hown, hts⟩ (c_Divisor_lessen l dC dI H.size cA h0r q0r capr lenG G sgr h0o q0o capo lenF F sgo hcapr hcapo hG hF hG2 hF2 hlt) (cwS 2 hts (gw_S k_ml_Divisor_60 k_st_Divisor_lessen k_ini_Divisor k_code_Divisor_lessen) rfl rfl rfl (by decide +kernel) ⟨Nat.le_of_ble_eq_true rfl, Nat.le_of_ble_eq_true rfl⟩) ⟨xc_W_blind, fun U hU hW => ⟨rfl, by rw [hU], by rw [hU]; exact hP.sub (ws' := [(h0r, .inr (1, [.ref q0r, .int (nI lenG), .int sgr])), (q0r, .inl (cA, capr, .inl (xn_f G))), (h0o, .inr (1, [.ref q0o, .int (nI lenF), .int sgo])), (q0o, .inl (cA, capo, .inl (xn_f F)))]) [3, 4, 1, 2] rfl, va_K.moved hW.alike (hK.sub (tys' := [(cA, .int)]) [0] rfl), (hD.sub (ws' := [(h0r, .inr (1, [.ref q0r, .int (nI lenG), .int sgr])), (q0r, .inl (cA, capr, .inl (xn_f G))), (h0o, .inr (1, [.ref q0o, .int (nI lenF), .int sgo])), (q0o, .inl (cA, capo, .inl (xn_f F)))]) [3, 4, 1, 2] (by decide) rfl).weaken (fun _ _ _ _ => trivial)⟩⟩ rfl rfl hl.1 rfl (lv_room (Nat.le_of_ble_eq_true rfl)) d_Divisor_makeEqual_52 ⟨Nat.zero_le _, Nat.zero_le _⟩) hS (fun q _ h => hFc q h) hFc (fun u t_ H locs ht_ hvm_ hw hB hz1 hk1 hS => ?_)
        obtain ⟨G2, len2, sg2⟩ := u
        rw [ht_] at hB
        obtain ⟨hP, hD⟩ := xj_4 3 4 1 2 hP hD rfl rfl rfl rfl hk1 hB
        have hP : va_P (dC, dI) classes ([(d0, .inr (2, [.ref h0o, .ref h0r, .int (nI tw), .int (nI iv)])), (h0o, .inr (1, [.ref q0o, .int (nI lenF), .int sgo])), (q0o, .inl (cA, capo, .inl (xn_f F))), (h0r, .inr (1, [.ref q0r, .int (nI len2), .int sg2])), (q0r, .inl (cA, capr, .inl (xn_f G2)))]) H := hP
        have hD : va_D A ([(d0, .inr (2, [.ref h0o, .ref h0r, .int (nI tw), .int (nI iv)])), (h0o, .inr (1, [.ref q0o, .int (nI lenF), .int sgo])), (q0o, .inl (cA, capo, .inl (xn_f F))), (h0r, .inr (1, [.ref q0r, .int (nI len2), .int sg2])), (q0r, .inl (cA, capr, .inl (xn_f G2)))]) := hD
        dsimp only at hw
        obtain ⟨w1, w2, w3, t, w4, w5⟩ := hw
        have w2 := w2.symm
        subst w2
        refine lv_iinc (v := nI (k + 1)) (lv' := [(1, .int (nI (k + 1))), (2, .int r_), (0, .ref d0)]) hx hb d_Divisor_makeEqual_55 hl (k := 1) rfl (nI_1 _) (by decide) rfl (fun ls hl => ?_)
        refine lv_goto (tgt := 2) hx hb d_Divisor_makeEqual_58 (by decide) ?_
        exact ih (k + 1) F lenF G2 len2 (by omega) hF w1 hF2 w3 (by rw [← hgc, Nat.gcd_comm, Nat.gcd_comm (lb_v F lenF)]; exact ar_step (by omega) hF2 w5) (by
                    have h1 := gd_half (w := lb_v fo leno * lb_v fr lenr) (k := k) hlt w5 w4 (by rw [Nat.mul_comm (lb_v G lenG)]; exact hms)
                    rw [Nat.mul_comm (lb_v F lenF)]
                    exact h1) (by omega) H locs hP hD hS ls (lv_sub hl [0, 2] rfl)
      have hlt : lb_v G lenG < lb_v F lenF := by
        rcases (show lb_v F lenF < lb_v G lenG ∨ lb_v G lenG < lb_v F lenF ∨ lb_v F lenF = lb_v G lenG by omega) with q | q | q
        · rw [if_pos q] at e_r; rw [e_r] at hle; exact absurd (by decide) hle
        · exact q
        · rw [if_neg (by omega), if_neg (by omega)] at e_r; exact absurd e_r hz
      refine lv_aload_n hx hb d_Divisor_makeEqual_30 rfl (lv_at hl 2 rfl) ?_
      refine va_get (D := (dC, dI)) (ci := 2) (v := .ref h0o) (C := R_Divisor) (T := F_Divisor) (N := 4) hx hb hts i_Divisor hown hK hP 0 rfl rfl 0 (by decide) (hts _ k_fl_Divisor_14) (fun _ h9 => h9) rfl d_Divisor_makeEqual_31 ?_
      refine lv_aload_n hx hb d_Divisor_makeEqual_34 rfl (lv_at hl 2 rfl) ?_
      refine va_get (D := (dC, dI)) (ci := 2) (v := .ref h0r) (C := R_Divisor) (T := F_Divisor) (N := 4) hx hb hts i_Divisor hown hK hP 0 rfl rfl 1 (by decide) (hts _ k_fl_Divisor_20) (fun _ h9 => h9) rfl d_Divisor_makeEqual_35 ?_
      have hFc := va_free (wc := [(h0o, .inr (1, [.ref q0o, .int (nI lenF), .int sgo])), (q0o, .inl (cA, capo, .inl (xn_f F))), (h0r, .inr (1, [.ref q0r, .int (nI lenG), .int sgr])), (q0r, .inl (cA, capr, .inl (xn_f G)))]) hD hS hA [1, 2, 3, 4] rfl
      refine va_callv (va_runS (As := [.ref h0o, .ref h0r]) (rest := []) ⟨hx, hb, hml, hown, hts⟩ (c_Divisor_lessen l dC dI H.size cA h0o q0o capo lenF F sgo h0r q0r capr lenG G sgr hcapo hcapr hF hG hF2 hG2 hlt) (cwS 2 hts (gw_S k_ml_Divisor_60 k_st_Divisor_lessen k_ini_Divisor k_code_Divisor_lessen) rfl rfl rfl (by decide +kernel) ⟨Nat.le_of_ble_eq_true rfl, Nat.le_of_ble_eq_true rfl⟩) ⟨xc_W_blind, fun U hU hW => ⟨rfl, by rw [hU], by rw [hU]; exact hP.sub (ws' := [(h0o, .inr (1, [.ref q0o, .int (nI lenF), .int sgo])), (q0o, .inl (cA, capo, .inl (xn_f F))), (h0r, .inr (1, [.ref q0r, .int (nI lenG), .int sgr])), (q0r, .inl (cA, capr, .inl (xn_f G)))]) [1, 2, 3, 4] rfl, va_K.moved hW.alike (hK.sub (tys' := [(cA, .int)]) [0] rfl), (hD.sub (ws' := [(h0o, .inr (1, [.ref q0o, .int (nI lenF), .int sgo])), (q0o, .inl (cA, capo, .inl (xn_f F))), (h0r, .inr (1, [.ref q0r, .int (nI lenG), .int sgr])), (q0r, .inl (cA, capr, .inl (xn_f G)))]) [1, 2, 3, 4] (by decide) rfl).weaken (fun _ _ _ _ => trivial)⟩⟩ rfl rfl hl.1 rfl (lv_room (Nat.le_of_ble_eq_true rfl)) d_Divisor_makeEqual_38 ⟨Nat.zero_le _, Nat.zero_le _⟩) hS (fun q _ h => hFc q h) hFc (fun u t_ H locs ht_ hvm_ hw hB hz1 hk1 hS => ?_)
      obtain ⟨F2, len2, sg2⟩ := u
      rw [ht_] at hB
      obtain ⟨hP, hD⟩ := xj_4 1 2 3 4 hP hD rfl rfl rfl rfl hk1 hB
      have hP : va_P (dC, dI) classes ([(d0, .inr (2, [.ref h0o, .ref h0r, .int (nI tw), .int (nI iv)])), (h0o, .inr (1, [.ref q0o, .int (nI len2), .int sg2])), (q0o, .inl (cA, capo, .inl (xn_f F2))), (h0r, .inr (1, [.ref q0r, .int (nI lenG), .int sgr])), (q0r, .inl (cA, capr, .inl (xn_f G)))]) H := hP
      have hD : va_D A ([(d0, .inr (2, [.ref h0o, .ref h0r, .int (nI tw), .int (nI iv)])), (h0o, .inr (1, [.ref q0o, .int (nI len2), .int sg2])), (q0o, .inl (cA, capo, .inl (xn_f F2))), (h0r, .inr (1, [.ref q0r, .int (nI lenG), .int sgr])), (q0r, .inl (cA, capr, .inl (xn_f G)))]) := hD
      dsimp only at hw
      obtain ⟨w1, w2, w3, t, w4, w5⟩ := hw
      have w2 := w2.symm
      subst w2
      refine lv_goto (tgt := 55) hx hb d_Divisor_makeEqual_41 (by decide) ?_
      refine lv_iinc (v := nI (k + 1)) (lv' := [(1, .int (nI (k + 1))), (2, .int r_), (0, .ref d0)]) hx hb d_Divisor_makeEqual_55 hl (k := 1) rfl (nI_1 _) (by decide) rfl (fun ls hl => ?_)
      refine lv_goto (tgt := 2) hx hb d_Divisor_makeEqual_58 (by decide) ?_
      exact ih (k + 1) F2 len2 G lenG (by omega) w1 hG w3 hG2 (by rw [← hgc]; exact ar_step (by omega) hG2 w5) (gd_half hlt w5 w4 hms) (by omega) H locs hP hD hS ls (lv_sub hl [0, 2] rfl)
  exact loop 1613 0 fo leno fr lenr (by decide) hoo hor ho2 hr2 rfl (by simp) (by decide) s.heap [] hP hD hS ls (lv_sub hl [0, 1] rfl)
