set_option maxHeartbeats 4000000 in
set_option maxRecDepth 100000 in
/-- setWhole -/
theorem c_Whole_setWhole (l : Launch) (dC : Nat → ClassId) (dI : Nat → Nat → Nat) (sz : Nat) (cA : ClassId) (h0 q0 : Nat) (cap len : Nat) (f : Nat → Nat) (sg : Int32) (h0b q0b : Nat) (capb lenb : Nat) (fb : Nat → Nat) (sgb : Int32) (hcap : cap ≤ 64) (hcapb : capb ≤ 64) (hlenb : lenb ≤ capb) (hfit : lenb ≤ cap) : Met l y_Whole_setWhole w_Whole_setWhole ({ frames := 1, cells := 0, slots := 0, locals := 40 }) (xc_W [.ref h0, .ref h0b] dC dI ([(h0, .inr (1, [.ref q0, .int (nI len), .int sg])), (q0, .inl (cA, cap, .inl (xn_f f))), (h0b, .inr (1, [.ref q0b, .int (nI lenb), .int sgb])), (q0b, .inl (cA, capb, .inl (xn_f fb)))]) [(cA, .int)] sz) (va_Qv (S := (Nat → Nat) × Nat × Int32) (fun u => u.2.1 = lenb ∧ u.2.2 = sgb ∧ (∀ i, u.1 i = if i < lenb then fb i else f i)) (fun u t => va_P (dC, dI) classes ((fun u => [(h0, .inr (1, [.ref q0, .int (nI u.2.1), .int u.2.2])), (q0, .inl (cA, cap, .inl (xn_f u.1))), (h0b, .inr (1, [.ref q0b, .int (nI lenb), .int sgb])), (q0b, .inl (cA, capb, .inl (xn_f fb)))]) u) t.heap) (va_A ([(h0, .inr (1, [.ref q0, .int (nI len), .int sg])), (q0, .inl (cA, cap, .inl (xn_f f))), (h0b, .inr (1, [.ref q0b, .int (nI lenb), .int sgb])), (q0b, .inl (cA, capb, .inl (xn_f fb)))]) sz)) 0 0 (va_A ([(h0, .inr (1, [.ref q0, .int (nI len), .int sg])), (q0, .inl (cA, cap, .inl (xn_f f))), (h0b, .inr (1, [.ref q0b, .int (nI lenb), .int sgb])), (q0b, .inl (cA, capb, .inl (xn_f fb)))]) sz) := by
  refine Met.ofW (cc := b_Whole_setWhole) (maxL := 3) (ret := none) (by decide) rfl ?_
  intro p e s m args below meth c s₁ B hml hv
  obtain ⟨rfl, hsz, hP, hK, hD0⟩ := hv
  have hx := B.exec
  have hb := B.bytes
  have hr := B.returns
  have hts : ∀ w ∈ gw_tbl, w.before ([.ref h0, .ref h0b] : List Value).toArray s = true := fun w h => atoms_spec (ws := w_Whole_setWhole) B.pre w (List.mem_cons_of_mem _ h)
  have hown : s.vm.findClass R_Whole = some m.cls := findClass_of_methodNamed B.named
  have hlocks := B.notSynchronized
  subst hsz
  have hD := hD0.self (sz := s.heap.size)
  generalize hAe : va_A ([(h0, .inr (1, [.ref q0, .int (nI len), .int sg])), (q0, .inl (cA, cap, .inl (xn_f f))), (h0b, .inr (1, [.ref q0b, .int (nI lenb), .int sgb])), (q0b, .inl (cA, capb, .inl (xn_f fb)))]) s.heap.size = A at hD ⊢
  have hA : ∀ q : Nat, s.heap.size ≤ q → A q := fun q h => by rw [← hAe]; exact Or.inr h
  have hS : va_S A s.heap s.heap [] := va_S.rf
  have hl := lv_entry ([.ref h0, .ref h0b]) (n := 3) (Nat.le_of_ble_eq_true rfl)
  rw [lg_entry_eq]
  generalize (lg_sl ([.ref h0, .ref h0b]) ++ List.replicate (3 - (lg_sl ([.ref h0, .ref h0b])).length) Slot.unset).toArray = ls at hl ⊢
  have hl : lv_has ls 3 [(0, .ref h0), (1, .ref h0b)] := hl
  refine lv_aload_n hx hb d_Whole_setWhole_0 rfl (lv_at hl 1 rfl) ?_
  refine va_get (D := (dC, dI)) (ci := 1) (v := .int (nI lenb)) (C := R_Whole) (T := F_Whole) (N := 3) hx hb hts i_Whole hown hK hP 2 rfl rfl 1 (by decide) (hts _ k_fl_Whole_9) (fun _ h9 => h9) rfl d_Whole_setWhole_1 ?_
  refine lv_aload_n hx hb d_Whole_setWhole_4 rfl (lv_at hl 0 rfl) ?_
  refine va_get (D := (dC, dI)) (ci := 1) (v := .ref q0) (C := R_Whole) (T := F_Whole) (N := 3) hx hb hts i_Whole hown hK hP 0 rfl rfl 0 (by decide) (hts _ k_fl_Whole_18) (fun _ h9 => h9) rfl d_Whole_setWhole_5 ?_
  refine va_alen (v := nI cap) hx hb hK hP 1 0 rfl rfl rfl d_Whole_setWhole_8 ?_
  refine xn_mmin (v := lenb) hx hb (by rw [hml]; exact hl.1.symm) hown (hts _ k_ml_Whole_30) (hts _ k_st_Math_min) (hts _ k_ini_Math) (hts _ k_code_Math_min) (Nat.le_of_ble_eq_true rfl) (Nat.le_of_ble_eq_true rfl) (Nat.zero_le _) (Nat.zero_le _) (by omega) (by omega) (by omega) d_Whole_setWhole_9 ?_
  refine lv_istore_n (lv' := [(2, .int (nI lenb)), (0, .ref h0), (1, .ref h0b)]) hx hb d_Whole_setWhole_12 rfl hl (by decide) rfl (fun ls hl => ?_)
  refine lv_aload_n hx hb d_Whole_setWhole_13 rfl (lv_at hl 2 rfl) ?_
  refine va_get (D := (dC, dI)) (ci := 1) (v := .ref q0b) (C := R_Whole) (T := F_Whole) (N := 3) hx hb hts i_Whole hown hK hP 2 rfl rfl 0 (by decide) (hts _ k_fl_Whole_18) (fun _ h9 => h9) rfl d_Whole_setWhole_14 ?_
  refine lv_iconst (v := nI 0) hx hb d_Whole_setWhole_17 rfl ?_
  refine lv_aload_n hx hb d_Whole_setWhole_18 rfl (lv_at hl 1 rfl) ?_
  refine va_get (D := (dC, dI)) (ci := 1) (v := .ref q0) (C := R_Whole) (T := F_Whole) (N := 3) hx hb hts i_Whole hown hK hP 0 rfl rfl 0 (by decide) (hts _ k_fl_Whole_18) (fun _ h9 => h9) rfl d_Whole_setWhole_19 ?_
  refine lv_iconst (v := nI 0) hx hb d_Whole_setWhole_22 rfl ?_
  refine lv_iload_n hx hb d_Whole_setWhole_23 rfl (lv_at hl 0 rfl) ?_
  refine xn_copy hx hb (by rw [hml]; exact hl.1.symm) hown (hts _ k_ml_Whole_36) (hts _ k_nat_arraycopy) (hts _ k_st_arraycopy) (hts _ k_ini_System) hK hP hD hS 3 1 0 0 rfl rfl rfl rfl (n := lenb) (by omega) (by omega) (by omega) (Nat.le_of_ble_eq_true rfl) (by decide +kernel) d_Whole_setWhole_24 (fun H locs hP hD hS => ?_)
  have hP : va_P (dC, dI) classes ([(h0, .inr (1, [.ref q0, .int (nI len), .int sg])), (q0, .inl (cA, cap, .inl (xn_f (va_cpy fb f 0 0 lenb)))), (h0b, .inr (1, [.ref q0b, .int (nI lenb), .int sgb])), (q0b, .inl (cA, capb, .inl (xn_f fb)))]) H := hP
  have hD : va_D A ([(h0, .inr (1, [.ref q0, .int (nI len), .int sg])), (q0, .inl (cA, cap, .inl (xn_f (va_cpy fb f 0 0 lenb)))), (h0b, .inr (1, [.ref q0b, .int (nI lenb), .int sgb])), (q0b, .inl (cA, capb, .inl (xn_f fb)))]) := hD
  refine lv_aload_n hx hb d_Whole_setWhole_27 rfl (lv_at hl 1 rfl) ?_
  refine lv_iload_n hx hb d_Whole_setWhole_28 rfl (lv_at hl 0 rfl) ?_
  refine va_put (D := (dC, dI)) (ci := 1) (v := .int (nI lenb)) (ty := .int) (C := R_Whole) (T := F_Whole) (N := 3) hx hb hts i_Whole t_Whole t_Whole_ok n_Whole hown hK hP hD hS 0 rfl rfl 1 (by decide) (hts _ k_fl_Whole_9) (fun _ h9 => h9) rfl (by decide +kernel) rfl rfl (Nat.le_of_ble_eq_true rfl) d_Whole_setWhole_29 (fun H locs hP hD hS => ?_)
  have hP : va_P (dC, dI) classes ([(h0, .inr (1, [.ref q0, .int (nI lenb), .int sg])), (q0, .inl (cA, cap, .inl (xn_f (va_cpy fb f 0 0 lenb)))), (h0b, .inr (1, [.ref q0b, .int (nI lenb), .int sgb])), (q0b, .inl (cA, capb, .inl (xn_f fb)))]) H := hP
  have hD : va_D A ([(h0, .inr (1, [.ref q0, .int (nI lenb), .int sg])), (q0, .inl (cA, cap, .inl (xn_f (va_cpy fb f 0 0 lenb)))), (h0b, .inr (1, [.ref q0b, .int (nI lenb), .int sgb])), (q0b, .inl (cA, capb, .inl (xn_f fb)))]) := hD
  refine lv_aload_n hx hb d_Whole_setWhole_32 rfl (lv_at hl 1 rfl) ?_
  refine lv_aload_n hx hb d_Whole_setWhole_33 rfl (lv_at hl 2 rfl) ?_
  refine va_get (D := (dC, dI)) (ci := 1) (v := .int sgb) (C := R_Whole) (T := F_Whole) (N := 3) hx hb hts i_Whole hown hK hP 2 rfl rfl 2 (by decide) (hts _ k_fl_Whole_15) (fun _ h9 => h9) rfl d_Whole_setWhole_34 ?_
  refine va_put (D := (dC, dI)) (ci := 1) (v := .int sgb) (ty := .int) (C := R_Whole) (T := F_Whole) (N := 3) hx hb hts i_Whole t_Whole t_Whole_ok n_Whole hown hK hP hD hS 0 rfl rfl 2 (by decide) (hts _ k_fl_Whole_15) (fun _ h9 => h9) rfl (by decide +kernel) rfl rfl (Nat.le_of_ble_eq_true rfl) d_Whole_setWhole_37 (fun H locs hP hD hS => ?_)
  have hP : va_P (dC, dI) classes ([(h0, .inr (1, [.ref q0, .int (nI lenb), .int sgb])), (q0, .inl (cA, cap, .inl (xn_f (va_cpy fb f 0 0 lenb)))), (h0b, .inr (1, [.ref q0b, .int (nI lenb), .int sgb])), (q0b, .inl (cA, capb, .inl (xn_f fb)))]) H := hP
  have hD : va_D A ([(h0, .inr (1, [.ref q0, .int (nI lenb), .int sgb])), (q0, .inl (cA, cap, .inl (xn_f (va_cpy fb f 0 0 lenb)))), (h0b, .inr (1, [.ref q0b, .int (nI lenb), .int sgb])), (q0b, .inl (cA, capb, .inl (xn_f fb)))]) := hD
  exact W.vret hx hb hr (fun T_ ht_ hW_ => ⟨⟨(va_cpy fb f 0 0 lenb, lenb, sgb), rfl, ⟨rfl, rfl, fun i => by simp [va_cpy]⟩, by show va_P (dC, dI) classes _ T_.heap; rw [ht_]; exact hP⟩, hS.F ht_⟩) hS.2.2 d_Whole_setWhole_40
set_option maxHeartbeats 4000000 in
set_option maxRecDepth 100000 in
/-- addSize -/
theorem c_Whole_addSize (l : Launch) (dC : Nat → ClassId) (dI : Nat → Nat → Nat) (sz : Nat) (cA : ClassId) (h0 q0 : Nat) (cap len : Nat) (f : Nat → Nat) (sg : Int32) (h0b q0b : Nat) (capb lenb : Nat) (fb : Nat → Nat) (sgb : Int32) (hcap : cap ≤ 64) (hcapb : capb ≤ 64) (ho : lb_n cap f len) (hob : lb_n capb fb lenb) (hfit : len < cap ∧ lenb < cap) (hpos : 0 < len ∧ 0 < lenb) : Met l y_Whole_addSize w_Whole_addSize ({ frames := 1, cells := 0, slots := 0, locals := 21 }) (xc_W [.ref h0, .ref h0b] dC dI ([(h0, .inr (1, [.ref q0, .int (nI len), .int sg])), (q0, .inl (cA, cap, .inl (xn_f f))), (h0b, .inr (1, [.ref q0b, .int (nI lenb), .int sgb])), (q0b, .inl (cA, capb, .inl (xn_f fb)))]) [(cA, .int)] sz) (va_Qv (S := (Nat → Nat) × Nat × Int32) (fun u => lb_n cap u.1 u.2.1 ∧ lb_v u.1 u.2.1 = lb_v f len + lb_v fb lenb ∧ u.2.2 = sg) (fun u t => va_P (dC, dI) classes ((fun u => [(h0, .inr (1, [.ref q0, .int (nI u.2.1), .int u.2.2])), (q0, .inl (cA, cap, .inl (xn_f u.1))), (h0b, .inr (1, [.ref q0b, .int (nI lenb), .int sgb])), (q0b, .inl (cA, capb, .inl (xn_f fb)))]) u) t.heap) (va_A ([(h0, .inr (1, [.ref q0, .int (nI len), .int sg])), (q0, .inl (cA, cap, .inl (xn_f f))), (h0b, .inr (1, [.ref q0b, .int (nI lenb), .int sgb])), (q0b, .inl (cA, capb, .inl (xn_f fb)))]) sz)) 0 0 (va_A ([(h0, .inr (1, [.ref q0, .int (nI len), .int sg])), (q0, .inl (cA, cap, .inl (xn_f f))), (h0b, .inr (1, [.ref q0b, .int (nI lenb), .int sgb])), (q0b, .inl (cA, capb, .inl (xn_f fb)))]) sz) := by
  refine Met.ofW (cc := b_Whole_addSize) (maxL := 8) (ret := none) (by decide) rfl ?_
  intro p e s m args below meth c s₁ B hml hv
  obtain ⟨rfl, hsz, hP, hK, hD0⟩ := hv
  have hx := B.exec
  have hb := B.bytes
  have hr := B.returns
  have hts : ∀ w ∈ gw_tbl, w.before ([.ref h0, .ref h0b] : List Value).toArray s = true := fun w h => atoms_spec (ws := w_Whole_addSize) B.pre w (List.mem_cons_of_mem _ h)
  have hown : s.vm.findClass R_Whole = some m.cls := findClass_of_methodNamed B.named
  have hlocks := B.notSynchronized
  subst hsz
  have hD := hD0.self (sz := s.heap.size)
  generalize hAe : va_A ([(h0, .inr (1, [.ref q0, .int (nI len), .int sg])), (q0, .inl (cA, cap, .inl (xn_f f))), (h0b, .inr (1, [.ref q0b, .int (nI lenb), .int sgb])), (q0b, .inl (cA, capb, .inl (xn_f fb)))]) s.heap.size = A at hD ⊢
  have hA : ∀ q : Nat, s.heap.size ≤ q → A q := fun q h => by rw [← hAe]; exact Or.inr h
  have hS : va_S A s.heap s.heap [] := va_S.rf
  have hl := lv_entry ([.ref h0, .ref h0b]) (n := 8) (Nat.le_of_ble_eq_true rfl)
  rw [lg_entry_eq]
  generalize (lg_sl ([.ref h0, .ref h0b]) ++ List.replicate (8 - (lg_sl ([.ref h0, .ref h0b])).length) Slot.unset).toArray = ls at hl ⊢
  have hl : lv_has ls 8 [(0, .ref h0), (1, .ref h0b)] := hl
  have hf := ho.2.1
  have hfb := hob.2.1
  have hlen := ho.1
  have hlenb := hob.1
  obtain ⟨cn, ecn⟩ : ∃ cn, cn = max len lenb := ⟨_, rfl⟩
  refine lv_aload_n hx hb d_Whole_addSize_0 rfl (lv_at hl 0 rfl) ?_
  refine va_get (D := (dC, dI)) (ci := 1) (v := .int (nI len)) (C := R_Whole) (T := F_Whole) (N := 3) hx hb hts i_Whole hown hK hP 0 rfl rfl 1 (by decide) (hts _ k_fl_Whole_9) (fun _ h9 => h9) rfl d_Whole_addSize_1 ?_
  refine lv_aload_n hx hb d_Whole_addSize_4 rfl (lv_at hl 1 rfl) ?_
  refine va_get (D := (dC, dI)) (ci := 1) (v := .int (nI lenb)) (C := R_Whole) (T := F_Whole) (N := 3) hx hb hts i_Whole hown hK hP 2 rfl rfl 1 (by decide) (hts _ k_fl_Whole_9) (fun _ h9 => h9) rfl d_Whole_addSize_5 ?_
  refine xn_mmax (v := cn) hx hb (by rw [hml]; exact hl.1.symm) hown (hts _ k_ml_Whole_71) (hts _ k_st_Math_max) (hts _ k_ini_Math) (hts _ k_code_Math_max) (Nat.le_of_ble_eq_true rfl) (Nat.le_of_ble_eq_true rfl) (Nat.zero_le _) (Nat.zero_le _) (by omega) (by omega) ecn d_Whole_addSize_8 ?_
  refine lv_istore_n (lv' := [(2, .int (nI cn)), (0, .ref h0), (1, .ref h0b)]) hx hb d_Whole_addSize_11 rfl hl (by decide) rfl (fun ls hl => ?_)
  refine lv_lconst (v := lN 0) hx hb d_Whole_addSize_12 rfl ?_
  refine lv_lstore_n (lv' := [(3, .long (lN 0)), (2, .int (nI cn)), (0, .ref h0), (1, .ref h0b)]) hx hb d_Whole_addSize_13 rfl hl (by decide) rfl (fun ls hl => ?_)
  refine lv_iconst (v := nI 0) hx hb d_Whole_addSize_14 rfl ?_
  refine lv_istore (lv' := [(5, .int (nI 0)), (3, .long (lN 0)), (2, .int (nI cn)), (0, .ref h0), (1, .ref h0b)]) hx hb d_Whole_addSize_15 hl (by decide) rfl (fun ls hl => ?_)
  have tail : ∀ (n2 : Nat) (F : Nat → Nat), (lb_n cap F n2) → (lb_v F n2 = lb_v f len + lb_v fb lenb) → ∀ (H : Heap) (locs : List Loc), va_P (dC, dI) classes ([(h0, .inr (1, [.ref q0, .int (nI len), .int sg])), (q0, .inl (cA, cap, .inl (xn_f F))), (h0b, .inr (1, [.ref q0b, .int (nI lenb), .int sgb])), (q0b, .inl (cA, capb, .inl (xn_f fb)))]) H → va_D A ([(h0, .inr (1, [.ref q0, .int (nI len), .int sg])), (q0, .inl (cA, cap, .inl (xn_f F))), (h0b, .inr (1, [.ref q0b, .int (nI lenb), .int sgb])), (q0b, .inl (cA, capb, .inl (xn_f fb)))]) → va_S A s.heap H locs → ∀ (ls : Array Slot), lv_has ls 8 [(2, .int (nI n2)), (0, .ref h0), (1, .ref h0b)] → W p l e (headSpec w_Whole_addSize ({ frames := 1, cells := 0, slots := 0, locals := 21 })).room s m ([.ref h0, .ref h0b] : List Value).toArray below meth c H locs 0 0 (MQ below (va_Qv (S := (Nat → Nat) × Nat × Int32) (fun u => lb_n cap u.1 u.2.1 ∧ lb_v u.1 u.2.1 = lb_v f len + lb_v fb lenb ∧ u.2.2 = sg) (fun u t => va_P (dC, dI) classes ((fun u => [(h0, .inr (1, [.ref q0, .int (nI u.2.1), .int u.2.2])), (q0, .inl (cA, cap, .inl (xn_f u.1))), (h0b, .inr (1, [.ref q0b, .int (nI lenb), .int sgb])), (q0b, .inl (cA, capb, .inl (xn_f fb)))]) u) t.heap) A) ([.ref h0, .ref h0b] : List Value).toArray s 0 0 A) (F0 m 104 ls []) := by
    intro n2 F hn hv H locs hP hD hS ls hl
    have hn1 := hn.1
    refine lv_aload_n hx hb d_Whole_addSize_104 rfl (lv_at hl 1 rfl) ?_
    refine lv_iload_n hx hb d_Whole_addSize_105 rfl (lv_at hl 0 rfl) ?_
    refine lv_aload_n hx hb d_Whole_addSize_106 rfl (lv_at hl 1 rfl) ?_
    refine va_get (D := (dC, dI)) (ci := 1) (v := .ref q0) (C := R_Whole) (T := F_Whole) (N := 3) hx hb hts i_Whole hown hK hP 0 rfl rfl 0 (by decide) (hts _ k_fl_Whole_18) (fun _ h9 => h9) rfl d_Whole_addSize_107 ?_
    refine va_alen (v := nI cap) hx hb hK hP 1 0 rfl rfl rfl d_Whole_addSize_110 ?_
    refine xn_mmin (v := n2) hx hb (by rw [hml]; exact hl.1.symm) hown (hts _ k_ml_Whole_30) (hts _ k_st_Math_min) (hts _ k_ini_Math) (hts _ k_code_Math_min) (Nat.le_of_ble_eq_true rfl) (Nat.le_of_ble_eq_true rfl) (Nat.zero_le _) (Nat.zero_le _) (by omega) (by omega) (by omega) d_Whole_addSize_111 ?_
    refine va_put (D := (dC, dI)) (ci := 1) (v := .int (nI n2)) (ty := .int) (C := R_Whole) (T := F_Whole) (N := 3) hx hb hts i_Whole t_Whole t_Whole_ok n_Whole hown hK hP hD hS 0 rfl rfl 1 (by decide) (hts _ k_fl_Whole_9) (fun _ h9 => h9) rfl (by decide +kernel) rfl rfl (Nat.le_of_ble_eq_true rfl) d_Whole_addSize_114 (fun H locs hP hD hS => ?_)
    have hP : va_P (dC, dI) classes ([(h0, .inr (1, [.ref q0, .int (nI n2), .int sg])), (q0, .inl (cA, cap, .inl (xn_f F))), (h0b, .inr (1, [.ref q0b, .int (nI lenb), .int sgb])), (q0b, .inl (cA, capb, .inl (xn_f fb)))]) H := hP
    have hD : va_D A ([(h0, .inr (1, [.ref q0, .int (nI n2), .int sg])), (q0, .inl (cA, cap, .inl (xn_f F))), (h0b, .inr (1, [.ref q0b, .int (nI lenb), .int sgb])), (q0b, .inl (cA, capb, .inl (xn_f fb)))]) := hD
    exact W.vret hx hb hr (fun T_ ht_ hW_ => ⟨⟨(F, n2, sg), rfl, ⟨hn, hv, rfl⟩, by show va_P (dC, dI) classes _ T_.heap; rw [ht_]; exact hP⟩, hS.F ht_⟩) hS.2.2 d_Whole_addSize_117
  have loop : ∀ (n : Nat) (i cy : Nat) (F : Nat → Nat), (i ≤ cn) → (cy ≤ 1) → (∀ k, F k < 2147483648) → (∀ k, i ≤ k → F k = f k) → (lb_v F i + cy * lb_p i = lb_v (lb_at f len) i + lb_v (lb_at fb lenb) i) → (cn + 1 ≤ i + n) → ∀ (H : Heap) (locs : List Loc), va_P (dC, dI) classes ([(h0, .inr (1, [.ref q0, .int (nI len), .int sg])), (q0, .inl (cA, cap, .inl (xn_f F))), (h0b, .inr (1, [.ref q0b, .int (nI lenb), .int sgb])), (q0b, .inl (cA, capb, .inl (xn_f fb)))]) H → va_D A ([(h0, .inr (1, [.ref q0, .int (nI len), .int sg])), (q0, .inl (cA, cap, .inl (xn_f F))), (h0b, .inr (1, [.ref q0b, .int (nI lenb), .int sgb])), (q0b, .inl (cA, capb, .inl (xn_f fb)))]) → va_S A s.heap H locs → ∀ (ls : Array Slot), lv_has ls 8 [(5, .int (nI i)), (3, .long (lN cy)), (2, .int (nI cn)), (0, .ref h0), (1, .ref h0b)] → W p l e (headSpec w_Whole_addSize ({ frames := 1, cells := 0, slots := 0, locals := 21 })).room s m ([.ref h0, .ref h0b] : List Value).toArray below meth c H locs 0 0 (MQ below (va_Qv (S := (Nat → Nat) × Nat × Int32) (fun u => lb_n cap u.1 u.2.1 ∧ lb_v u.1 u.2.1 = lb_v f len + lb_v fb lenb ∧ u.2.2 = sg) (fun u t => va_P (dC, dI) classes ((fun u => [(h0, .inr (1, [.ref q0, .int (nI u.2.1), .int u.2.2])), (q0, .inl (cA, cap, .inl (xn_f u.1))), (h0b, .inr (1, [.ref q0b, .int (nI lenb), .int sgb])), (q0b, .inl (cA, capb, .inl (xn_f fb)))]) u) t.heap) A) ([.ref h0, .ref h0b] : List Value).toArray s 0 0 A) (F0 m 17 ls []) := by
    intro n
    induction n with
    | zero => intro i cy F hi hc hF hFk hinv hn; exact absurd hn (by omega)
    | succ n ih =>
      intro i cy F hi hc hF hFk hinv hn H locs hP hD hS ls hl
      refine lv_iload hx hb d_Whole_addSize_17 (lv_at hl 0 rfl) ?_
      refine lv_iload_n hx hb d_Whole_addSize_19 rfl (lv_at hl 2 rfl) ?_
      refine xn_icmp_ge (tgt := 78) hx hb (by omega) (by omega) d_Whole_addSize_20 (by decide) (fun hge => ?_) (fun hge => ?_)
      · have hie : i = cn := by omega
        subst hie
        rw [lb_at_v f (show len ≤ i by omega), lb_at_v fb (show lenb ≤ i by omega)] at hinv
        refine lv_lload_n hx hb d_Whole_addSize_78 rfl (lv_at hl 1 rfl) ?_
        refine lv_lconst (v := lN 0) hx hb d_Whole_addSize_79 rfl ?_
        refine W.lcmp hx hb d_Whole_addSize_80 ?_
        refine lv_if_eq (tgt := 104) hx hb d_Whole_addSize_81 (by decide) (fun hcz => ?_) (fun hcz => ?_)
        · have hc0 : cy = 0 := (lg_z (by omega)).mp hcz
          subst hc0
          rw [Nat.zero_mul, Nat.add_zero] at hinv
          refine tail i F ⟨by omega, hF, fun k hk => ?_⟩ hinv H locs hP hD hS ls (lv_sub hl [2, 3, 4] rfl)
          apply lb_topne hF
          rw [← hk, hinv]
          rcases (show len = k + 1 ∨ lenb = k + 1 by omega) with q | q
          · have := lb_top (ho.2.2 k q); rw [← q] at this; omega
          · have := lb_top (hob.2.2 k q); rw [← q] at this; omega
        have hc1 : cy = 1 := by
          have : ¬ cy = 0 := fun q => hcz ((lg_z (by omega)).mpr q)
          omega
        subst hc1
        refine lv_iload_n hx hb d_Whole_addSize_84 rfl (lv_at hl 2 rfl) ?_
        refine lv_aload_n hx hb d_Whole_addSize_85 rfl (lv_at hl 3 rfl) ?_
        refine va_get (D := (dC, dI)) (ci := 1) (v := .ref q0) (C := R_Whole) (T := F_Whole) (N := 3) hx hb hts i_Whole hown hK hP 0 rfl rfl 0 (by decide) (hts _ k_fl_Whole_18) (fun _ h9 => h9) rfl d_Whole_addSize_86 ?_
        refine va_alen (v := nI cap) hx hb hK hP 1 0 rfl rfl rfl d_Whole_addSize_89 ?_
        refine xn_icmp_ge (tgt := 104) hx hb (by omega) (by omega) d_Whole_addSize_90 (by decide) (fun hge2 => ?_) (fun hge2 => ?_)
        · exact absurd hge2 (by omega)
        refine lv_aload_n hx hb d_Whole_addSize_93 rfl (lv_at hl 3 rfl) ?_
        refine va_get (D := (dC, dI)) (ci := 1) (v := .ref q0) (C := R_Whole) (T := F_Whole) (N := 3) hx hb hts i_Whole hown hK hP 0 rfl rfl 0 (by decide) (hts _ k_fl_Whole_18) (fun _ h9 => h9) rfl d_Whole_addSize_94 ?_
        refine lv_iload_n hx hb d_Whole_addSize_97 rfl (lv_at hl 2 rfl) ?_
        refine lv_lload_n hx hb d_Whole_addSize_98 rfl (lv_at hl 1 rfl) ?_
        refine xn_l2i hx hb d_Whole_addSize_99 ?_
        refine xn_iast hx hb hK hP hD hS 1 0 rfl rfl (i := i) (x := 1) (by omega) (by omega) d_Whole_addSize_100 (fun H locs hP hD hS => ?_)
        have hP : va_P (dC, dI) classes ([(h0, .inr (1, [.ref q0, .int (nI len), .int sg])), (q0, .inl (cA, cap, .inl (xn_f (va_up F i 1)))), (h0b, .inr (1, [.ref q0b, .int (nI lenb), .int sgb])), (q0b, .inl (cA, capb, .inl (xn_f fb)))]) H := hP
        have hD : va_D A ([(h0, .inr (1, [.ref q0, .int (nI len), .int sg])), (q0, .inl (cA, cap, .inl (xn_f (va_up F i 1)))), (h0b, .inr (1, [.ref q0b, .int (nI lenb), .int sgb])), (q0b, .inl (cA, capb, .inl (xn_f fb)))]) := hD
        refine lv_iinc (v := nI (i + 1)) (lv' := [(2, .int (nI (i + 1))), (5, .int (nI i)), (3, .long (lN 1)), (0, .ref h0), (1, .ref h0b)]) hx hb d_Whole_addSize_101 hl (k := 2) rfl (nI_1 _) (by decide) rfl (fun ls hl => ?_)
        have hup := lb_up_ge F i 1 (Nat.le_refl i)
        refine tail (i + 1) (va_up F i 1) ⟨by omega, fun k => by by_cases q : k = i <;> simp [va_up, q, hF], fun k hk => by rw [show k = i by omega, va_up_self]; decide⟩ (by rw [lb_v1, hup, va_up_self]; omega) H locs hP hD hS ls (lv_sub hl [0, 3, 4] rfl)
      refine lv_iload hx hb d_Whole_addSize_23 (lv_at hl 0 rfl) ?_
      refine lv_aload_n hx hb d_Whole_addSize_25 rfl (lv_at hl 3 rfl) ?_
      refine va_get (D := (dC, dI)) (ci := 1) (v := .ref q0) (C := R_Whole) (T := F_Whole) (N := 3) hx hb hts i_Whole hown hK hP 0 rfl rfl 0 (by decide) (hts _ k_fl_Whole_18) (fun _ h9 => h9) rfl d_Whole_addSize_26 ?_
      refine va_alen (v := nI cap) hx hb hK hP 1 0 rfl rfl rfl d_Whole_addSize_29 ?_
      refine xn_icmp_ge (tgt := 78) hx hb (by omega) (by omega) d_Whole_addSize_30 (by decide) (fun hge2 => ?_) (fun hge2 => ?_)
      · exact absurd hge2 (by omega)
      refine lv_aload_n hx hb d_Whole_addSize_33 rfl (lv_at hl 3 rfl) ?_
      refine lv_iload hx hb d_Whole_addSize_34 (lv_at hl 0 rfl) ?_
      refine vp_callSi (W.runV (As := [.int (nI i)]) (rest := []) ⟨hx, hb, hml, hown, hts⟩ (c_Whole_limbAt l dC dI cA h0 q0 cap len F sg i hcap hlen (by omega)) (cwV 1 hts (gw_V k_ml_Whole_74 k_im_Whole_limbAt k_sel_Whole_limbAt k_ini_Whole k_code_Whole_limbAt) rfl rfl rfl (by decide +kernel) ⟨Nat.le_of_ble_eq_true rfl, Nat.le_of_ble_eq_true rfl⟩) ⟨xc_R_blind, va_recv hK hP (ci := 1) (q0 := 0) rfl rfl, fun U hU hW => ⟨rfl, by rw [hU]; exact hP.sub (ws' := [(h0, .inr (1, [.ref q0, .int (nI len), .int sg])), (q0, .inl (cA, cap, .inl (xn_f F)))]) [0, 1] rfl, va_K.moved hW.alike (hK.sub (tys' := [(cA, .int)]) [0] rfl)⟩⟩ rfl rfl hl.1 rfl (lv_room (Nat.le_of_ble_eq_true rfl)) d_Whole_addSize_36 ⟨Nat.zero_le _, Nat.zero_le _⟩) (fun r_ e_r => ?_)
      subst e_r
      obtain ⟨x, ex⟩ : ∃ x, x = (if i < len then F i else 0) := ⟨_, rfl⟩
      rw [← ex]
      rw [hFk i (Nat.le_refl i)] at ex
      have hx1 : x = lb_at f len i := ex
      have hx2 : x < 2147483648 := by rw [hx1]; exact lb_at_lt _ hf i
      refine xn_i2l hx hb (by omega) d_Whole_addSize_39 ?_
      refine lv_aload_n hx hb d_Whole_addSize_40 rfl (lv_at hl 4 rfl) ?_
      refine lv_iload hx hb d_Whole_addSize_41 (lv_at hl 0 rfl) ?_
      refine vp_callSi (W.runV (As := [.int (nI i)]) (rest := [.long (lN x)]) ⟨hx, hb, hml, hown, hts⟩ (c_Whole_limbAt l dC dI cA h0b q0b capb lenb fb sgb i hcapb hlenb (by omega)) (cwV 1 hts (gw_V k_ml_Whole_74 k_im_Whole_limbAt k_sel_Whole_limbAt k_ini_Whole k_code_Whole_limbAt) rfl rfl rfl (by decide +kernel) ⟨Nat.le_of_ble_eq_true rfl, Nat.le_of_ble_eq_true rfl⟩) ⟨xc_R_blind, va_recv hK hP (ci := 1) (q0 := 2) rfl rfl, fun U hU hW => ⟨rfl, by rw [hU]; exact hP.sub (ws' := [(h0b, .inr (1, [.ref q0b, .int (nI lenb), .int sgb])), (q0b, .inl (cA, capb, .inl (xn_f fb)))]) [2, 3] rfl, va_K.moved hW.alike (hK.sub (tys' := [(cA, .int)]) [0] rfl)⟩⟩ rfl rfl hl.1 rfl (lv_room (Nat.le_of_ble_eq_true rfl)) d_Whole_addSize_43 ⟨Nat.zero_le _, Nat.zero_le _⟩) (fun r_ e_r => ?_)
      subst e_r
      obtain ⟨y, ey⟩ : ∃ y, y = (if i < lenb then fb i else 0) := ⟨_, rfl⟩
      rw [← ey]
      have hy1 : y = lb_at fb lenb i := ey
      have hy2 : y < 2147483648 := by rw [hy1]; exact lb_at_lt _ hfb i
      refine xn_i2l hx hb (by omega) d_Whole_addSize_46 ?_
      refine xn_ladd hx hb d_Whole_addSize_47 ?_
      refine lv_lload_n hx hb d_Whole_addSize_48 rfl (lv_at hl 1 rfl) ?_
      refine xn_ladd hx hb d_Whole_addSize_49 ?_
      obtain ⟨s2, es2⟩ : ∃ s2, s2 = x + y + cy := ⟨_, rfl⟩
      rw [← es2]
      refine lv_lstore (lv' := [(6, .long (lN s2)), (5, .int (nI i)), (3, .long (lN cy)), (2, .int (nI cn)), (0, .ref h0), (1, .ref h0b)]) hx hb d_Whole_addSize_50 hl (by decide) rfl (fun ls hl => ?_)
      refine lv_aload_n hx hb d_Whole_addSize_52 rfl (lv_at hl 4 rfl) ?_
      refine va_get (D := (dC, dI)) (ci := 1) (v := .ref q0) (C := R_Whole) (T := F_Whole) (N := 3) hx hb hts i_Whole hown hK hP 0 rfl rfl 0 (by decide) (hts _ k_fl_Whole_18) (fun _ h9 => h9) rfl d_Whole_addSize_53 ?_
      refine lv_iload hx hb d_Whole_addSize_56 (lv_at hl 1 rfl) ?_
      refine lv_lload hx hb d_Whole_addSize_58 (lv_at hl 0 rfl) ?_
      refine lv_ldc2 (v := lN 2147483647) hx hb hown (hts _ k_ldc_Whole_28) d_Whole_addSize_60 ?_
      refine xe_land (v := lN (s2 % 2147483648)) hx hb d_Whole_addSize_63 (lN_mask (by omega)) ?_
      refine xn_l2i hx hb d_Whole_addSize_64 ?_
      refine xn_iast hx hb hK hP hD hS 1 0 rfl rfl (i := i) (x := s2 % 2147483648) (by omega) (by omega) d_Whole_addSize_65 (fun H locs hP hD hS => ?_)
      have hP : va_P (dC, dI) classes ([(h0, .inr (1, [.ref q0, .int (nI len), .int sg])), (q0, .inl (cA, cap, .inl (xn_f (va_up F i (s2 % 2147483648))))), (h0b, .inr (1, [.ref q0b, .int (nI lenb), .int sgb])), (q0b, .inl (cA, capb, .inl (xn_f fb)))]) H := hP
      have hD : va_D A ([(h0, .inr (1, [.ref q0, .int (nI len), .int sg])), (q0, .inl (cA, cap, .inl (xn_f (va_up F i (s2 % 2147483648))))), (h0b, .inr (1, [.ref q0b, .int (nI lenb), .int sgb])), (q0b, .inl (cA, capb, .inl (xn_f fb)))]) := hD
      refine lv_lload hx hb d_Whole_addSize_66 (lv_at hl 0 rfl) ?_
      refine lv_bipush (v := nI 31) hx hb d_Whole_addSize_68 rfl ?_
      refine lv_lushr (v := lN (s2 / 2147483648)) hx hb d_Whole_addSize_70 (lN_ush (by omega)) ?_
      refine lv_lstore_n (lv' := [(3, .long (lN (s2 / 2147483648))), (6, .long (lN s2)), (5, .int (nI i)), (2, .int (nI cn)), (0, .ref h0), (1, .ref h0b)]) hx hb d_Whole_addSize_71 rfl hl (by decide) rfl (fun ls hl => ?_)
      refine lv_iinc (v := nI (i + 1)) (lv' := [(5, .int (nI (i + 1))), (3, .long (lN (s2 / 2147483648))), (6, .long (lN s2)), (2, .int (nI cn)), (0, .ref h0), (1, .ref h0b)]) hx hb d_Whole_addSize_72 hl (k := 2) rfl (nI_1 _) (by decide) rfl (fun ls hl => ?_)
      refine lv_goto (tgt := 17) hx hb d_Whole_addSize_75 (by decide) ?_
      have hst := lb_add_step (P := lb_p i) (x := x) (y := y) (b := cy) (z := s2 % 2147483648) (b' := s2 / 2147483648) (by omega) hinv
      exact ih (i + 1) (s2 / 2147483648) (va_up F i (s2 % 2147483648)) (by omega) (by omega) (fun k => by by_cases q : k = i <;> simp [va_up, q, hF, Nat.mod_lt]) (fun k hk => by rw [va_up_ne F _ (show k ≠ i by omega)]; exact hFk k (by omega)) (by rw [lb_v1, lb_v1, lb_v1, lb_up_ge F i _ (Nat.le_refl i), va_up_self, lb_p1, ← hx1, ← hy1]; exact hst) (by omega) H locs hP hD hS ls (lv_sub hl [0, 1, 3, 4, 5] rfl)
  exact loop (cn + 1) 0 0 f (Nat.zero_le _) (by omega) hf (fun k _ => rfl) (by simp [lb_v]) (by omega) s.heap [] hP hD hS ls (lv_sub hl [0, 1, 2, 3, 4] rfl)
set_option maxHeartbeats 4000000 in
set_option maxRecDepth 100000 in
/-- subtract -/
theorem c_Whole_subtract (l : Launch) (dC : Nat → ClassId) (dI : Nat → Nat → Nat) (sz : Nat) (cA : ClassId) (h0 q0 : Nat) (cap len : Nat) (f : Nat → Nat) (sg : Int32) (h0b q0b : Nat) (capb lenb : Nat) (fb : Nat → Nat) (sgb : Int32) (hcap : cap ≤ 64) (hcapb : capb ≤ 64) (ho : wh_ok cap f len sg) (hob : wh_ok capb fb lenb sgb) (hfit : len < cap ∧ lenb < cap) : Met l y_Whole_subtract w_Whole_subtract ({ frames := 2, cells := 0, slots := 0, locals := 62 }) (xc_W [.ref h0, .ref h0b] dC dI ([(h0, .inr (1, [.ref q0, .int (nI len), .int sg])), (q0, .inl (cA, cap, .inl (xn_f f))), (h0b, .inr (1, [.ref q0b, .int (nI lenb), .int sgb])), (q0b, .inl (cA, capb, .inl (xn_f fb)))]) [(cA, .int)] sz) (va_Qv (S := (Nat → Nat) × Nat × Int32) (fun u => wh_ok cap u.1 u.2.1 u.2.2 ∧ wh_z u.1 u.2.1 u.2.2 = wh_z f len sg - wh_z fb lenb sgb) (fun u t => va_P (dC, dI) classes ((fun u => [(h0, .inr (1, [.ref q0, .int (nI u.2.1), .int u.2.2])), (q0, .inl (cA, cap, .inl (xn_f u.1))), (h0b, .inr (1, [.ref q0b, .int (nI lenb), .int sgb])), (q0b, .inl (cA, capb, .inl (xn_f fb)))]) u) t.heap) (va_A ([(h0, .inr (1, [.ref q0, .int (nI len), .int sg])), (q0, .inl (cA, cap, .inl (xn_f f))), (h0b, .inr (1, [.ref q0b, .int (nI lenb), .int sgb])), (q0b, .inl (cA, capb, .inl (xn_f fb)))]) sz)) 0 0 (va_A ([(h0, .inr (1, [.ref q0, .int (nI len), .int sg])), (q0, .inl (cA, cap, .inl (xn_f f))), (h0b, .inr (1, [.ref q0b, .int (nI lenb), .int sgb])), (q0b, .inl (cA, capb, .inl (xn_f fb)))]) sz) := by
  refine Met.ofW (cc := b_Whole_subtract) (maxL := 2) (ret := none) (by decide) rfl ?_
  intro p e s m args below meth c s₁ B hml hv
  obtain ⟨rfl, hsz, hP, hK, hD0⟩ := hv
  have hx := B.exec
  have hb := B.bytes
  have hr := B.returns
  have hts : ∀ w ∈ gw_tbl, w.before ([.ref h0, .ref h0b] : List Value).toArray s = true := fun w h => atoms_spec (ws := w_Whole_subtract) B.pre w (List.mem_cons_of_mem _ h)
  have hown : s.vm.findClass R_Whole = some m.cls := findClass_of_methodNamed B.named
  have hlocks := B.notSynchronized
  subst hsz
  have hD := hD0.self (sz := s.heap.size)
  generalize hAe : va_A ([(h0, .inr (1, [.ref q0, .int (nI len), .int sg])), (q0, .inl (cA, cap, .inl (xn_f f))), (h0b, .inr (1, [.ref q0b, .int (nI lenb), .int sgb])), (q0b, .inl (cA, capb, .inl (xn_f fb)))]) s.heap.size = A at hD ⊢
  have hA : ∀ q : Nat, s.heap.size ≤ q → A q := fun q h => by rw [← hAe]; exact Or.inr h
  have hS : va_S A s.heap s.heap [] := va_S.rf
  have hl := lv_entry ([.ref h0, .ref h0b]) (n := 2) (Nat.le_of_ble_eq_true rfl)
  rw [lg_entry_eq]
  generalize (lg_sl ([.ref h0, .ref h0b]) ++ List.replicate (2 - (lg_sl ([.ref h0, .ref h0b])).length) Slot.unset).toArray = ls at hl ⊢
  have hl : lv_has ls 2 [(0, .ref h0), (1, .ref h0b)] := hl
  refine lv_aload_n hx hb d_Whole_subtract_0 rfl (lv_at hl 1 rfl) ?_
  refine va_get (D := (dC, dI)) (ci := 1) (v := .int sgb) (C := R_Whole) (T := F_Whole) (N := 3) hx hb hts i_Whole hown hK hP 2 rfl rfl 2 (by decide) (hts _ k_fl_Whole_15) (fun _ h9 => h9) rfl d_Whole_subtract_1 ?_
  refine lv_if_ne (tgt := 8) hx hb d_Whole_subtract_4 (by decide) (fun z0b => ?_) (fun z0b => ?_)
  rotate_left
  · exact W.vret hx hb hr (fun T_ ht_ hW_ => ⟨⟨(f, len, sg), rfl, ⟨ho, by show wh_z f len sg = _; rw [(wh_z0 hob).mpr z0b]; omega⟩, by show va_P (dC, dI) classes _ T_.heap; rw [ht_]; exact hP⟩, hS.F ht_⟩) hS.2.2 d_Whole_subtract_7
  refine lv_aload_n hx hb d_Whole_subtract_8 rfl (lv_at hl 0 rfl) ?_
  refine va_get (D := (dC, dI)) (ci := 1) (v := .int sg) (C := R_Whole) (T := F_Whole) (N := 3) hx hb hts i_Whole hown hK hP 0 rfl rfl 2 (by decide) (hts _ k_fl_Whole_15) (fun _ h9 => h9) rfl d_Whole_subtract_9 ?_
  refine lv_if_ne (tgt := 32) hx hb d_Whole_subtract_12 (by decide) (fun z0 => ?_) (fun z0 => ?_)
  rotate_left
  · refine lv_aload_n hx hb d_Whole_subtract_15 rfl (lv_at hl 0 rfl) ?_
    refine lv_aload_n hx hb d_Whole_subtract_16 rfl (lv_at hl 1 rfl) ?_
    have hFc := va_free (wc := [(h0, .inr (1, [.ref q0, .int (nI len), .int sg])), (q0, .inl (cA, cap, .inl (xn_f f))), (h0b, .inr (1, [.ref q0b, .int (nI lenb), .int sgb])), (q0b, .inl (cA, capb, .inl (xn_f fb)))]) hD hS hA [0, 1, 2, 3] rfl
    refine va_callv (va_runV (As := [.ref h0b]) (rest := []) ⟨hx, hb, hml, hown, hts⟩ (c_Whole_setWhole l dC dI s.heap.size cA h0 q0 cap len f sg h0b q0b capb lenb fb sgb hcap hcapb hob.1 (by omega)) (cwV 1 hts (gw_V k_ml_Whole_60 k_im_Whole_setWhole k_sel_Whole_setWhole k_ini_Whole k_code_Whole_setWhole) rfl rfl rfl (by decide +kernel) ⟨Nat.le_of_ble_eq_true rfl, Nat.le_of_ble_eq_true rfl⟩) ⟨xc_W_blind, va_recv hK hP (ci := 1) (q0 := 0) rfl rfl, fun U hU hW => ⟨rfl, by rw [hU], by rw [hU]; exact hP.sub (ws' := [(h0, .inr (1, [.ref q0, .int (nI len), .int sg])), (q0, .inl (cA, cap, .inl (xn_f f))), (h0b, .inr (1, [.ref q0b, .int (nI lenb), .int sgb])), (q0b, .inl (cA, capb, .inl (xn_f fb)))]) [0, 1, 2, 3] rfl, va_K.moved hW.alike (hK.sub (tys' := [(cA, .int)]) [0] rfl), (hD.sub (ws' := [(h0, .inr (1, [.ref q0, .int (nI len), .int sg])), (q0, .inl (cA, cap, .inl (xn_f f))), (h0b, .inr (1, [.ref q0b, .int (nI lenb), .int sgb])), (q0b, .inl (cA, capb, .inl (xn_f fb)))]) [0, 1, 2, 3] (by decide) rfl).weaken (fun _ _ _ _ => trivial)⟩⟩ rfl rfl hl.1 rfl (lv_room (Nat.le_of_ble_eq_true rfl)) d_Whole_subtract_17 ⟨Nat.zero_le _, Nat.zero_le _⟩) hS (fun q _ h => hFc q h) hFc (fun u t_ H locs ht_ hvm_ hw hB hz1 hk1 hS => ?_)
    obtain ⟨F, len2, sg2⟩ := u
    rw [ht_] at hB
    obtain ⟨hP, hD⟩ := xj_4 0 1 2 3 hP hD rfl rfl rfl rfl hk1 hB
    have hP : va_P (dC, dI) classes ([(h0, .inr (1, [.ref q0, .int (nI len2), .int sg2])), (q0, .inl (cA, cap, .inl (xn_f F))), (h0b, .inr (1, [.ref q0b, .int (nI lenb), .int sgb])), (q0b, .inl (cA, capb, .inl (xn_f fb)))]) H := hP
    have hD : va_D A ([(h0, .inr (1, [.ref q0, .int (nI len2), .int sg2])), (q0, .inl (cA, cap, .inl (xn_f F))), (h0b, .inr (1, [.ref q0b, .int (nI lenb), .int sgb])), (q0b, .inl (cA, capb, .inl (xn_f fb)))]) := hD
    dsimp only at hw
    obtain ⟨e1, e2, e3⟩ := hw
    have e1 := e1.symm
    have e2 := e2.symm
    subst e1
    subst e2
    refine lv_aload_n hx hb d_Whole_subtract_20 rfl (lv_at hl 0 rfl) ?_
    refine lv_aload_n hx hb d_Whole_subtract_21 rfl (lv_at hl 1 rfl) ?_
    refine va_get (D := (dC, dI)) (ci := 1) (v := .int sgb) (C := R_Whole) (T := F_Whole) (N := 3) hx hb hts i_Whole hown hK hP 2 rfl rfl 2 (by decide) (hts _ k_fl_Whole_15) (fun _ h9 => h9) rfl d_Whole_subtract_22 ?_
    refine xn_ineg (v := -sgb) hx hb d_Whole_subtract_25 rfl ?_
    refine va_put (D := (dC, dI)) (ci := 1) (v := .int (-sgb)) (ty := .int) (C := R_Whole) (T := F_Whole) (N := 3) hx hb hts i_Whole t_Whole t_Whole_ok n_Whole hown hK hP hD hS 0 rfl rfl 2 (by decide) (hts _ k_fl_Whole_15) (fun _ h9 => h9) rfl (by decide +kernel) rfl rfl (Nat.le_of_ble_eq_true rfl) d_Whole_subtract_26 (fun H locs hP hD hS => ?_)
    have hP : va_P (dC, dI) classes ([(h0, .inr (1, [.ref q0, .int (nI lenb), .int (-sgb)])), (q0, .inl (cA, cap, .inl (xn_f F))), (h0b, .inr (1, [.ref q0b, .int (nI lenb), .int sgb])), (q0b, .inl (cA, capb, .inl (xn_f fb)))]) H := hP
    have hD : va_D A ([(h0, .inr (1, [.ref q0, .int (nI lenb), .int (-sgb)])), (q0, .inl (cA, cap, .inl (xn_f F))), (h0b, .inr (1, [.ref q0b, .int (nI lenb), .int sgb])), (q0b, .inl (cA, capb, .inl (xn_f fb)))]) := hD
    refine lv_goto (tgt := 83) hx hb d_Whole_subtract_29 (by decide) ?_
    have hpost := wh_negS (F := F) ho hob z0 (by omega) (fun i => by rw [e3 i]; have := hob.2.1 i; have := ho.2.1 i; split <;> omega) (fun i hi => by rw [e3 i, if_pos hi])
    exact W.vret hx hb hr (fun T_ ht_ hW_ => ⟨⟨(F, lenb, -sgb), rfl, hpost, by show va_P (dC, dI) classes _ T_.heap; rw [ht_]; exact hP⟩, hS.F ht_⟩) hS.2.2 d_Whole_subtract_83
  refine lv_aload_n hx hb d_Whole_subtract_32 rfl (lv_at hl 0 rfl) ?_
  refine va_get (D := (dC, dI)) (ci := 1) (v := .int sg) (C := R_Whole) (T := F_Whole) (N := 3) hx hb hts i_Whole hown hK hP 0 rfl rfl 2 (by decide) (hts _ k_fl_Whole_15) (fun _ h9 => h9) rfl d_Whole_subtract_33 ?_
  refine lv_aload_n hx hb d_Whole_subtract_36 rfl (lv_at hl 1 rfl) ?_
  refine va_get (D := (dC, dI)) (ci := 1) (v := .int sgb) (C := R_Whole) (T := F_Whole) (N := 3) hx hb hts i_Whole hown hK hP 2 rfl rfl 2 (by decide) (hts _ k_fl_Whole_15) (fun _ h9 => h9) rfl d_Whole_subtract_37 ?_
  refine lv_icmp_eq (tgt := 51) hx hb d_Whole_subtract_40 (by decide) (fun hne => ?_) (fun hne => ?_)
  rotate_left
  · refine lv_aload_n hx hb d_Whole_subtract_43 rfl (lv_at hl 0 rfl) ?_
    refine lv_aload_n hx hb d_Whole_subtract_44 rfl (lv_at hl 1 rfl) ?_
    have hFc := va_free (wc := [(h0, .inr (1, [.ref q0, .int (nI len), .int sg])), (q0, .inl (cA, cap, .inl (xn_f f))), (h0b, .inr (1, [.ref q0b, .int (nI lenb), .int sgb])), (q0b, .inl (cA, capb, .inl (xn_f fb)))]) hD hS hA [0, 1, 2, 3] rfl
    refine va_callv (va_runV (As := [.ref h0b]) (rest := []) ⟨hx, hb, hml, hown, hts⟩ (c_Whole_addSize l dC dI s.heap.size cA h0 q0 cap len f sg h0b q0b capb lenb fb sgb hcap hcapb (wh_n ho) (wh_n hob) hfit ⟨Nat.pos_of_ne_zero (fun q => z0 (ho.2.2.2.1.mpr q)), Nat.pos_of_ne_zero (fun q => z0b (hob.2.2.2.1.mpr q))⟩) (cwV 1 hts (gw_V k_ml_Whole_64 k_im_Whole_addSize k_sel_Whole_addSize k_ini_Whole k_code_Whole_addSize) rfl rfl rfl (by decide +kernel) ⟨Nat.le_of_ble_eq_true rfl, Nat.le_of_ble_eq_true rfl⟩) ⟨xc_W_blind, va_recv hK hP (ci := 1) (q0 := 0) rfl rfl, fun U hU hW => ⟨rfl, by rw [hU], by rw [hU]; exact hP.sub (ws' := [(h0, .inr (1, [.ref q0, .int (nI len), .int sg])), (q0, .inl (cA, cap, .inl (xn_f f))), (h0b, .inr (1, [.ref q0b, .int (nI lenb), .int sgb])), (q0b, .inl (cA, capb, .inl (xn_f fb)))]) [0, 1, 2, 3] rfl, va_K.moved hW.alike (hK.sub (tys' := [(cA, .int)]) [0] rfl), (hD.sub (ws' := [(h0, .inr (1, [.ref q0, .int (nI len), .int sg])), (q0, .inl (cA, cap, .inl (xn_f f))), (h0b, .inr (1, [.ref q0b, .int (nI lenb), .int sgb])), (q0b, .inl (cA, capb, .inl (xn_f fb)))]) [0, 1, 2, 3] (by decide) rfl).weaken (fun _ _ _ _ => trivial)⟩⟩ rfl rfl hl.1 rfl (lv_room (Nat.le_of_ble_eq_true rfl)) d_Whole_subtract_45 ⟨Nat.zero_le _, Nat.zero_le _⟩) hS (fun q _ h => hFc q h) hFc (fun u t_ H locs ht_ hvm_ hw hB hz1 hk1 hS => ?_)
    obtain ⟨F, len2, sg2⟩ := u
    rw [ht_] at hB
    obtain ⟨hP, hD⟩ := xj_4 0 1 2 3 hP hD rfl rfl rfl rfl hk1 hB
    have hP : va_P (dC, dI) classes ([(h0, .inr (1, [.ref q0, .int (nI len2), .int sg2])), (q0, .inl (cA, cap, .inl (xn_f F))), (h0b, .inr (1, [.ref q0b, .int (nI lenb), .int sgb])), (q0b, .inl (cA, capb, .inl (xn_f fb)))]) H := hP
    have hD : va_D A ([(h0, .inr (1, [.ref q0, .int (nI len2), .int sg2])), (q0, .inl (cA, cap, .inl (xn_f F))), (h0b, .inr (1, [.ref q0b, .int (nI lenb), .int sgb])), (q0b, .inl (cA, capb, .inl (xn_f fb)))]) := hD
    dsimp only at hw
    obtain ⟨e1, e2, e3⟩ := hw
    have e3 := e3.symm
    subst e3
    refine lv_goto (tgt := 83) hx hb d_Whole_subtract_48 (by decide) ?_
    exact W.vret hx hb hr (fun T_ ht_ hW_ => ⟨⟨(F, len2, sg), rfl, wh_addS ho hob hne z0 z0b e1 e2, by show va_P (dC, dI) classes _ T_.heap; rw [ht_]; exact hP⟩, hS.F ht_⟩) hS.2.2 d_Whole_subtract_83
  refine lv_aload_n hx hb d_Whole_subtract_51 rfl (lv_at hl 0 rfl) ?_
  refine lv_aload_n hx hb d_Whole_subtract_52 rfl (lv_at hl 1 rfl) ?_
  refine vp_callSi (W.runV (As := [.ref h0b]) (rest := []) ⟨hx, hb, hml, hown, hts⟩ (c_Whole_orderOfSizes l dC dI cA h0 q0 cap len f sg h0b q0b capb lenb fb sgb hcap hcapb ho hob) (cwV 1 hts (gw_V k_ml_Whole_48 k_im_Whole_orderOfSizes k_sel_Whole_orderOfSizes k_ini_Whole k_code_Whole_orderOfSizes) rfl rfl rfl (by decide +kernel) ⟨Nat.le_of_ble_eq_true rfl, Nat.le_of_ble_eq_true rfl⟩) ⟨xc_R_blind, va_recv hK hP (ci := 1) (q0 := 0) rfl rfl, fun U hU hW => ⟨rfl, by rw [hU]; exact hP.sub (ws' := [(h0, .inr (1, [.ref q0, .int (nI len), .int sg])), (q0, .inl (cA, cap, .inl (xn_f f))), (h0b, .inr (1, [.ref q0b, .int (nI lenb), .int sgb])), (q0b, .inl (cA, capb, .inl (xn_f fb)))]) [0, 1, 2, 3] rfl, va_K.moved hW.alike (hK.sub (tys' := [(cA, .int)]) [0] rfl)⟩⟩ rfl rfl hl.1 rfl (lv_room (Nat.le_of_ble_eq_true rfl)) d_Whole_subtract_53 ⟨Nat.zero_le _, Nat.zero_le _⟩) (fun r_ e_r => ?_)
  refine lv_if_lt (tgt := 68) hx hb d_Whole_subtract_56 (by decide) (fun hr_ => ?_) (fun hr_ => ?_)
  · have hlt : lb_v f len < lb_v fb lenb := by
      rcases Nat.lt_or_ge (lb_v f len) (lb_v fb lenb) with q | q
      · exact q
      · rw [if_neg (by omega)] at e_r
        split at e_r <;> (subst e_r; exact absurd hr_ (by decide))
    refine lv_aload_n hx hb d_Whole_subtract_68 rfl (lv_at hl 0 rfl) ?_
    refine lv_aload_n hx hb d_Whole_subtract_69 rfl (lv_at hl 0 rfl) ?_
    refine va_get (D := (dC, dI)) (ci := 1) (v := .int sg) (C := R_Whole) (T := F_Whole) (N := 3) hx hb hts i_Whole hown hK hP 0 rfl rfl 2 (by decide) (hts _ k_fl_Whole_15) (fun _ h9 => h9) rfl d_Whole_subtract_70 ?_
    refine xn_ineg (v := -sg) hx hb d_Whole_subtract_73 rfl ?_
    refine va_put (D := (dC, dI)) (ci := 1) (v := .int (-sg)) (ty := .int) (C := R_Whole) (T := F_Whole) (N := 3) hx hb hts i_Whole t_Whole t_Whole_ok n_Whole hown hK hP hD hS 0 rfl rfl 2 (by decide) (hts _ k_fl_Whole_15) (fun _ h9 => h9) rfl (by decide +kernel) rfl rfl (Nat.le_of_ble_eq_true rfl) d_Whole_subtract_74 (fun H locs hP hD hS => ?_)
    have hP : va_P (dC, dI) classes ([(h0, .inr (1, [.ref q0, .int (nI len), .int (-sg)])), (q0, .inl (cA, cap, .inl (xn_f f))), (h0b, .inr (1, [.ref q0b, .int (nI lenb), .int sgb])), (q0b, .inl (cA, capb, .inl (xn_f fb)))]) H := hP
    have hD : va_D A ([(h0, .inr (1, [.ref q0, .int (nI len), .int (-sg)])), (q0, .inl (cA, cap, .inl (xn_f f))), (h0b, .inr (1, [.ref q0b, .int (nI lenb), .int sgb])), (q0b, .inl (cA, capb, .inl (xn_f fb)))]) := hD
    refine lv_aload_n hx hb d_Whole_subtract_77 rfl (lv_at hl 0 rfl) ?_
    refine lv_aload_n hx hb d_Whole_subtract_78 rfl (lv_at hl 1 rfl) ?_
    refine lv_aload_n hx hb d_Whole_subtract_79 rfl (lv_at hl 0 rfl) ?_
    have hFc := va_free (wc := [(h0, .inr (1, [.ref q0, .int (nI len), .int (-sg)])), (q0, .inl (cA, cap, .inl (xn_f f))), (h0b, .inr (1, [.ref q0b, .int (nI lenb), .int sgb])), (q0b, .inl (cA, capb, .inl (xn_f fb)))]) hD hS hA [0, 1, 2, 3] rfl
    refine va_callv (va_runV (As := [.ref h0b, .ref h0]) (rest := []) ⟨hx, hb, hml, hown, hts⟩ (c_Whole_diffB l dC dI H.size cA h0 q0 cap len f (-sg) h0b q0b capb lenb fb sgb hcap hcapb (wh_n ho) (wh_n hob) (by omega) (by omega)) (cwV 2 hts (gw_V k_ml_Whole_67 k_im_Whole_setDifferenceOfSizes k_sel_Whole_setDifferenceOfSizes k_ini_Whole k_code_Whole_setDifferenceOfSizes) rfl rfl rfl (by decide +kernel) ⟨Nat.le_of_ble_eq_true rfl, Nat.le_of_ble_eq_true rfl⟩) ⟨xc_W_blind, va_recv hK hP (ci := 1) (q0 := 0) rfl rfl, fun U hU hW => ⟨rfl, by rw [hU], by rw [hU]; exact hP.sub (ws' := [(h0, .inr (1, [.ref q0, .int (nI len), .int (-sg)])), (q0, .inl (cA, cap, .inl (xn_f f))), (h0b, .inr (1, [.ref q0b, .int (nI lenb), .int sgb])), (q0b, .inl (cA, capb, .inl (xn_f fb)))]) [0, 1, 2, 3] rfl, va_K.moved hW.alike (hK.sub (tys' := [(cA, .int)]) [0] rfl), (hD.sub (ws' := [(h0, .inr (1, [.ref q0, .int (nI len), .int (-sg)])), (q0, .inl (cA, cap, .inl (xn_f f))), (h0b, .inr (1, [.ref q0b, .int (nI lenb), .int sgb])), (q0b, .inl (cA, capb, .inl (xn_f fb)))]) [0, 1, 2, 3] (by decide) rfl).weaken (fun _ _ _ _ => trivial)⟩⟩ rfl rfl hl.1 rfl (lv_room (Nat.le_of_ble_eq_true rfl)) d_Whole_subtract_80 ⟨Nat.zero_le _, Nat.zero_le _⟩) hS (fun q _ h => hFc q h) hFc (fun u t_ H locs ht_ hvm_ hw hB hz1 hk1 hS => ?_)
    obtain ⟨F, len2, sg2⟩ := u
    rw [ht_] at hB
    obtain ⟨hP, hD⟩ := xj_4 0 1 2 3 hP hD rfl rfl rfl rfl hk1 hB
    have hP : va_P (dC, dI) classes ([(h0, .inr (1, [.ref q0, .int (nI len2), .int sg2])), (q0, .inl (cA, cap, .inl (xn_f F))), (h0b, .inr (1, [.ref q0b, .int (nI lenb), .int sgb])), (q0b, .inl (cA, capb, .inl (xn_f fb)))]) H := hP
    have hD : va_D A ([(h0, .inr (1, [.ref q0, .int (nI len2), .int sg2])), (q0, .inl (cA, cap, .inl (xn_f F))), (h0b, .inr (1, [.ref q0b, .int (nI lenb), .int sgb])), (q0b, .inl (cA, capb, .inl (xn_f fb)))]) := hD
    dsimp only at hw
    exact W.vret hx hb hr (fun T_ ht_ hW_ => ⟨⟨(F, len2, sg2), rfl, wh_difB ho hob hne z0 (by omega) hw.1 hw.2.1 hw.2.2, by show va_P (dC, dI) classes _ T_.heap; rw [ht_]; exact hP⟩, hS.F ht_⟩) hS.2.2 d_Whole_subtract_83
  have hle : lb_v fb lenb ≤ lb_v f len := by
    rcases Nat.lt_or_ge (lb_v f len) (lb_v fb lenb) with q | q
    · rw [if_pos q] at e_r
      subst e_r; exact absurd (by decide) hr_
    · exact q
  refine lv_aload_n hx hb d_Whole_subtract_59 rfl (lv_at hl 0 rfl) ?_
  refine lv_aload_n hx hb d_Whole_subtract_60 rfl (lv_at hl 0 rfl) ?_
  refine lv_aload_n hx hb d_Whole_subtract_61 rfl (lv_at hl 1 rfl) ?_
  have hFc := va_free (wc := [(h0, .inr (1, [.ref q0, .int (nI len), .int sg])), (q0, .inl (cA, cap, .inl (xn_f f))), (h0b, .inr (1, [.ref q0b, .int (nI lenb), .int sgb])), (q0b, .inl (cA, capb, .inl (xn_f fb)))]) hD hS hA [0, 1, 2, 3] rfl
  refine va_callv (va_runV (As := [.ref h0, .ref h0b]) (rest := []) ⟨hx, hb, hml, hown, hts⟩ (c_Whole_diffA l dC dI s.heap.size cA h0 q0 cap len f sg h0b q0b capb lenb fb sgb hcap hcapb (wh_n ho) (wh_n hob) hle (by omega)) (cwV 2 hts (gw_V k_ml_Whole_67 k_im_Whole_setDifferenceOfSizes k_sel_Whole_setDifferenceOfSizes k_ini_Whole k_code_Whole_setDifferenceOfSizes) rfl rfl rfl (by decide +kernel) ⟨Nat.le_of_ble_eq_true rfl, Nat.le_of_ble_eq_true rfl⟩) ⟨xc_W_blind, va_recv hK hP (ci := 1) (q0 := 0) rfl rfl, fun U hU hW => ⟨rfl, by rw [hU], by rw [hU]; exact hP.sub (ws' := [(h0, .inr (1, [.ref q0, .int (nI len), .int sg])), (q0, .inl (cA, cap, .inl (xn_f f))), (h0b, .inr (1, [.ref q0b, .int (nI lenb), .int sgb])), (q0b, .inl (cA, capb, .inl (xn_f fb)))]) [0, 1, 2, 3] rfl, va_K.moved hW.alike (hK.sub (tys' := [(cA, .int)]) [0] rfl), (hD.sub (ws' := [(h0, .inr (1, [.ref q0, .int (nI len), .int sg])), (q0, .inl (cA, cap, .inl (xn_f f))), (h0b, .inr (1, [.ref q0b, .int (nI lenb), .int sgb])), (q0b, .inl (cA, capb, .inl (xn_f fb)))]) [0, 1, 2, 3] (by decide) rfl).weaken (fun _ _ _ _ => trivial)⟩⟩ rfl rfl hl.1 rfl (lv_room (Nat.le_of_ble_eq_true rfl)) d_Whole_subtract_62 ⟨Nat.zero_le _, Nat.zero_le _⟩) hS (fun q _ h => hFc q h) hFc (fun u t_ H locs ht_ hvm_ hw hB hz1 hk1 hS => ?_)
  obtain ⟨F, len2, sg2⟩ := u
  rw [ht_] at hB
  obtain ⟨hP, hD⟩ := xj_4 0 1 2 3 hP hD rfl rfl rfl rfl hk1 hB
  have hP : va_P (dC, dI) classes ([(h0, .inr (1, [.ref q0, .int (nI len2), .int sg2])), (q0, .inl (cA, cap, .inl (xn_f F))), (h0b, .inr (1, [.ref q0b, .int (nI lenb), .int sgb])), (q0b, .inl (cA, capb, .inl (xn_f fb)))]) H := hP
  have hD : va_D A ([(h0, .inr (1, [.ref q0, .int (nI len2), .int sg2])), (q0, .inl (cA, cap, .inl (xn_f F))), (h0b, .inr (1, [.ref q0b, .int (nI lenb), .int sgb])), (q0b, .inl (cA, capb, .inl (xn_f fb)))]) := hD
  dsimp only at hw
  refine lv_goto (tgt := 83) hx hb d_Whole_subtract_65 (by decide) ?_
  exact W.vret hx hb hr (fun T_ ht_ hW_ => ⟨⟨(F, len2, sg2), rfl, wh_difA ho hob hne z0 hle hw.1 hw.2.1 hw.2.2, by show va_P (dC, dI) classes _ T_.heap; rw [ht_]; exact hP⟩, hS.F ht_⟩) hS.2.2 d_Whole_subtract_83
