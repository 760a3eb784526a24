set_option maxHeartbeats 8000000 in
set_option maxRecDepth 100000 in
/-- less -/
theorem c_Model_less (l : Launch) (dC : Nat → ClassId) (dI : Nat → Nat → Nat) (sz : Nat) (cA : ClassId) (q0 q1 : Nat) (x y : Nat → Nat) (hx0 : ∀ i, x i < 65536) (hy0 : ∀ i, y i < 65536) (hle : dg_v y 56 ≤ dg_v x 56) : Met l y_Model_less w_Model_less ({ frames := 0, cells := 0, slots := 0, locals := 0 }) (xc_W [.ref q0, .ref q1] dC dI ([(q0, .inl (cA, 56, .inl (xn_f x))), (q1, .inl (cA, 56, .inl (xn_f y)))]) [(cA, .int)] sz) (va_Qv (S := Nat → Nat) (fun u => (∀ i, u i < 65536) ∧ dg_v u 56 = dg_v x 56 - dg_v y 56) (fun u t => va_P (dC, dI) classes ((fun u => [(q0, .inl (cA, 56, .inl (xn_f u))), (q1, .inl (cA, 56, .inl (xn_f y)))]) u) t.heap) (va_A ([(q0, .inl (cA, 56, .inl (xn_f x))), (q1, .inl (cA, 56, .inl (xn_f y)))]) sz)) 0 0 (va_A ([(q0, .inl (cA, 56, .inl (xn_f x))), (q1, .inl (cA, 56, .inl (xn_f y)))]) sz) := by
  refine Met.ofW (cc := b_Model_less) (maxL := 4) (ret := none) (by decide) rfl ?_
  intro p e s m args below meth c s₁ B hml hv
  obtain ⟨rfl, hsz, hP, hK, hD0⟩ := hv
  have hx := B.exec
  have hb := B.bytes
  have hr := B.returns
  have hts : ∀ w ∈ gw_tbl, w.before ([.ref q0, .ref q1] : List Value).toArray s = true := fun w h => atoms_spec (ws := w_Model_less) B.pre w (List.mem_cons_of_mem _ h)
  have hown : s.vm.findClass R_Model = some m.cls := findClass_of_methodNamed B.named
  have hlocks := B.notSynchronized
  subst hsz
  have hD := hD0.self (sz := s.heap.size)
  generalize hAe : va_A ([(q0, .inl (cA, 56, .inl (xn_f x))), (q1, .inl (cA, 56, .inl (xn_f y)))]) s.heap.size = A at hD ⊢
  have hA : ∀ q : Nat, s.heap.size ≤ q → A q := fun q h => by rw [← hAe]; exact Or.inr h
  have hS : va_S A s.heap s.heap [] := va_S.rf
  have hl := lv_entry ([.ref q0, .ref q1]) (n := 4) (Nat.le_of_ble_eq_true rfl)
  rw [lg_entry_eq]
  generalize (lg_sl ([.ref q0, .ref q1]) ++ List.replicate (4 - (lg_sl ([.ref q0, .ref q1])).length) Slot.unset).toArray = ls at hl ⊢
  have hl : lv_has ls 4 [(0, .ref q0), (1, .ref q1)] := hl
  refine lv_iconst (v := nI 1) hx hb d_Model_less_0 rfl ?_
  refine lv_istore_n (lv' := [(2, .int (nI 1)), (0, .ref q0), (1, .ref q1)]) hx hb d_Model_less_1 rfl hl (by decide) rfl (fun ls hl => ?_)
  refine lv_iconst (v := nI 0) hx hb d_Model_less_2 rfl ?_
  refine lv_istore_n (lv' := [(3, .int (nI 0)), (2, .int (nI 1)), (0, .ref q0), (1, .ref q1)]) hx hb d_Model_less_3 rfl hl (by decide) rfl (fun ls hl => ?_)
  have loop : ∀ (n0 : Nat) (k cr : Nat) (F : Nat → Nat), (k ≤ 56) → (∀ i, F i < 65536) → (∀ i, k ≤ i → F i = x i) → (cr ≤ 2) → (dg_v F k + cr * dg_p k + dg_v y k = dg_v x k + dg_p k) → (57 ≤ k + n0) → ∀ (H : Heap) (locs : List Loc), va_P (dC, dI) classes ([(q0, .inl (cA, 56, .inl (xn_f F))), (q1, .inl (cA, 56, .inl (xn_f y)))]) H → va_D A ([(q0, .inl (cA, 56, .inl (xn_f F))), (q1, .inl (cA, 56, .inl (xn_f y)))]) → va_S A s.heap H locs → ∀ (ls : Array Slot), lv_has ls 4 [(3, .int (nI k)), (2, .int (nI cr)), (0, .ref q0), (1, .ref q1)] → W p l e (headSpec w_Model_less ({ frames := 0, cells := 0, slots := 0, locals := 0 })).room s m ([.ref q0, .ref q1] : List Value).toArray below meth c H locs 0 0 (MQ below (va_Qv (S := Nat → Nat) (fun u => (∀ i, u i < 65536) ∧ dg_v u 56 = dg_v x 56 - dg_v y 56) (fun u t => va_P (dC, dI) classes ((fun u => [(q0, .inl (cA, 56, .inl (xn_f u))), (q1, .inl (cA, 56, .inl (xn_f y)))]) u) t.heap) A) ([.ref q0, .ref q1] : List Value).toArray s 0 0 A) (F0 m 4 ls []) := by
    intro n0
    induction n0 with
    | zero => intro k cr F hk hF hFx hcr hinv hn_; exact absurd hn_ (by omega)
    | succ n0 ih =>
      intro k cr F hk hF hFx hcr hinv hn_ H locs hP hD hS ls hl
      refine lv_iload_n hx hb d_Model_less_4 rfl (lv_at hl 0 rfl) ?_
      refine lv_bipush (v := nI 56) hx hb d_Model_less_5 rfl ?_
      refine xn_icmp_ge (tgt := 43) hx hb (by omega) (by omega) d_Model_less_7 (by decide) (fun hge => ?_) (fun hge => ?_)
      · have hk9 : k = 56 := by omega
        subst hk9
        exact W.vret hx hb hr (fun T_ ht_ hW_ => ⟨⟨F, rfl, ⟨hF, dg_lessE hinv (dg_lt 56 (fun i _ => hF i)) (dg_lt 56 (fun i _ => hx0 i)) hle⟩, by show va_P (dC, dI) classes _ T_.heap; rw [ht_]; exact hP⟩, hS.F ht_⟩) hS.2.2 d_Model_less_43
      have e0 : F k = x k := hFx k (Nat.le_refl _)
      have b0 := hx0 k
      have b1 := hy0 k
      refine lv_iload_n hx hb d_Model_less_10 rfl (lv_at hl 1 rfl) ?_
      refine lv_aload_n hx hb d_Model_less_11 rfl (lv_at hl 2 rfl) ?_
      refine lv_iload_n hx hb d_Model_less_12 rfl (lv_at hl 0 rfl) ?_
      refine xn_iald hx hb hK hP 0 0 rfl rfl (i := k) (by omega) (by omega) d_Model_less_13 ?_
      refine lv_aload_n hx hb d_Model_less_14 rfl (lv_at hl 3 rfl) ?_
      refine lv_iload_n hx hb d_Model_less_15 rfl (lv_at hl 0 rfl) ?_
      refine xn_iald hx hb hK hP 1 0 rfl rfl (i := k) (by omega) (by omega) d_Model_less_16 ?_
      refine lv_iconst (v := -1) hx hb d_Model_less_17 (by decide) ?_
      refine xe_ixor (v := nI (y k) ^^^ (-1)) hx hb d_Model_less_18 rfl ?_
      refine lv_ldc (v := nI 65535) hx hb hown (hts _ k_ldc_Model_57) d_Model_less_19 ?_
      refine xe_iand (v := nI (65535 - y k)) hx hb d_Model_less_21 (nI_n16 (hy0 k)) ?_
      refine xn_iadd hx hb d_Model_less_22 ?_
      obtain ⟨w, ew⟩ : ∃ w, w = cr + (F k + (65535 - y k)) := ⟨_, rfl⟩
      refine xe_iadd (v := nI w) hx hb d_Model_less_23 (by rw [ew]; exact nI_add _ _) ?_
      refine lv_istore_n (lv' := [(2, .int (nI w)), (3, .int (nI k)), (0, .ref q0), (1, .ref q1)]) hx hb d_Model_less_24 rfl hl (by decide) rfl (fun ls hl => ?_)
      refine lv_aload_n hx hb d_Model_less_25 rfl (lv_at hl 2 rfl) ?_
      refine lv_iload_n hx hb d_Model_less_26 rfl (lv_at hl 1 rfl) ?_
      refine lv_iload_n hx hb d_Model_less_27 rfl (lv_at hl 0 rfl) ?_
      refine lv_ldc (v := nI 65535) hx hb hown (hts _ k_ldc_Model_57) d_Model_less_28 ?_
      refine xe_iand (v := nI (w % 65536)) hx hb d_Model_less_30 (nI_16 (by omega)) ?_
      refine xn_iast hx hb hK hP hD hS 0 0 rfl rfl (i := k) (x := w % 65536) (by omega) (by omega) d_Model_less_31 (fun H locs hP hD hS => ?_)
      have hP : va_P (dC, dI) classes ([(q0, .inl (cA, 56, .inl (xn_f (va_up F k (w % 65536))))), (q1, .inl (cA, 56, .inl (xn_f y)))]) H := hP
      have hD : va_D A ([(q0, .inl (cA, 56, .inl (xn_f (va_up F k (w % 65536))))), (q1, .inl (cA, 56, .inl (xn_f y)))]) := hD
      refine lv_iload_n hx hb d_Model_less_32 rfl (lv_at hl 0 rfl) ?_
      refine lv_bipush (v := nI 16) hx hb d_Model_less_33 rfl ?_
      refine xe_ishr (v := nI (w / 65536)) hx hb d_Model_less_35 (nI_shr (k := 16) (by omega) (by decide)) ?_
      refine lv_istore_n (lv' := [(2, .int (nI (w / 65536))), (3, .int (nI k)), (0, .ref q0), (1, .ref q1)]) hx hb d_Model_less_36 rfl hl (by decide) rfl (fun ls hl => ?_)
      refine lv_iinc (v := nI (k + 1)) (lv' := [(3, .int (nI (k + 1))), (2, .int (nI (w / 65536))), (0, .ref q0), (1, .ref q1)]) hx hb d_Model_less_37 hl (k := 1) rfl (nI_1 _) (by decide) rfl (fun ls hl => ?_)
      refine lv_goto (tgt := 4) hx hb d_Model_less_40 (by decide) ?_
      exact ih (k + 1) (w / 65536) (va_up F k (w % 65536)) (by omega) (va_up_lt hF (by omega)) (fun i hi => by rw [va_up_ne _ _ (by omega)]; exact hFx i (by omega)) (by omega) (by rw [dg_set, dg_v1, dg_v1, dg_p1]; exact dg_less hinv (by omega) (by omega)) (by omega) H locs hP hD hS ls (lv_sub hl [0, 1, 2, 3] rfl)
  exact loop 57 0 1 x (Nat.zero_le _) hx0 (fun _ _ => rfl) (by decide) rfl (by omega) s.heap [] hP hD hS ls (lv_sub hl [0, 1, 2, 3] rfl)
set_option maxHeartbeats 8000000 in
set_option maxRecDepth 100000 in
/-- half -/
theorem c_Model_half (l : Launch) (dC : Nat → ClassId) (dI : Nat → Nat → Nat) (sz : Nat) (cA : ClassId) (q0 : Nat) (x : Nat → Nat) (hx0 : ∀ i, x i < 65536) : Met l y_Model_half w_Model_half ({ frames := 0, cells := 0, slots := 0, locals := 0 }) (xc_W [.ref q0] dC dI ([(q0, .inl (cA, 56, .inl (xn_f x)))]) [(cA, .int)] sz) (va_Qv (S := Nat → Nat) (fun u => (∀ i, u i < 65536) ∧ dg_v u 56 = dg_v x 56 / 2) (fun u t => va_P (dC, dI) classes ((fun u => [(q0, .inl (cA, 56, .inl (xn_f u)))]) u) t.heap) (va_A ([(q0, .inl (cA, 56, .inl (xn_f x)))]) sz)) 0 0 (va_A ([(q0, .inl (cA, 56, .inl (xn_f x)))]) sz) := by
  refine Met.ofW (cc := b_Model_half) (maxL := 2) (ret := none) (by decide) rfl ?_
  intro p e s m args below meth c s₁ B hml hv
  obtain ⟨rfl, hsz, hP, hK, hD0⟩ := hv
  have hx := B.exec
  have hb := B.bytes
  have hr := B.returns
  have hts : ∀ w ∈ gw_tbl, w.before ([.ref q0] : List Value).toArray s = true := fun w h => atoms_spec (ws := w_Model_half) B.pre w (List.mem_cons_of_mem _ h)
  have hown : s.vm.findClass R_Model = some m.cls := findClass_of_methodNamed B.named
  have hlocks := B.notSynchronized
  subst hsz
  have hD := hD0.self (sz := s.heap.size)
  generalize hAe : va_A ([(q0, .inl (cA, 56, .inl (xn_f x)))]) s.heap.size = A at hD ⊢
  have hA : ∀ q : Nat, s.heap.size ≤ q → A q := fun q h => by rw [← hAe]; exact Or.inr h
  have hS : va_S A s.heap s.heap [] := va_S.rf
  have hl := lv_entry ([.ref q0]) (n := 2) (Nat.le_of_ble_eq_true rfl)
  rw [lg_entry_eq]
  generalize (lg_sl ([.ref q0]) ++ List.replicate (2 - (lg_sl ([.ref q0])).length) Slot.unset).toArray = ls at hl ⊢
  have hl : lv_has ls 2 [(0, .ref q0)] := hl
  refine lv_iconst (v := nI 0) hx hb d_Model_half_0 rfl ?_
  refine lv_istore_n (lv' := [(1, .int (nI 0)), (0, .ref q0)]) hx hb d_Model_half_1 rfl hl (by decide) rfl (fun ls hl => ?_)
  have loop : ∀ (n0 : Nat) (k : Nat) (F : Nat → Nat), (k ≤ 56) → (∀ i, F i < 65536) → (∀ i, k ≤ i → F i = x i) → (dg_v F k * 2 + x 0 % 2 = dg_v x k + (if k < 56 then x k % 2 else 0) * dg_p k) → (57 ≤ k + n0) → ∀ (H : Heap) (locs : List Loc), va_P (dC, dI) classes ([(q0, .inl (cA, 56, .inl (xn_f F)))]) H → va_D A ([(q0, .inl (cA, 56, .inl (xn_f F)))]) → va_S A s.heap H locs → ∀ (ls : Array Slot), lv_has ls 2 [(1, .int (nI k)), (0, .ref q0)] → W p l e (headSpec w_Model_half ({ frames := 0, cells := 0, slots := 0, locals := 0 })).room s m ([.ref q0] : List Value).toArray below meth c H locs 0 0 (MQ below (va_Qv (S := Nat → Nat) (fun u => (∀ i, u i < 65536) ∧ dg_v u 56 = dg_v x 56 / 2) (fun u t => va_P (dC, dI) classes ((fun u => [(q0, .inl (cA, 56, .inl (xn_f u)))]) u) t.heap) A) ([.ref q0] : List Value).toArray s 0 0 A) (F0 m 2 ls []) := by
    intro n0
    induction n0 with
    | zero => intro k F hk hF hFx hinv hn_; exact absurd hn_ (by omega)
    | succ n0 ih =>
      intro k F hk hF hFx hinv hn_ H locs hP hD hS ls hl
      refine lv_iload_n hx hb d_Model_half_2 rfl (lv_at hl 0 rfl) ?_
      refine lv_bipush (v := nI 56) hx hb d_Model_half_3 rfl ?_
      refine xn_icmp_ge (tgt := 45) hx hb (by omega) (by omega) d_Model_half_5 (by decide) (fun hge => ?_) (fun hge => ?_)
      · have hk9 : k = 56 := by omega
        subst hk9
        exact W.vret hx hb hr (fun T_ ht_ hW_ => ⟨⟨F, rfl, ⟨hF, by rw [if_neg (by omega)] at hinv; omega⟩, by show va_P (dC, dI) classes _ T_.heap; rw [ht_]; exact hP⟩, hS.F ht_⟩) hS.2.2 d_Model_half_45
      have e0 : F k = x k := hFx k (Nat.le_refl _)
      have e1 : F (k + 1) = x (k + 1) := hFx (k + 1) (Nat.le_succ _)
      have b0 := hx0 k
      have b1 := hx0 (k + 1)
      rw [if_pos (show k < 56 by omega)] at hinv
      refine lv_aload_n hx hb d_Model_half_8 rfl (lv_at hl 1 rfl) ?_
      refine lv_iload_n hx hb d_Model_half_9 rfl (lv_at hl 0 rfl) ?_
      refine lv_aload_n hx hb d_Model_half_10 rfl (lv_at hl 1 rfl) ?_
      refine lv_iload_n hx hb d_Model_half_11 rfl (lv_at hl 0 rfl) ?_
      refine xn_iald hx hb hK hP 0 0 rfl rfl (i := k) (by omega) (by omega) d_Model_half_12 ?_
      refine lv_iconst (v := nI 1) hx hb d_Model_half_13 rfl ?_
      refine xe_ishr (v := nI (F k / 2)) hx hb d_Model_half_14 (nI_shr (k := 1) (by omega) (by decide)) ?_
      refine lv_iload_n hx hb d_Model_half_15 rfl (lv_at hl 0 rfl) ?_
      refine lv_iconst (v := nI 1) hx hb d_Model_half_16 rfl ?_
      refine xn_iadd hx hb d_Model_half_17 ?_
      refine lv_bipush (v := nI 56) hx hb d_Model_half_18 rfl ?_
      refine xn_icmp_ge (tgt := 33) hx hb (by omega) (by omega) d_Model_half_20 (by decide) (fun hla => ?_) (fun hla => ?_)
      · refine lv_iconst (v := nI 0) hx hb d_Model_half_33 rfl ?_
        refine lv_bipush (v := nI 15) hx hb d_Model_half_34 rfl ?_
        refine xe_ishl (v := nI (0 * 2 ^ 15)) hx hb d_Model_half_36 (sh_shl 0 15 (by decide)) ?_
        refine xe_ior (v := nI (F k / 2 + 0 * 2 ^ 15)) hx hb d_Model_half_37 (nI_orl (by omega)) ?_
        refine xn_iast hx hb hK hP hD hS 0 0 rfl rfl (i := k) (x := F k / 2 + 0 * 2 ^ 15) (by omega) (by omega) d_Model_half_38 (fun H locs hP hD hS => ?_)
        have hP : va_P (dC, dI) classes ([(q0, .inl (cA, 56, .inl (xn_f (va_up F k (F k / 2 + 0 * 2 ^ 15)))))]) H := hP
        have hD : va_D A ([(q0, .inl (cA, 56, .inl (xn_f (va_up F k (F k / 2 + 0 * 2 ^ 15)))))]) := hD
        refine lv_iinc (v := nI (k + 1)) (lv' := [(1, .int (nI (k + 1))), (0, .ref q0)]) hx hb d_Model_half_39 hl (k := 0) rfl (nI_1 _) (by decide) rfl (fun ls hl => ?_)
        refine lv_goto (tgt := 2) hx hb d_Model_half_42 (by decide) ?_
        exact ih (k + 1) (va_up F k (F k / 2 + 0 * 2 ^ 15)) (by omega) (va_up_lt hF (by omega)) (fun i hi => by rw [va_up_ne _ _ (by omega)]; exact hFx i (by omega)) (by rw [dg_set, dg_v1, dg_p1]; exact dg_half hinv (by rw [if_neg (by omega)]; omega)) (by omega) H locs hP hD hS ls (lv_sub hl [0, 1] rfl)
      refine lv_aload_n hx hb d_Model_half_23 rfl (lv_at hl 1 rfl) ?_
      refine lv_iload_n hx hb d_Model_half_24 rfl (lv_at hl 0 rfl) ?_
      refine lv_iconst (v := nI 1) hx hb d_Model_half_25 rfl ?_
      refine xn_iadd hx hb d_Model_half_26 ?_
      refine xn_iald hx hb hK hP 0 0 rfl rfl (i := k + 1) (by omega) (by omega) d_Model_half_27 ?_
      refine lv_iconst (v := nI 1) hx hb d_Model_half_28 rfl ?_
      refine xe_iand (v := nI (F (k + 1) % 2)) hx hb d_Model_half_29 (nI_bit (by omega)) ?_
      refine lv_goto (tgt := 34) hx hb d_Model_half_30 (by decide) ?_
      refine lv_bipush (v := nI 15) hx hb d_Model_half_34 rfl ?_
      refine xe_ishl (v := nI (F (k + 1) % 2 * 2 ^ 15)) hx hb d_Model_half_36 (sh_shl _ 15 (by decide)) ?_
      refine xe_ior (v := nI (F k / 2 + F (k + 1) % 2 * 2 ^ 15)) hx hb d_Model_half_37 (nI_orl (by omega)) ?_
      refine xn_iast hx hb hK hP hD hS 0 0 rfl rfl (i := k) (x := F k / 2 + F (k + 1) % 2 * 2 ^ 15) (by omega) (by omega) d_Model_half_38 (fun H locs hP hD hS => ?_)
      have hP : va_P (dC, dI) classes ([(q0, .inl (cA, 56, .inl (xn_f (va_up F k (F k / 2 + F (k + 1) % 2 * 2 ^ 15)))))]) H := hP
      have hD : va_D A ([(q0, .inl (cA, 56, .inl (xn_f (va_up F k (F k / 2 + F (k + 1) % 2 * 2 ^ 15)))))]) := hD
      refine lv_iinc (v := nI (k + 1)) (lv' := [(1, .int (nI (k + 1))), (0, .ref q0)]) hx hb d_Model_half_39 hl (k := 0) rfl (nI_1 _) (by decide) rfl (fun ls hl => ?_)
      refine lv_goto (tgt := 2) hx hb d_Model_half_42 (by decide) ?_
      exact ih (k + 1) (va_up F k (F k / 2 + F (k + 1) % 2 * 2 ^ 15)) (by omega) (va_up_lt hF (by omega)) (fun i hi => by rw [va_up_ne _ _ (by omega)]; exact hFx i (by omega)) (by rw [dg_set, dg_v1, dg_p1]; exact dg_half hinv (by rw [if_pos (by omega)]; omega)) (by omega) H locs hP hD hS ls (lv_sub hl [0, 1] rfl)
  exact loop 57 0 x (Nat.zero_le _) hx0 (fun _ _ => rfl) (by rw [if_pos (by decide)]; show 0 * 2 + x 0 % 2 = 0 + x 0 % 2 * 1; omega) (by omega) s.heap [] hP hD hS ls (lv_sub hl [0, 1] rfl)
set_option maxHeartbeats 8000000 in
set_option maxRecDepth 100000 in
/-- twice -/
theorem c_Model_twice (l : Launch) (dC : Nat → ClassId) (dI : Nat → Nat → Nat) (sz : Nat) (cA : ClassId) (q0 : Nat) (x : Nat → Nat) (b : Nat) (hx0 : ∀ i, x i < 65536) (hb1 : b ≤ 1) (hfit : 2 * dg_v x 56 + b < dg_p 56) : Met l y_Model_twice w_Model_twice ({ frames := 0, cells := 0, slots := 0, locals := 0 }) (xc_W [.ref q0, .int (nI b)] dC dI ([(q0, .inl (cA, 56, .inl (xn_f x)))]) [(cA, .int)] sz) (va_Qv (S := Nat → Nat) (fun u => (∀ i, u i < 65536) ∧ dg_v u 56 = 2 * dg_v x 56 + b) (fun u t => va_P (dC, dI) classes ((fun u => [(q0, .inl (cA, 56, .inl (xn_f u)))]) u) t.heap) (va_A ([(q0, .inl (cA, 56, .inl (xn_f x)))]) sz)) 0 0 (va_A ([(q0, .inl (cA, 56, .inl (xn_f x)))]) sz) := by
  refine Met.ofW (cc := b_Model_twice) (maxL := 4) (ret := none) (by decide) rfl ?_
  intro p e s m args below meth c s₁ B hml hv
  obtain ⟨rfl, hsz, hP, hK, hD0⟩ := hv
  have hx := B.exec
  have hb := B.bytes
  have hr := B.returns
  have hts : ∀ w ∈ gw_tbl, w.before ([.ref q0, .int (nI b)] : List Value).toArray s = true := fun w h => atoms_spec (ws := w_Model_twice) B.pre w (List.mem_cons_of_mem _ h)
  have hown : s.vm.findClass R_Model = some m.cls := findClass_of_methodNamed B.named
  have hlocks := B.notSynchronized
  subst hsz
  have hD := hD0.self (sz := s.heap.size)
  generalize hAe : va_A ([(q0, .inl (cA, 56, .inl (xn_f x)))]) s.heap.size = A at hD ⊢
  have hA : ∀ q : Nat, s.heap.size ≤ q → A q := fun q h => by rw [← hAe]; exact Or.inr h
  have hS : va_S A s.heap s.heap [] := va_S.rf
  have hl := lv_entry ([.ref q0, .int (nI b)]) (n := 4) (Nat.le_of_ble_eq_true rfl)
  rw [lg_entry_eq]
  generalize (lg_sl ([.ref q0, .int (nI b)]) ++ List.replicate (4 - (lg_sl ([.ref q0, .int (nI b)])).length) Slot.unset).toArray = ls at hl ⊢
  have hl : lv_has ls 4 [(0, .ref q0), (1, .int (nI b))] := hl
  refine lv_iload_n hx hb d_Model_twice_0 rfl (lv_at hl 1 rfl) ?_
  refine lv_istore_n (lv' := [(2, .int (nI b)), (0, .ref q0), (1, .int (nI b))]) hx hb d_Model_twice_1 rfl hl (by decide) rfl (fun ls hl => ?_)
  refine lv_iconst (v := nI 0) hx hb d_Model_twice_2 rfl ?_
  refine lv_istore_n (lv' := [(3, .int (nI 0)), (2, .int (nI b)), (0, .ref q0), (1, .int (nI b))]) hx hb d_Model_twice_3 rfl hl (by decide) rfl (fun ls hl => ?_)
  have loop : ∀ (n0 : Nat) (k cr : Nat) (F : Nat → Nat), (k ≤ 56) → (∀ i, F i < 65536) → (∀ i, k ≤ i → F i = x i) → (cr ≤ 1) → (dg_v F k + cr * dg_p k = 2 * dg_v x k + b) → (57 ≤ k + n0) → ∀ (H : Heap) (locs : List Loc), va_P (dC, dI) classes ([(q0, .inl (cA, 56, .inl (xn_f F)))]) H → va_D A ([(q0, .inl (cA, 56, .inl (xn_f F)))]) → va_S A s.heap H locs → ∀ (ls : Array Slot), lv_has ls 4 [(3, .int (nI k)), (2, .int (nI cr)), (0, .ref q0)] → W p l e (headSpec w_Model_twice ({ frames := 0, cells := 0, slots := 0, locals := 0 })).room s m ([.ref q0, .int (nI b)] : List Value).toArray below meth c H locs 0 0 (MQ below (va_Qv (S := Nat → Nat) (fun u => (∀ i, u i < 65536) ∧ dg_v u 56 = 2 * dg_v x 56 + b) (fun u t => va_P (dC, dI) classes ((fun u => [(q0, .inl (cA, 56, .inl (xn_f u)))]) u) t.heap) A) ([.ref q0, .int (nI b)] : List Value).toArray s 0 0 A) (F0 m 4 ls []) := by
    intro n0
    induction n0 with
    | zero => intro k cr F hk hF hFx hcr hinv hn_; exact absurd hn_ (by omega)
    | succ n0 ih =>
      intro k cr F hk hF hFx hcr hinv hn_ H locs hP hD hS ls hl
      refine lv_iload_n hx hb d_Model_twice_4 rfl (lv_at hl 0 rfl) ?_
      refine lv_bipush (v := nI 56) hx hb d_Model_twice_5 rfl ?_
      refine xn_icmp_ge (tgt := 36) hx hb (by omega) (by omega) d_Model_twice_7 (by decide) (fun hge => ?_) (fun hge => ?_)
      · have hk9 : k = 56 := by omega
        subst hk9
        exact W.vret hx hb hr (fun T_ ht_ hW_ => ⟨⟨F, rfl, ⟨hF, dg_twiceE hinv (dg_lt 56 (fun i _ => hF i)) hfit⟩, by show va_P (dC, dI) classes _ T_.heap; rw [ht_]; exact hP⟩, hS.F ht_⟩) hS.2.2 d_Model_twice_36
      have e0 : F k = x k := hFx k (Nat.le_refl _)
      have b0 := hx0 k
      refine lv_iload_n hx hb d_Model_twice_10 rfl (lv_at hl 1 rfl) ?_
      refine lv_aload_n hx hb d_Model_twice_11 rfl (lv_at hl 2 rfl) ?_
      refine lv_iload_n hx hb d_Model_twice_12 rfl (lv_at hl 0 rfl) ?_
      refine xn_iald hx hb hK hP 0 0 rfl rfl (i := k) (by omega) (by omega) d_Model_twice_13 ?_
      refine lv_iconst (v := nI 1) hx hb d_Model_twice_14 rfl ?_
      refine xe_ishl (v := nI (F k * 2 ^ 1)) hx hb d_Model_twice_15 (sh_shl _ 1 (by decide)) ?_
      obtain ⟨w, ew⟩ : ∃ w, w = cr + F k * 2 ^ 1 := ⟨_, rfl⟩
      refine xe_ior (v := nI w) hx hb d_Model_twice_16 (by rw [ew]; exact nI_orl (by omega)) ?_
      refine lv_istore_n (lv' := [(2, .int (nI w)), (3, .int (nI k)), (0, .ref q0)]) hx hb d_Model_twice_17 rfl hl (by decide) rfl (fun ls hl => ?_)
      refine lv_aload_n hx hb d_Model_twice_18 rfl (lv_at hl 2 rfl) ?_
      refine lv_iload_n hx hb d_Model_twice_19 rfl (lv_at hl 1 rfl) ?_
      refine lv_iload_n hx hb d_Model_twice_20 rfl (lv_at hl 0 rfl) ?_
      refine lv_ldc (v := nI 65535) hx hb hown (hts _ k_ldc_Model_57) d_Model_twice_21 ?_
      refine xe_iand (v := nI (w % 65536)) hx hb d_Model_twice_23 (nI_16 (by omega)) ?_
      refine xn_iast hx hb hK hP hD hS 0 0 rfl rfl (i := k) (x := w % 65536) (by omega) (by omega) d_Model_twice_24 (fun H locs hP hD hS => ?_)
      have hP : va_P (dC, dI) classes ([(q0, .inl (cA, 56, .inl (xn_f (va_up F k (w % 65536)))))]) H := hP
      have hD : va_D A ([(q0, .inl (cA, 56, .inl (xn_f (va_up F k (w % 65536)))))]) := hD
      refine lv_iload_n hx hb d_Model_twice_25 rfl (lv_at hl 0 rfl) ?_
      refine lv_bipush (v := nI 16) hx hb d_Model_twice_26 rfl ?_
      refine xe_ishr (v := nI (w / 65536)) hx hb d_Model_twice_28 (nI_shr (k := 16) (by omega) (by decide)) ?_
      refine lv_istore_n (lv' := [(2, .int (nI (w / 65536))), (3, .int (nI k)), (0, .ref q0)]) hx hb d_Model_twice_29 rfl hl (by decide) rfl (fun ls hl => ?_)
      refine lv_iinc (v := nI (k + 1)) (lv' := [(3, .int (nI (k + 1))), (2, .int (nI (w / 65536))), (0, .ref q0)]) hx hb d_Model_twice_30 hl (k := 1) rfl (nI_1 _) (by decide) rfl (fun ls hl => ?_)
      refine lv_goto (tgt := 4) hx hb d_Model_twice_33 (by decide) ?_
      exact ih (k + 1) (w / 65536) (va_up F k (w % 65536)) (by omega) (va_up_lt hF (by omega)) (fun i hi => by rw [va_up_ne _ _ (by omega)]; exact hFx i (by omega)) (by omega) (by rw [dg_set, dg_v1, dg_p1]; exact dg_twice hinv (by omega)) (by omega) H locs hP hD hS ls (lv_sub hl [0, 1, 2] rfl)
  exact loop 57 0 b x (Nat.zero_le _) hx0 (fun _ _ => rfl) hb1 (by show 0 + b * 1 = 2 * 0 + b; omega) (by omega) s.heap [] hP hD hS ls (lv_sub hl [0, 1, 2] rfl)
set_option maxHeartbeats 8000000 in
set_option maxRecDepth 100000 in
/-- bitsOf -/
theorem c_Model_bitsOf (l : Launch) (dC : Nat → ClassId) (dI : Nat → Nat → Nat) (cA : ClassId) (q0 : Nat) (x : Nat → Nat) (hx0 : ∀ i, x i < 65536) : Met l y_Model_bitsOf w_Model_bitsOf ({ frames := 0, cells := 0, slots := 0, locals := 0 }) (xc_R [.ref q0] dC dI ([(q0, .inl (cA, 56, .inl (xn_f x)))]) [(cA, .int)]) (vp_Si (fun r => ∃ b : Nat, r = nI b ∧ b ≤ 896 ∧ dg_v x 56 < 2 ^ b ∧ ∀ q, b = q + 1 → 2 ^ q ≤ dg_v x 56)) 0 0 (fun _ => False) := by
  refine Met.ofW (cc := b_Model_bitsOf) (maxL := 2) (ret := (some .int)) (by decide) rfl ?_
  intro p e s m args below meth c s₁ B hml hv
  obtain ⟨rfl, hP, hK⟩ := hv
  have hx := B.exec
  have hb := B.bytes
  have hr := B.returns
  have hts : ∀ w ∈ gw_tbl, w.before ([.ref q0] : List Value).toArray s = true := fun w h => atoms_spec (ws := w_Model_bitsOf) B.pre w (List.mem_cons_of_mem _ h)
  have hown : s.vm.findClass R_Model = some m.cls := findClass_of_methodNamed B.named
  have hlocks := B.notSynchronized
  have hl := lv_entry ([.ref q0]) (n := 2) (Nat.le_of_ble_eq_true rfl)
  rw [lg_entry_eq]
  generalize (lg_sl ([.ref q0]) ++ List.replicate (2 - (lg_sl ([.ref q0])).length) Slot.unset).toArray = ls at hl ⊢
  have hl : lv_has ls 2 [(0, .ref q0)] := hl
  refine lv_sipush (v := nI 896) hx hb d_Model_bitsOf_0 rfl ?_
  refine lv_istore_n (lv' := [(1, .int (nI 896)), (0, .ref q0)]) hx hb d_Model_bitsOf_3 rfl hl (by decide) rfl (fun ls hl => ?_)
  have loop : ∀ (n0 : Nat) (b : Nat), (b ≤ 896) → (dg_v x 56 < 2 ^ b) → (b + 1 ≤ n0) → ∀ (ls : Array Slot), lv_has ls 2 [(1, .int (nI b)), (0, .ref q0)] → W p l e (headSpec w_Model_bitsOf ({ frames := 0, cells := 0, slots := 0, locals := 0 })).room s m ([.ref q0] : List Value).toArray below meth c s.heap [] 0 0 (MQ below (vp_Si (fun r => ∃ b : Nat, r = nI b ∧ b ≤ 896 ∧ dg_v x 56 < 2 ^ b ∧ ∀ q, b = q + 1 → 2 ^ q ≤ dg_v x 56)) ([.ref q0] : List Value).toArray s 0 0 (fun _ => False)) (F0 m 4 ls []) := by
    intro n0
    induction n0 with
    | zero => intro b hb9 hlt hn_; exact absurd hn_ (by omega)
    | succ n0 ih =>
      intro b hb9 hlt hn_ ls hl
      refine lv_iload_n hx hb d_Model_bitsOf_4 rfl (lv_at hl 0 rfl) ?_
      refine xn_if_le (tgt := 33) hx hb (by omega) d_Model_bitsOf_5 (by decide) (fun hz => ?_) (fun hz => ?_)
      · refine lv_iload_n hx hb d_Model_bitsOf_33 rfl (lv_at hl 0 rfl) ?_
        exact W.iret (v := nI b) hx hb hr (fun T_ ht_ hW_ => ⟨_, rfl, ⟨b, rfl, hb9, hlt, fun q hq => by omega⟩, ht_⟩) (fun q hq => by cases hq) d_Model_bitsOf_34
      have hbit := dg_bit (x := x) (n := 56) (i := b - 1) (by omega) hx0
      have b0 := hx0 ((b - 1) / 16)
      have hsm : x ((b - 1) / 16) / 2 ^ ((b - 1) % 16) ≤ x ((b - 1) / 16) := Nat.div_le_self _ _
      have hp : 2 ^ b = 2 ^ (b - 1) * 2 := by rw [← Nat.pow_succ]; congr 1; omega
      refine lv_aload_n hx hb d_Model_bitsOf_8 rfl (lv_at hl 1 rfl) ?_
      refine lv_iload_n hx hb d_Model_bitsOf_9 rfl (lv_at hl 0 rfl) ?_
      refine lv_iconst (v := nI 1) hx hb d_Model_bitsOf_10 rfl ?_
      refine xn_isub hx hb (by omega) d_Model_bitsOf_11 ?_
      refine lv_iconst (v := nI 4) hx hb d_Model_bitsOf_12 rfl ?_
      refine xe_ishr (v := nI ((b - 1) / 16)) hx hb d_Model_bitsOf_13 (nI_shr (k := 4) (by omega) (by decide)) ?_
      refine xn_iald hx hb hK hP 0 0 rfl rfl (i := (b - 1) / 16) (by omega) (by omega) d_Model_bitsOf_14 ?_
      refine lv_iload_n hx hb d_Model_bitsOf_15 rfl (lv_at hl 0 rfl) ?_
      refine lv_iconst (v := nI 1) hx hb d_Model_bitsOf_16 rfl ?_
      refine xn_isub hx hb (by omega) d_Model_bitsOf_17 ?_
      refine lv_bipush (v := nI 15) hx hb d_Model_bitsOf_18 rfl ?_
      refine xe_iand (v := nI ((b - 1) % 16)) hx hb d_Model_bitsOf_20 (nI_15 (by omega)) ?_
      refine xe_ishr (v := nI (x ((b - 1) / 16) / 2 ^ ((b - 1) % 16))) hx hb d_Model_bitsOf_21 (nI_shr (by omega) (by omega)) ?_
      refine lv_iconst (v := nI 1) hx hb d_Model_bitsOf_22 rfl ?_
      refine xe_iand (v := nI (x ((b - 1) / 16) / 2 ^ ((b - 1) % 16) % 2)) hx hb d_Model_bitsOf_23 (nI_bit (by omega)) ?_
      refine xn_if_ne (tgt := 33) hx hb (by omega) d_Model_bitsOf_24 (by decide) (fun h1 => ?_) (fun h1 => ?_)
      · refine lv_iload_n hx hb d_Model_bitsOf_33 rfl (lv_at hl 0 rfl) ?_
        exact W.iret (v := nI b) hx hb hr (fun T_ ht_ hW_ => ⟨_, rfl, ⟨b, rfl, hb9, hlt, fun q hq => by
                    subst hq
                    rw [Nat.add_sub_cancel] at hbit h1
                    rcases Nat.lt_or_ge (dg_v x 56) (2 ^ q) with z | z
                    · rw [Nat.div_eq_of_lt z] at hbit; omega
                    · exact z⟩, ht_⟩) (fun q hq => by cases hq) d_Model_bitsOf_34
      refine lv_iinc (v := nI (b - 1)) (lv' := [(1, .int (nI (b - 1))), (0, .ref q0)]) hx hb d_Model_bitsOf_27 hl (k := 0) rfl (sb_m1 (by omega)) (by decide) rfl (fun ls hl => ?_)
      refine lv_goto (tgt := 4) hx hb d_Model_bitsOf_30 (by decide) ?_
      have hlt2 : dg_v x 56 < 2 ^ (b - 1) := by
        rw [hp] at hlt
        have h3 : dg_v x 56 / 2 ^ (b - 1) < 2 := Nat.div_lt_of_lt_mul hlt
        have h4 : dg_v x 56 / 2 ^ (b - 1) = 0 := by
          generalize dg_v x 56 / 2 ^ (b - 1) = Q9 at h3 hbit ⊢
          generalize x ((b - 1) / 16) / 2 ^ ((b - 1) % 16) = Q8 at hbit h1
          omega
        rcases Nat.div_eq_zero_iff.mp h4 with z | z
        · have := Nat.two_pow_pos (b - 1); omega
        · exact z
      exact ih (b - 1) (by omega) hlt2 (by omega) ls (lv_sub hl [0, 1] rfl)
  exact loop 897 896 (Nat.le_refl _) (by have := dg_lt (g := x) 56 (fun i _ => hx0 i); rw [dg_p2] at this; exact this) (by omega) ls (lv_sub hl [0, 1] rfl)
