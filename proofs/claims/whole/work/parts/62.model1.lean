set_option maxHeartbeats 8000000 in
set_option maxRecDepth 100000 in
/-- turn -/
theorem c_Model_turn (l : Launch) (dC : Nat → ClassId) (dI : Nat → Nat → Nat) (sz : Nat) (cA : ClassId) (q0 : Nat) (x : Nat → Nat) (hx0 : ∀ i, x i < 65536) : Met l y_Model_turn w_Model_turn ({ frames := 0, cells := 0, slots := 0, locals := 0 }) (xc_W [.ref q0] dC dI ([(q0, .inl (cA, 56, .inl (xn_f x)))]) [(cA, .int)] sz) (va_Qv (S := Nat → Nat) (fun u => (∀ i, u i < 65536) ∧ dg_v u 56 = (dg_p 56 - dg_v x 56) % dg_p 56) (fun u t => va_P (dC, dI) classes ((fun u => [(q0, .inl (cA, 56, .inl (xn_f u)))]) u) t.heap) (va_A ([(q0, .inl (cA, 56, .inl (xn_f x)))]) sz)) 0 0 (va_A ([(q0, .inl (cA, 56, .inl (xn_f x)))]) sz) := by
  refine Met.ofW (cc := b_Model_turn) (maxL := 3) (ret := none) (by decide) rfl ?_
  intro p e s m args below meth c s₁ B hml hv
  obtain ⟨rfl, hsz, hP, hK, hD0⟩ := hv
  have hx := B.exec
  have hb := B.bytes
  have hr := B.returns
  have hts : ∀ w ∈ gw_tbl, w.before ([.ref q0] : List Value).toArray s = true := fun w h => atoms_spec (ws := w_Model_turn) B.pre w (List.mem_cons_of_mem _ h)
  have hown : s.vm.findClass R_Model = some m.cls := findClass_of_methodNamed B.named
  have hlocks := B.notSynchronized
  subst hsz
  have hD := hD0.self (sz := s.heap.size)
  generalize hAe : va_A ([(q0, .inl (cA, 56, .inl (xn_f x)))]) s.heap.size = A at hD ⊢
  have hA : ∀ q : Nat, s.heap.size ≤ q → A q := fun q h => by rw [← hAe]; exact Or.inr h
  have hS : va_S A s.heap s.heap [] := va_S.rf
  have hl := lv_entry ([.ref q0]) (n := 3) (Nat.le_of_ble_eq_true rfl)
  rw [lg_entry_eq]
  generalize (lg_sl ([.ref q0]) ++ List.replicate (3 - (lg_sl ([.ref q0])).length) Slot.unset).toArray = ls at hl ⊢
  have hl : lv_has ls 3 [(0, .ref q0)] := hl
  refine lv_iconst (v := nI 1) hx hb d_Model_turn_0 rfl ?_
  refine lv_istore_n (lv' := [(1, .int (nI 1)), (0, .ref q0)]) hx hb d_Model_turn_1 rfl hl (by decide) rfl (fun ls hl => ?_)
  refine lv_iconst (v := nI 0) hx hb d_Model_turn_2 rfl ?_
  refine lv_istore_n (lv' := [(2, .int (nI 0)), (1, .int (nI 1)), (0, .ref q0)]) hx hb d_Model_turn_3 rfl hl (by decide) rfl (fun ls hl => ?_)
  have loop : ∀ (n0 : Nat) (k cr : Nat) (F : Nat → Nat), (k ≤ 56) → (∀ i, F i < 65536) → (∀ i, k ≤ i → F i = x i) → (cr ≤ 1) → (dg_v F k + cr * dg_p k + dg_v x k = 0 + dg_p k) → (57 ≤ k + n0) → ∀ (H : Heap) (locs : List Loc), va_P (dC, dI) classes ([(q0, .inl (cA, 56, .inl (xn_f F)))]) H → va_D A ([(q0, .inl (cA, 56, .inl (xn_f F)))]) → va_S A s.heap H locs → ∀ (ls : Array Slot), lv_has ls 3 [(2, .int (nI k)), (1, .int (nI cr)), (0, .ref q0)] → W p l e (headSpec w_Model_turn ({ frames := 0, cells := 0, slots := 0, locals := 0 })).room s m ([.ref q0] : List Value).toArray below meth c H locs 0 0 (MQ below (va_Qv (S := Nat → Nat) (fun u => (∀ i, u i < 65536) ∧ dg_v u 56 = (dg_p 56 - dg_v x 56) % dg_p 56) (fun u t => va_P (dC, dI) classes ((fun u => [(q0, .inl (cA, 56, .inl (xn_f u)))]) u) t.heap) A) ([.ref q0] : List Value).toArray s 0 0 A) (F0 m 4 ls []) := by
    intro n0
    induction n0 with
    | zero => intro k cr F hk hF hFx hcr hinv hn_; exact absurd hn_ (by omega)
    | succ n0 ih =>
      intro k cr F hk hF hFx hcr hinv hn_ H locs hP hD hS ls hl
      refine lv_iload_n hx hb d_Model_turn_4 rfl (lv_at hl 0 rfl) ?_
      refine lv_bipush (v := nI 56) hx hb d_Model_turn_5 rfl ?_
      refine xn_icmp_ge (tgt := 39) hx hb (by omega) (by omega) d_Model_turn_7 (by decide) (fun hge => ?_) (fun hge => ?_)
      · have hk9 : k = 56 := by omega
        subst hk9
        exact W.vret hx hb hr (fun T_ ht_ hW_ => ⟨⟨F, rfl, ⟨hF, dg_turn hinv (dg_lt 56 (fun i _ => hF i))⟩, by show va_P (dC, dI) classes _ T_.heap; rw [ht_]; exact hP⟩, hS.F ht_⟩) hS.2.2 d_Model_turn_39
      have e0 : F k = x k := hFx k (Nat.le_refl _)
      have b0 := hx0 k
      refine lv_iload_n hx hb d_Model_turn_10 rfl (lv_at hl 1 rfl) ?_
      refine lv_aload_n hx hb d_Model_turn_11 rfl (lv_at hl 2 rfl) ?_
      refine lv_iload_n hx hb d_Model_turn_12 rfl (lv_at hl 0 rfl) ?_
      refine xn_iald hx hb hK hP 0 0 rfl rfl (i := k) (by omega) (by omega) d_Model_turn_13 ?_
      refine lv_iconst (v := -1) hx hb d_Model_turn_14 (by decide) ?_
      refine xe_ixor (v := nI (F k) ^^^ (-1)) hx hb d_Model_turn_15 rfl ?_
      refine lv_ldc (v := nI 65535) hx hb hown (hts _ k_ldc_Model_57) d_Model_turn_16 ?_
      refine xe_iand (v := nI (65535 - F k)) hx hb d_Model_turn_18 (nI_n16 (hF k)) ?_
      obtain ⟨w, ew⟩ : ∃ w, w = cr + (65535 - F k) := ⟨_, rfl⟩
      refine xe_iadd (v := nI w) hx hb d_Model_turn_19 (by rw [ew]; exact nI_add _ _) ?_
      refine lv_istore_n (lv' := [(1, .int (nI w)), (2, .int (nI k)), (0, .ref q0)]) hx hb d_Model_turn_20 rfl hl (by decide) rfl (fun ls hl => ?_)
      refine lv_aload_n hx hb d_Model_turn_21 rfl (lv_at hl 2 rfl) ?_
      refine lv_iload_n hx hb d_Model_turn_22 rfl (lv_at hl 1 rfl) ?_
      refine lv_iload_n hx hb d_Model_turn_23 rfl (lv_at hl 0 rfl) ?_
      refine lv_ldc (v := nI 65535) hx hb hown (hts _ k_ldc_Model_57) d_Model_turn_24 ?_
      refine xe_iand (v := nI (w % 65536)) hx hb d_Model_turn_26 (nI_16 (by omega)) ?_
      refine xn_iast hx hb hK hP hD hS 0 0 rfl rfl (i := k) (x := w % 65536) (by omega) (by omega) d_Model_turn_27 (fun H locs hP hD hS => ?_)
      have hP : va_P (dC, dI) classes ([(q0, .inl (cA, 56, .inl (xn_f (va_up F k (w % 65536)))))]) H := hP
      have hD : va_D A ([(q0, .inl (cA, 56, .inl (xn_f (va_up F k (w % 65536)))))]) := hD
      refine lv_iload_n hx hb d_Model_turn_28 rfl (lv_at hl 0 rfl) ?_
      refine lv_bipush (v := nI 16) hx hb d_Model_turn_29 rfl ?_
      refine xe_ishr (v := nI (w / 65536)) hx hb d_Model_turn_31 (nI_shr (k := 16) (by omega) (by decide)) ?_
      refine lv_istore_n (lv' := [(1, .int (nI (w / 65536))), (2, .int (nI k)), (0, .ref q0)]) hx hb d_Model_turn_32 rfl hl (by decide) rfl (fun ls hl => ?_)
      refine lv_iinc (v := nI (k + 1)) (lv' := [(2, .int (nI (k + 1))), (1, .int (nI (w / 65536))), (0, .ref q0)]) hx hb d_Model_turn_33 hl (k := 1) rfl (nI_1 _) (by decide) rfl (fun ls hl => ?_)
      refine lv_goto (tgt := 4) hx hb d_Model_turn_36 (by decide) ?_
      exact ih (k + 1) (w / 65536) (va_up F k (w % 65536)) (by omega) (va_up_lt hF (by omega)) (fun i hi => by rw [va_up_ne _ _ (by omega)]; exact hFx i (by omega)) (by omega) (by rw [dg_set, dg_v1, dg_p1, ← e0]; exact (dg_less (x := 0) (X := 0) hinv (by omega) (by omega)).trans (by omega)) (by omega) H locs hP hD hS ls (lv_sub hl [0, 1, 2] rfl)
  exact loop 57 0 1 x (Nat.zero_le _) hx0 (fun _ _ => rfl) (Nat.le_refl _) rfl (by omega) s.heap [] hP hD hS ls (lv_sub hl [0, 1, 2] rfl)
set_option maxHeartbeats 8000000 in
set_option maxRecDepth 100000 in
/-- isZero -/
theorem c_Model_isZero (l : Launch) (dC : Nat → ClassId) (dI : Nat → Nat → Nat) (cA : ClassId) (q0 : Nat) (x : Nat → Nat) (hx0 : ∀ i, x i < 65536) : Met l y_Model_isZero w_Model_isZero ({ frames := 0, cells := 0, slots := 0, locals := 0 }) (xc_R [.ref q0] dC dI ([(q0, .inl (cA, 56, .inl (xn_f x)))]) [(cA, .int)]) (vp_Si (fun r => r = if dg_v x 56 = 0 then 1 else 0)) 0 0 (fun _ => False) := by
  refine Met.ofW (cc := b_Model_isZero) (maxL := 2) (ret := (some .boolean)) (by decide) rfl ?_
  intro p e s m args below meth c s₁ B hml hv
  obtain ⟨rfl, hP, hK⟩ := hv
  have hx := B.exec
  have hb := B.bytes
  have hr := B.returns
  have hts : ∀ w ∈ gw_tbl, w.before ([.ref q0] : List Value).toArray s = true := fun w h => atoms_spec (ws := w_Model_isZero) B.pre w (List.mem_cons_of_mem _ h)
  have hown : s.vm.findClass R_Model = some m.cls := findClass_of_methodNamed B.named
  have hlocks := B.notSynchronized
  have hl := lv_entry ([.ref q0]) (n := 2) (Nat.le_of_ble_eq_true rfl)
  rw [lg_entry_eq]
  generalize (lg_sl ([.ref q0]) ++ List.replicate (2 - (lg_sl ([.ref q0])).length) Slot.unset).toArray = ls at hl ⊢
  have hl : lv_has ls 2 [(0, .ref q0)] := hl
  refine lv_iconst (v := nI 0) hx hb d_Model_isZero_0 rfl ?_
  refine lv_istore_n (lv' := [(1, .int (nI 0)), (0, .ref q0)]) hx hb d_Model_isZero_1 rfl hl (by decide) rfl (fun ls hl => ?_)
  have loop : ∀ (n0 : Nat) (k : Nat), (k ≤ 56) → (∀ i, i < k → x i = 0) → (57 ≤ k + n0) → ∀ (ls : Array Slot), lv_has ls 2 [(1, .int (nI k)), (0, .ref q0)] → W p l e (headSpec w_Model_isZero ({ frames := 0, cells := 0, slots := 0, locals := 0 })).room s m ([.ref q0] : List Value).toArray below meth c s.heap [] 0 0 (MQ below (vp_Si (fun r => r = if dg_v x 56 = 0 then 1 else 0)) ([.ref q0] : List Value).toArray s 0 0 (fun _ => False)) (F0 m 2 ls []) := by
    intro n0
    induction n0 with
    | zero => intro k hk hz hn_; exact absurd hn_ (by omega)
    | succ n0 ih =>
      intro k hk hz hn_ ls hl
      refine lv_iload_n hx hb d_Model_isZero_2 rfl (lv_at hl 0 rfl) ?_
      refine lv_bipush (v := nI 56) hx hb d_Model_isZero_3 rfl ?_
      refine xn_icmp_ge (tgt := 22) hx hb (by omega) (by omega) d_Model_isZero_5 (by decide) (fun hge => ?_) (fun hge => ?_)
      · refine lv_iconst (v := nI 1) hx hb d_Model_isZero_22 rfl ?_
        exact W.zret (v := nI 1) hx hb hr (by rfl) (fun T_ ht_ hW_ => ⟨_, rfl, by rw [if_pos ((dg_eq0 56).mpr (fun i hi => hz i (by omega)))]; rfl, ht_⟩) (fun q hq => by cases hq) d_Model_isZero_23
      refine lv_aload_n hx hb d_Model_isZero_8 rfl (lv_at hl 1 rfl) ?_
      refine lv_iload_n hx hb d_Model_isZero_9 rfl (lv_at hl 0 rfl) ?_
      refine xn_iald hx hb hK hP 0 0 rfl rfl (i := k) (by omega) (by omega) d_Model_isZero_10 ?_
      have b0 := hx0 k
      refine xn_if_eq (tgt := 16) hx hb (by omega) d_Model_isZero_11 (by decide) (fun hk0 => ?_) (fun hk0 => ?_)
      · refine lv_iinc (v := nI (k + 1)) (lv' := [(1, .int (nI (k + 1))), (0, .ref q0)]) hx hb d_Model_isZero_16 hl (k := 0) rfl (nI_1 _) (by decide) rfl (fun ls hl => ?_)
        refine lv_goto (tgt := 2) hx hb d_Model_isZero_19 (by decide) ?_
        exact ih (k + 1) (by omega) (fun i hi => by
                    by_cases q : i = k
                    · rw [q]; exact hk0
                    · exact hz i (by omega)) (by omega) ls (lv_sub hl [0, 1] rfl)
      refine lv_iconst (v := nI 0) hx hb d_Model_isZero_14 rfl ?_
      exact W.zret (v := nI 0) hx hb hr (by rfl) (fun T_ ht_ hW_ => ⟨_, rfl, by rw [if_neg (fun z => hk0 ((dg_eq0 56).mp z k (by omega)))]; rfl, ht_⟩) (fun q hq => by cases hq) d_Model_isZero_15
  exact loop 57 0 (Nat.zero_le _) (fun i hi => absurd hi (Nat.not_lt_zero _)) (by omega) ls (lv_sub hl [0, 1] rfl)
set_option maxHeartbeats 8000000 in
set_option maxRecDepth 100000 in
/-- copy -/
theorem c_Model_copy (l : Launch) (dC : Nat → ClassId) (dI : Nat → Nat → Nat) (sz : Nat) (cA : ClassId) (q0 q1 : Nat) (x y : Nat → Nat) (hx0 : ∀ i, x i < 65536) (hy0 : ∀ i, y i < 65536) : Met l y_Model_copy w_Model_copy ({ frames := 0, cells := 0, slots := 0, locals := 0 }) (xc_W [.ref q0, .ref q1] dC dI ([(q0, .inl (cA, 56, .inl (xn_f x))), (q1, .inl (cA, 56, .inl (xn_f y)))]) [(cA, .int)] sz) (va_Qv (S := Nat → Nat) (fun u => (∀ i, u i < 65536) ∧ dg_v u 56 = dg_v x 56) (fun u t => va_P (dC, dI) classes ((fun u => [(q0, .inl (cA, 56, .inl (xn_f x))), (q1, .inl (cA, 56, .inl (xn_f u)))]) u) t.heap) (va_A ([(q0, .inl (cA, 56, .inl (xn_f x))), (q1, .inl (cA, 56, .inl (xn_f y)))]) sz)) 0 0 (va_A ([(q0, .inl (cA, 56, .inl (xn_f x))), (q1, .inl (cA, 56, .inl (xn_f y)))]) sz) := by
  refine Met.ofW (cc := b_Model_copy) (maxL := 3) (ret := none) (by decide) rfl ?_
  intro p e s m args below meth c s₁ B hml hv
  obtain ⟨rfl, hsz, hP, hK, hD0⟩ := hv
  have hx := B.exec
  have hb := B.bytes
  have hr := B.returns
  have hts : ∀ w ∈ gw_tbl, w.before ([.ref q0, .ref q1] : List Value).toArray s = true := fun w h => atoms_spec (ws := w_Model_copy) B.pre w (List.mem_cons_of_mem _ h)
  have hown : s.vm.findClass R_Model = some m.cls := findClass_of_methodNamed B.named
  have hlocks := B.notSynchronized
  subst hsz
  have hD := hD0.self (sz := s.heap.size)
  generalize hAe : va_A ([(q0, .inl (cA, 56, .inl (xn_f x))), (q1, .inl (cA, 56, .inl (xn_f y)))]) s.heap.size = A at hD ⊢
  have hA : ∀ q : Nat, s.heap.size ≤ q → A q := fun q h => by rw [← hAe]; exact Or.inr h
  have hS : va_S A s.heap s.heap [] := va_S.rf
  have hl := lv_entry ([.ref q0, .ref q1]) (n := 3) (Nat.le_of_ble_eq_true rfl)
  rw [lg_entry_eq]
  generalize (lg_sl ([.ref q0, .ref q1]) ++ List.replicate (3 - (lg_sl ([.ref q0, .ref q1])).length) Slot.unset).toArray = ls at hl ⊢
  have hl : lv_has ls 3 [(0, .ref q0), (1, .ref q1)] := hl
  refine lv_iconst (v := nI 0) hx hb d_Model_copy_0 rfl ?_
  refine lv_istore_n (lv' := [(2, .int (nI 0)), (0, .ref q0), (1, .ref q1)]) hx hb d_Model_copy_1 rfl hl (by decide) rfl (fun ls hl => ?_)
  have loop : ∀ (n0 : Nat) (k : Nat) (F : Nat → Nat), (k ≤ 56) → (∀ i, F i < 65536) → (∀ i, i < k → F i = x i) → (57 ≤ k + n0) → ∀ (H : Heap) (locs : List Loc), va_P (dC, dI) classes ([(q0, .inl (cA, 56, .inl (xn_f x))), (q1, .inl (cA, 56, .inl (xn_f F)))]) H → va_D A ([(q0, .inl (cA, 56, .inl (xn_f x))), (q1, .inl (cA, 56, .inl (xn_f F)))]) → va_S A s.heap H locs → ∀ (ls : Array Slot), lv_has ls 3 [(2, .int (nI k)), (0, .ref q0), (1, .ref q1)] → W p l e (headSpec w_Model_copy ({ frames := 0, cells := 0, slots := 0, locals := 0 })).room s m ([.ref q0, .ref q1] : List Value).toArray below meth c H locs 0 0 (MQ below (va_Qv (S := Nat → Nat) (fun u => (∀ i, u i < 65536) ∧ dg_v u 56 = dg_v x 56) (fun u t => va_P (dC, dI) classes ((fun u => [(q0, .inl (cA, 56, .inl (xn_f x))), (q1, .inl (cA, 56, .inl (xn_f u)))]) u) t.heap) A) ([.ref q0, .ref q1] : List Value).toArray s 0 0 A) (F0 m 2 ls []) := by
    intro n0
    induction n0 with
    | zero => intro k F hk hF hz hn_; exact absurd hn_ (by omega)
    | succ n0 ih =>
      intro k F hk hF hz hn_ H locs hP hD hS ls hl
      refine lv_iload_n hx hb d_Model_copy_2 rfl (lv_at hl 0 rfl) ?_
      refine lv_bipush (v := nI 56) hx hb d_Model_copy_3 rfl ?_
      refine xn_icmp_ge (tgt := 20) hx hb (by omega) (by omega) d_Model_copy_5 (by decide) (fun hge => ?_) (fun hge => ?_)
      · exact W.vret hx hb hr (fun T_ ht_ hW_ => ⟨⟨F, rfl, ⟨hF, dg_congr 56 (fun i hi => hz i (by omega))⟩, by show va_P (dC, dI) classes _ T_.heap; rw [ht_]; exact hP⟩, hS.F ht_⟩) hS.2.2 d_Model_copy_20
      refine lv_aload_n hx hb d_Model_copy_8 rfl (lv_at hl 2 rfl) ?_
      refine lv_iload_n hx hb d_Model_copy_9 rfl (lv_at hl 0 rfl) ?_
      refine lv_aload_n hx hb d_Model_copy_10 rfl (lv_at hl 1 rfl) ?_
      refine lv_iload_n hx hb d_Model_copy_11 rfl (lv_at hl 0 rfl) ?_
      refine xn_iald hx hb hK hP 0 0 rfl rfl (i := k) (by omega) (by omega) d_Model_copy_12 ?_
      refine xn_iast hx hb hK hP hD hS 1 0 rfl rfl (i := k) (x := x k) (by omega) (by omega) d_Model_copy_13 (fun H locs hP hD hS => ?_)
      have hP : va_P (dC, dI) classes ([(q0, .inl (cA, 56, .inl (xn_f x))), (q1, .inl (cA, 56, .inl (xn_f (va_up F k (x k)))))]) H := hP
      have hD : va_D A ([(q0, .inl (cA, 56, .inl (xn_f x))), (q1, .inl (cA, 56, .inl (xn_f (va_up F k (x k)))))]) := hD
      refine lv_iinc (v := nI (k + 1)) (lv' := [(2, .int (nI (k + 1))), (0, .ref q0), (1, .ref q1)]) hx hb d_Model_copy_14 hl (k := 0) rfl (nI_1 _) (by decide) rfl (fun ls hl => ?_)
      refine lv_goto (tgt := 2) hx hb d_Model_copy_17 (by decide) ?_
      exact ih (k + 1) (va_up F k (x k)) (by omega) (va_up_lt hF (hx0 k)) (fun i hi => by
                by_cases q : i = k
                · rw [q, va_up_self]
                · rw [va_up_ne _ _ q]; exact hz i (by omega)) (by omega) H locs hP hD hS ls (lv_sub hl [0, 1, 2] rfl)
  exact loop 57 0 y (Nat.zero_le _) hy0 (fun i hi => absurd hi (Nat.not_lt_zero _)) (by omega) s.heap [] hP hD hS ls (lv_sub hl [0, 1, 2] rfl)
set_option maxHeartbeats 8000000 in
set_option maxRecDepth 100000 in
/-- compare of two numbers -/
theorem c_Model_cmp (l : Launch) (dC : Nat → ClassId) (dI : Nat → Nat → Nat) (cA : ClassId) (q0 q1 : Nat) (x y : Nat → Nat) (hx0 : ∀ i, x i < 65536) (hy0 : ∀ i, y i < 65536) : Met l y_Model_cmp w_Model_cmp ({ frames := 0, cells := 0, slots := 0, locals := 0 }) (xc_R [.ref q0, .ref q1] dC dI ([(q0, .inl (cA, 56, .inl (xn_f x))), (q1, .inl (cA, 56, .inl (xn_f y)))]) [(cA, .int)]) (vp_Si (fun r => r = if dg_v x 56 < dg_v y 56 then -1 else if dg_v y 56 < dg_v x 56 then 1 else 0)) 0 0 (fun _ => False) := by
  refine Met.ofW (cc := b_Model_cmp) (maxL := 3) (ret := (some .int)) (by decide) rfl ?_
  intro p e s m args below meth c s₁ B hml hv
  obtain ⟨rfl, hP, hK⟩ := hv
  have hx := B.exec
  have hb := B.bytes
  have hr := B.returns
  have hts : ∀ w ∈ gw_tbl, w.before ([.ref q0, .ref q1] : List Value).toArray s = true := fun w h => atoms_spec (ws := w_Model_cmp) B.pre w (List.mem_cons_of_mem _ h)
  have hown : s.vm.findClass R_Model = some m.cls := findClass_of_methodNamed B.named
  have hlocks := B.notSynchronized
  have hl := lv_entry ([.ref q0, .ref q1]) (n := 3) (Nat.le_of_ble_eq_true rfl)
  rw [lg_entry_eq]
  generalize (lg_sl ([.ref q0, .ref q1]) ++ List.replicate (3 - (lg_sl ([.ref q0, .ref q1])).length) Slot.unset).toArray = ls at hl ⊢
  have hl : lv_has ls 3 [(0, .ref q0), (1, .ref q1)] := hl
  refine lv_bipush (v := nI 55) hx hb d_Model_cmp_0 rfl ?_
  rw [show nI 55 = nI 56 - 1 from rfl]
  refine lv_istore_n (lv' := [(2, .int (nI 56 - 1)), (0, .ref q0), (1, .ref q1)]) hx hb d_Model_cmp_2 rfl hl (by decide) rfl (fun ls hl => ?_)
  have loop : ∀ (n : Nat) (k : Nat), (k ≤ 56) → (∀ i, k ≤ i → i < 56 → x i = y i) → (k + 1 ≤ n) → ∀ (ls : Array Slot), lv_has ls 3 [(2, .int (nI k - 1)), (0, .ref q0), (1, .ref q1)] → W p l e (headSpec w_Model_cmp ({ frames := 0, cells := 0, slots := 0, locals := 0 })).room s m ([.ref q0, .ref q1] : List Value).toArray below meth c s.heap [] 0 0 (MQ below (vp_Si (fun r => r = if dg_v x 56 < dg_v y 56 then -1 else if dg_v y 56 < dg_v x 56 then 1 else 0)) ([.ref q0, .ref q1] : List Value).toArray s 0 0 (fun _ => False)) (F0 m 3 ls []) := by
    intro n
    induction n with
    | zero => intro k hk he hn_; exact absurd hn_ (by omega)
    | succ n ih =>
      intro k hk he hn_ ls hl
      refine lv_iload_n hx hb d_Model_cmp_3 rfl (lv_at hl 0 rfl) ?_
      refine lv_if_lt (tgt := 37) hx hb d_Model_cmp_4 (by decide) (fun hneg => ?_) (fun hneg => ?_)
      · have hk0 : k = 0 := by
          rcases Nat.eq_zero_or_pos k with q | q
          · exact q
          · rw [xn_pre q] at hneg; exact absurd hneg (nI_pos (by omega))
        subst hk0
        refine lv_iconst (v := nI 0) hx hb d_Model_cmp_37 rfl ?_
        exact W.iret (v := nI 0) hx hb hr (fun T_ ht_ hW_ => ⟨_, rfl, by rw [dg_congr 56 (fun i hi => he i (by omega) hi), if_neg (by omega), if_neg (by omega)]; rfl, ht_⟩) (fun q hq => by cases hq) d_Model_cmp_38
      have hk0 : 0 < k := by
        rcases Nat.eq_zero_or_pos k with q | q
        · subst q; exact absurd (by decide) hneg
        · exact q
      rw [xn_pre hk0] at hl
      have b1 := hx0 (k - 1)
      have b2 := hy0 (k - 1)
      refine lv_aload_n hx hb d_Model_cmp_7 rfl (lv_at hl 1 rfl) ?_
      refine lv_iload_n hx hb d_Model_cmp_8 rfl (lv_at hl 0 rfl) ?_
      refine xn_iald hx hb hK hP 0 0 rfl rfl (i := k - 1) (by omega) (by omega) d_Model_cmp_9 ?_
      refine lv_aload_n hx hb d_Model_cmp_10 rfl (lv_at hl 2 rfl) ?_
      refine lv_iload_n hx hb d_Model_cmp_11 rfl (lv_at hl 0 rfl) ?_
      refine xn_iald hx hb hK hP 1 0 rfl rfl (i := k - 1) (by omega) (by omega) d_Model_cmp_12 ?_
      refine xn_icmp_eq (tgt := 31) hx hb (by omega) (by omega) d_Model_cmp_13 (by decide) (fun heq2 => ?_) (fun heq2 => ?_)
      rotate_left
      · refine lv_aload_n hx hb d_Model_cmp_16 rfl (lv_at hl 1 rfl) ?_
        refine lv_iload_n hx hb d_Model_cmp_17 rfl (lv_at hl 0 rfl) ?_
        refine xn_iald hx hb hK hP 0 0 rfl rfl (i := k - 1) (by omega) (by omega) d_Model_cmp_18 ?_
        refine lv_aload_n hx hb d_Model_cmp_19 rfl (lv_at hl 2 rfl) ?_
        refine lv_iload_n hx hb d_Model_cmp_20 rfl (lv_at hl 0 rfl) ?_
        refine xn_iald hx hb hK hP 1 0 rfl rfl (i := k - 1) (by omega) (by omega) d_Model_cmp_21 ?_
        refine xn_icmp_ge (tgt := 29) hx hb (by omega) (by omega) d_Model_cmp_22 (by decide) (fun hge2 => ?_) (fun hge2 => ?_)
        · refine lv_iconst (v := nI 1) hx hb d_Model_cmp_29 rfl ?_
          exact W.iret (v := nI 1) hx hb hr (fun T_ ht_ hW_ => ⟨_, rfl, by
                        have q1 := dg_cmp (f := y) (h := x) (k := k - 1) (n := 56) (by omega) hy0 (fun i h1 h2 => (he i (by omega) h2).symm) (by omega)
                        rw [if_neg (by omega), if_pos (by omega)]; rfl, ht_⟩) (fun q hq => by cases hq) d_Model_cmp_30
        refine lv_iconst (v := -1) hx hb d_Model_cmp_25 (by decide) ?_
        refine lv_goto (tgt := 30) hx hb d_Model_cmp_26 (by decide) ?_
        exact W.iret (v := (-1)) hx hb hr (fun T_ ht_ hW_ => ⟨_, rfl, by
                    have q1 := dg_cmp (f := x) (h := y) (k := k - 1) (n := 56) (by omega) hx0 (fun i h1 h2 => he i (by omega) h2) (by omega)
                    rw [if_pos (by omega)], ht_⟩) (fun q hq => by cases hq) d_Model_cmp_30
      refine lv_iinc (v := nI (k - 1) - 1) (lv' := [(2, .int (nI (k - 1) - 1)), (0, .ref q0), (1, .ref q1)]) hx hb d_Model_cmp_31 hl (k := 0) rfl (xn_m1 _) (by decide) rfl (fun ls hl => ?_)
      refine lv_goto (tgt := 3) hx hb d_Model_cmp_34 (by decide) ?_
      exact ih (k - 1) (by omega) (fun i h1 h2 => by
                rcases Nat.lt_or_ge i k with q | q
                · rw [show i = k - 1 by omega]; exact heq2
                · exact he i q h2) (by omega) ls (lv_sub hl [0, 1, 2] rfl)
  exact loop 57 56 (Nat.le_refl _) (fun i h1 h2 => by omega) (Nat.le_refl _) ls (lv_sub hl [0, 1, 2] rfl)
