set_option maxHeartbeats 4000000 in
set_option maxRecDepth 100000 in
/-- limbAt: the limb, 0 behind the length -/
theorem c_Whole_limbAt (l : Launch) (dC : Nat → ClassId) (dI : Nat → Nat → Nat) (cA : ClassId) (h0 q0 : Nat) (cap len : Nat) (f : Nat → Nat) (sg : Int32) (i : Nat) (hcap : cap ≤ 64) (hlen : len ≤ cap) (hi : i < 2 ^ 31) : Met l y_Whole_limbAt w_Whole_limbAt ({ frames := 0, cells := 0, slots := 0, locals := 0 }) (xc_R [.ref h0, .int (nI i)] dC dI ([(h0, .inr (1, [.ref q0, .int (nI len), .int sg])), (q0, .inl (cA, cap, .inl (xn_f f)))]) [(cA, .int)]) (vp_Si (fun r => r = nI (if i < len then f i else 0))) 0 0 (fun _ => False) := by
  refine Met.ofW (cc := b_Whole_limbAt) (maxL := 2) (ret := (some .int)) (by decide) rfl ?_
  intro p e s m args below meth c s₁ B hml hv
  obtain ⟨rfl, hP, hK⟩ := hv
  have hx := B.exec
  have hb := B.bytes
  have hr := B.returns
  have hts : ∀ w ∈ gw_tbl, w.before ([.ref h0, .int (nI i)] : List Value).toArray s = true := fun w h => atoms_spec (ws := w_Whole_limbAt) B.pre w (List.mem_cons_of_mem _ h)
  have hown : s.vm.findClass R_Whole = some m.cls := findClass_of_methodNamed B.named
  have hlocks := B.notSynchronized
  have hl := lv_entry ([.ref h0, .int (nI i)]) (n := 2) (Nat.le_of_ble_eq_true rfl)
  rw [lg_entry_eq]
  generalize (lg_sl ([.ref h0, .int (nI i)]) ++ List.replicate (2 - (lg_sl ([.ref h0, .int (nI i)])).length) Slot.unset).toArray = ls at hl ⊢
  have hl : lv_has ls 2 [(0, .ref h0), (1, .int (nI i))] := hl
  refine lv_iload_n hx hb d_Whole_limbAt_0 rfl (lv_at hl 1 rfl) ?_
  refine lv_aload_n hx hb d_Whole_limbAt_1 rfl (lv_at hl 0 rfl) ?_
  refine va_get (D := (dC, dI)) (ci := 1) (v := .int (nI len)) (C := R_Whole) (T := F_Whole) (N := 3) hx hb hts i_Whole hown hK hP 0 rfl rfl 1 (by decide) (hts _ k_fl_Whole_9) (fun _ h9 => h9) rfl d_Whole_limbAt_2 ?_
  refine xn_icmp_ge (tgt := 17) hx hb (by omega) (by omega) d_Whole_limbAt_5 (by decide) (fun hge => ?_) (fun hge => ?_)
  · refine lv_iconst (v := nI 0) hx hb d_Whole_limbAt_17 rfl ?_
    exact W.iret (v := nI 0) hx hb hr (fun T_ ht_ hW_ => ⟨_, rfl, by rw [if_neg (by omega)], ht_⟩) (fun q hq => by cases hq) d_Whole_limbAt_18
  refine lv_aload_n hx hb d_Whole_limbAt_8 rfl (lv_at hl 0 rfl) ?_
  refine va_get (D := (dC, dI)) (ci := 1) (v := .ref q0) (C := R_Whole) (T := F_Whole) (N := 3) hx hb hts i_Whole hown hK hP 0 rfl rfl 0 (by decide) (hts _ k_fl_Whole_18) (fun _ h9 => h9) rfl d_Whole_limbAt_9 ?_
  refine lv_iload_n hx hb d_Whole_limbAt_12 rfl (lv_at hl 1 rfl) ?_
  refine xn_iald hx hb hK hP 1 0 rfl rfl (i := i) (by omega) (by omega) d_Whole_limbAt_13 ?_
  refine lv_goto (tgt := 18) hx hb d_Whole_limbAt_14 (by decide) ?_
  exact W.iret (v := nI (f i)) hx hb hr (fun T_ ht_ hW_ => ⟨_, rfl, by rw [if_pos (by omega)], ht_⟩) (fun q hq => by cases hq) d_Whole_limbAt_18
set_option maxHeartbeats 4000000 in
set_option maxRecDepth 100000 in
/-- trim: the length, count or less, so that the last limb is not 0 -/
theorem c_Whole_trim (l : Launch) (dC : Nat → ClassId) (dI : Nat → Nat → Nat) (sz : Nat) (cA : ClassId) (h0 q0 : Nat) (cap len : Nat) (f : Nat → Nat) (sg : Int32) (count : Nat) (hcap : cap ≤ 64) (hf : ∀ i, f i < 2147483648) (hcount : count ≤ cap) : Met l y_Whole_trim w_Whole_trim ({ frames := 0, cells := 0, slots := 0, locals := 0 }) (xc_W [.ref h0, .int (nI count)] dC dI ([(h0, .inr (1, [.ref q0, .int (nI len), .int sg])), (q0, .inl (cA, cap, .inl (xn_f f)))]) [(cA, .int)] sz) (va_Qv (S := Nat × Int32) (fun u => u.1 ≤ count ∧ lb_v f u.1 = lb_v f count ∧ (∀ k, u.1 = k + 1 → f k ≠ 0) ∧ u.2 = (if u.1 = 0 then 0 else sg)) (fun u t => va_P (dC, dI) classes ((fun u => [(h0, .inr (1, [.ref q0, .int (nI u.1), .int u.2])), (q0, .inl (cA, cap, .inl (xn_f f)))]) u) t.heap) (va_A ([(h0, .inr (1, [.ref q0, .int (nI len), .int sg])), (q0, .inl (cA, cap, .inl (xn_f f)))]) sz)) 0 0 (va_A ([(h0, .inr (1, [.ref q0, .int (nI len), .int sg])), (q0, .inl (cA, cap, .inl (xn_f f)))]) sz) := by
  refine Met.ofW (cc := b_Whole_trim) (maxL := 3) (ret := none) (by decide) rfl ?_
  intro p e s m args below meth c s₁ B hml hv
  obtain ⟨rfl, hsz, hP, hK, hD0⟩ := hv
  have hx := B.exec
  have hb := B.bytes
  have hr := B.returns
  have hts : ∀ w ∈ gw_tbl, w.before ([.ref h0, .int (nI count)] : List Value).toArray s = true := fun w h => atoms_spec (ws := w_Whole_trim) B.pre w (List.mem_cons_of_mem _ h)
  have hown : s.vm.findClass R_Whole = some m.cls := findClass_of_methodNamed B.named
  have hlocks := B.notSynchronized
  subst hsz
  have hD := hD0.self (sz := s.heap.size)
  generalize hAe : va_A ([(h0, .inr (1, [.ref q0, .int (nI len), .int sg])), (q0, .inl (cA, cap, .inl (xn_f f)))]) s.heap.size = A at hD ⊢
  have hA : ∀ q : Nat, s.heap.size ≤ q → A q := fun q h => by rw [← hAe]; exact Or.inr h
  have hS : va_S A s.heap s.heap [] := va_S.rf
  have hl := lv_entry ([.ref h0, .int (nI count)]) (n := 3) (Nat.le_of_ble_eq_true rfl)
  rw [lg_entry_eq]
  generalize (lg_sl ([.ref h0, .int (nI count)]) ++ List.replicate (3 - (lg_sl ([.ref h0, .int (nI count)])).length) Slot.unset).toArray = ls at hl ⊢
  have hl : lv_has ls 3 [(0, .ref h0), (1, .int (nI count))] := hl
  refine lv_iload_n hx hb d_Whole_trim_0 rfl (lv_at hl 1 rfl) ?_
  refine lv_istore_n (lv' := [(2, .int (nI count)), (0, .ref h0), (1, .int (nI count))]) hx hb d_Whole_trim_1 rfl hl (by decide) rfl (fun ls hl => ?_)
  have tail : ∀ (used : Nat), (used ≤ count) → (lb_v f used = lb_v f count) → (∀ k, used = k + 1 → f k ≠ 0) → ∀ (H : Heap) (locs : List Loc), va_P (dC, dI) classes ([(h0, .inr (1, [.ref q0, .int (nI len), .int sg])), (q0, .inl (cA, cap, .inl (xn_f f)))]) H → va_D A ([(h0, .inr (1, [.ref q0, .int (nI len), .int sg])), (q0, .inl (cA, cap, .inl (xn_f f)))]) → va_S A s.heap H locs → ∀ (ls : Array Slot), lv_has ls 3 [(2, .int (nI used)), (0, .ref h0), (1, .int (nI count))] → W p l e (headSpec w_Whole_trim ({ frames := 0, cells := 0, slots := 0, locals := 0 })).room s m ([.ref h0, .int (nI count)] : List Value).toArray below meth c H locs 0 0 (MQ below (va_Qv (S := Nat × Int32) (fun u => u.1 ≤ count ∧ lb_v f u.1 = lb_v f count ∧ (∀ k, u.1 = k + 1 → f k ≠ 0) ∧ u.2 = (if u.1 = 0 then 0 else sg)) (fun u t => va_P (dC, dI) classes ((fun u => [(h0, .inr (1, [.ref q0, .int (nI u.1), .int u.2])), (q0, .inl (cA, cap, .inl (xn_f f)))]) u) t.heap) A) ([.ref h0, .int (nI count)] : List Value).toArray s 0 0 A) (F0 m 23 ls []) := by
    intro used hu hv hz H locs hP hD hS ls hl
    refine lv_aload_n hx hb d_Whole_trim_23 rfl (lv_at hl 1 rfl) ?_
    refine lv_iload_n hx hb d_Whole_trim_24 rfl (lv_at hl 0 rfl) ?_
    refine va_put (D := (dC, dI)) (ci := 1) (v := .int (nI used)) (ty := .int) (C := R_Whole) (T := F_Whole) (N := 3) hx hb hts i_Whole t_Whole t_Whole_ok n_Whole hown hK hP hD hS 0 rfl rfl 1 (by decide) (hts _ k_fl_Whole_9) (fun _ h9 => h9) rfl (by decide +kernel) rfl rfl (Nat.le_of_ble_eq_true rfl) d_Whole_trim_25 (fun H locs hP hD hS => ?_)
    have hP : va_P (dC, dI) classes ([(h0, .inr (1, [.ref q0, .int (nI used), .int sg])), (q0, .inl (cA, cap, .inl (xn_f f)))]) H := hP
    have hD : va_D A ([(h0, .inr (1, [.ref q0, .int (nI used), .int sg])), (q0, .inl (cA, cap, .inl (xn_f f)))]) := hD
    refine lv_iload_n hx hb d_Whole_trim_28 rfl (lv_at hl 0 rfl) ?_
    refine xn_if_ne (tgt := 37) hx hb (by omega) d_Whole_trim_29 (by decide) (fun hne => ?_) (fun hne => ?_)
    · exact W.vret hx hb hr (fun T_ ht_ hW_ => ⟨⟨(used, sg), rfl, ⟨hu, hv, hz, by rw [if_neg (by omega)]⟩, by show va_P (dC, dI) classes _ T_.heap; rw [ht_]; exact hP⟩, hS.F ht_⟩) hS.2.2 d_Whole_trim_37
    refine lv_aload_n hx hb d_Whole_trim_32 rfl (lv_at hl 1 rfl) ?_
    refine lv_iconst (v := nI 0) hx hb d_Whole_trim_33 rfl ?_
    refine va_put (D := (dC, dI)) (ci := 1) (v := .int (nI 0)) (ty := .int) (C := R_Whole) (T := F_Whole) (N := 3) hx hb hts i_Whole t_Whole t_Whole_ok n_Whole hown hK hP hD hS 0 rfl rfl 2 (by decide) (hts _ k_fl_Whole_15) (fun _ h9 => h9) rfl (by decide +kernel) rfl rfl (Nat.le_of_ble_eq_true rfl) d_Whole_trim_34 (fun H locs hP hD hS => ?_)
    have hP : va_P (dC, dI) classes ([(h0, .inr (1, [.ref q0, .int (nI used), .int (nI 0)])), (q0, .inl (cA, cap, .inl (xn_f f)))]) H := hP
    have hD : va_D A ([(h0, .inr (1, [.ref q0, .int (nI used), .int (nI 0)])), (q0, .inl (cA, cap, .inl (xn_f f)))]) := hD
    exact W.vret hx hb hr (fun T_ ht_ hW_ => ⟨⟨(used, 0), rfl, ⟨hu, hv, hz, by rw [if_pos (by omega)]⟩, by show va_P (dC, dI) classes _ T_.heap; rw [ht_]; exact hP⟩, hS.F ht_⟩) hS.2.2 d_Whole_trim_37
  have loop : ∀ (n : Nat) (used : Nat), (used ≤ count) → (lb_v f used = lb_v f count) → (used + 1 ≤ n) → ∀ (H : Heap) (locs : List Loc), va_P (dC, dI) classes ([(h0, .inr (1, [.ref q0, .int (nI len), .int sg])), (q0, .inl (cA, cap, .inl (xn_f f)))]) H → va_D A ([(h0, .inr (1, [.ref q0, .int (nI len), .int sg])), (q0, .inl (cA, cap, .inl (xn_f f)))]) → va_S A s.heap H locs → ∀ (ls : Array Slot), lv_has ls 3 [(2, .int (nI used)), (0, .ref h0), (1, .int (nI count))] → W p l e (headSpec w_Whole_trim ({ frames := 0, cells := 0, slots := 0, locals := 0 })).room s m ([.ref h0, .int (nI count)] : List Value).toArray below meth c H locs 0 0 (MQ below (va_Qv (S := Nat × Int32) (fun u => u.1 ≤ count ∧ lb_v f u.1 = lb_v f count ∧ (∀ k, u.1 = k + 1 → f k ≠ 0) ∧ u.2 = (if u.1 = 0 then 0 else sg)) (fun u t => va_P (dC, dI) classes ((fun u => [(h0, .inr (1, [.ref q0, .int (nI u.1), .int u.2])), (q0, .inl (cA, cap, .inl (xn_f f)))]) u) t.heap) A) ([.ref h0, .int (nI count)] : List Value).toArray s 0 0 A) (F0 m 2 ls []) := by
    intro n
    induction n with
    | zero => intro used hu hv hn; exact absurd hn (by omega)
    | succ n ih =>
      intro used hu hv hn H locs hP hD hS ls hl
      refine lv_iload_n hx hb d_Whole_trim_2 rfl (lv_at hl 0 rfl) ?_
      refine xn_if_le (tgt := 23) hx hb (by omega) d_Whole_trim_3 (by decide) (fun h0u => ?_) (fun h0u => ?_)
      · exact tail used hu hv (fun k hk => by omega) H locs hP hD hS ls (lv_sub hl [0, 1, 2] rfl)
      refine lv_aload_n hx hb d_Whole_trim_6 rfl (lv_at hl 1 rfl) ?_
      refine va_get (D := (dC, dI)) (ci := 1) (v := .ref q0) (C := R_Whole) (T := F_Whole) (N := 3) hx hb hts i_Whole hown hK hP 0 rfl rfl 0 (by decide) (hts _ k_fl_Whole_18) (fun _ h9 => h9) rfl d_Whole_trim_7 ?_
      refine lv_iload_n hx hb d_Whole_trim_10 rfl (lv_at hl 0 rfl) ?_
      refine lv_iconst (v := nI 1) hx hb d_Whole_trim_11 rfl ?_
      refine xn_isub hx hb (by omega) d_Whole_trim_12 ?_
      refine xn_iald hx hb hK hP 1 0 rfl rfl (i := used - 1) (by omega) (by omega) d_Whole_trim_13 ?_
      refine xn_if_ne (tgt := 23) hx hb (hf _) d_Whole_trim_14 (by decide) (fun hne => ?_) (fun hne => ?_)
      · exact tail used hu hv (fun k hk => by rw [show k = used - 1 by omega]; exact hne) H locs hP hD hS ls (lv_sub hl [0, 1, 2] rfl)
      refine lv_iinc (v := nI (used - 1)) (lv' := [(2, .int (nI (used - 1))), (0, .ref h0), (1, .int (nI count))]) hx hb d_Whole_trim_17 hl (k := 0) rfl (sb_m1 (by omega)) (by decide) rfl (fun ls hl => ?_)
      refine lv_goto (tgt := 2) hx hb d_Whole_trim_20 (by decide) ?_
      exact ih (used - 1) (by omega) (by rw [← hv, show used = used - 1 + 1 by omega, lb_v1, Nat.add_sub_cancel, hne]; omega) (by omega) H locs hP hD hS ls (lv_sub hl [0, 1, 2] rfl)
  exact loop (count + 1) count (Nat.le_refl _) rfl (Nat.le_refl _) s.heap [] hP hD hS ls (lv_sub hl [0, 1, 2] rfl)
set_option maxHeartbeats 4000000 in
set_option maxRecDepth 100000 in
/-- orderOfSizes -/
theorem c_Whole_orderOfSizes (l : Launch) (dC : Nat → ClassId) (dI : Nat → Nat → Nat) (cA : ClassId) (h0 q0 : Nat) (cap len : Nat) (f : Nat → Nat) (sg : Int32) (h0b q0b : Nat) (capb lenb : Nat) (fb : Nat → Nat) (sgb : Int32) (hcap : cap ≤ 64) (hcapb : capb ≤ 64) (ho : wh_ok cap f len sg) (hob : wh_ok capb fb lenb sgb) : Met l y_Whole_orderOfSizes w_Whole_orderOfSizes ({ frames := 0, cells := 0, slots := 0, locals := 0 }) (xc_R [.ref h0, .ref h0b] dC dI ([(h0, .inr (1, [.ref q0, .int (nI len), .int sg])), (q0, .inl (cA, cap, .inl (xn_f f))), (h0b, .inr (1, [.ref q0b, .int (nI lenb), .int sgb])), (q0b, .inl (cA, capb, .inl (xn_f fb)))]) [(cA, .int)]) (vp_Si (fun r => r = (if lb_v f len < lb_v fb lenb then -1 else if lb_v fb lenb < lb_v f len then 1 else 0))) 0 0 (fun _ => False) := by
  refine Met.ofW (cc := b_Whole_orderOfSizes) (maxL := 3) (ret := (some .int)) (by decide) rfl ?_
  intro p e s m args below meth c s₁ B hml hv
  obtain ⟨rfl, hP, hK⟩ := hv
  have hx := B.exec
  have hb := B.bytes
  have hr := B.returns
  have hts : ∀ w ∈ gw_tbl, w.before ([.ref h0, .ref h0b] : List Value).toArray s = true := fun w h => atoms_spec (ws := w_Whole_orderOfSizes) B.pre w (List.mem_cons_of_mem _ h)
  have hown : s.vm.findClass R_Whole = some m.cls := findClass_of_methodNamed B.named
  have hlocks := B.notSynchronized
  have hl := lv_entry ([.ref h0, .ref h0b]) (n := 3) (Nat.le_of_ble_eq_true rfl)
  rw [lg_entry_eq]
  generalize (lg_sl ([.ref h0, .ref h0b]) ++ List.replicate (3 - (lg_sl ([.ref h0, .ref h0b])).length) Slot.unset).toArray = ls at hl ⊢
  have hl : lv_has ls 3 [(0, .ref h0), (1, .ref h0b)] := hl
  have hlen := ho.1
  have hlenb := hob.1
  have hf := ho.2.1
  have hfb := hob.2.1
  have hv := wh_len ho
  have hvb := wh_len hob
  refine lv_aload_n hx hb d_Whole_orderOfSizes_0 rfl (lv_at hl 0 rfl) ?_
  refine va_get (D := (dC, dI)) (ci := 1) (v := .int (nI len)) (C := R_Whole) (T := F_Whole) (N := 3) hx hb hts i_Whole hown hK hP 0 rfl rfl 1 (by decide) (hts _ k_fl_Whole_9) (fun _ h9 => h9) rfl d_Whole_orderOfSizes_1 ?_
  refine lv_aload_n hx hb d_Whole_orderOfSizes_4 rfl (lv_at hl 1 rfl) ?_
  refine va_get (D := (dC, dI)) (ci := 1) (v := .int (nI lenb)) (C := R_Whole) (T := F_Whole) (N := 3) hx hb hts i_Whole hown hK hP 2 rfl rfl 1 (by decide) (hts _ k_fl_Whole_9) (fun _ h9 => h9) rfl d_Whole_orderOfSizes_5 ?_
  refine xn_icmp_eq (tgt := 28) hx hb (by omega) (by omega) d_Whole_orderOfSizes_8 (by decide) (fun heq => ?_) (fun heq => ?_)
  rotate_left
  · refine lv_aload_n hx hb d_Whole_orderOfSizes_11 rfl (lv_at hl 0 rfl) ?_
    refine va_get (D := (dC, dI)) (ci := 1) (v := .int (nI len)) (C := R_Whole) (T := F_Whole) (N := 3) hx hb hts i_Whole hown hK hP 0 rfl rfl 1 (by decide) (hts _ k_fl_Whole_9) (fun _ h9 => h9) rfl d_Whole_orderOfSizes_12 ?_
    refine lv_aload_n hx hb d_Whole_orderOfSizes_15 rfl (lv_at hl 1 rfl) ?_
    refine va_get (D := (dC, dI)) (ci := 1) (v := .int (nI lenb)) (C := R_Whole) (T := F_Whole) (N := 3) hx hb hts i_Whole hown hK hP 2 rfl rfl 1 (by decide) (hts _ k_fl_Whole_9) (fun _ h9 => h9) rfl d_Whole_orderOfSizes_16 ?_
    refine xn_icmp_ge (tgt := 26) hx hb (by omega) (by omega) d_Whole_orderOfSizes_19 (by decide) (fun hge => ?_) (fun hge => ?_)
    · refine lv_iconst (v := nI 1) hx hb d_Whole_orderOfSizes_26 rfl ?_
      exact W.iret (v := nI 1) hx hb hr (fun T_ ht_ hW_ => ⟨_, rfl, by
                obtain ⟨z, hz⟩ : ∃ z, len = z + 1 := ⟨len - 1, by omega⟩
                have q1 := hv.2 z hz
                have q2 := lb_ple (show lenb ≤ z by omega)
                have q3 := hvb.1
                rw [if_neg (by omega), if_pos (by omega)]; rfl, ht_⟩) (fun q hq => by cases hq) d_Whole_orderOfSizes_27
    refine lv_iconst (v := -1) hx hb d_Whole_orderOfSizes_22 (by decide) ?_
    refine lv_goto (tgt := 27) hx hb d_Whole_orderOfSizes_23 (by decide) ?_
    exact W.iret (v := (-1)) hx hb hr (fun T_ ht_ hW_ => ⟨_, rfl, by
            obtain ⟨z, hz⟩ : ∃ z, lenb = z + 1 := ⟨lenb - 1, by omega⟩
            have q1 := hvb.2 z hz
            have q2 := lb_ple (show len ≤ z by omega)
            have q3 := hv.1
            rw [if_pos (by omega)], ht_⟩) (fun q hq => by cases hq) d_Whole_orderOfSizes_27
  refine lv_aload_n hx hb d_Whole_orderOfSizes_28 rfl (lv_at hl 0 rfl) ?_
  refine va_get (D := (dC, dI)) (ci := 1) (v := .int (nI len)) (C := R_Whole) (T := F_Whole) (N := 3) hx hb hts i_Whole hown hK hP 0 rfl rfl 1 (by decide) (hts _ k_fl_Whole_9) (fun _ h9 => h9) rfl d_Whole_orderOfSizes_29 ?_
  refine lv_iconst (v := nI 1) hx hb d_Whole_orderOfSizes_32 rfl ?_
  refine xe_isub (v := nI len - 1) hx hb d_Whole_orderOfSizes_33 rfl ?_
  refine lv_istore_n (lv' := [(2, .int (nI len - 1)), (0, .ref h0), (1, .ref h0b)]) hx hb d_Whole_orderOfSizes_34 rfl hl (by decide) rfl (fun ls hl => ?_)
  have loop : ∀ (n : Nat) (k : Nat), (k ≤ len) → (∀ i, k ≤ i → i < len → f i = fb i) → (k + 1 ≤ n) → ∀ (ls : Array Slot), lv_has ls 3 [(2, .int (nI k - 1)), (0, .ref h0), (1, .ref h0b)] → W p l e (headSpec w_Whole_orderOfSizes ({ frames := 0, cells := 0, slots := 0, locals := 0 })).room s m ([.ref h0, .ref h0b] : List Value).toArray below meth c s.heap [] 0 0 (MQ below (vp_Si (fun r => r = (if lb_v f len < lb_v fb lenb then -1 else if lb_v fb lenb < lb_v f len then 1 else 0))) ([.ref h0, .ref h0b] : List Value).toArray s 0 0 (fun _ => False)) (F0 m 35 ls []) := by
    intro n
    induction n with
    | zero => intro k hk he hn; exact absurd hn (by omega)
    | succ n ih =>
      intro k hk he hn ls hl
      refine lv_iload_n hx hb d_Whole_orderOfSizes_35 rfl (lv_at hl 0 rfl) ?_
      refine lv_if_lt (tgt := 81) hx hb d_Whole_orderOfSizes_36 (by decide) (fun hneg => ?_) (fun hneg => ?_)
      · have hk0 : k = 0 := by
          rcases Nat.eq_zero_or_pos k with q | q
          · exact q
          · rw [xn_pre q] at hneg; exact absurd hneg (nI_pos (by omega))
        subst hk0
        refine lv_iconst (v := nI 0) hx hb d_Whole_orderOfSizes_81 rfl ?_
        exact W.iret (v := nI 0) hx hb hr (fun T_ ht_ hW_ => ⟨_, rfl, by rw [← heq, lb_congr len (fun i hi => he i (by omega) hi), if_neg (by omega), if_neg (by omega)]; rfl, ht_⟩) (fun q hq => by cases hq) d_Whole_orderOfSizes_82
      have hk0 : 0 < k := by
        rcases Nat.eq_zero_or_pos k with q | q
        · subst q; exact absurd (by decide) hneg
        · exact q
      rw [xn_pre hk0] at hl
      refine lv_aload_n hx hb d_Whole_orderOfSizes_39 rfl (lv_at hl 1 rfl) ?_
      refine va_get (D := (dC, dI)) (ci := 1) (v := .ref q0) (C := R_Whole) (T := F_Whole) (N := 3) hx hb hts i_Whole hown hK hP 0 rfl rfl 0 (by decide) (hts _ k_fl_Whole_18) (fun _ h9 => h9) rfl d_Whole_orderOfSizes_40 ?_
      refine lv_iload_n hx hb d_Whole_orderOfSizes_43 rfl (lv_at hl 0 rfl) ?_
      refine xn_iald hx hb hK hP 1 0 rfl rfl (i := k - 1) (by omega) (by omega) d_Whole_orderOfSizes_44 ?_
      refine lv_aload_n hx hb d_Whole_orderOfSizes_45 rfl (lv_at hl 2 rfl) ?_
      refine va_get (D := (dC, dI)) (ci := 1) (v := .ref q0b) (C := R_Whole) (T := F_Whole) (N := 3) hx hb hts i_Whole hown hK hP 2 rfl rfl 0 (by decide) (hts _ k_fl_Whole_18) (fun _ h9 => h9) rfl d_Whole_orderOfSizes_46 ?_
      refine lv_iload_n hx hb d_Whole_orderOfSizes_49 rfl (lv_at hl 0 rfl) ?_
      refine xn_iald hx hb hK hP 3 0 rfl rfl (i := k - 1) (by omega) (by omega) d_Whole_orderOfSizes_50 ?_
      refine xn_icmp_eq (tgt := 75) hx hb (hf _) (hfb _) d_Whole_orderOfSizes_51 (by decide) (fun heq2 => ?_) (fun heq2 => ?_)
      rotate_left
      · refine lv_aload_n hx hb d_Whole_orderOfSizes_54 rfl (lv_at hl 1 rfl) ?_
        refine va_get (D := (dC, dI)) (ci := 1) (v := .ref q0) (C := R_Whole) (T := F_Whole) (N := 3) hx hb hts i_Whole hown hK hP 0 rfl rfl 0 (by decide) (hts _ k_fl_Whole_18) (fun _ h9 => h9) rfl d_Whole_orderOfSizes_55 ?_
        refine lv_iload_n hx hb d_Whole_orderOfSizes_58 rfl (lv_at hl 0 rfl) ?_
        refine xn_iald hx hb hK hP 1 0 rfl rfl (i := k - 1) (by omega) (by omega) d_Whole_orderOfSizes_59 ?_
        refine lv_aload_n hx hb d_Whole_orderOfSizes_60 rfl (lv_at hl 2 rfl) ?_
        refine va_get (D := (dC, dI)) (ci := 1) (v := .ref q0b) (C := R_Whole) (T := F_Whole) (N := 3) hx hb hts i_Whole hown hK hP 2 rfl rfl 0 (by decide) (hts _ k_fl_Whole_18) (fun _ h9 => h9) rfl d_Whole_orderOfSizes_61 ?_
        refine lv_iload_n hx hb d_Whole_orderOfSizes_64 rfl (lv_at hl 0 rfl) ?_
        refine xn_iald hx hb hK hP 3 0 rfl rfl (i := k - 1) (by omega) (by omega) d_Whole_orderOfSizes_65 ?_
        refine xn_icmp_ge (tgt := 73) hx hb (hf _) (hfb _) d_Whole_orderOfSizes_66 (by decide) (fun hge2 => ?_) (fun hge2 => ?_)
        · refine lv_iconst (v := nI 1) hx hb d_Whole_orderOfSizes_73 rfl ?_
          exact W.iret (v := nI 1) hx hb hr (fun T_ ht_ hW_ => ⟨_, rfl, by
                        have q1 := lb_cmp (f := fb) (h := f) (k := k - 1) (n := len) (by omega) hfb (fun i h1 h2 => (he i (by omega) h2).symm) (by omega)
                        rw [← heq, if_neg (by omega), if_pos (by omega)]; rfl, ht_⟩) (fun q hq => by cases hq) d_Whole_orderOfSizes_74
        refine lv_iconst (v := -1) hx hb d_Whole_orderOfSizes_69 (by decide) ?_
        refine lv_goto (tgt := 74) hx hb d_Whole_orderOfSizes_70 (by decide) ?_
        exact W.iret (v := (-1)) hx hb hr (fun T_ ht_ hW_ => ⟨_, rfl, by
                    have q1 := lb_cmp (f := f) (h := fb) (k := k - 1) (n := len) (by omega) hf (fun i h1 h2 => he i (by omega) h2) (by omega)
                    rw [← heq, if_pos (by omega)], ht_⟩) (fun q hq => by cases hq) d_Whole_orderOfSizes_74
      refine lv_iinc (v := nI (k - 1) - 1) (lv' := [(2, .int (nI (k - 1) - 1)), (0, .ref h0), (1, .ref h0b)]) hx hb d_Whole_orderOfSizes_75 hl (k := 0) rfl (xn_m1 _) (by decide) rfl (fun ls hl => ?_)
      refine lv_goto (tgt := 35) hx hb d_Whole_orderOfSizes_78 (by decide) ?_
      exact ih (k - 1) (by omega) (fun i h1 h2 => by
                rcases Nat.lt_or_ge i k with q | q
                · rw [show i = k - 1 by omega]; exact heq2
                · exact he i q h2) (by omega) ls (lv_sub hl [0, 1, 2] rfl)
  exact loop (len + 1) len (Nat.le_refl _) (fun i h1 h2 => by omega) (Nat.le_refl _) ls (lv_sub hl [0, 1, 2] rfl)
