set_option maxHeartbeats 4000000 in
set_option maxRecDepth 100000 in
/-- shiftDown -/
theorem c_Whole_shiftDown (l : Launch) (dC : Nat → ClassId) (dI : Nat → Nat → Nat) (sz : Nat) (cA : ClassId) (h0 q0 : Nat) (cap len : Nat) (f : Nat → Nat) (sg : Int32) (bc : Nat) (hcap : cap ≤ 64) (ho : lb_n cap f len) (hbc : bc < 2 ^ 30) : Met l y_Whole_shiftDown w_Whole_shiftDown ({ frames := 1, cells := 0, slots := 0, locals := 22 }) (xc_W [.ref h0, .int (nI bc)] dC dI ([(h0, .inr (1, [.ref q0, .int (nI len), .int sg])), (q0, .inl (cA, cap, .inl (xn_f f)))]) [(cA, .int)] sz) (va_Qv (S := (Nat → Nat) × Nat × Int32) (fun u => lb_n cap u.1 u.2.1 ∧ lb_v u.1 u.2.1 = lb_v f len / 2 ^ bc ∧ u.2.2 = (if u.2.1 = 0 then 0 else sg)) (fun u t => va_P (dC, dI) classes ((fun u => [(h0, .inr (1, [.ref q0, .int (nI u.2.1), .int u.2.2])), (q0, .inl (cA, cap, .inl (xn_f u.1)))]) u) t.heap) (va_A ([(h0, .inr (1, [.ref q0, .int (nI len), .int sg])), (q0, .inl (cA, cap, .inl (xn_f f)))]) sz)) 0 0 (va_A ([(h0, .inr (1, [.ref q0, .int (nI len), .int sg])), (q0, .inl (cA, cap, .inl (xn_f f)))]) sz) := by
  refine Met.ofW (cc := b_Whole_shiftDown) (maxL := 7) (ret := none) (by decide) rfl ?_
  intro p e s m args below meth c s₁ B hml hv
  obtain ⟨rfl, hsz, hP, hK, hD0⟩ := hv
  have hx := B.exec
  have hb := B.bytes
  have hr := B.returns
  have hts : ∀ w ∈ gw_tbl, w.before ([.ref h0, .int (nI bc)] : List Value).toArray s = true := fun w h => atoms_spec (ws := w_Whole_shiftDown) B.pre w (List.mem_cons_of_mem _ h)
  have hown : s.vm.findClass R_Whole = some m.cls := findClass_of_methodNamed B.named
  have hlocks := B.notSynchronized
  subst hsz
  have hD := hD0.self (sz := s.heap.size)
  generalize hAe : va_A ([(h0, .inr (1, [.ref q0, .int (nI len), .int sg])), (q0, .inl (cA, cap, .inl (xn_f f)))]) s.heap.size = A at hD ⊢
  have hA : ∀ q : Nat, s.heap.size ≤ q → A q := fun q h => by rw [← hAe]; exact Or.inr h
  have hS : va_S A s.heap s.heap [] := va_S.rf
  have hl := lv_entry ([.ref h0, .int (nI bc)]) (n := 7) (Nat.le_of_ble_eq_true rfl)
  rw [lg_entry_eq]
  generalize (lg_sl ([.ref h0, .int (nI bc)]) ++ List.replicate (7 - (lg_sl ([.ref h0, .int (nI bc)])).length) Slot.unset).toArray = ls at hl ⊢
  have hl : lv_has ls 7 [(0, .ref h0), (1, .int (nI bc))] := hl
  have hf := ho.2.1
  have hlen := ho.1
  have hl31 : bc % 31 < 31 := Nat.mod_lt _ (by decide)
  refine lv_iload_n hx hb d_Whole_shiftDown_0 rfl (lv_at hl 1 rfl) ?_
  refine lv_bipush (v := nI 31) hx hb d_Whole_shiftDown_1 rfl ?_
  refine xe_idiv (v := nI (bc / 31)) hx hb d_Whole_shiftDown_3 (by decide) (pk_div (by omega) (by decide) (by decide)) ?_
  refine lv_istore_n (lv' := [(2, .int (nI (bc / 31))), (0, .ref h0), (1, .int (nI bc))]) hx hb d_Whole_shiftDown_4 rfl hl (by decide) rfl (fun ls hl => ?_)
  refine lv_iload_n hx hb d_Whole_shiftDown_5 rfl (lv_at hl 2 rfl) ?_
  refine lv_bipush (v := nI 31) hx hb d_Whole_shiftDown_6 rfl ?_
  refine xe_irem (v := nI (bc % 31)) hx hb d_Whole_shiftDown_8 (by decide) (pk_rem (by omega) (by decide) (by decide)) ?_
  refine lv_istore_n (lv' := [(3, .int (nI (bc % 31))), (2, .int (nI (bc / 31))), (0, .ref h0), (1, .int (nI bc))]) hx hb d_Whole_shiftDown_9 rfl hl (by decide) rfl (fun ls hl => ?_)
  refine lv_aload_n hx hb d_Whole_shiftDown_10 rfl (lv_at hl 2 rfl) ?_
  refine va_get (D := (dC, dI)) (ci := 1) (v := .int (nI len)) (C := R_Whole) (T := F_Whole) (N := 3) hx hb hts i_Whole hown hK hP 0 rfl rfl 1 (by decide) (hts _ k_fl_Whole_9) (fun _ h9 => h9) rfl d_Whole_shiftDown_11 ?_
  refine lv_iload_n hx hb d_Whole_shiftDown_14 rfl (lv_at hl 1 rfl) ?_
  refine xe_isub (v := nI len - nI (bc / 31)) hx hb d_Whole_shiftDown_15 rfl ?_
  refine lv_iconst (v := nI 0) hx hb d_Whole_shiftDown_16 rfl ?_
  refine xn_mmax0 hx hb (by rw [hml]; exact hl.1.symm) hown (hts _ k_ml_Whole_71) (hts _ k_st_Math_max) (hts _ k_ini_Math) (hts _ k_code_Math_max) (Nat.le_of_ble_eq_true rfl) (Nat.le_of_ble_eq_true rfl) (Nat.zero_le _) (Nat.zero_le _) (by omega) (by omega) d_Whole_shiftDown_17 ?_
  refine lv_istore (lv' := [(4, .int (nI (len - bc / 31))), (3, .int (nI (bc % 31))), (2, .int (nI (bc / 31))), (0, .ref h0), (1, .int (nI bc))]) hx hb d_Whole_shiftDown_20 hl (by decide) rfl (fun ls hl => ?_)
  refine lv_iconst (v := nI 0) hx hb d_Whole_shiftDown_22 rfl ?_
  refine lv_istore (lv' := [(5, .int (nI 0)), (4, .int (nI (len - bc / 31))), (3, .int (nI (bc % 31))), (2, .int (nI (bc / 31))), (0, .ref h0), (1, .int (nI bc))]) hx hb d_Whole_shiftDown_23 hl (by decide) rfl (fun ls hl => ?_)
  have loop : ∀ (n : Nat) (i : Nat) (F : Nat → Nat), (i ≤ len - bc / 31) → (∀ k, F k < 2147483648) → (∀ k, i ≤ k → F k = f k) → (∀ k, k < i → F k = sh_g (fun j => lb_at f len (bc / 31 + j)) (bc % 31) k) → (len - bc / 31 + 1 ≤ i + n) → ∀ (H : Heap) (locs : List Loc), va_P (dC, dI) classes ([(h0, .inr (1, [.ref q0, .int (nI len), .int sg])), (q0, .inl (cA, cap, .inl (xn_f F)))]) H → va_D A ([(h0, .inr (1, [.ref q0, .int (nI len), .int sg])), (q0, .inl (cA, cap, .inl (xn_f F)))]) → va_S A s.heap H locs → ∀ (ls : Array Slot), lv_has ls 7 [(5, .int (nI i)), (4, .int (nI (len - bc / 31))), (3, .int (nI (bc % 31))), (2, .int (nI (bc / 31))), (0, .ref h0), (1, .int (nI bc))] → W p l e (headSpec w_Whole_shiftDown ({ frames := 1, cells := 0, slots := 0, locals := 22 })).room s m ([.ref h0, .int (nI bc)] : List Value).toArray below meth c H locs 0 0 (MQ below (va_Qv (S := (Nat → Nat) × Nat × Int32) (fun u => lb_n cap u.1 u.2.1 ∧ lb_v u.1 u.2.1 = lb_v f len / 2 ^ bc ∧ u.2.2 = (if u.2.1 = 0 then 0 else sg)) (fun u t => va_P (dC, dI) classes ((fun u => [(h0, .inr (1, [.ref q0, .int (nI u.2.1), .int u.2.2])), (q0, .inl (cA, cap, .inl (xn_f u.1)))]) u) t.heap) A) ([.ref h0, .int (nI bc)] : List Value).toArray s 0 0 A) (F0 m 25 ls []) := by
    intro n
    induction n with
    | zero => intro i F hi hF hFk hFg hn; exact absurd hn (by omega)
    | succ n ih =>
      intro i F hi hF hFk hFg hn H locs hP hD hS ls hl
      refine lv_iload hx hb d_Whole_shiftDown_25 (lv_at hl 0 rfl) ?_
      refine lv_iload hx hb d_Whole_shiftDown_27 (lv_at hl 1 rfl) ?_
      refine xn_icmp_ge (tgt := 79) hx hb (by omega) (by omega) d_Whole_shiftDown_29 (by decide) (fun hge => ?_) (fun hge => ?_)
      · have hie : i = len - bc / 31 := by omega
        refine lv_aload_n hx hb d_Whole_shiftDown_79 rfl (lv_at hl 4 rfl) ?_
        refine lv_iload hx hb d_Whole_shiftDown_80 (lv_at hl 1 rfl) ?_
        have hFc := va_free (wc := [(h0, .inr (1, [.ref q0, .int (nI len), .int sg])), (q0, .inl (cA, cap, .inl (xn_f F)))]) hD hS hA [0, 1] rfl
        refine va_callv (va_runV (As := [.int (nI (len - bc / 31))]) (rest := []) ⟨hx, hb, hml, hown, hts⟩ (c_Whole_trim l dC dI H.size cA h0 q0 cap len F sg (len - bc / 31) hcap hF (by omega)) (cwV 1 hts (gw_V k_ml_Whole_56 k_im_Whole_trim k_sel_Whole_trim k_ini_Whole k_code_Whole_trim) rfl rfl rfl (by decide +kernel) ⟨Nat.le_of_ble_eq_true rfl, Nat.le_of_ble_eq_true rfl⟩) ⟨xc_W_blind, va_recv hK hP (ci := 1) (q0 := 0) rfl rfl, fun U hU hW => ⟨rfl, by rw [hU], by rw [hU]; exact hP.sub (ws' := [(h0, .inr (1, [.ref q0, .int (nI len), .int sg])), (q0, .inl (cA, cap, .inl (xn_f F)))]) [0, 1] rfl, va_K.moved hW.alike (hK.sub (tys' := [(cA, .int)]) [0] rfl), (hD.sub (ws' := [(h0, .inr (1, [.ref q0, .int (nI len), .int sg])), (q0, .inl (cA, cap, .inl (xn_f F)))]) [0, 1] (by decide) rfl).weaken (fun _ _ _ _ => trivial)⟩⟩ rfl rfl hl.1 rfl (lv_room (Nat.le_of_ble_eq_true rfl)) d_Whole_shiftDown_82 ⟨Nat.zero_le _, Nat.zero_le _⟩) hS (fun q _ h => hFc q h) hFc (fun u t_ H locs ht_ hvm_ hw hB hz1 hk1 hS => ?_)
        obtain ⟨len2, sg2⟩ := u
        rw [ht_] at hB
        obtain ⟨hP, hD⟩ := xj_2 0 1 hP hD rfl rfl hk1 hB
        have hP : va_P (dC, dI) classes ([(h0, .inr (1, [.ref q0, .int (nI len2), .int sg2])), (q0, .inl (cA, cap, .inl (xn_f F)))]) H := hP
        have hD : va_D A ([(h0, .inr (1, [.ref q0, .int (nI len2), .int sg2])), (q0, .inl (cA, cap, .inl (xn_f F)))]) := hD
        dsimp only at hw
        exact W.vret hx hb hr (fun T_ ht_ hW_ => ⟨⟨(F, len2, sg2), rfl, ⟨⟨Nat.le_trans hw.1 (by omega), hF, hw.2.2.1⟩, by rw [hw.2.1, lb_congr (len - bc / 31) (fun j hj => hFg j (by omega)), sh_all hf], hw.2.2.2⟩, by show va_P (dC, dI) classes _ T_.heap; rw [ht_]; exact hP⟩, hS.F ht_⟩) hS.2.2 d_Whole_shiftDown_85
      refine lv_aload_n hx hb d_Whole_shiftDown_32 rfl (lv_at hl 4 rfl) ?_
      refine lv_iload hx hb d_Whole_shiftDown_33 (lv_at hl 0 rfl) ?_
      refine lv_iload_n hx hb d_Whole_shiftDown_35 rfl (lv_at hl 3 rfl) ?_
      refine xn_iadd hx hb d_Whole_shiftDown_36 ?_
      refine lv_iconst (v := nI 1) hx hb d_Whole_shiftDown_37 rfl ?_
      refine xn_iadd hx hb d_Whole_shiftDown_38 ?_
      refine vp_callSi (W.runV (As := [.int (nI ((i + (bc / 31)) + 1))]) (rest := []) ⟨hx, hb, hml, hown, hts⟩ (c_Whole_limbAt l dC dI cA h0 q0 cap len F sg (i + bc / 31 + 1) hcap hlen (by omega)) (cwV 1 hts (gw_V k_ml_Whole_74 k_im_Whole_limbAt k_sel_Whole_limbAt k_ini_Whole k_code_Whole_limbAt) rfl rfl rfl (by decide +kernel) ⟨Nat.le_of_ble_eq_true rfl, Nat.le_of_ble_eq_true rfl⟩) ⟨xc_R_blind, va_recv hK hP (ci := 1) (q0 := 0) rfl rfl, fun U hU hW => ⟨rfl, by rw [hU]; exact hP.sub (ws' := [(h0, .inr (1, [.ref q0, .int (nI len), .int sg])), (q0, .inl (cA, cap, .inl (xn_f F)))]) [0, 1] rfl, va_K.moved hW.alike (hK.sub (tys' := [(cA, .int)]) [0] rfl)⟩⟩ rfl rfl hl.1 rfl (lv_room (Nat.le_of_ble_eq_true rfl)) d_Whole_shiftDown_39 ⟨Nat.zero_le _, Nat.zero_le _⟩) (fun r_ e_r => ?_)
      subst e_r
      obtain ⟨x, ex⟩ : ∃ x, x = (if i + bc / 31 + 1 < len then F (i + bc / 31 + 1) else 0) := ⟨_, rfl⟩
      rw [← ex]
      have hx1 : x = lb_at f len (bc / 31 + (i + 1)) := by rw [ex, hFk _ (by omega)]; unfold lb_at; rw [show i + bc / 31 + 1 = bc / 31 + (i + 1) by omega]
      refine lv_bipush (v := nI 31) hx hb d_Whole_shiftDown_42 rfl ?_
      refine lv_iload_n hx hb d_Whole_shiftDown_44 rfl (lv_at hl 2 rfl) ?_
      refine xn_isub hx hb (by omega) d_Whole_shiftDown_45 ?_
      refine xe_ishl (v := nI x <<< (nI (31 - bc % 31) &&& 31)) hx hb d_Whole_shiftDown_46 rfl ?_
      refine lv_istore (lv' := [(6, .int (nI x <<< (nI (31 - bc % 31) &&& 31))), (5, .int (nI i)), (4, .int (nI (len - bc / 31))), (3, .int (nI (bc % 31))), (2, .int (nI (bc / 31))), (0, .ref h0), (1, .int (nI bc))]) hx hb d_Whole_shiftDown_47 hl (by decide) rfl (fun ls hl => ?_)
      refine lv_aload_n hx hb d_Whole_shiftDown_49 rfl (lv_at hl 5 rfl) ?_
      refine va_get (D := (dC, dI)) (ci := 1) (v := .ref q0) (C := R_Whole) (T := F_Whole) (N := 3) hx hb hts i_Whole hown hK hP 0 rfl rfl 0 (by decide) (hts _ k_fl_Whole_18) (fun _ h9 => h9) rfl d_Whole_shiftDown_50 ?_
      refine lv_iload hx hb d_Whole_shiftDown_53 (lv_at hl 1 rfl) ?_
      refine lv_aload_n hx hb d_Whole_shiftDown_55 rfl (lv_at hl 5 rfl) ?_
      refine va_get (D := (dC, dI)) (ci := 1) (v := .ref q0) (C := R_Whole) (T := F_Whole) (N := 3) hx hb hts i_Whole hown hK hP 0 rfl rfl 0 (by decide) (hts _ k_fl_Whole_18) (fun _ h9 => h9) rfl d_Whole_shiftDown_56 ?_
      refine lv_iload hx hb d_Whole_shiftDown_59 (lv_at hl 1 rfl) ?_
      refine lv_iload_n hx hb d_Whole_shiftDown_61 rfl (lv_at hl 4 rfl) ?_
      refine xn_iadd hx hb d_Whole_shiftDown_62 ?_
      refine xn_iald hx hb hK hP 1 0 rfl rfl (i := i + (bc / 31)) (by omega) (by omega) d_Whole_shiftDown_63 ?_
      obtain ⟨y, ey⟩ : ∃ y, y = F (i + bc / 31) := ⟨_, rfl⟩
      rw [← ey]
      have hy2 : y < 2147483648 := by rw [ey]; exact hF _
      have hy1 : y = lb_at f len (bc / 31 + i) := by rw [ey, hFk _ (by omega)]; unfold lb_at; rw [if_pos (by omega), Nat.add_comm i]
      refine lv_iload_n hx hb d_Whole_shiftDown_64 rfl (lv_at hl 3 rfl) ?_
      refine lv_iushr (v := nI (y / 2 ^ (bc % 31))) hx hb d_Whole_shiftDown_65 (pk_ushrN (by omega) _ _ (sh_cu _ (by omega))) ?_
      refine lv_iload hx hb d_Whole_shiftDown_66 (lv_at hl 0 rfl) ?_
      refine xe_ior (v := nI (y / 2 ^ (bc % 31)) ||| (nI x <<< (nI (31 - bc % 31) &&& 31))) hx hb d_Whole_shiftDown_68 rfl ?_
      refine lv_ldc (v := nI 2147483647) hx hb hown (hts _ k_ldc_Whole_80) d_Whole_shiftDown_69 ?_
      obtain ⟨w, ew⟩ : ∃ w, w = sh_g (fun j => lb_at f len (bc / 31 + j)) (bc % 31) i := ⟨_, rfl⟩
      have hw1 : w < 2147483648 := by rw [ew]; exact sh_lt (fun j => lb_at_lt len hf _) hl31 i
      refine xe_iand (v := nI w) hx hb d_Whole_shiftDown_71 (by rw [sh_limb hy2 hl31, ew, hx1, hy1]; rfl) ?_
      refine xn_iast hx hb hK hP hD hS 1 0 rfl rfl (i := i) (x := w) (by omega) (by omega) d_Whole_shiftDown_72 (fun H locs hP hD hS => ?_)
      have hP : va_P (dC, dI) classes ([(h0, .inr (1, [.ref q0, .int (nI len), .int sg])), (q0, .inl (cA, cap, .inl (xn_f (va_up F i w))))]) H := hP
      have hD : va_D A ([(h0, .inr (1, [.ref q0, .int (nI len), .int sg])), (q0, .inl (cA, cap, .inl (xn_f (va_up F i w))))]) := hD
      refine lv_iinc (v := nI (i + 1)) (lv' := [(5, .int (nI (i + 1))), (6, .int (nI x <<< (nI (31 - bc % 31) &&& 31))), (4, .int (nI (len - bc / 31))), (3, .int (nI (bc % 31))), (2, .int (nI (bc / 31))), (0, .ref h0), (1, .int (nI bc))]) hx hb d_Whole_shiftDown_73 hl (k := 1) rfl (nI_1 _) (by decide) rfl (fun ls hl => ?_)
      refine lv_goto (tgt := 25) hx hb d_Whole_shiftDown_76 (by decide) ?_
      exact ih (i + 1) (va_up F i w) (by omega) (fun k => by by_cases q : k = i <;> simp [va_up, q, hF, hw1]) (fun k hk => by rw [va_up_ne F _ (show k ≠ i by omega)]; exact hFk k (by omega)) (fun k hk => by
                by_cases q : k = i
                · subst q; rw [va_up_self]; exact ew
                · rw [va_up_ne F _ q]; exact hFg k (by omega)) (by omega) H locs hP hD hS ls (lv_sub hl [0, 2, 3, 4, 5, 6] rfl)
  exact loop (len - bc / 31 + 1) 0 f (Nat.zero_le _) hf (fun k _ => rfl) (fun k hk => by omega) (by omega) s.heap [] hP hD hS ls (lv_sub hl [0, 1, 2, 3, 4, 5] rfl)
