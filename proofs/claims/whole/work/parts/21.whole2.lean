set_option maxHeartbeats 4000000 in
set_option maxRecDepth 100000 in
/-- the difference of the sizes, this being the large one -/
theorem c_Whole_diffA (l : Launch) (dC : Nat → ClassId) (dI : Nat → Nat → Nat) (sz : Nat) (cA : ClassId) (h0 q0 : Nat) (cap len : Nat) (f : Nat → Nat) (sg : Int32) (h0b q0b : Nat) (capb lenb : Nat) (fb : Nat → Nat) (sgb : Int32) (hcap : cap ≤ 64) (hcapb : capb ≤ 64) (ho : lb_n cap f len) (hob : lb_n capb fb lenb) (hle : lb_v fb lenb ≤ lb_v f len) (hfit : len ≤ cap) : Met l y_Whole_setDifferenceOfSizes w_Whole_setDifferenceOfSizes ({ frames := 1, cells := 0, slots := 0, locals := 22 }) (xc_W [.ref h0, .ref h0, .ref h0b] dC dI ([(h0, .inr (1, [.ref q0, .int (nI len), .int sg])), (q0, .inl (cA, cap, .inl (xn_f f))), (h0b, .inr (1, [.ref q0b, .int (nI lenb), .int sgb])), (q0b, .inl (cA, capb, .inl (xn_f fb)))]) [(cA, .int)] sz) (va_Qv (S := (Nat → Nat) × Nat × Int32) (fun u => lb_n cap u.1 u.2.1 ∧ lb_v u.1 u.2.1 = lb_v f len - lb_v fb lenb ∧ u.2.2 = (if u.2.1 = 0 then 0 else sg)) (fun u t => va_P (dC, dI) classes ((fun u => [(h0, .inr (1, [.ref q0, .int (nI u.2.1), .int u.2.2])), (q0, .inl (cA, cap, .inl (xn_f u.1))), (h0b, .inr (1, [.ref q0b, .int (nI lenb), .int sgb])), (q0b, .inl (cA, capb, .inl (xn_f fb)))]) u) t.heap) (va_A ([(h0, .inr (1, [.ref q0, .int (nI len), .int sg])), (q0, .inl (cA, cap, .inl (xn_f f))), (h0b, .inr (1, [.ref q0b, .int (nI lenb), .int sgb])), (q0b, .inl (cA, capb, .inl (xn_f fb)))]) sz)) 0 0 (va_A ([(h0, .inr (1, [.ref q0, .int (nI len), .int sg])), (q0, .inl (cA, cap, .inl (xn_f f))), (h0b, .inr (1, [.ref q0b, .int (nI lenb), .int sgb])), (q0b, .inl (cA, capb, .inl (xn_f fb)))]) sz) := by
  refine Met.ofW (cc := b_Whole_setDifferenceOfSizes) (maxL := 9) (ret := none) (by decide) rfl ?_
  intro p e s m args below meth c s₁ B hml hv
  obtain ⟨rfl, hsz, hP, hK, hD0⟩ := hv
  have hx := B.exec
  have hb := B.bytes
  have hr := B.returns
  have hts : ∀ w ∈ gw_tbl, w.before ([.ref h0, .ref h0, .ref h0b] : List Value).toArray s = true := fun w h => atoms_spec (ws := w_Whole_setDifferenceOfSizes) B.pre w (List.mem_cons_of_mem _ h)
  have hown : s.vm.findClass R_Whole = some m.cls := findClass_of_methodNamed B.named
  have hlocks := B.notSynchronized
  subst hsz
  have hD := hD0.self (sz := s.heap.size)
  generalize hAe : va_A ([(h0, .inr (1, [.ref q0, .int (nI len), .int sg])), (q0, .inl (cA, cap, .inl (xn_f f))), (h0b, .inr (1, [.ref q0b, .int (nI lenb), .int sgb])), (q0b, .inl (cA, capb, .inl (xn_f fb)))]) s.heap.size = A at hD ⊢
  have hA : ∀ q : Nat, s.heap.size ≤ q → A q := fun q h => by rw [← hAe]; exact Or.inr h
  have hS : va_S A s.heap s.heap [] := va_S.rf
  have hl := lv_entry ([.ref h0, .ref h0, .ref h0b]) (n := 9) (Nat.le_of_ble_eq_true rfl)
  rw [lg_entry_eq]
  generalize (lg_sl ([.ref h0, .ref h0, .ref h0b]) ++ List.replicate (9 - (lg_sl ([.ref h0, .ref h0, .ref h0b])).length) Slot.unset).toArray = ls at hl ⊢
  have hl : lv_has ls 9 [(0, .ref h0), (1, .ref h0), (2, .ref h0b)] := hl
  have hf := ho.2.1
  have hfb := hob.2.1
  have hlen := ho.1
  have hlenb := hob.1
  have hls : lenb ≤ len := lb_n_le ho hob hle
  refine lv_aload_n hx hb d_Whole_setDifferenceOfSizes_0 rfl (lv_at hl 1 rfl) ?_
  refine va_get (D := (dC, dI)) (ci := 1) (v := .int (nI len)) (C := R_Whole) (T := F_Whole) (N := 3) hx hb hts i_Whole hown hK hP 0 rfl rfl 1 (by decide) (hts _ k_fl_Whole_9) (fun _ h9 => h9) rfl d_Whole_setDifferenceOfSizes_1 ?_
  refine lv_aload_n hx hb d_Whole_setDifferenceOfSizes_4 rfl (lv_at hl 0 rfl) ?_
  refine va_get (D := (dC, dI)) (ci := 1) (v := .ref q0) (C := R_Whole) (T := F_Whole) (N := 3) hx hb hts i_Whole hown hK hP 0 rfl rfl 0 (by decide) (hts _ k_fl_Whole_18) (fun _ h9 => h9) rfl d_Whole_setDifferenceOfSizes_5 ?_
  refine va_alen (v := nI cap) hx hb hK hP 1 0 rfl rfl rfl d_Whole_setDifferenceOfSizes_8 ?_
  refine xn_mmin (v := len) hx hb (by rw [hml]; exact hl.1.symm) hown (hts _ k_ml_Whole_30) (hts _ k_st_Math_min) (hts _ k_ini_Math) (hts _ k_code_Math_min) (Nat.le_of_ble_eq_true rfl) (Nat.le_of_ble_eq_true rfl) (Nat.zero_le _) (Nat.zero_le _) (by omega) (by omega) (by omega) d_Whole_setDifferenceOfSizes_9 ?_
  refine lv_istore_n (lv' := [(3, .int (nI len)), (0, .ref h0), (1, .ref h0), (2, .ref h0b)]) hx hb d_Whole_setDifferenceOfSizes_12 rfl hl (by decide) rfl (fun ls hl => ?_)
  refine lv_lconst (v := lN 0) hx hb d_Whole_setDifferenceOfSizes_13 rfl ?_
  rw [show lN 0 = lZ (-((0 : Nat) : Int)) from rfl]
  refine lv_lstore (lv' := [(4, .long (lZ (-((0 : Nat) : Int)))), (3, .int (nI len)), (0, .ref h0), (1, .ref h0), (2, .ref h0b)]) hx hb d_Whole_setDifferenceOfSizes_14 hl (by decide) rfl (fun ls hl => ?_)
  refine lv_iconst (v := nI 0) hx hb d_Whole_setDifferenceOfSizes_16 rfl ?_
  refine lv_istore (lv' := [(6, .int (nI 0)), (4, .long (lZ (-((0 : Nat) : Int)))), (3, .int (nI len)), (0, .ref h0), (1, .ref h0), (2, .ref h0b)]) hx hb d_Whole_setDifferenceOfSizes_17 hl (by decide) rfl (fun ls hl => ?_)
  have loop : ∀ (n : Nat) (i b : Nat) (F : Nat → Nat), (i ≤ len) → (b ≤ 1) → (∀ j, F j < 2147483648) → (∀ j, i ≤ j → F j = f j) → (lb_v F i + lb_v (lb_at fb lenb) i = lb_v f i + b * lb_p i) → (len + 1 ≤ i + n) → ∀ (H : Heap) (locs : List Loc), va_P (dC, dI) classes ([(h0, .inr (1, [.ref q0, .int (nI len), .int sg])), (q0, .inl (cA, cap, .inl (xn_f F))), (h0b, .inr (1, [.ref q0b, .int (nI lenb), .int sgb])), (q0b, .inl (cA, capb, .inl (xn_f fb)))]) H → va_D A ([(h0, .inr (1, [.ref q0, .int (nI len), .int sg])), (q0, .inl (cA, cap, .inl (xn_f F))), (h0b, .inr (1, [.ref q0b, .int (nI lenb), .int sgb])), (q0b, .inl (cA, capb, .inl (xn_f fb)))]) → va_S A s.heap H locs → ∀ (ls : Array Slot), lv_has ls 9 [(6, .int (nI i)), (4, .long (lZ (-(b : Int)))), (3, .int (nI len)), (0, .ref h0), (1, .ref h0), (2, .ref h0b)] → W p l e (headSpec w_Whole_setDifferenceOfSizes ({ frames := 1, cells := 0, slots := 0, locals := 22 })).room s m ([.ref h0, .ref h0, .ref h0b] : List Value).toArray below meth c H locs 0 0 (MQ below (va_Qv (S := (Nat → Nat) × Nat × Int32) (fun u => lb_n cap u.1 u.2.1 ∧ lb_v u.1 u.2.1 = lb_v f len - lb_v fb lenb ∧ u.2.2 = (if u.2.1 = 0 then 0 else sg)) (fun u t => va_P (dC, dI) classes ((fun u => [(h0, .inr (1, [.ref q0, .int (nI u.2.1), .int u.2.2])), (q0, .inl (cA, cap, .inl (xn_f u.1))), (h0b, .inr (1, [.ref q0b, .int (nI lenb), .int sgb])), (q0b, .inl (cA, capb, .inl (xn_f fb)))]) u) t.heap) A) ([.ref h0, .ref h0, .ref h0b] : List Value).toArray s 0 0 A) (F0 m 19 ls []) := by
    intro n
    induction n with
    | zero => intro i b F hi hb1 hF hFk hinv hn; exact absurd hn (by omega)
    | succ n ih =>
      intro i b F hi hb1 hF hFk hinv hn H locs hP hD hS ls hl
      refine lv_iload hx hb d_Whole_setDifferenceOfSizes_19 (lv_at hl 0 rfl) ?_
      refine lv_iload_n hx hb d_Whole_setDifferenceOfSizes_21 rfl (lv_at hl 2 rfl) ?_
      refine xn_icmp_ge (tgt := 73) hx hb (by omega) (by omega) d_Whole_setDifferenceOfSizes_22 (by decide) (fun hge => ?_) (fun hge => ?_)
      · have hie : len = i := by omega
        subst hie
        have hend := lb_sub_end (f := f) (F := F) (g := lb_at fb lenb) hF (by rw [lb_at_v fb hls]; exact hle) hinv hb1
        rw [lb_at_v fb hls] at hend
        refine lv_aload_n hx hb d_Whole_setDifferenceOfSizes_73 rfl (lv_at hl 3 rfl) ?_
        refine lv_iload_n hx hb d_Whole_setDifferenceOfSizes_74 rfl (lv_at hl 2 rfl) ?_
        have hFc := va_free (wc := [(h0, .inr (1, [.ref q0, .int (nI len), .int sg])), (q0, .inl (cA, cap, .inl (xn_f F)))]) hD hS hA [0, 1] rfl
        refine va_callv (va_runV (As := [.int (nI len)]) (rest := []) ⟨hx, hb, hml, hown, hts⟩ (c_Whole_trim l dC dI H.size cA h0 q0 cap len F sg len hcap hF hfit) (cwV 1 hts (gw_V k_ml_Whole_56 k_im_Whole_trim k_sel_Whole_trim k_ini_Whole k_code_Whole_trim) rfl rfl rfl (by decide +kernel) ⟨Nat.le_of_ble_eq_true rfl, Nat.le_of_ble_eq_true rfl⟩) ⟨xc_W_blind, va_recv hK hP (ci := 1) (q0 := 0) rfl rfl, fun U hU hW => ⟨rfl, by rw [hU], by rw [hU]; exact hP.sub (ws' := [(h0, .inr (1, [.ref q0, .int (nI len), .int sg])), (q0, .inl (cA, cap, .inl (xn_f F)))]) [0, 1] rfl, va_K.moved hW.alike (hK.sub (tys' := [(cA, .int)]) [0] rfl), (hD.sub (ws' := [(h0, .inr (1, [.ref q0, .int (nI len), .int sg])), (q0, .inl (cA, cap, .inl (xn_f F)))]) [0, 1] (by decide) rfl).weaken (fun _ _ _ _ => trivial)⟩⟩ rfl rfl hl.1 rfl (lv_room (Nat.le_of_ble_eq_true rfl)) d_Whole_setDifferenceOfSizes_75 ⟨Nat.zero_le _, Nat.zero_le _⟩) hS (fun q _ h => hFc q h) hFc (fun u t_ H locs ht_ hvm_ hw hB hz1 hk1 hS => ?_)
        obtain ⟨len2, sg2⟩ := u
        rw [ht_] at hB
        obtain ⟨hP, hD⟩ := xj_2 0 1 hP hD rfl rfl hk1 hB
        have hP : va_P (dC, dI) classes ([(h0, .inr (1, [.ref q0, .int (nI len2), .int sg2])), (q0, .inl (cA, cap, .inl (xn_f F))), (h0b, .inr (1, [.ref q0b, .int (nI lenb), .int sgb])), (q0b, .inl (cA, capb, .inl (xn_f fb)))]) H := hP
        have hD : va_D A ([(h0, .inr (1, [.ref q0, .int (nI len2), .int sg2])), (q0, .inl (cA, cap, .inl (xn_f F))), (h0b, .inr (1, [.ref q0b, .int (nI lenb), .int sgb])), (q0b, .inl (cA, capb, .inl (xn_f fb)))]) := hD
        dsimp only at hw
        exact W.vret hx hb hr (fun T_ ht_ hW_ => ⟨⟨(F, len2, sg2), rfl, ⟨⟨Nat.le_trans hw.1 hfit, hF, hw.2.2.1⟩, by rw [hw.2.1]; exact hend, hw.2.2.2⟩, by show va_P (dC, dI) classes _ T_.heap; rw [ht_]; exact hP⟩, hS.F ht_⟩) hS.2.2 d_Whole_setDifferenceOfSizes_78
      refine lv_aload_n hx hb d_Whole_setDifferenceOfSizes_25 rfl (lv_at hl 4 rfl) ?_
      refine va_get (D := (dC, dI)) (ci := 1) (v := .ref q0) (C := R_Whole) (T := F_Whole) (N := 3) hx hb hts i_Whole hown hK hP 0 rfl rfl 0 (by decide) (hts _ k_fl_Whole_18) (fun _ h9 => h9) rfl d_Whole_setDifferenceOfSizes_26 ?_
      refine lv_iload hx hb d_Whole_setDifferenceOfSizes_29 (lv_at hl 0 rfl) ?_
      refine xn_iald hx hb hK hP 1 0 rfl rfl (i := i) (by omega) (by omega) d_Whole_setDifferenceOfSizes_31 ?_
      obtain ⟨x, ex⟩ : ∃ x, x = F i := ⟨_, rfl⟩
      rw [← ex]
      have hx1 : x < 2147483648 := by rw [ex]; exact hF i
      refine xn_i2l hx hb (by omega) d_Whole_setDifferenceOfSizes_32 ?_
      refine lv_aload_n hx hb d_Whole_setDifferenceOfSizes_33 rfl (lv_at hl 5 rfl) ?_
      refine lv_iload hx hb d_Whole_setDifferenceOfSizes_34 (lv_at hl 0 rfl) ?_
      refine vp_callSi (W.runV (As := [.int (nI i)]) (rest := [.long (lN x)]) ⟨hx, hb, hml, hown, hts⟩ (c_Whole_limbAt l dC dI cA h0b q0b capb lenb fb sgb i hcapb hlenb (by omega)) (cwV 1 hts (gw_V k_ml_Whole_74 k_im_Whole_limbAt k_sel_Whole_limbAt k_ini_Whole k_code_Whole_limbAt) rfl rfl rfl (by decide +kernel) ⟨Nat.le_of_ble_eq_true rfl, Nat.le_of_ble_eq_true rfl⟩) ⟨xc_R_blind, va_recv hK hP (ci := 1) (q0 := 2) rfl rfl, fun U hU hW => ⟨rfl, by rw [hU]; exact hP.sub (ws' := [(h0b, .inr (1, [.ref q0b, .int (nI lenb), .int sgb])), (q0b, .inl (cA, capb, .inl (xn_f fb)))]) [2, 3] rfl, va_K.moved hW.alike (hK.sub (tys' := [(cA, .int)]) [0] rfl)⟩⟩ rfl rfl hl.1 rfl (lv_room (Nat.le_of_ble_eq_true rfl)) d_Whole_setDifferenceOfSizes_36 ⟨Nat.zero_le _, Nat.zero_le _⟩) (fun r_ e_r => ?_)
      subst e_r
      obtain ⟨y, ey⟩ : ∃ y, y = (if i < lenb then fb i else 0) := ⟨_, rfl⟩
      rw [← ey]
      have hy1 : y = lb_at fb lenb i := by rw [ey]; rfl
      have hy2 : y < 2147483648 := by rw [hy1]; exact lb_at_lt _ hfb i
      refine xn_i2l hx hb (by omega) d_Whole_setDifferenceOfSizes_39 ?_
      obtain ⟨z, ez⟩ : ∃ z : Int, z = (x : Int) - y + -(b : Int) := ⟨_, rfl⟩
      refine xe_lsub (v := lZ ((x : Int) - (y : Int))) hx hb d_Whole_setDifferenceOfSizes_40 (by rw [lZ_N, lZ_N, lZ_sub]) ?_
      refine lv_lload hx hb d_Whole_setDifferenceOfSizes_41 (lv_at hl 1 rfl) ?_
      refine xe_ladd (v := lZ z) hx hb d_Whole_setDifferenceOfSizes_43 (by rw [lZ_add, ez]) ?_
      refine lv_lstore (lv' := [(7, .long (lZ z)), (6, .int (nI i)), (4, .long (lZ (-(b : Int)))), (3, .int (nI len)), (0, .ref h0), (1, .ref h0), (2, .ref h0b)]) hx hb d_Whole_setDifferenceOfSizes_44 hl (by decide) rfl (fun ls hl => ?_)
      refine lv_aload_n hx hb d_Whole_setDifferenceOfSizes_46 rfl (lv_at hl 4 rfl) ?_
      refine va_get (D := (dC, dI)) (ci := 1) (v := .ref q0) (C := R_Whole) (T := F_Whole) (N := 3) hx hb hts i_Whole hown hK hP 0 rfl rfl 0 (by decide) (hts _ k_fl_Whole_18) (fun _ h9 => h9) rfl d_Whole_setDifferenceOfSizes_47 ?_
      refine lv_iload hx hb d_Whole_setDifferenceOfSizes_50 (lv_at hl 1 rfl) ?_
      refine lv_lload hx hb d_Whole_setDifferenceOfSizes_52 (lv_at hl 0 rfl) ?_
      refine lv_ldc2 (v := lN 2147483647) hx hb hown (hts _ k_ldc_Whole_28) d_Whole_setDifferenceOfSizes_54 ?_
      obtain ⟨w, ew⟩ : ∃ w, w = (z % 2147483648).toNat := ⟨_, rfl⟩
      refine xe_land (v := lN w) hx hb d_Whole_setDifferenceOfSizes_57 (by rw [lZ_and, ew]) ?_
      refine xn_l2i hx hb d_Whole_setDifferenceOfSizes_58 ?_
      refine xn_iast hx hb hK hP hD hS 1 0 rfl rfl (i := i) (x := w) (by omega) (by omega) d_Whole_setDifferenceOfSizes_59 (fun H locs hP hD hS => ?_)
      have hP : va_P (dC, dI) classes ([(h0, .inr (1, [.ref q0, .int (nI len), .int sg])), (q0, .inl (cA, cap, .inl (xn_f (va_up F i w)))), (h0b, .inr (1, [.ref q0b, .int (nI lenb), .int sgb])), (q0b, .inl (cA, capb, .inl (xn_f fb)))]) H := hP
      have hD : va_D A ([(h0, .inr (1, [.ref q0, .int (nI len), .int sg])), (q0, .inl (cA, cap, .inl (xn_f (va_up F i w)))), (h0b, .inr (1, [.ref q0b, .int (nI lenb), .int sgb])), (q0b, .inl (cA, capb, .inl (xn_f fb)))]) := hD
      refine lv_lload hx hb d_Whole_setDifferenceOfSizes_60 (lv_at hl 0 rfl) ?_
      refine lv_bipush (v := nI 31) hx hb d_Whole_setDifferenceOfSizes_62 rfl ?_
      obtain ⟨b', eb'⟩ : ∃ b' : Nat, b' = (if z < 0 then 1 else 0) := ⟨_, rfl⟩
      have hb'1 : b' ≤ 1 := by rw [eb']; split <;> omega
      have hzb : z / 2147483648 = -(b' : Int) := by rw [eb']; split <;> omega
      have hw1 : w < 2147483648 := by omega
      have hkey : w + y + b = x + b' * 2147483648 := by omega
      refine lv_lshr (v := lZ (-(b' : Int))) hx hb d_Whole_setDifferenceOfSizes_64 (by rw [lZ_shr (by omega) (by omega), hzb]) ?_
      refine lv_lstore (lv' := [(4, .long (lZ (-(b' : Int)))), (7, .long (lZ z)), (6, .int (nI i)), (3, .int (nI len)), (0, .ref h0), (1, .ref h0), (2, .ref h0b)]) hx hb d_Whole_setDifferenceOfSizes_65 hl (by decide) rfl (fun ls hl => ?_)
      refine lv_iinc (v := nI (i + 1)) (lv' := [(6, .int (nI (i + 1))), (4, .long (lZ (-(b' : Int)))), (7, .long (lZ z)), (3, .int (nI len)), (0, .ref h0), (1, .ref h0), (2, .ref h0b)]) hx hb d_Whole_setDifferenceOfSizes_67 hl (k := 2) rfl (nI_1 _) (by decide) rfl (fun ls hl => ?_)
      refine lv_goto (tgt := 19) hx hb d_Whole_setDifferenceOfSizes_70 (by decide) ?_
      exact ih (i + 1) b' (va_up F i w) (by omega) hb'1 (fun j => by by_cases q : j = i <;> simp [va_up, q, hw1, hF]) (fun j hj => by rw [va_up_ne F w (show j ≠ i by omega)]; exact hFk j (by omega)) (by
                rw [lb_v1, lb_v1, lb_v1, lb_up_ge F i w (Nat.le_refl i), va_up_self, lb_p1, ← hy1]
                have hxb : x = f i := by rw [ex]; exact hFk i (Nat.le_refl i)
                rw [← hxb]
                exact lb_step hkey hinv) (by omega) H locs hP hD hS ls (lv_sub hl [0, 1, 3, 4, 5, 6] rfl)
  exact loop (len + 1) 0 0 f (Nat.zero_le _) (Nat.zero_le _) hf (fun j _ => rfl) (by simp [lb_v]) (by omega) s.heap [] hP hD hS ls (lv_sub hl [0, 1, 2, 3, 4, 5] rfl)
set_option maxHeartbeats 4000000 in
set_option maxRecDepth 100000 in
/-- the difference of the sizes, this being the small one -/
theorem c_Whole_diffB (l : Launch) (dC : Nat → ClassId) (dI : Nat → Nat → Nat) (sz : Nat) (cA : ClassId) (h0 q0 : Nat) (cap len : Nat) (f : Nat → Nat) (sg : Int32) (h0b q0b : Nat) (capb lenb : Nat) (fb : Nat → Nat) (sgb : Int32) (hcap : cap ≤ 64) (hcapb : capb ≤ 64) (ho : lb_n cap f len) (hob : lb_n capb fb lenb) (hle : lb_v f len ≤ lb_v fb lenb) (hfit : lenb ≤ cap) : Met l y_Whole_setDifferenceOfSizes w_Whole_setDifferenceOfSizes ({ frames := 1, cells := 0, slots := 0, locals := 22 }) (xc_W [.ref h0, .ref h0b, .ref h0] dC dI ([(h0, .inr (1, [.ref q0, .int (nI len), .int sg])), (q0, .inl (cA, cap, .inl (xn_f f))), (h0b, .inr (1, [.ref q0b, .int (nI lenb), .int sgb])), (q0b, .inl (cA, capb, .inl (xn_f fb)))]) [(cA, .int)] sz) (va_Qv (S := (Nat → Nat) × Nat × Int32) (fun u => lb_n cap u.1 u.2.1 ∧ lb_v u.1 u.2.1 = lb_v fb lenb - lb_v f len ∧ u.2.2 = (if u.2.1 = 0 then 0 else sg)) (fun u t => va_P (dC, dI) classes ((fun u => [(h0, .inr (1, [.ref q0, .int (nI u.2.1), .int u.2.2])), (q0, .inl (cA, cap, .inl (xn_f u.1))), (h0b, .inr (1, [.ref q0b, .int (nI lenb), .int sgb])), (q0b, .inl (cA, capb, .inl (xn_f fb)))]) u) t.heap) (va_A ([(h0, .inr (1, [.ref q0, .int (nI len), .int sg])), (q0, .inl (cA, cap, .inl (xn_f f))), (h0b, .inr (1, [.ref q0b, .int (nI lenb), .int sgb])), (q0b, .inl (cA, capb, .inl (xn_f fb)))]) sz)) 0 0 (va_A ([(h0, .inr (1, [.ref q0, .int (nI len), .int sg])), (q0, .inl (cA, cap, .inl (xn_f f))), (h0b, .inr (1, [.ref q0b, .int (nI lenb), .int sgb])), (q0b, .inl (cA, capb, .inl (xn_f fb)))]) sz) := by
  refine Met.ofW (cc := b_Whole_setDifferenceOfSizes) (maxL := 9) (ret := none) (by decide) rfl ?_
  intro p e s m args below meth c s₁ B hml hv
  obtain ⟨rfl, hsz, hP, hK, hD0⟩ := hv
  have hx := B.exec
  have hb := B.bytes
  have hr := B.returns
  have hts : ∀ w ∈ gw_tbl, w.before ([.ref h0, .ref h0b, .ref h0] : List Value).toArray s = true := fun w h => atoms_spec (ws := w_Whole_setDifferenceOfSizes) B.pre w (List.mem_cons_of_mem _ h)
  have hown : s.vm.findClass R_Whole = some m.cls := findClass_of_methodNamed B.named
  have hlocks := B.notSynchronized
  subst hsz
  have hD := hD0.self (sz := s.heap.size)
  generalize hAe : va_A ([(h0, .inr (1, [.ref q0, .int (nI len), .int sg])), (q0, .inl (cA, cap, .inl (xn_f f))), (h0b, .inr (1, [.ref q0b, .int (nI lenb), .int sgb])), (q0b, .inl (cA, capb, .inl (xn_f fb)))]) s.heap.size = A at hD ⊢
  have hA : ∀ q : Nat, s.heap.size ≤ q → A q := fun q h => by rw [← hAe]; exact Or.inr h
  have hS : va_S A s.heap s.heap [] := va_S.rf
  have hl := lv_entry ([.ref h0, .ref h0b, .ref h0]) (n := 9) (Nat.le_of_ble_eq_true rfl)
  rw [lg_entry_eq]
  generalize (lg_sl ([.ref h0, .ref h0b, .ref h0]) ++ List.replicate (9 - (lg_sl ([.ref h0, .ref h0b, .ref h0])).length) Slot.unset).toArray = ls at hl ⊢
  have hl : lv_has ls 9 [(0, .ref h0), (1, .ref h0b), (2, .ref h0)] := hl
  have hf := ho.2.1
  have hfb := hob.2.1
  have hlen := ho.1
  have hlenb := hob.1
  have hls : len ≤ lenb := lb_n_le hob ho hle
  refine lv_aload_n hx hb d_Whole_setDifferenceOfSizes_0 rfl (lv_at hl 1 rfl) ?_
  refine va_get (D := (dC, dI)) (ci := 1) (v := .int (nI lenb)) (C := R_Whole) (T := F_Whole) (N := 3) hx hb hts i_Whole hown hK hP 2 rfl rfl 1 (by decide) (hts _ k_fl_Whole_9) (fun _ h9 => h9) rfl d_Whole_setDifferenceOfSizes_1 ?_
  refine lv_aload_n hx hb d_Whole_setDifferenceOfSizes_4 rfl (lv_at hl 0 rfl) ?_
  refine va_get (D := (dC, dI)) (ci := 1) (v := .ref q0) (C := R_Whole) (T := F_Whole) (N := 3) hx hb hts i_Whole hown hK hP 0 rfl rfl 0 (by decide) (hts _ k_fl_Whole_18) (fun _ h9 => h9) rfl d_Whole_setDifferenceOfSizes_5 ?_
  refine va_alen (v := nI cap) hx hb hK hP 1 0 rfl rfl rfl d_Whole_setDifferenceOfSizes_8 ?_
  refine xn_mmin (v := lenb) hx hb (by rw [hml]; exact hl.1.symm) hown (hts _ k_ml_Whole_30) (hts _ k_st_Math_min) (hts _ k_ini_Math) (hts _ k_code_Math_min) (Nat.le_of_ble_eq_true rfl) (Nat.le_of_ble_eq_true rfl) (Nat.zero_le _) (Nat.zero_le _) (by omega) (by omega) (by omega) d_Whole_setDifferenceOfSizes_9 ?_
  refine lv_istore_n (lv' := [(3, .int (nI lenb)), (0, .ref h0), (1, .ref h0b), (2, .ref h0)]) hx hb d_Whole_setDifferenceOfSizes_12 rfl hl (by decide) rfl (fun ls hl => ?_)
  refine lv_lconst (v := lN 0) hx hb d_Whole_setDifferenceOfSizes_13 rfl ?_
  rw [show lN 0 = lZ (-((0 : Nat) : Int)) from rfl]
  refine lv_lstore (lv' := [(4, .long (lZ (-((0 : Nat) : Int)))), (3, .int (nI lenb)), (0, .ref h0), (1, .ref h0b), (2, .ref h0)]) hx hb d_Whole_setDifferenceOfSizes_14 hl (by decide) rfl (fun ls hl => ?_)
  refine lv_iconst (v := nI 0) hx hb d_Whole_setDifferenceOfSizes_16 rfl ?_
  refine lv_istore (lv' := [(6, .int (nI 0)), (4, .long (lZ (-((0 : Nat) : Int)))), (3, .int (nI lenb)), (0, .ref h0), (1, .ref h0b), (2, .ref h0)]) hx hb d_Whole_setDifferenceOfSizes_17 hl (by decide) rfl (fun ls hl => ?_)
  have loop : ∀ (n : Nat) (i b : Nat) (F : Nat → Nat), (i ≤ lenb) → (b ≤ 1) → (∀ j, F j < 2147483648) → (∀ j, i ≤ j → F j = f j) → (lb_v F i + lb_v (lb_at f len) i = lb_v fb i + b * lb_p i) → (lenb + 1 ≤ i + n) → ∀ (H : Heap) (locs : List Loc), va_P (dC, dI) classes ([(h0, .inr (1, [.ref q0, .int (nI len), .int sg])), (q0, .inl (cA, cap, .inl (xn_f F))), (h0b, .inr (1, [.ref q0b, .int (nI lenb), .int sgb])), (q0b, .inl (cA, capb, .inl (xn_f fb)))]) H → va_D A ([(h0, .inr (1, [.ref q0, .int (nI len), .int sg])), (q0, .inl (cA, cap, .inl (xn_f F))), (h0b, .inr (1, [.ref q0b, .int (nI lenb), .int sgb])), (q0b, .inl (cA, capb, .inl (xn_f fb)))]) → va_S A s.heap H locs → ∀ (ls : Array Slot), lv_has ls 9 [(6, .int (nI i)), (4, .long (lZ (-(b : Int)))), (3, .int (nI lenb)), (0, .ref h0), (1, .ref h0b), (2, .ref h0)] → W p l e (headSpec w_Whole_setDifferenceOfSizes ({ frames := 1, cells := 0, slots := 0, locals := 22 })).room s m ([.ref h0, .ref h0b, .ref h0] : List Value).toArray below meth c H locs 0 0 (MQ below (va_Qv (S := (Nat → Nat) × Nat × Int32) (fun u => lb_n cap u.1 u.2.1 ∧ lb_v u.1 u.2.1 = lb_v fb lenb - lb_v f len ∧ u.2.2 = (if u.2.1 = 0 then 0 else sg)) (fun u t => va_P (dC, dI) classes ((fun u => [(h0, .inr (1, [.ref q0, .int (nI u.2.1), .int u.2.2])), (q0, .inl (cA, cap, .inl (xn_f u.1))), (h0b, .inr (1, [.ref q0b, .int (nI lenb), .int sgb])), (q0b, .inl (cA, capb, .inl (xn_f fb)))]) u) t.heap) A) ([.ref h0, .ref h0b, .ref h0] : List Value).toArray s 0 0 A) (F0 m 19 ls []) := by
    intro n
    induction n with
    | zero => intro i b F hi hb1 hF hFk hinv hn; exact absurd hn (by omega)
    | succ n ih =>
      intro i b F hi hb1 hF hFk hinv hn H locs hP hD hS ls hl
      refine lv_iload hx hb d_Whole_setDifferenceOfSizes_19 (lv_at hl 0 rfl) ?_
      refine lv_iload_n hx hb d_Whole_setDifferenceOfSizes_21 rfl (lv_at hl 2 rfl) ?_
      refine xn_icmp_ge (tgt := 73) hx hb (by omega) (by omega) d_Whole_setDifferenceOfSizes_22 (by decide) (fun hge => ?_) (fun hge => ?_)
      · have hie : lenb = i := by omega
        subst hie
        have hend := lb_sub_end (f := fb) (F := F) (g := lb_at f len) hF (by rw [lb_at_v f hls]; exact hle) hinv hb1
        rw [lb_at_v f hls] at hend
        refine lv_aload_n hx hb d_Whole_setDifferenceOfSizes_73 rfl (lv_at hl 3 rfl) ?_
        refine lv_iload_n hx hb d_Whole_setDifferenceOfSizes_74 rfl (lv_at hl 2 rfl) ?_
        have hFc := va_free (wc := [(h0, .inr (1, [.ref q0, .int (nI len), .int sg])), (q0, .inl (cA, cap, .inl (xn_f F)))]) hD hS hA [0, 1] rfl
        refine va_callv (va_runV (As := [.int (nI lenb)]) (rest := []) ⟨hx, hb, hml, hown, hts⟩ (c_Whole_trim l dC dI H.size cA h0 q0 cap len F sg lenb hcap hF hfit) (cwV 1 hts (gw_V k_ml_Whole_56 k_im_Whole_trim k_sel_Whole_trim k_ini_Whole k_code_Whole_trim) rfl rfl rfl (by decide +kernel) ⟨Nat.le_of_ble_eq_true rfl, Nat.le_of_ble_eq_true rfl⟩) ⟨xc_W_blind, va_recv hK hP (ci := 1) (q0 := 0) rfl rfl, fun U hU hW => ⟨rfl, by rw [hU], by rw [hU]; exact hP.sub (ws' := [(h0, .inr (1, [.ref q0, .int (nI len), .int sg])), (q0, .inl (cA, cap, .inl (xn_f F)))]) [0, 1] rfl, va_K.moved hW.alike (hK.sub (tys' := [(cA, .int)]) [0] rfl), (hD.sub (ws' := [(h0, .inr (1, [.ref q0, .int (nI len), .int sg])), (q0, .inl (cA, cap, .inl (xn_f F)))]) [0, 1] (by decide) rfl).weaken (fun _ _ _ _ => trivial)⟩⟩ rfl rfl hl.1 rfl (lv_room (Nat.le_of_ble_eq_true rfl)) d_Whole_setDifferenceOfSizes_75 ⟨Nat.zero_le _, Nat.zero_le _⟩) hS (fun q _ h => hFc q h) hFc (fun u t_ H locs ht_ hvm_ hw hB hz1 hk1 hS => ?_)
        obtain ⟨len2, sg2⟩ := u
        rw [ht_] at hB
        obtain ⟨hP, hD⟩ := xj_2 0 1 hP hD rfl rfl hk1 hB
        have hP : va_P (dC, dI) classes ([(h0, .inr (1, [.ref q0, .int (nI len2), .int sg2])), (q0, .inl (cA, cap, .inl (xn_f F))), (h0b, .inr (1, [.ref q0b, .int (nI lenb), .int sgb])), (q0b, .inl (cA, capb, .inl (xn_f fb)))]) H := hP
        have hD : va_D A ([(h0, .inr (1, [.ref q0, .int (nI len2), .int sg2])), (q0, .inl (cA, cap, .inl (xn_f F))), (h0b, .inr (1, [.ref q0b, .int (nI lenb), .int sgb])), (q0b, .inl (cA, capb, .inl (xn_f fb)))]) := hD
        dsimp only at hw
        exact W.vret hx hb hr (fun T_ ht_ hW_ => ⟨⟨(F, len2, sg2), rfl, ⟨⟨Nat.le_trans hw.1 hfit, hF, hw.2.2.1⟩, by rw [hw.2.1]; exact hend, hw.2.2.2⟩, by show va_P (dC, dI) classes _ T_.heap; rw [ht_]; exact hP⟩, hS.F ht_⟩) hS.2.2 d_Whole_setDifferenceOfSizes_78
      refine lv_aload_n hx hb d_Whole_setDifferenceOfSizes_25 rfl (lv_at hl 4 rfl) ?_
      refine va_get (D := (dC, dI)) (ci := 1) (v := .ref q0b) (C := R_Whole) (T := F_Whole) (N := 3) hx hb hts i_Whole hown hK hP 2 rfl rfl 0 (by decide) (hts _ k_fl_Whole_18) (fun _ h9 => h9) rfl d_Whole_setDifferenceOfSizes_26 ?_
      refine lv_iload hx hb d_Whole_setDifferenceOfSizes_29 (lv_at hl 0 rfl) ?_
      refine xn_iald hx hb hK hP 3 0 rfl rfl (i := i) (by omega) (by omega) d_Whole_setDifferenceOfSizes_31 ?_
      obtain ⟨x, ex⟩ : ∃ x, x = fb i := ⟨_, rfl⟩
      rw [← ex]
      have hx1 : x < 2147483648 := by rw [ex]; exact hfb i
      refine xn_i2l hx hb (by omega) d_Whole_setDifferenceOfSizes_32 ?_
      refine lv_aload_n hx hb d_Whole_setDifferenceOfSizes_33 rfl (lv_at hl 5 rfl) ?_
      refine lv_iload hx hb d_Whole_setDifferenceOfSizes_34 (lv_at hl 0 rfl) ?_
      refine vp_callSi (W.runV (As := [.int (nI i)]) (rest := [.long (lN x)]) ⟨hx, hb, hml, hown, hts⟩ (c_Whole_limbAt l dC dI cA h0 q0 cap len F sg i hcap hlen (by omega)) (cwV 1 hts (gw_V k_ml_Whole_74 k_im_Whole_limbAt k_sel_Whole_limbAt k_ini_Whole k_code_Whole_limbAt) rfl rfl rfl (by decide +kernel) ⟨Nat.le_of_ble_eq_true rfl, Nat.le_of_ble_eq_true rfl⟩) ⟨xc_R_blind, va_recv hK hP (ci := 1) (q0 := 0) rfl rfl, fun U hU hW => ⟨rfl, by rw [hU]; exact hP.sub (ws' := [(h0, .inr (1, [.ref q0, .int (nI len), .int sg])), (q0, .inl (cA, cap, .inl (xn_f F)))]) [0, 1] rfl, va_K.moved hW.alike (hK.sub (tys' := [(cA, .int)]) [0] rfl)⟩⟩ rfl rfl hl.1 rfl (lv_room (Nat.le_of_ble_eq_true rfl)) d_Whole_setDifferenceOfSizes_36 ⟨Nat.zero_le _, Nat.zero_le _⟩) (fun r_ e_r => ?_)
      subst e_r
      obtain ⟨y, ey⟩ : ∃ y, y = (if i < len then F i else 0) := ⟨_, rfl⟩
      rw [← ey]
      have hy1 : y = lb_at f len i := by rw [ey, hFk i (Nat.le_refl i)]; rfl
      have hy2 : y < 2147483648 := by rw [hy1]; exact lb_at_lt _ hf i
      refine xn_i2l hx hb (by omega) d_Whole_setDifferenceOfSizes_39 ?_
      obtain ⟨z, ez⟩ : ∃ z : Int, z = (x : Int) - y + -(b : Int) := ⟨_, rfl⟩
      refine xe_lsub (v := lZ ((x : Int) - (y : Int))) hx hb d_Whole_setDifferenceOfSizes_40 (by rw [lZ_N, lZ_N, lZ_sub]) ?_
      refine lv_lload hx hb d_Whole_setDifferenceOfSizes_41 (lv_at hl 1 rfl) ?_
      refine xe_ladd (v := lZ z) hx hb d_Whole_setDifferenceOfSizes_43 (by rw [lZ_add, ez]) ?_
      refine lv_lstore (lv' := [(7, .long (lZ z)), (6, .int (nI i)), (4, .long (lZ (-(b : Int)))), (3, .int (nI lenb)), (0, .ref h0), (1, .ref h0b), (2, .ref h0)]) hx hb d_Whole_setDifferenceOfSizes_44 hl (by decide) rfl (fun ls hl => ?_)
      refine lv_aload_n hx hb d_Whole_setDifferenceOfSizes_46 rfl (lv_at hl 4 rfl) ?_
      refine va_get (D := (dC, dI)) (ci := 1) (v := .ref q0) (C := R_Whole) (T := F_Whole) (N := 3) hx hb hts i_Whole hown hK hP 0 rfl rfl 0 (by decide) (hts _ k_fl_Whole_18) (fun _ h9 => h9) rfl d_Whole_setDifferenceOfSizes_47 ?_
      refine lv_iload hx hb d_Whole_setDifferenceOfSizes_50 (lv_at hl 1 rfl) ?_
      refine lv_lload hx hb d_Whole_setDifferenceOfSizes_52 (lv_at hl 0 rfl) ?_
      refine lv_ldc2 (v := lN 2147483647) hx hb hown (hts _ k_ldc_Whole_28) d_Whole_setDifferenceOfSizes_54 ?_
      obtain ⟨w, ew⟩ : ∃ w, w = (z % 2147483648).toNat := ⟨_, rfl⟩
      refine xe_land (v := lN w) hx hb d_Whole_setDifferenceOfSizes_57 (by rw [lZ_and, ew]) ?_
      refine xn_l2i hx hb d_Whole_setDifferenceOfSizes_58 ?_
      refine xn_iast hx hb hK hP hD hS 1 0 rfl rfl (i := i) (x := w) (by omega) (by omega) d_Whole_setDifferenceOfSizes_59 (fun H locs hP hD hS => ?_)
      have hP : va_P (dC, dI) classes ([(h0, .inr (1, [.ref q0, .int (nI len), .int sg])), (q0, .inl (cA, cap, .inl (xn_f (va_up F i w)))), (h0b, .inr (1, [.ref q0b, .int (nI lenb), .int sgb])), (q0b, .inl (cA, capb, .inl (xn_f fb)))]) H := hP
      have hD : va_D A ([(h0, .inr (1, [.ref q0, .int (nI len), .int sg])), (q0, .inl (cA, cap, .inl (xn_f (va_up F i w)))), (h0b, .inr (1, [.ref q0b, .int (nI lenb), .int sgb])), (q0b, .inl (cA, capb, .inl (xn_f fb)))]) := hD
      refine lv_lload hx hb d_Whole_setDifferenceOfSizes_60 (lv_at hl 0 rfl) ?_
      refine lv_bipush (v := nI 31) hx hb d_Whole_setDifferenceOfSizes_62 rfl ?_
      obtain ⟨b', eb'⟩ : ∃ b' : Nat, b' = (if z < 0 then 1 else 0) := ⟨_, rfl⟩
      have hb'1 : b' ≤ 1 := by rw [eb']; split <;> omega
      have hzb : z / 2147483648 = -(b' : Int) := by rw [eb']; split <;> omega
      have hw1 : w < 2147483648 := by omega
      have hkey : w + y + b = x + b' * 2147483648 := by omega
      refine lv_lshr (v := lZ (-(b' : Int))) hx hb d_Whole_setDifferenceOfSizes_64 (by rw [lZ_shr (by omega) (by omega), hzb]) ?_
      refine lv_lstore (lv' := [(4, .long (lZ (-(b' : Int)))), (7, .long (lZ z)), (6, .int (nI i)), (3, .int (nI lenb)), (0, .ref h0), (1, .ref h0b), (2, .ref h0)]) hx hb d_Whole_setDifferenceOfSizes_65 hl (by decide) rfl (fun ls hl => ?_)
      refine lv_iinc (v := nI (i + 1)) (lv' := [(6, .int (nI (i + 1))), (4, .long (lZ (-(b' : Int)))), (7, .long (lZ z)), (3, .int (nI lenb)), (0, .ref h0), (1, .ref h0b), (2, .ref h0)]) hx hb d_Whole_setDifferenceOfSizes_67 hl (k := 2) rfl (nI_1 _) (by decide) rfl (fun ls hl => ?_)
      refine lv_goto (tgt := 19) hx hb d_Whole_setDifferenceOfSizes_70 (by decide) ?_
      exact ih (i + 1) b' (va_up F i w) (by omega) hb'1 (fun j => by by_cases q : j = i <;> simp [va_up, q, hw1, hF]) (fun j hj => by rw [va_up_ne F w (show j ≠ i by omega)]; exact hFk j (by omega)) (by
                rw [lb_v1, lb_v1, lb_v1, lb_up_ge F i w (Nat.le_refl i), va_up_self, lb_p1, ← hy1]
                have hxb : x = fb i := by rw [ex]
                rw [← hxb]
                exact lb_step hkey hinv) (by omega) H locs hP hD hS ls (lv_sub hl [0, 1, 3, 4, 5, 6] rfl)
  exact loop (lenb + 1) 0 0 f (Nat.zero_le _) (Nat.zero_le _) hf (fun j _ => rfl) (by simp [lb_v]) (by omega) s.heap [] hP hD hS ls (lv_sub hl [0, 1, 2, 3, 4, 5] rfl)
