set_option maxHeartbeats 4000000 in
set_option maxRecDepth 100000 in
/-- addMultiple -/
theorem c_Whole_addMultiple (l : Launch) (dC : Nat → ClassId) (dI : Nat → Nat → Nat) (sz : Nat) (cA : ClassId) (h0 q0 : Nat) (cap len : Nat) (f : Nat → Nat) (sg : Int32) (h0b q0b : Nat) (capb lenb : Nat) (fb : Nat → Nat) (sgb : Int32) (a mv : Nat) (hcap : cap ≤ 64) (hcapb : capb ≤ 64) (ha : a < 2147483648) (hf : ∀ i, f i < 2147483648) (hfb : ∀ i, fb i < 2147483648) (hlenb : lenb ≤ capb) (hfit : mv + lenb < cap) (hz : f (mv + lenb) = 0) : Met l y_Whole_addMultiple w_Whole_addMultiple ({ frames := 1, cells := 0, slots := 0, locals := 21 }) (xc_W [.ref h0, .int (nI a), .ref h0b, .int (nI mv)] dC dI ([(h0, .inr (1, [.ref q0, .int (nI len), .int sg])), (q0, .inl (cA, cap, .inl (xn_f f))), (h0b, .inr (1, [.ref q0b, .int (nI lenb), .int sgb])), (q0b, .inl (cA, capb, .inl (xn_f fb)))]) [(cA, .int)] sz) (va_Qv (S := Nat → Nat) (fun u => (∀ i, u i < 2147483648) ∧ lb_v u (mv + lenb + 1) = lb_v f (mv + lenb + 1) + a * lb_v fb lenb * lb_p mv ∧ (∀ j, mv + lenb < j → u j = f j)) (fun u t => va_P (dC, dI) classes ((fun u => [(h0, .inr (1, [.ref q0, .int (nI len), .int sg])), (q0, .inl (cA, cap, .inl (xn_f u))), (h0b, .inr (1, [.ref q0b, .int (nI lenb), .int sgb])), (q0b, .inl (cA, capb, .inl (xn_f fb)))]) u) t.heap) (va_A ([(h0, .inr (1, [.ref q0, .int (nI len), .int sg])), (q0, .inl (cA, cap, .inl (xn_f f))), (h0b, .inr (1, [.ref q0b, .int (nI lenb), .int sgb])), (q0b, .inl (cA, capb, .inl (xn_f fb)))]) sz)) 0 0 (va_A ([(h0, .inr (1, [.ref q0, .int (nI len), .int sg])), (q0, .inl (cA, cap, .inl (xn_f f))), (h0b, .inr (1, [.ref q0b, .int (nI lenb), .int sgb])), (q0b, .inl (cA, capb, .inl (xn_f fb)))]) sz) := by
  refine Met.ofW (cc := b_Whole_addMultiple) (maxL := 12) (ret := none) (by decide) rfl ?_
  intro p e s m args below meth c s₁ B hml hv
  obtain ⟨rfl, hsz, hP, hK, hD0⟩ := hv
  have hx := B.exec
  have hb := B.bytes
  have hr := B.returns
  have hts : ∀ w ∈ gw_tbl, w.before ([.ref h0, .int (nI a), .ref h0b, .int (nI mv)] : List Value).toArray s = true := fun w h => atoms_spec (ws := w_Whole_addMultiple) B.pre w (List.mem_cons_of_mem _ h)
  have hown : s.vm.findClass R_Whole = some m.cls := findClass_of_methodNamed B.named
  have hlocks := B.notSynchronized
  subst hsz
  have hD := hD0.self (sz := s.heap.size)
  generalize hAe : va_A ([(h0, .inr (1, [.ref q0, .int (nI len), .int sg])), (q0, .inl (cA, cap, .inl (xn_f f))), (h0b, .inr (1, [.ref q0b, .int (nI lenb), .int sgb])), (q0b, .inl (cA, capb, .inl (xn_f fb)))]) s.heap.size = A at hD ⊢
  have hA : ∀ q : Nat, s.heap.size ≤ q → A q := fun q h => by rw [← hAe]; exact Or.inr h
  have hS : va_S A s.heap s.heap [] := va_S.rf
  have hl := lv_entry ([.ref h0, .int (nI a), .ref h0b, .int (nI mv)]) (n := 12) (Nat.le_of_ble_eq_true rfl)
  rw [lg_entry_eq]
  generalize (lg_sl ([.ref h0, .int (nI a), .ref h0b, .int (nI mv)]) ++ List.replicate (12 - (lg_sl ([.ref h0, .int (nI a), .ref h0b, .int (nI mv)])).length) Slot.unset).toArray = ls at hl ⊢
  have hl : lv_has ls 12 [(0, .ref h0), (1, .int (nI a)), (2, .ref h0b), (3, .int (nI mv))] := hl
  refine lv_iload_n hx hb d_Whole_addMultiple_0 rfl (lv_at hl 1 rfl) ?_
  refine xn_i2l hx hb (by omega) d_Whole_addMultiple_1 ?_
  refine lv_lstore (lv' := [(4, .long (lN a)), (0, .ref h0), (1, .int (nI a)), (2, .ref h0b), (3, .int (nI mv))]) hx hb d_Whole_addMultiple_2 hl (by decide) rfl (fun ls hl => ?_)
  refine lv_lconst (v := lN 0) hx hb d_Whole_addMultiple_4 rfl ?_
  refine lv_lstore (lv' := [(6, .long (lN 0)), (4, .long (lN a)), (0, .ref h0), (1, .int (nI a)), (2, .ref h0b), (3, .int (nI mv))]) hx hb d_Whole_addMultiple_5 hl (by decide) rfl (fun ls hl => ?_)
  refine lv_aload_n hx hb d_Whole_addMultiple_7 rfl (lv_at hl 4 rfl) ?_
  refine va_get (D := (dC, dI)) (ci := 1) (v := .int (nI lenb)) (C := R_Whole) (T := F_Whole) (N := 3) hx hb hts i_Whole hown hK hP 2 rfl rfl 1 (by decide) (hts _ k_fl_Whole_9) (fun _ h9 => h9) rfl d_Whole_addMultiple_8 ?_
  refine lv_aload_n hx hb d_Whole_addMultiple_11 rfl (lv_at hl 2 rfl) ?_
  refine va_get (D := (dC, dI)) (ci := 1) (v := .ref q0) (C := R_Whole) (T := F_Whole) (N := 3) hx hb hts i_Whole hown hK hP 0 rfl rfl 0 (by decide) (hts _ k_fl_Whole_18) (fun _ h9 => h9) rfl d_Whole_addMultiple_12 ?_
  refine va_alen (v := nI cap) hx hb hK hP 1 0 rfl rfl rfl d_Whole_addMultiple_15 ?_
  refine lv_iload_n hx hb d_Whole_addMultiple_16 rfl (lv_at hl 5 rfl) ?_
  refine xn_isub hx hb (by omega) d_Whole_addMultiple_17 ?_
  refine xn_mmin (v := lenb) hx hb (by rw [hml]; exact hl.1.symm) hown (hts _ k_ml_Whole_30) (hts _ k_st_Math_min) (hts _ k_ini_Math) (hts _ k_code_Math_min) (Nat.le_of_ble_eq_true rfl) (Nat.le_of_ble_eq_true rfl) (Nat.zero_le _) (Nat.zero_le _) (by omega) (by omega) (by omega) d_Whole_addMultiple_18 ?_
  refine lv_istore (lv' := [(8, .int (nI lenb)), (6, .long (lN 0)), (4, .long (lN a)), (0, .ref h0), (1, .int (nI a)), (2, .ref h0b), (3, .int (nI mv))]) hx hb d_Whole_addMultiple_21 hl (by decide) rfl (fun ls hl => ?_)
  refine lv_iconst (v := nI 0) hx hb d_Whole_addMultiple_23 rfl ?_
  refine lv_istore (lv' := [(9, .int (nI 0)), (8, .int (nI lenb)), (6, .long (lN 0)), (4, .long (lN a)), (0, .ref h0), (1, .int (nI a)), (2, .ref h0b), (3, .int (nI mv))]) hx hb d_Whole_addMultiple_24 hl (by decide) rfl (fun ls hl => ?_)
  have loop : ∀ (n : Nat) (j cy : Nat) (F : Nat → Nat), (j ≤ lenb) → (cy < 2147483648) → (∀ k, F k < 2147483648) → (∀ k, mv + j ≤ k → F k = f k) → (lb_v F (mv + lenb + 1) + cy * (lb_p mv * lb_p j) = lb_v f (mv + lenb + 1) + a * lb_v fb j * lb_p mv) → (lenb + 1 ≤ j + n) → ∀ (H : Heap) (locs : List Loc), va_P (dC, dI) classes ([(h0, .inr (1, [.ref q0, .int (nI len), .int sg])), (q0, .inl (cA, cap, .inl (xn_f F))), (h0b, .inr (1, [.ref q0b, .int (nI lenb), .int sgb])), (q0b, .inl (cA, capb, .inl (xn_f fb)))]) H → va_D A ([(h0, .inr (1, [.ref q0, .int (nI len), .int sg])), (q0, .inl (cA, cap, .inl (xn_f F))), (h0b, .inr (1, [.ref q0b, .int (nI lenb), .int sgb])), (q0b, .inl (cA, capb, .inl (xn_f fb)))]) → va_S A s.heap H locs → ∀ (ls : Array Slot), lv_has ls 12 [(9, .int (nI j)), (8, .int (nI lenb)), (6, .long (lN cy)), (4, .long (lN a)), (0, .ref h0), (1, .int (nI a)), (2, .ref h0b), (3, .int (nI mv))] → W p l e (headSpec w_Whole_addMultiple ({ frames := 1, cells := 0, slots := 0, locals := 21 })).room s m ([.ref h0, .int (nI a), .ref h0b, .int (nI mv)] : List Value).toArray below meth c H locs 0 0 (MQ below (va_Qv (S := Nat → Nat) (fun u => (∀ i, u i < 2147483648) ∧ lb_v u (mv + lenb + 1) = lb_v f (mv + lenb + 1) + a * lb_v fb lenb * lb_p mv ∧ (∀ j, mv + lenb < j → u j = f j)) (fun u t => va_P (dC, dI) classes ((fun u => [(h0, .inr (1, [.ref q0, .int (nI len), .int sg])), (q0, .inl (cA, cap, .inl (xn_f u))), (h0b, .inr (1, [.ref q0b, .int (nI lenb), .int sgb])), (q0b, .inl (cA, capb, .inl (xn_f fb)))]) u) t.heap) A) ([.ref h0, .int (nI a), .ref h0b, .int (nI mv)] : List Value).toArray s 0 0 A) (F0 m 26 ls []) := by
    intro n
    induction n with
    | zero => intro j cy F hj hc hF hFk hinv hn; exact absurd hn (by omega)
    | succ n ih =>
      intro j cy F hj hc hF hFk hinv hn H locs hP hD hS ls hl
      refine lv_iload hx hb d_Whole_addMultiple_26 (lv_at hl 0 rfl) ?_
      refine lv_iload hx hb d_Whole_addMultiple_28 (lv_at hl 1 rfl) ?_
      refine xn_icmp_ge (tgt := 89) hx hb (by omega) (by omega) d_Whole_addMultiple_30 (by decide) (fun hge => ?_) (fun hge => ?_)
      · have hje : lenb = j := by omega
        subst hje
        refine lv_iload_n hx hb d_Whole_addMultiple_89 rfl (lv_at hl 7 rfl) ?_
        refine lv_iload hx hb d_Whole_addMultiple_90 (lv_at hl 1 rfl) ?_
        refine xn_iadd hx hb d_Whole_addMultiple_92 ?_
        refine lv_aload_n hx hb d_Whole_addMultiple_93 rfl (lv_at hl 4 rfl) ?_
        refine va_get (D := (dC, dI)) (ci := 1) (v := .ref q0) (C := R_Whole) (T := F_Whole) (N := 3) hx hb hts i_Whole hown hK hP 0 rfl rfl 0 (by decide) (hts _ k_fl_Whole_18) (fun _ h9 => h9) rfl d_Whole_addMultiple_94 ?_
        refine va_alen (v := nI cap) hx hb hK hP 1 0 rfl rfl rfl d_Whole_addMultiple_97 ?_
        refine xn_icmp_ge (tgt := 113) hx hb (by omega) (by omega) d_Whole_addMultiple_98 (by decide) (fun hge2 => ?_) (fun hge2 => ?_)
        · exact absurd hge2 (by omega)
        refine lv_aload_n hx hb d_Whole_addMultiple_101 rfl (lv_at hl 4 rfl) ?_
        refine va_get (D := (dC, dI)) (ci := 1) (v := .ref q0) (C := R_Whole) (T := F_Whole) (N := 3) hx hb hts i_Whole hown hK hP 0 rfl rfl 0 (by decide) (hts _ k_fl_Whole_18) (fun _ h9 => h9) rfl d_Whole_addMultiple_102 ?_
        refine lv_iload_n hx hb d_Whole_addMultiple_105 rfl (lv_at hl 7 rfl) ?_
        refine lv_iload hx hb d_Whole_addMultiple_106 (lv_at hl 1 rfl) ?_
        refine xn_iadd hx hb d_Whole_addMultiple_108 ?_
        refine lv_lload hx hb d_Whole_addMultiple_109 (lv_at hl 2 rfl) ?_
        refine xn_l2i hx hb d_Whole_addMultiple_111 ?_
        refine xn_iast hx hb hK hP hD hS 1 0 rfl rfl (i := mv + lenb) (x := cy) (by omega) (by omega) d_Whole_addMultiple_112 (fun H locs hP hD hS => ?_)
        have hP : va_P (dC, dI) classes ([(h0, .inr (1, [.ref q0, .int (nI len), .int sg])), (q0, .inl (cA, cap, .inl (xn_f (va_up F (mv + lenb) cy)))), (h0b, .inr (1, [.ref q0b, .int (nI lenb), .int sgb])), (q0b, .inl (cA, capb, .inl (xn_f fb)))]) H := hP
        have hD : va_D A ([(h0, .inr (1, [.ref q0, .int (nI len), .int sg])), (q0, .inl (cA, cap, .inl (xn_f (va_up F (mv + lenb) cy)))), (h0b, .inr (1, [.ref q0b, .int (nI lenb), .int sgb])), (q0b, .inl (cA, capb, .inl (xn_f fb)))]) := hD
        have hup := lb_up F (mv + lenb) cy (n := mv + lenb + 1) (by omega)
        rw [hFk (mv + lenb) (Nat.le_refl _), hz, lb_pa] at hup
        exact W.vret hx hb hr (fun T_ ht_ hW_ => ⟨⟨va_up F (mv + lenb) cy, rfl, ⟨fun i => by by_cases q : i = mv + lenb <;> simp [va_up, q, hc, hF], by omega, fun i hi => by rw [va_up_ne F cy (show i ≠ mv + lenb by omega)]; exact hFk i (by omega)⟩, by show va_P (dC, dI) classes _ T_.heap; rw [ht_]; exact hP⟩, hS.F ht_⟩) hS.2.2 d_Whole_addMultiple_113
      refine lv_lload hx hb d_Whole_addMultiple_33 (lv_at hl 3 rfl) ?_
      refine lv_aload_n hx hb d_Whole_addMultiple_35 rfl (lv_at hl 6 rfl) ?_
      refine va_get (D := (dC, dI)) (ci := 1) (v := .ref q0b) (C := R_Whole) (T := F_Whole) (N := 3) hx hb hts i_Whole hown hK hP 2 rfl rfl 0 (by decide) (hts _ k_fl_Whole_18) (fun _ h9 => h9) rfl d_Whole_addMultiple_36 ?_
      refine lv_iload hx hb d_Whole_addMultiple_39 (lv_at hl 0 rfl) ?_
      refine xn_iald hx hb hK hP 3 0 rfl rfl (i := j) (by omega) (by omega) d_Whole_addMultiple_41 ?_
      obtain ⟨o, eo⟩ : ∃ o, o = fb j := ⟨_, rfl⟩
      rw [← eo]
      have ho : o < 2147483648 := by rw [eo]; exact hfb j
      refine xn_i2l hx hb (by omega) d_Whole_addMultiple_42 ?_
      refine xn_lmul hx hb d_Whole_addMultiple_43 ?_
      refine lv_aload_n hx hb d_Whole_addMultiple_44 rfl (lv_at hl 4 rfl) ?_
      refine va_get (D := (dC, dI)) (ci := 1) (v := .ref q0) (C := R_Whole) (T := F_Whole) (N := 3) hx hb hts i_Whole hown hK hP 0 rfl rfl 0 (by decide) (hts _ k_fl_Whole_18) (fun _ h9 => h9) rfl d_Whole_addMultiple_45 ?_
      refine lv_iload_n hx hb d_Whole_addMultiple_48 rfl (lv_at hl 7 rfl) ?_
      refine lv_iload hx hb d_Whole_addMultiple_49 (lv_at hl 0 rfl) ?_
      refine xn_iadd hx hb d_Whole_addMultiple_51 ?_
      refine xn_iald hx hb hK hP 1 0 rfl rfl (i := mv + j) (by omega) (by omega) d_Whole_addMultiple_52 ?_
      obtain ⟨y, ey⟩ : ∃ y, y = F (mv + j) := ⟨_, rfl⟩
      rw [← ey]
      have hy : y < 2147483648 := by rw [ey]; exact hF _
      refine xn_i2l hx hb (by omega) d_Whole_addMultiple_53 ?_
      refine xn_ladd hx hb d_Whole_addMultiple_54 ?_
      refine lv_lload hx hb d_Whole_addMultiple_55 (lv_at hl 2 rfl) ?_
      refine xn_ladd hx hb d_Whole_addMultiple_57 ?_
      have hs := lb_mul_lt ha ho hy hc
      obtain ⟨s2, es2⟩ : ∃ s2, s2 = a * o + y + cy := ⟨_, rfl⟩
      rw [← es2] at hs ⊢
      refine lv_lstore (lv' := [(10, .long (lN s2)), (9, .int (nI j)), (8, .int (nI lenb)), (6, .long (lN cy)), (4, .long (lN a)), (0, .ref h0), (1, .int (nI a)), (2, .ref h0b), (3, .int (nI mv))]) hx hb d_Whole_addMultiple_58 hl (by decide) rfl (fun ls hl => ?_)
      refine lv_aload_n hx hb d_Whole_addMultiple_60 rfl (lv_at hl 5 rfl) ?_
      refine va_get (D := (dC, dI)) (ci := 1) (v := .ref q0) (C := R_Whole) (T := F_Whole) (N := 3) hx hb hts i_Whole hown hK hP 0 rfl rfl 0 (by decide) (hts _ k_fl_Whole_18) (fun _ h9 => h9) rfl d_Whole_addMultiple_61 ?_
      refine lv_iload_n hx hb d_Whole_addMultiple_64 rfl (lv_at hl 8 rfl) ?_
      refine lv_iload hx hb d_Whole_addMultiple_65 (lv_at hl 1 rfl) ?_
      refine xn_iadd hx hb d_Whole_addMultiple_67 ?_
      refine lv_lload hx hb d_Whole_addMultiple_68 (lv_at hl 0 rfl) ?_
      refine lv_ldc2 (v := lN 2147483647) hx hb hown (hts _ k_ldc_Whole_28) d_Whole_addMultiple_70 ?_
      refine xe_land (v := lN (s2 % 2147483648)) hx hb d_Whole_addMultiple_73 (lN_mask (by omega)) ?_
      refine xn_l2i hx hb d_Whole_addMultiple_74 ?_
      refine xn_iast hx hb hK hP hD hS 1 0 rfl rfl (i := mv + j) (x := s2 % 2147483648) (by omega) (by omega) d_Whole_addMultiple_75 (fun H locs hP hD hS => ?_)
      have hP : va_P (dC, dI) classes ([(h0, .inr (1, [.ref q0, .int (nI len), .int sg])), (q0, .inl (cA, cap, .inl (xn_f (va_up F (mv + j) (s2 % 2147483648))))), (h0b, .inr (1, [.ref q0b, .int (nI lenb), .int sgb])), (q0b, .inl (cA, capb, .inl (xn_f fb)))]) H := hP
      have hD : va_D A ([(h0, .inr (1, [.ref q0, .int (nI len), .int sg])), (q0, .inl (cA, cap, .inl (xn_f (va_up F (mv + j) (s2 % 2147483648))))), (h0b, .inr (1, [.ref q0b, .int (nI lenb), .int sgb])), (q0b, .inl (cA, capb, .inl (xn_f fb)))]) := hD
      refine lv_lload hx hb d_Whole_addMultiple_76 (lv_at hl 0 rfl) ?_
      refine lv_bipush (v := nI 31) hx hb d_Whole_addMultiple_78 rfl ?_
      refine lv_lushr (v := lN (s2 / 2147483648)) hx hb d_Whole_addMultiple_80 (lN_ush (by omega)) ?_
      refine lv_lstore (lv' := [(6, .long (lN (s2 / 2147483648))), (10, .long (lN s2)), (9, .int (nI j)), (8, .int (nI lenb)), (4, .long (lN a)), (0, .ref h0), (1, .int (nI a)), (2, .ref h0b), (3, .int (nI mv))]) hx hb d_Whole_addMultiple_81 hl (by decide) rfl (fun ls hl => ?_)
      refine lv_iinc (v := nI (j + 1)) (lv' := [(9, .int (nI (j + 1))), (6, .long (lN (s2 / 2147483648))), (10, .long (lN s2)), (8, .int (nI lenb)), (4, .long (lN a)), (0, .ref h0), (1, .int (nI a)), (2, .ref h0b), (3, .int (nI mv))]) hx hb d_Whole_addMultiple_83 hl (k := 2) rfl (nI_1 _) (by decide) rfl (fun ls hl => ?_)
      refine lv_goto (tgt := 26) hx hb d_Whole_addMultiple_86 (by decide) ?_
      have hup := lb_up F (mv + j) (s2 % 2147483648) (n := mv + lenb + 1) (by omega)
      rw [← ey, lb_pa] at hup
      have hst := lb_mul_step (c' := s2 / 2147483648) (x := s2 % 2147483648) (V := lb_v fb j) (o := o) (a := a) (s := s2) hup (by omega) es2 hinv
      exact ih (j + 1) (s2 / 2147483648) (va_up F (mv + j) (s2 % 2147483648)) (by omega) (by omega) (fun k => by by_cases q : k = mv + j <;> simp [va_up, q, hF, Nat.mod_lt]) (fun k hk => by rw [va_up_ne F _ (show k ≠ mv + j by omega)]; exact hFk k (by omega)) (by rw [lb_p1, lb_v1 fb j, ← eo, ← Nat.mul_assoc (lb_p mv)]; exact hst) (by omega) H locs hP hD hS ls (lv_sub hl [0, 3, 1, 4, 5, 6, 7, 8] rfl)
  exact loop (lenb + 1) 0 0 f (Nat.zero_le _) (by omega) hf (fun k _ => rfl) (by simp [lb_v]) (by omega) s.heap [] hP hD hS ls (lv_sub hl [0, 1, 2, 3, 4, 5, 6, 7] rfl)
set_option maxHeartbeats 4000000 in
set_option maxRecDepth 100000 in
/-- setProduct -/
theorem c_Whole_setProduct (l : Launch) (dC : Nat → ClassId) (dI : Nat → Nat → Nat) (sz : Nat) (cA : ClassId) (h0 q0 : Nat) (cap len : Nat) (f : Nat → Nat) (sg : Int32) (h0a q0a : Nat) (capa lena : Nat) (fa : Nat → Nat) (sga : Int32) (h0b q0b : Nat) (capb lenb : Nat) (fb : Nat → Nat) (sgb : Int32) (hcap : cap ≤ 64) (hcapa : capa ≤ 64) (hcapb : capb ≤ 64) (hf : ∀ i, f i < 2147483648) (hoa : wh_ok capa fa lena sga) (hob : wh_ok capb fb lenb sgb) (hfit : lena + lenb ≤ cap) : Met l y_Whole_setProduct w_Whole_setProduct ({ frames := 2, cells := 0, slots := 0, locals := 52 }) (xc_W [.ref h0, .ref h0a, .ref h0b] dC dI ([(h0, .inr (1, [.ref q0, .int (nI len), .int sg])), (q0, .inl (cA, cap, .inl (xn_f f))), (h0a, .inr (1, [.ref q0a, .int (nI lena), .int sga])), (q0a, .inl (cA, capa, .inl (xn_f fa))), (h0b, .inr (1, [.ref q0b, .int (nI lenb), .int sgb])), (q0b, .inl (cA, capb, .inl (xn_f fb)))]) [(cA, .int)] sz) (va_Qv (S := (Nat → Nat) × Nat × Int32) (fun u => wh_ok cap u.1 u.2.1 u.2.2 ∧ wh_z u.1 u.2.1 u.2.2 = wh_z fa lena sga * wh_z fb lenb sgb) (fun u t => va_P (dC, dI) classes ((fun u => [(h0, .inr (1, [.ref q0, .int (nI u.2.1), .int u.2.2])), (q0, .inl (cA, cap, .inl (xn_f u.1))), (h0a, .inr (1, [.ref q0a, .int (nI lena), .int sga])), (q0a, .inl (cA, capa, .inl (xn_f fa))), (h0b, .inr (1, [.ref q0b, .int (nI lenb), .int sgb])), (q0b, .inl (cA, capb, .inl (xn_f fb)))]) u) t.heap) (va_A ([(h0, .inr (1, [.ref q0, .int (nI len), .int sg])), (q0, .inl (cA, cap, .inl (xn_f f))), (h0a, .inr (1, [.ref q0a, .int (nI lena), .int sga])), (q0a, .inl (cA, capa, .inl (xn_f fa))), (h0b, .inr (1, [.ref q0b, .int (nI lenb), .int sgb])), (q0b, .inl (cA, capb, .inl (xn_f fb)))]) sz)) 0 0 (va_A ([(h0, .inr (1, [.ref q0, .int (nI len), .int sg])), (q0, .inl (cA, cap, .inl (xn_f f))), (h0a, .inr (1, [.ref q0a, .int (nI lena), .int sga])), (q0a, .inl (cA, capa, .inl (xn_f fa))), (h0b, .inr (1, [.ref q0b, .int (nI lenb), .int sgb])), (q0b, .inl (cA, capb, .inl (xn_f fb)))]) sz) := by
  refine Met.ofW (cc := b_Whole_setProduct) (maxL := 5) (ret := none) (by decide) rfl ?_
  intro p e s m args below meth c s₁ B hml hv
  obtain ⟨rfl, hsz, hP, hK, hD0⟩ := hv
  have hx := B.exec
  have hb := B.bytes
  have hr := B.returns
  have hts : ∀ w ∈ gw_tbl, w.before ([.ref h0, .ref h0a, .ref h0b] : List Value).toArray s = true := fun w h => atoms_spec (ws := w_Whole_setProduct) B.pre w (List.mem_cons_of_mem _ h)
  have hown : s.vm.findClass R_Whole = some m.cls := findClass_of_methodNamed B.named
  have hlocks := B.notSynchronized
  subst hsz
  have hD := hD0.self (sz := s.heap.size)
  generalize hAe : va_A ([(h0, .inr (1, [.ref q0, .int (nI len), .int sg])), (q0, .inl (cA, cap, .inl (xn_f f))), (h0a, .inr (1, [.ref q0a, .int (nI lena), .int sga])), (q0a, .inl (cA, capa, .inl (xn_f fa))), (h0b, .inr (1, [.ref q0b, .int (nI lenb), .int sgb])), (q0b, .inl (cA, capb, .inl (xn_f fb)))]) s.heap.size = A at hD ⊢
  have hA : ∀ q : Nat, s.heap.size ≤ q → A q := fun q h => by rw [← hAe]; exact Or.inr h
  have hS : va_S A s.heap s.heap [] := va_S.rf
  have hl := lv_entry ([.ref h0, .ref h0a, .ref h0b]) (n := 5) (Nat.le_of_ble_eq_true rfl)
  rw [lg_entry_eq]
  generalize (lg_sl ([.ref h0, .ref h0a, .ref h0b]) ++ List.replicate (5 - (lg_sl ([.ref h0, .ref h0a, .ref h0b])).length) Slot.unset).toArray = ls at hl ⊢
  have hl : lv_has ls 5 [(0, .ref h0), (1, .ref h0a), (2, .ref h0b)] := hl
  have hfa := hoa.2.1
  have hfb := hob.2.1
  have hlena := hoa.1
  have hlenb := hob.1
  refine lv_aload_n hx hb d_Whole_setProduct_0 rfl (lv_at hl 1 rfl) ?_
  refine va_get (D := (dC, dI)) (ci := 1) (v := .int (nI lena)) (C := R_Whole) (T := F_Whole) (N := 3) hx hb hts i_Whole hown hK hP 2 rfl rfl 1 (by decide) (hts _ k_fl_Whole_9) (fun _ h9 => h9) rfl d_Whole_setProduct_1 ?_
  refine lv_aload_n hx hb d_Whole_setProduct_4 rfl (lv_at hl 2 rfl) ?_
  refine va_get (D := (dC, dI)) (ci := 1) (v := .int (nI lenb)) (C := R_Whole) (T := F_Whole) (N := 3) hx hb hts i_Whole hown hK hP 4 rfl rfl 1 (by decide) (hts _ k_fl_Whole_9) (fun _ h9 => h9) rfl d_Whole_setProduct_5 ?_
  refine xn_iadd hx hb d_Whole_setProduct_8 ?_
  refine lv_aload_n hx hb d_Whole_setProduct_9 rfl (lv_at hl 0 rfl) ?_
  refine va_get (D := (dC, dI)) (ci := 1) (v := .ref q0) (C := R_Whole) (T := F_Whole) (N := 3) hx hb hts i_Whole hown hK hP 0 rfl rfl 0 (by decide) (hts _ k_fl_Whole_18) (fun _ h9 => h9) rfl d_Whole_setProduct_10 ?_
  refine va_alen (v := nI cap) hx hb hK hP 1 0 rfl rfl rfl d_Whole_setProduct_13 ?_
  refine xn_mmin (v := lena + lenb) hx hb (by rw [hml]; exact hl.1.symm) hown (hts _ k_ml_Whole_30) (hts _ k_st_Math_min) (hts _ k_ini_Math) (hts _ k_code_Math_min) (Nat.le_of_ble_eq_true rfl) (Nat.le_of_ble_eq_true rfl) (Nat.zero_le _) (Nat.zero_le _) (by omega) (by omega) (by omega) d_Whole_setProduct_14 ?_
  refine lv_istore_n (lv' := [(3, .int (nI (lena + lenb))), (0, .ref h0), (1, .ref h0a), (2, .ref h0b)]) hx hb d_Whole_setProduct_17 rfl hl (by decide) rfl (fun ls hl => ?_)
  refine lv_iconst (v := nI 0) hx hb d_Whole_setProduct_18 rfl ?_
  refine lv_istore (lv' := [(4, .int (nI 0)), (3, .int (nI (lena + lenb))), (0, .ref h0), (1, .ref h0a), (2, .ref h0b)]) hx hb d_Whole_setProduct_19 hl (by decide) rfl (fun ls hl => ?_)
  have tail : ∀ (F : Nat → Nat), (∀ i, F i < 2147483648) → (lb_v F (lena + lenb) = lb_v fa lena * lb_v fb lenb) → ∀ (H : Heap) (locs : List Loc), va_P (dC, dI) classes ([(h0, .inr (1, [.ref q0, .int (nI len), .int sg])), (q0, .inl (cA, cap, .inl (xn_f F))), (h0a, .inr (1, [.ref q0a, .int (nI lena), .int sga])), (q0a, .inl (cA, capa, .inl (xn_f fa))), (h0b, .inr (1, [.ref q0b, .int (nI lenb), .int sgb])), (q0b, .inl (cA, capb, .inl (xn_f fb)))]) H → va_D A ([(h0, .inr (1, [.ref q0, .int (nI len), .int sg])), (q0, .inl (cA, cap, .inl (xn_f F))), (h0a, .inr (1, [.ref q0a, .int (nI lena), .int sga])), (q0a, .inl (cA, capa, .inl (xn_f fa))), (h0b, .inr (1, [.ref q0b, .int (nI lenb), .int sgb])), (q0b, .inl (cA, capb, .inl (xn_f fb)))]) → va_S A s.heap H locs → ∀ (ls : Array Slot), lv_has ls 5 [(3, .int (nI (lena + lenb))), (0, .ref h0), (1, .ref h0a), (2, .ref h0b)] → W p l e (headSpec w_Whole_setProduct ({ frames := 2, cells := 0, slots := 0, locals := 52 })).room s m ([.ref h0, .ref h0a, .ref h0b] : List Value).toArray below meth c H locs 0 0 (MQ below (va_Qv (S := (Nat → Nat) × Nat × Int32) (fun u => wh_ok cap u.1 u.2.1 u.2.2 ∧ wh_z u.1 u.2.1 u.2.2 = wh_z fa lena sga * wh_z fb lenb sgb) (fun u t => va_P (dC, dI) classes ((fun u => [(h0, .inr (1, [.ref q0, .int (nI u.2.1), .int u.2.2])), (q0, .inl (cA, cap, .inl (xn_f u.1))), (h0a, .inr (1, [.ref q0a, .int (nI lena), .int sga])), (q0a, .inl (cA, capa, .inl (xn_f fa))), (h0b, .inr (1, [.ref q0b, .int (nI lenb), .int sgb])), (q0b, .inl (cA, capb, .inl (xn_f fb)))]) u) t.heap) A) ([.ref h0, .ref h0a, .ref h0b] : List Value).toArray s 0 0 A) (F0 m 73 ls []) := by
    intro F hF hv H locs hP hD hS ls hl
    refine lv_aload_n hx hb d_Whole_setProduct_73 rfl (lv_at hl 1 rfl) ?_
    refine lv_aload_n hx hb d_Whole_setProduct_74 rfl (lv_at hl 2 rfl) ?_
    refine va_get (D := (dC, dI)) (ci := 1) (v := .int sga) (C := R_Whole) (T := F_Whole) (N := 3) hx hb hts i_Whole hown hK hP 2 rfl rfl 2 (by decide) (hts _ k_fl_Whole_15) (fun _ h9 => h9) rfl d_Whole_setProduct_75 ?_
    refine lv_aload_n hx hb d_Whole_setProduct_78 rfl (lv_at hl 3 rfl) ?_
    refine va_get (D := (dC, dI)) (ci := 1) (v := .int sgb) (C := R_Whole) (T := F_Whole) (N := 3) hx hb hts i_Whole hown hK hP 4 rfl rfl 2 (by decide) (hts _ k_fl_Whole_15) (fun _ h9 => h9) rfl d_Whole_setProduct_79 ?_
    refine xe_imul (v := sga * sgb) hx hb d_Whole_setProduct_82 rfl ?_
    refine va_put (D := (dC, dI)) (ci := 1) (v := .int (sga * sgb)) (ty := .int) (C := R_Whole) (T := F_Whole) (N := 3) hx hb hts i_Whole t_Whole t_Whole_ok n_Whole hown hK hP hD hS 0 rfl rfl 2 (by decide) (hts _ k_fl_Whole_15) (fun _ h9 => h9) rfl (by decide +kernel) rfl rfl (Nat.le_of_ble_eq_true rfl) d_Whole_setProduct_83 (fun H locs hP hD hS => ?_)
    have hP : va_P (dC, dI) classes ([(h0, .inr (1, [.ref q0, .int (nI len), .int (sga * sgb)])), (q0, .inl (cA, cap, .inl (xn_f F))), (h0a, .inr (1, [.ref q0a, .int (nI lena), .int sga])), (q0a, .inl (cA, capa, .inl (xn_f fa))), (h0b, .inr (1, [.ref q0b, .int (nI lenb), .int sgb])), (q0b, .inl (cA, capb, .inl (xn_f fb)))]) H := hP
    have hD : va_D A ([(h0, .inr (1, [.ref q0, .int (nI len), .int (sga * sgb)])), (q0, .inl (cA, cap, .inl (xn_f F))), (h0a, .inr (1, [.ref q0a, .int (nI lena), .int sga])), (q0a, .inl (cA, capa, .inl (xn_f fa))), (h0b, .inr (1, [.ref q0b, .int (nI lenb), .int sgb])), (q0b, .inl (cA, capb, .inl (xn_f fb)))]) := hD
    refine lv_aload_n hx hb d_Whole_setProduct_86 rfl (lv_at hl 1 rfl) ?_
    refine lv_aload_n hx hb d_Whole_setProduct_87 rfl (lv_at hl 1 rfl) ?_
    refine va_get (D := (dC, dI)) (ci := 1) (v := .int (sga * sgb)) (C := R_Whole) (T := F_Whole) (N := 3) hx hb hts i_Whole hown hK hP 0 rfl rfl 2 (by decide) (hts _ k_fl_Whole_15) (fun _ h9 => h9) rfl d_Whole_setProduct_88 ?_
    refine lv_if_ne (tgt := 98) hx hb d_Whole_setProduct_91 (by decide) (fun hne => ?_) (fun hne => ?_)
    · refine lv_iload_n hx hb d_Whole_setProduct_98 rfl (lv_at hl 0 rfl) ?_
      have hFc := va_free (wc := [(h0, .inr (1, [.ref q0, .int (nI len), .int (sga * sgb)])), (q0, .inl (cA, cap, .inl (xn_f F)))]) hD hS hA [0, 1] rfl
      refine va_callv (va_runV (As := [.int (nI (lena + lenb))]) (rest := []) ⟨hx, hb, hml, hown, hts⟩ (c_Whole_trim l dC dI H.size cA h0 q0 cap len F (sga * sgb) (lena + lenb) hcap hF hfit) (cwV 1 hts (gw_V k_ml_Whole_56 k_im_Whole_trim k_sel_Whole_trim k_ini_Whole k_code_Whole_trim) rfl rfl rfl (by decide +kernel) ⟨Nat.le_of_ble_eq_true rfl, Nat.le_of_ble_eq_true rfl⟩) ⟨xc_W_blind, va_recv hK hP (ci := 1) (q0 := 0) rfl rfl, fun U hU hW => ⟨rfl, by rw [hU], by rw [hU]; exact hP.sub (ws' := [(h0, .inr (1, [.ref q0, .int (nI len), .int (sga * sgb)])), (q0, .inl (cA, cap, .inl (xn_f F)))]) [0, 1] rfl, va_K.moved hW.alike (hK.sub (tys' := [(cA, .int)]) [0] rfl), (hD.sub (ws' := [(h0, .inr (1, [.ref q0, .int (nI len), .int (sga * sgb)])), (q0, .inl (cA, cap, .inl (xn_f F)))]) [0, 1] (by decide) rfl).weaken (fun _ _ _ _ => trivial)⟩⟩ rfl rfl hl.1 rfl (lv_room (Nat.le_of_ble_eq_true rfl)) d_Whole_setProduct_99 ⟨Nat.zero_le _, Nat.zero_le _⟩) hS (fun q _ h => hFc q h) hFc (fun u t_ H locs ht_ hvm_ hw hB hz1 hk1 hS => ?_)
      obtain ⟨len2, sg2⟩ := u
      rw [ht_] at hB
      obtain ⟨hP, hD⟩ := xj_2 0 1 hP hD rfl rfl hk1 hB
      have hP : va_P (dC, dI) classes ([(h0, .inr (1, [.ref q0, .int (nI len2), .int sg2])), (q0, .inl (cA, cap, .inl (xn_f F))), (h0a, .inr (1, [.ref q0a, .int (nI lena), .int sga])), (q0a, .inl (cA, capa, .inl (xn_f fa))), (h0b, .inr (1, [.ref q0b, .int (nI lenb), .int sgb])), (q0b, .inl (cA, capb, .inl (xn_f fb)))]) H := hP
      have hD : va_D A ([(h0, .inr (1, [.ref q0, .int (nI len2), .int sg2])), (q0, .inl (cA, cap, .inl (xn_f F))), (h0a, .inr (1, [.ref q0a, .int (nI lena), .int sga])), (q0a, .inl (cA, capa, .inl (xn_f fa))), (h0b, .inr (1, [.ref q0b, .int (nI lenb), .int sgb])), (q0b, .inl (cA, capb, .inl (xn_f fb)))]) := hD
      dsimp only at hw
      exact W.vret hx hb hr (fun T_ ht_ hW_ => ⟨⟨(F, len2, sg2), rfl, wh_mulS hoa hob hF (Nat.le_trans hw.1 hfit) hw.2.2.1 hw.2.2.2 (fun _ => by rw [hw.2.1]; exact hv) (fun q => absurd q hne), by show va_P (dC, dI) classes _ T_.heap; rw [ht_]; exact hP⟩, hS.F ht_⟩) hS.2.2 d_Whole_setProduct_102
    refine lv_iconst (v := nI 0) hx hb d_Whole_setProduct_94 rfl ?_
    refine lv_goto (tgt := 99) hx hb d_Whole_setProduct_95 (by decide) ?_
    have hFc := va_free (wc := [(h0, .inr (1, [.ref q0, .int (nI len), .int (sga * sgb)])), (q0, .inl (cA, cap, .inl (xn_f F)))]) hD hS hA [0, 1] rfl
    refine va_callv (va_runV (As := [.int (nI 0)]) (rest := []) ⟨hx, hb, hml, hown, hts⟩ (c_Whole_trim l dC dI H.size cA h0 q0 cap len F (sga * sgb) 0 hcap hF (Nat.zero_le _)) (cwV 1 hts (gw_V k_ml_Whole_56 k_im_Whole_trim k_sel_Whole_trim k_ini_Whole k_code_Whole_trim) rfl rfl rfl (by decide +kernel) ⟨Nat.le_of_ble_eq_true rfl, Nat.le_of_ble_eq_true rfl⟩) ⟨xc_W_blind, va_recv hK hP (ci := 1) (q0 := 0) rfl rfl, fun U hU hW => ⟨rfl, by rw [hU], by rw [hU]; exact hP.sub (ws' := [(h0, .inr (1, [.ref q0, .int (nI len), .int (sga * sgb)])), (q0, .inl (cA, cap, .inl (xn_f F)))]) [0, 1] rfl, va_K.moved hW.alike (hK.sub (tys' := [(cA, .int)]) [0] rfl), (hD.sub (ws' := [(h0, .inr (1, [.ref q0, .int (nI len), .int (sga * sgb)])), (q0, .inl (cA, cap, .inl (xn_f F)))]) [0, 1] (by decide) rfl).weaken (fun _ _ _ _ => trivial)⟩⟩ rfl rfl hl.1 rfl (lv_room (Nat.le_of_ble_eq_true rfl)) d_Whole_setProduct_99 ⟨Nat.zero_le _, Nat.zero_le _⟩) hS (fun q _ h => hFc q h) hFc (fun u t_ H locs ht_ hvm_ hw hB hz1 hk1 hS => ?_)
    obtain ⟨len2, sg2⟩ := u
    rw [ht_] at hB
    obtain ⟨hP, hD⟩ := xj_2 0 1 hP hD rfl rfl hk1 hB
    have hP : va_P (dC, dI) classes ([(h0, .inr (1, [.ref q0, .int (nI len2), .int sg2])), (q0, .inl (cA, cap, .inl (xn_f F))), (h0a, .inr (1, [.ref q0a, .int (nI lena), .int sga])), (q0a, .inl (cA, capa, .inl (xn_f fa))), (h0b, .inr (1, [.ref q0b, .int (nI lenb), .int sgb])), (q0b, .inl (cA, capb, .inl (xn_f fb)))]) H := hP
    have hD : va_D A ([(h0, .inr (1, [.ref q0, .int (nI len2), .int sg2])), (q0, .inl (cA, cap, .inl (xn_f F))), (h0a, .inr (1, [.ref q0a, .int (nI lena), .int sga])), (q0a, .inl (cA, capa, .inl (xn_f fa))), (h0b, .inr (1, [.ref q0b, .int (nI lenb), .int sgb])), (q0b, .inl (cA, capb, .inl (xn_f fb)))]) := hD
    dsimp only at hw
    exact W.vret hx hb hr (fun T_ ht_ hW_ => ⟨⟨(F, len2, sg2), rfl, wh_mulS hoa hob hF (Nat.le_trans hw.1 (Nat.zero_le _)) hw.2.2.1 hw.2.2.2 (fun q => absurd hne q) (fun _ => Nat.le_zero.mp hw.1), by show va_P (dC, dI) classes _ T_.heap; rw [ht_]; exact hP⟩, hS.F ht_⟩) hS.2.2 d_Whole_setProduct_102
  have loop2 : ∀ (n : Nat) (i : Nat) (F : Nat → Nat), (i ≤ lena) → (∀ k, F k < 2147483648) → (lb_v F (i + lenb) = lb_v fa i * lb_v fb lenb) → (∀ j, i + lenb ≤ j → j < lena + lenb → F j = 0) → (lena + 1 ≤ i + n) → ∀ (H : Heap) (locs : List Loc), va_P (dC, dI) classes ([(h0, .inr (1, [.ref q0, .int (nI len), .int sg])), (q0, .inl (cA, cap, .inl (xn_f F))), (h0a, .inr (1, [.ref q0a, .int (nI lena), .int sga])), (q0a, .inl (cA, capa, .inl (xn_f fa))), (h0b, .inr (1, [.ref q0b, .int (nI lenb), .int sgb])), (q0b, .inl (cA, capb, .inl (xn_f fb)))]) H → va_D A ([(h0, .inr (1, [.ref q0, .int (nI len), .int sg])), (q0, .inl (cA, cap, .inl (xn_f F))), (h0a, .inr (1, [.ref q0a, .int (nI lena), .int sga])), (q0a, .inl (cA, capa, .inl (xn_f fa))), (h0b, .inr (1, [.ref q0b, .int (nI lenb), .int sgb])), (q0b, .inl (cA, capb, .inl (xn_f fb)))]) → va_S A s.heap H locs → ∀ (ls : Array Slot), lv_has ls 5 [(4, .int (nI i)), (3, .int (nI (lena + lenb))), (0, .ref h0), (1, .ref h0a), (2, .ref h0b)] → W p l e (headSpec w_Whole_setProduct ({ frames := 2, cells := 0, slots := 0, locals := 52 })).room s m ([.ref h0, .ref h0a, .ref h0b] : List Value).toArray below meth c H locs 0 0 (MQ below (va_Qv (S := (Nat → Nat) × Nat × Int32) (fun u => wh_ok cap u.1 u.2.1 u.2.2 ∧ wh_z u.1 u.2.1 u.2.2 = wh_z fa lena sga * wh_z fb lenb sgb) (fun u t => va_P (dC, dI) classes ((fun u => [(h0, .inr (1, [.ref q0, .int (nI u.2.1), .int u.2.2])), (q0, .inl (cA, cap, .inl (xn_f u.1))), (h0a, .inr (1, [.ref q0a, .int (nI lena), .int sga])), (q0a, .inl (cA, capa, .inl (xn_f fa))), (h0b, .inr (1, [.ref q0b, .int (nI lenb), .int sgb])), (q0b, .inl (cA, capb, .inl (xn_f fb)))]) u) t.heap) A) ([.ref h0, .ref h0a, .ref h0b] : List Value).toArray s 0 0 A) (F0 m 44 ls []) := by
    intro n
    induction n with
    | zero => intro i F hi hF hv hz hn; exact absurd hn (by omega)
    | succ n ih =>
      intro i F hi hF hv hz hn H locs hP hD hS ls hl
      refine lv_iload hx hb d_Whole_setProduct_44 (lv_at hl 0 rfl) ?_
      refine lv_aload_n hx hb d_Whole_setProduct_46 rfl (lv_at hl 3 rfl) ?_
      refine va_get (D := (dC, dI)) (ci := 1) (v := .int (nI lena)) (C := R_Whole) (T := F_Whole) (N := 3) hx hb hts i_Whole hown hK hP 2 rfl rfl 1 (by decide) (hts _ k_fl_Whole_9) (fun _ h9 => h9) rfl d_Whole_setProduct_47 ?_
      refine xn_icmp_ge (tgt := 73) hx hb (by omega) (by omega) d_Whole_setProduct_50 (by decide) (fun hge => ?_) (fun hge => ?_)
      · have hie : i = lena := by omega
        subst hie
        exact tail F hF hv H locs hP hD hS ls (lv_sub hl [1, 2, 3, 4] rfl)
      refine lv_aload_n hx hb d_Whole_setProduct_53 rfl (lv_at hl 2 rfl) ?_
      refine lv_aload_n hx hb d_Whole_setProduct_54 rfl (lv_at hl 3 rfl) ?_
      refine va_get (D := (dC, dI)) (ci := 1) (v := .ref q0a) (C := R_Whole) (T := F_Whole) (N := 3) hx hb hts i_Whole hown hK hP 2 rfl rfl 0 (by decide) (hts _ k_fl_Whole_18) (fun _ h9 => h9) rfl d_Whole_setProduct_55 ?_
      refine lv_iload hx hb d_Whole_setProduct_58 (lv_at hl 0 rfl) ?_
      refine xn_iald hx hb hK hP 3 0 rfl rfl (i := i) (by omega) (by omega) d_Whole_setProduct_60 ?_
      refine lv_aload_n hx hb d_Whole_setProduct_61 rfl (lv_at hl 4 rfl) ?_
      refine lv_iload hx hb d_Whole_setProduct_62 (lv_at hl 0 rfl) ?_
      have hFc := va_free (wc := [(h0, .inr (1, [.ref q0, .int (nI len), .int sg])), (q0, .inl (cA, cap, .inl (xn_f F))), (h0b, .inr (1, [.ref q0b, .int (nI lenb), .int sgb])), (q0b, .inl (cA, capb, .inl (xn_f fb)))]) hD hS hA [0, 1, 4, 5] rfl
      refine va_callv (va_runV (As := [.int (nI (fa i)), .ref h0b, .int (nI i)]) (rest := []) ⟨hx, hb, hml, hown, hts⟩ (c_Whole_addMultiple l dC dI H.size cA h0 q0 cap len F sg h0b q0b capb lenb fb sgb (fa i) i hcap hcapb (hfa i) hF hfb hlenb (by omega) (hz (i + lenb) (Nat.le_refl _) (by omega))) (cwV 3 hts (gw_V k_ml_Whole_52 k_im_Whole_addMultiple k_sel_Whole_addMultiple k_ini_Whole k_code_Whole_addMultiple) rfl rfl rfl (by decide +kernel) ⟨Nat.le_of_ble_eq_true rfl, Nat.le_of_ble_eq_true rfl⟩) ⟨xc_W_blind, va_recv hK hP (ci := 1) (q0 := 0) rfl rfl, fun U hU hW => ⟨rfl, by rw [hU], by rw [hU]; exact hP.sub (ws' := [(h0, .inr (1, [.ref q0, .int (nI len), .int sg])), (q0, .inl (cA, cap, .inl (xn_f F))), (h0b, .inr (1, [.ref q0b, .int (nI lenb), .int sgb])), (q0b, .inl (cA, capb, .inl (xn_f fb)))]) [0, 1, 4, 5] rfl, va_K.moved hW.alike (hK.sub (tys' := [(cA, .int)]) [0] rfl), (hD.sub (ws' := [(h0, .inr (1, [.ref q0, .int (nI len), .int sg])), (q0, .inl (cA, cap, .inl (xn_f F))), (h0b, .inr (1, [.ref q0b, .int (nI lenb), .int sgb])), (q0b, .inl (cA, capb, .inl (xn_f fb)))]) [0, 1, 4, 5] (by decide) rfl).weaken (fun _ _ _ _ => trivial)⟩⟩ rfl rfl hl.1 rfl (lv_room (Nat.le_of_ble_eq_true rfl)) d_Whole_setProduct_64 ⟨Nat.zero_le _, Nat.zero_le _⟩) hS (fun q _ h => hFc q h) hFc (fun u t_ H locs ht_ hvm_ hw hB hz1 hk1 hS => ?_)
      obtain ⟨F2, e_F2⟩ : ∃ z, z = u := ⟨u, rfl⟩
      rw [← e_F2] at hw hB
      rw [ht_] at hB
      obtain ⟨hP, hD⟩ := xj_4 0 1 4 5 hP hD rfl rfl rfl rfl hk1 hB
      have hP : va_P (dC, dI) classes ([(h0, .inr (1, [.ref q0, .int (nI len), .int sg])), (q0, .inl (cA, cap, .inl (xn_f F2))), (h0a, .inr (1, [.ref q0a, .int (nI lena), .int sga])), (q0a, .inl (cA, capa, .inl (xn_f fa))), (h0b, .inr (1, [.ref q0b, .int (nI lenb), .int sgb])), (q0b, .inl (cA, capb, .inl (xn_f fb)))]) H := hP
      have hD : va_D A ([(h0, .inr (1, [.ref q0, .int (nI len), .int sg])), (q0, .inl (cA, cap, .inl (xn_f F2))), (h0a, .inr (1, [.ref q0a, .int (nI lena), .int sga])), (q0a, .inl (cA, capa, .inl (xn_f fa))), (h0b, .inr (1, [.ref q0b, .int (nI lenb), .int sgb])), (q0b, .inl (cA, capb, .inl (xn_f fb)))]) := hD
      refine lv_iinc (v := nI (i + 1)) (lv' := [(4, .int (nI (i + 1))), (3, .int (nI (lena + lenb))), (0, .ref h0), (1, .ref h0a), (2, .ref h0b)]) hx hb d_Whole_setProduct_67 hl (k := 0) rfl (nI_1 _) (by decide) rfl (fun ls hl => ?_)
      refine lv_goto (tgt := 44) hx hb d_Whole_setProduct_70 (by decide) ?_
      exact ih (i + 1) F2 (by omega) hw.1 (by rw [show i + 1 + lenb = i + lenb + 1 by omega, hw.2.1, lb_v1, hz (i + lenb) (Nat.le_refl _) (by omega), hv, lb_v1, Nat.add_mul, Nat.zero_mul, Nat.add_zero, Nat.mul_right_comm]) (fun j h1 h2 => by rw [hw.2.2 j (by omega)]; exact hz j (by omega) h2) (by omega) H locs hP hD hS ls (lv_sub hl [0, 1, 2, 3, 4] rfl)
  have loop1 : ∀ (n : Nat) (i : Nat) (F : Nat → Nat), (i ≤ lena + lenb) → (∀ k, F k < 2147483648) → (∀ j, j < i → F j = 0) → (lena + lenb + 1 ≤ i + n) → ∀ (H : Heap) (locs : List Loc), va_P (dC, dI) classes ([(h0, .inr (1, [.ref q0, .int (nI len), .int sg])), (q0, .inl (cA, cap, .inl (xn_f F))), (h0a, .inr (1, [.ref q0a, .int (nI lena), .int sga])), (q0a, .inl (cA, capa, .inl (xn_f fa))), (h0b, .inr (1, [.ref q0b, .int (nI lenb), .int sgb])), (q0b, .inl (cA, capb, .inl (xn_f fb)))]) H → va_D A ([(h0, .inr (1, [.ref q0, .int (nI len), .int sg])), (q0, .inl (cA, cap, .inl (xn_f F))), (h0a, .inr (1, [.ref q0a, .int (nI lena), .int sga])), (q0a, .inl (cA, capa, .inl (xn_f fa))), (h0b, .inr (1, [.ref q0b, .int (nI lenb), .int sgb])), (q0b, .inl (cA, capb, .inl (xn_f fb)))]) → va_S A s.heap H locs → ∀ (ls : Array Slot), lv_has ls 5 [(4, .int (nI i)), (3, .int (nI (lena + lenb))), (0, .ref h0), (1, .ref h0a), (2, .ref h0b)] → W p l e (headSpec w_Whole_setProduct ({ frames := 2, cells := 0, slots := 0, locals := 52 })).room s m ([.ref h0, .ref h0a, .ref h0b] : List Value).toArray below meth c H locs 0 0 (MQ below (va_Qv (S := (Nat → Nat) × Nat × Int32) (fun u => wh_ok cap u.1 u.2.1 u.2.2 ∧ wh_z u.1 u.2.1 u.2.2 = wh_z fa lena sga * wh_z fb lenb sgb) (fun u t => va_P (dC, dI) classes ((fun u => [(h0, .inr (1, [.ref q0, .int (nI u.2.1), .int u.2.2])), (q0, .inl (cA, cap, .inl (xn_f u.1))), (h0a, .inr (1, [.ref q0a, .int (nI lena), .int sga])), (q0a, .inl (cA, capa, .inl (xn_f fa))), (h0b, .inr (1, [.ref q0b, .int (nI lenb), .int sgb])), (q0b, .inl (cA, capb, .inl (xn_f fb)))]) u) t.heap) A) ([.ref h0, .ref h0a, .ref h0b] : List Value).toArray s 0 0 A) (F0 m 21 ls []) := by
    intro n
    induction n with
    | zero => intro i F hi hF hz hn; exact absurd hn (by omega)
    | succ n ih =>
      intro i F hi hF hz hn H locs hP hD hS ls hl
      refine lv_iload hx hb d_Whole_setProduct_21 (lv_at hl 0 rfl) ?_
      refine lv_iload_n hx hb d_Whole_setProduct_23 rfl (lv_at hl 1 rfl) ?_
      refine xn_icmp_ge (tgt := 41) hx hb (by omega) (by omega) d_Whole_setProduct_24 (by decide) (fun hge => ?_) (fun hge => ?_)
      · refine lv_iconst (v := nI 0) hx hb d_Whole_setProduct_41 rfl ?_
        refine lv_istore (lv' := [(4, .int (nI 0)), (3, .int (nI (lena + lenb))), (0, .ref h0), (1, .ref h0a), (2, .ref h0b)]) hx hb d_Whole_setProduct_42 hl (by decide) rfl (fun ls hl => ?_)
        exact loop2 (lena + 1) 0 F (Nat.zero_le _) hF (by rw [lb_zero (a := 0) (Nat.zero_le _) (fun j _ hj => hz j (by omega))]; simp [lb_v]) (fun j _ hj => hz j (by omega)) (by omega) H locs hP hD hS ls (lv_sub hl [0, 1, 2, 3, 4] rfl)
      refine lv_aload_n hx hb d_Whole_setProduct_27 rfl (lv_at hl 2 rfl) ?_
      refine va_get (D := (dC, dI)) (ci := 1) (v := .ref q0) (C := R_Whole) (T := F_Whole) (N := 3) hx hb hts i_Whole hown hK hP 0 rfl rfl 0 (by decide) (hts _ k_fl_Whole_18) (fun _ h9 => h9) rfl d_Whole_setProduct_28 ?_
      refine lv_iload hx hb d_Whole_setProduct_31 (lv_at hl 0 rfl) ?_
      refine lv_iconst (v := nI 0) hx hb d_Whole_setProduct_33 rfl ?_
      refine xn_iast hx hb hK hP hD hS 1 0 rfl rfl (i := i) (x := 0) (by omega) (by omega) d_Whole_setProduct_34 (fun H locs hP hD hS => ?_)
      have hP : va_P (dC, dI) classes ([(h0, .inr (1, [.ref q0, .int (nI len), .int sg])), (q0, .inl (cA, cap, .inl (xn_f (va_up F i 0)))), (h0a, .inr (1, [.ref q0a, .int (nI lena), .int sga])), (q0a, .inl (cA, capa, .inl (xn_f fa))), (h0b, .inr (1, [.ref q0b, .int (nI lenb), .int sgb])), (q0b, .inl (cA, capb, .inl (xn_f fb)))]) H := hP
      have hD : va_D A ([(h0, .inr (1, [.ref q0, .int (nI len), .int sg])), (q0, .inl (cA, cap, .inl (xn_f (va_up F i 0)))), (h0a, .inr (1, [.ref q0a, .int (nI lena), .int sga])), (q0a, .inl (cA, capa, .inl (xn_f fa))), (h0b, .inr (1, [.ref q0b, .int (nI lenb), .int sgb])), (q0b, .inl (cA, capb, .inl (xn_f fb)))]) := hD
      refine lv_iinc (v := nI (i + 1)) (lv' := [(4, .int (nI (i + 1))), (3, .int (nI (lena + lenb))), (0, .ref h0), (1, .ref h0a), (2, .ref h0b)]) hx hb d_Whole_setProduct_35 hl (k := 0) rfl (nI_1 _) (by decide) rfl (fun ls hl => ?_)
      refine lv_goto (tgt := 21) hx hb d_Whole_setProduct_38 (by decide) ?_
      exact ih (i + 1) (va_up F i 0) (by omega) (fun k => by by_cases q : k = i <;> simp [va_up, q, hF]) (fun j hj => by by_cases q : j = i <;> simp [va_up, q]; exact hz j (by omega)) (by omega) H locs hP hD hS ls (lv_sub hl [0, 1, 2, 3, 4] rfl)
  exact loop1 (lena + lenb + 1) 0 f (Nat.zero_le _) hf (fun j hj => by omega) (by omega) s.heap [] hP hD hS ls (lv_sub hl [0, 1, 2, 3, 4] rfl)
