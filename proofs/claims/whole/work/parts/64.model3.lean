-- THE REFERENCE'S WORLD
abbrev mw (m0 ma mS mt mo mb mg mh mr : Nat) (cA cJ : ClassId) (er : Int32) (n : Nat) (sv : Int32) (a : Nat → Int64) (S ft fo fb fg fh fr : Nat → Nat) : va_W := [(m0, .inr (3, [.int er, .int (nI n), .int sv, .ref ma, .ref mS, .ref mt, .ref mo, .ref mb, .ref mg, .ref mh, .ref mr])), (ma, .inl (cJ, 156, .inr (.inl a))), (mS, .inl (cA, 458752, .inl (xn_f S))), (mt, .inl (cA, 56, .inl (xn_f ft))), (mo, .inl (cA, 56, .inl (xn_f fo))), (mb, .inl (cA, 56, .inl (xn_f fb))), (mg, .inl (cA, 56, .inl (xn_f fg))), (mh, .inl (cA, 56, .inl (xn_f fh))), (mr, .inl (cA, 56, .inl (xn_f fr)))]
abbrev mT : Type := Int32 × Nat × Int32 × (Nat → Int64) × (Nat → Nat) × (Nat → Nat) × (Nat → Nat) × (Nat → Nat) × (Nat → Nat) × (Nat → Nat) × (Nat → Nat)
abbrev mT.er (u : mT) : Int32 := u.1
abbrev mT.n (u : mT) : Nat := u.2.1
abbrev mT.sv (u : mT) : Int32 := u.2.2.1
abbrev mT.a (u : mT) : (Nat → Int64) := u.2.2.2.1
abbrev mT.S (u : mT) : (Nat → Nat) := u.2.2.2.2.1
abbrev mT.ft (u : mT) : (Nat → Nat) := u.2.2.2.2.2.1
abbrev mT.fo (u : mT) : (Nat → Nat) := u.2.2.2.2.2.2.1
abbrev mT.fb (u : mT) : (Nat → Nat) := u.2.2.2.2.2.2.2.1
abbrev mT.fg (u : mT) : (Nat → Nat) := u.2.2.2.2.2.2.2.2.1
abbrev mT.fh (u : mT) : (Nat → Nat) := u.2.2.2.2.2.2.2.2.2.1
abbrev mT.fr (u : mT) : (Nat → Nat) := u.2.2.2.2.2.2.2.2.2.2
theorem mk_and : ∀ m, m ≤ 13 → ∀ k, k < m → nI (2 ^ m - 1) &&& (nI (2 ^ k) ^^^ (-1)) = nI (2 ^ m - 1 - 2 ^ k) := by
  have h : ∀ m, m < 14 → ∀ k, k < m → nI (2 ^ m - 1) &&& (nI (2 ^ k) ^^^ (-1)) = nI (2 ^ m - 1 - 2 ^ k) := by decide +kernel
  exact fun m hm k hk => h m (by omega) k hk
theorem mk_hi {a : Nat} (h : a < 65536) : nI a &&& nI 32768 = nI (a / 32768 * 32768) := by
  rw [← Int32.toBitVec_inj]
  apply BitVec.eq_of_toNat_eq
  show (BitVec.ofNat 32 a &&& BitVec.ofNat 32 32768).toNat = (BitVec.ofNat 32 (a / 32768 * 32768)).toNat
  rw [BitVec.toNat_and, BitVec.toNat_ofNat, BitVec.toNat_ofNat, BitVec.toNat_ofNat, Nat.mod_eq_of_lt (show a < 2 ^ 32 by omega), show (32768 : Nat) % 2 ^ 32 = 2 ^ 15 from rfl, Nat.mod_eq_of_lt (show a / 32768 * 32768 < 2 ^ 32 by omega)]
  have e : a / 32768 * 32768 = (a >>> 15) <<< 15 := by rw [Nat.shiftLeft_eq, Nat.shiftRight_eq_div_pow]
  rw [e]
  apply Nat.eq_of_testBit_eq
  intro i
  rw [Nat.testBit_and, Nat.testBit_two_pow, Nat.testBit_shiftLeft, Nat.testBit_shiftRight]
  rcases Nat.lt_trichotomy i 15 with q | q | q
  · simp [show ¬ 15 = i by omega, show ¬ 15 ≤ i by omega]
  · subst q; simp
  · have h3 : a.testBit i = false := Nat.testBit_lt_two_pow (Nat.lt_of_lt_of_le h (Nat.pow_le_pow_right (n := 2) (i := 16) (by decide) (by omega)))
    rw [h3, show 15 + (i - 15) = i by omega, h3]
    simp
theorem mk_top {S : Nat → Nat} (hS : ∀ i, S i < 65536) (at0 : Nat) : 2 ^ 895 ≤ dg_v (fun j => S (at0 + j)) 56 ↔ 32768 ≤ S (at0 + 55) := by
  rw [show (56 : Nat) = 55 + 1 from rfl, dg_v1]
  have h1 := dg_lt (g := fun j => S (at0 + j)) 55 (fun i _ => hS _)
  have h2 : (2 : Nat) ^ 895 = 32768 * dg_p 55 := by rw [dg_p2]; decide +kernel
  rw [h2]
  constructor
  · intro h
    rcases Nat.lt_or_ge (S (at0 + 55)) 32768 with q | q
    · have h3 : (S (at0 + 55) + 1) * dg_p 55 ≤ 32768 * dg_p 55 := Nat.mul_le_mul_right _ q
      rw [Nat.add_mul] at h3
      omega
    · exact q
  · intro h
    have h3 : 32768 * dg_p 55 ≤ S (at0 + 55) * dg_p 55 := Nat.mul_le_mul_right _ h
    omega
set_option maxHeartbeats 8000000 in
set_option maxRecDepth 100000 in
/-- thrown -/
theorem c_Model_thrown (l : Launch) (dC : Nat → ClassId) (dI : Nat → Nat → Nat) (m0 ma mS mt mo mb mg mh mr : Nat) (er : Int32) (n : Nat) (sv : Int32)  : Met l y_Model_thrown w_Model_thrown ({ frames := 0, cells := 0, slots := 0, locals := 0 }) (xc_R [.ref m0] dC dI ([(m0, .inr (3, [.int er, .int (nI n), .int sv, .ref ma, .ref mS, .ref mt, .ref mo, .ref mb, .ref mg, .ref mh, .ref mr]))]) []) (vp_Si (fun r => r = er)) 0 0 (fun _ => False) := by
  refine Met.ofW (cc := b_Model_thrown) (maxL := 1) (ret := (some .int)) (by decide) rfl ?_
  intro p e s m args below meth c s₁ B hml hv
  obtain ⟨rfl, hP, hK⟩ := hv
  have hx := B.exec
  have hb := B.bytes
  have hr := B.returns
  have hts : ∀ w ∈ gw_tbl, w.before ([.ref m0] : List Value).toArray s = true := fun w h => atoms_spec (ws := w_Model_thrown) B.pre w (List.mem_cons_of_mem _ h)
  have hown : s.vm.findClass R_Model = some m.cls := findClass_of_methodNamed B.named
  have hlocks := B.notSynchronized
  have hl := lv_entry ([.ref m0]) (n := 1) (Nat.le_of_ble_eq_true rfl)
  rw [lg_entry_eq]
  generalize (lg_sl ([.ref m0]) ++ List.replicate (1 - (lg_sl ([.ref m0])).length) Slot.unset).toArray = ls at hl ⊢
  have hl : lv_has ls 1 [(0, .ref m0)] := hl
  refine lv_aload_n hx hb d_Model_thrown_0 rfl (lv_at hl 0 rfl) ?_
  refine va_get (D := (dC, dI)) (ci := 3) (v := .int er) (C := R_Model) (T := F_Model) (N := 11) hx hb hts i_Model hown hK hP 0 rfl rfl 0 (by decide) (hts _ k_fl_Model_36) (fun _ h9 => h9) rfl d_Model_thrown_1 ?_
  exact W.iret (v := er) hx hb hr (fun T_ ht_ hW_ => ⟨_, rfl, rfl, ht_⟩) (fun q hq => by cases hq) d_Model_thrown_4
set_option maxHeartbeats 8000000 in
set_option maxRecDepth 100000 in
/-- fails -/
theorem c_Model_fails (l : Launch) (dC : Nat → ClassId) (dI : Nat → Nat → Nat) (sz : Nat) (m0 ma mS mt mo mb mg mh mr : Nat) (er : Int32) (n : Nat) (sv : Int32) (b cd : Int32)  : Met l y_Model_fails w_Model_fails ({ frames := 0, cells := 0, slots := 0, locals := 0 }) (xc_W [.ref m0, .int b, .int cd] dC dI ([(m0, .inr (3, [.int er, .int (nI n), .int sv, .ref ma, .ref mS, .ref mt, .ref mo, .ref mb, .ref mg, .ref mh, .ref mr]))]) [] sz) (va_Qi (S := Int32) (fun r u => (u = if b = 0 then er else if er = 0 then cd else er) ∧ r = if u = 0 then 0 else 1) (fun u t => va_P (dC, dI) classes ((fun u => [(m0, .inr (3, [.int u, .int (nI n), .int sv, .ref ma, .ref mS, .ref mt, .ref mo, .ref mb, .ref mg, .ref mh, .ref mr]))]) u) t.heap) (va_A ([(m0, .inr (3, [.int er, .int (nI n), .int sv, .ref ma, .ref mS, .ref mt, .ref mo, .ref mb, .ref mg, .ref mh, .ref mr]))]) sz)) 0 0 (va_A ([(m0, .inr (3, [.int er, .int (nI n), .int sv, .ref ma, .ref mS, .ref mt, .ref mo, .ref mb, .ref mg, .ref mh, .ref mr]))]) sz) := by
  refine Met.ofW (cc := b_Model_fails) (maxL := 3) (ret := (some .boolean)) (by decide) rfl ?_
  intro p e s m args below meth c s₁ B hml hv
  obtain ⟨rfl, hsz, hP, hK, hD0⟩ := hv
  have hx := B.exec
  have hb := B.bytes
  have hr := B.returns
  have hts : ∀ w ∈ gw_tbl, w.before ([.ref m0, .int b, .int cd] : List Value).toArray s = true := fun w h => atoms_spec (ws := w_Model_fails) B.pre w (List.mem_cons_of_mem _ h)
  have hown : s.vm.findClass R_Model = some m.cls := findClass_of_methodNamed B.named
  have hlocks := B.notSynchronized
  subst hsz
  have hD := hD0.self (sz := s.heap.size)
  generalize hAe : va_A ([(m0, .inr (3, [.int er, .int (nI n), .int sv, .ref ma, .ref mS, .ref mt, .ref mo, .ref mb, .ref mg, .ref mh, .ref mr]))]) s.heap.size = A at hD ⊢
  have hA : ∀ q : Nat, s.heap.size ≤ q → A q := fun q h => by rw [← hAe]; exact Or.inr h
  have hS : va_S A s.heap s.heap [] := va_S.rf
  have hl := lv_entry ([.ref m0, .int b, .int cd]) (n := 3) (Nat.le_of_ble_eq_true rfl)
  rw [lg_entry_eq]
  generalize (lg_sl ([.ref m0, .int b, .int cd]) ++ List.replicate (3 - (lg_sl ([.ref m0, .int b, .int cd])).length) Slot.unset).toArray = ls at hl ⊢
  have hl : lv_has ls 3 [(0, .ref m0), (1, .int b), (2, .int cd)] := hl
  have fin : ∀ (e1 : Int32), (e1 = if b = 0 then er else if er = 0 then cd else er) → ∀ (H : Heap) (locs : List Loc), va_P (dC, dI) classes ([(m0, .inr (3, [.int e1, .int (nI n), .int sv, .ref ma, .ref mS, .ref mt, .ref mo, .ref mb, .ref mg, .ref mh, .ref mr]))]) H → va_D A ([(m0, .inr (3, [.int e1, .int (nI n), .int sv, .ref ma, .ref mS, .ref mt, .ref mo, .ref mb, .ref mg, .ref mh, .ref mr]))]) → va_S A s.heap H locs → ∀ (ls : Array Slot), lv_has ls 3 [(0, .ref m0), (1, .int b), (2, .int cd)] → W p l e (headSpec w_Model_fails ({ frames := 0, cells := 0, slots := 0, locals := 0 })).room s m ([.ref m0, .int b, .int cd] : List Value).toArray below meth c H locs 0 0 (MQ below (va_Qi (S := Int32) (fun r u => (u = if b = 0 then er else if er = 0 then cd else er) ∧ r = if u = 0 then 0 else 1) (fun u t => va_P (dC, dI) classes ((fun u => [(m0, .inr (3, [.int u, .int (nI n), .int sv, .ref ma, .ref mS, .ref mt, .ref mo, .ref mb, .ref mg, .ref mh, .ref mr]))]) u) t.heap) A) ([.ref m0, .int b, .int cd] : List Value).toArray s 0 0 A) (F0 m 16 ls []) := by
    intro e1 he H locs hP hD hS ls hl
    refine lv_aload_n hx hb d_Model_fails_16 rfl (lv_at hl 0 rfl) ?_
    refine va_get (D := (dC, dI)) (ci := 3) (v := .int e1) (C := R_Model) (T := F_Model) (N := 11) hx hb hts i_Model hown hK hP 0 rfl rfl 0 (by decide) (hts _ k_fl_Model_36) (fun _ h9 => h9) rfl d_Model_fails_17 ?_
    refine lv_if_eq (tgt := 27) hx hb d_Model_fails_20 (by decide) (fun hz => ?_) (fun hz => ?_)
    · refine lv_iconst (v := nI 0) hx hb d_Model_fails_27 rfl ?_
      exact W.zret (v := nI 0) hx hb hr (by rfl) (fun T_ ht_ hW_ => ⟨⟨_, e1, rfl, ⟨he, by rw [if_pos hz]; rfl⟩, by show va_P (dC, dI) classes _ T_.heap; rw [ht_]; exact hP⟩, hS.F ht_⟩) hS.2.2 d_Model_fails_28
    refine lv_iconst (v := nI 1) hx hb d_Model_fails_23 rfl ?_
    refine lv_goto (tgt := 28) hx hb d_Model_fails_24 (by decide) ?_
    exact W.zret (v := nI 1) hx hb hr (by rfl) (fun T_ ht_ hW_ => ⟨⟨_, e1, rfl, ⟨he, by rw [if_neg hz]; rfl⟩, by show va_P (dC, dI) classes _ T_.heap; rw [ht_]; exact hP⟩, hS.F ht_⟩) hS.2.2 d_Model_fails_28
  refine lv_iload_n hx hb d_Model_fails_0 rfl (lv_at hl 1 rfl) ?_
  refine lv_if_eq (tgt := 16) hx hb d_Model_fails_1 (by decide) (fun hz => ?_) (fun hz => ?_)
  · exact fin er (by rw [if_pos hz]) s.heap [] hP hD hS ls (lv_sub hl [0, 1, 2] rfl)
  refine lv_aload_n hx hb d_Model_fails_4 rfl (lv_at hl 0 rfl) ?_
  refine va_get (D := (dC, dI)) (ci := 3) (v := .int er) (C := R_Model) (T := F_Model) (N := 11) hx hb hts i_Model hown hK hP 0 rfl rfl 0 (by decide) (hts _ k_fl_Model_36) (fun _ h9 => h9) rfl d_Model_fails_5 ?_
  refine lv_if_ne (tgt := 16) hx hb d_Model_fails_8 (by decide) (fun hy => ?_) (fun hy => ?_)
  · exact fin er (by rw [if_neg hz, if_neg hy]) s.heap [] hP hD hS ls (lv_sub hl [0, 1, 2] rfl)
  refine lv_aload_n hx hb d_Model_fails_11 rfl (lv_at hl 0 rfl) ?_
  refine lv_iload_n hx hb d_Model_fails_12 rfl (lv_at hl 2 rfl) ?_
  refine va_put (D := (dC, dI)) (ci := 3) (v := .int cd) (ty := .int) (C := R_Model) (T := F_Model) (N := 11) hx hb hts i_Model t_Model t_Model_ok n_Model hown hK hP hD hS 0 rfl rfl 0 (by decide) (hts _ k_fl_Model_36) (fun _ h9 => h9) rfl (by decide +kernel) rfl rfl (Nat.le_of_ble_eq_true rfl) d_Model_fails_13 (fun H locs hP hD hS => ?_)
  have hP : va_P (dC, dI) classes ([(m0, .inr (3, [.int cd, .int (nI n), .int sv, .ref ma, .ref mS, .ref mt, .ref mo, .ref mb, .ref mg, .ref mh, .ref mr]))]) H := hP
  have hD : va_D A ([(m0, .inr (3, [.int cd, .int (nI n), .int sv, .ref ma, .ref mS, .ref mt, .ref mo, .ref mb, .ref mg, .ref mh, .ref mr]))]) := hD
  exact fin cd (by rw [if_neg hz, if_pos hy]) H locs hP hD hS ls (lv_sub hl [0, 1, 2] rfl)
set_option maxHeartbeats 8000000 in
set_option maxRecDepth 100000 in
/-- place -/
theorem c_Model_place (l : Launch) (dC : Nat → ClassId) (dI : Nat → Nat → Nat) (m0 ma mS mt mo mb mg mh mr : Nat) (er : Int32) (n : Nat) (sv : Int32) (k : Int32) (hn : n ≤ 12) (hk : k = -1 ∨ ∃ k2 : Nat, k = nI k2 ∧ k2 ≤ n) : Met l y_Model_place w_Model_place ({ frames := 0, cells := 0, slots := 0, locals := 0 }) (xc_R [.ref m0, .int k] dC dI ([(m0, .inr (3, [.int er, .int (nI n), .int sv, .ref ma, .ref mS, .ref mt, .ref mo, .ref mb, .ref mg, .ref mh, .ref mr]))]) []) (vp_Si (fun r => (k = -1 → r = nI (56 * (2 ^ n - 1))) ∧ (∀ k2 : Nat, k = nI k2 → k2 ≤ n → r = nI (56 * (2 ^ (n + 1) - 1 - 2 ^ k2))))) 0 0 (fun _ => False) := by
  refine Met.ofW (cc := b_Model_place) (maxL := 3) (ret := (some .int)) (by decide) rfl ?_
  intro p e s m args below meth c s₁ B hml hv
  obtain ⟨rfl, hP, hK⟩ := hv
  have hx := B.exec
  have hb := B.bytes
  have hr := B.returns
  have hts : ∀ w ∈ gw_tbl, w.before ([.ref m0, .int k] : List Value).toArray s = true := fun w h => atoms_spec (ws := w_Model_place) B.pre w (List.mem_cons_of_mem _ h)
  have hown : s.vm.findClass R_Model = some m.cls := findClass_of_methodNamed B.named
  have hlocks := B.notSynchronized
  have hl := lv_entry ([.ref m0, .int k]) (n := 3) (Nat.le_of_ble_eq_true rfl)
  rw [lg_entry_eq]
  generalize (lg_sl ([.ref m0, .int k]) ++ List.replicate (3 - (lg_sl ([.ref m0, .int k])).length) Slot.unset).toArray = ls at hl ⊢
  have hl : lv_has ls 3 [(0, .ref m0), (1, .int k)] := hl
  refine lv_iconst (v := nI 1) hx hb d_Model_place_0 rfl ?_
  refine lv_aload_n hx hb d_Model_place_1 rfl (lv_at hl 0 rfl) ?_
  refine va_get (D := (dC, dI)) (ci := 3) (v := .int (nI n)) (C := R_Model) (T := F_Model) (N := 11) hx hb hts i_Model hown hK hP 0 rfl rfl 1 (by decide) (hts _ k_fl_Model_44) (fun _ h9 => h9) rfl d_Model_place_2 ?_
  refine lv_iconst (v := nI 1) hx hb d_Model_place_5 rfl ?_
  refine xn_iadd hx hb d_Model_place_6 ?_
  refine xe_ishl (v := nI (1 * 2 ^ (n + 1))) hx hb d_Model_place_7 (sh_shl 1 (n + 1) (by omega)) ?_
  have hp1 := Nat.two_pow_pos (n + 1)
  have hp2 : 2 ^ (n + 1) ≤ 2 ^ 13 := Nat.pow_le_pow_right (by decide) (by omega)
  refine lv_iconst (v := nI 1) hx hb d_Model_place_8 rfl ?_
  refine xe_isub (v := nI (2 ^ (n + 1) - 1)) hx hb d_Model_place_9 (by rw [Nat.one_mul]; exact xn_pre hp1) ?_
  refine lv_istore_n (lv' := [(2, .int (nI (2 ^ (n + 1) - 1))), (0, .ref m0), (1, .int k)]) hx hb d_Model_place_10 rfl hl (by decide) rfl (fun ls hl => ?_)
  refine lv_bipush (v := nI 56) hx hb d_Model_place_11 rfl ?_
  refine lv_iload_n hx hb d_Model_place_13 rfl (lv_at hl 2 rfl) ?_
  refine lv_if_ge (tgt := 30) hx hb d_Model_place_14 (by decide) (fun hge => ?_) (fun hge => ?_)
  · have hk3 : ∃ k2 : Nat, k = nI k2 ∧ k2 ≤ n := by
      rcases hk with z | z
      · rw [z] at hge; exact absurd hge (by decide)
      · exact z
    obtain ⟨k2, ek, hk2⟩ := hk3
    subst ek
    refine lv_iload_n hx hb d_Model_place_30 rfl (lv_at hl 0 rfl) ?_
    refine lv_iconst (v := nI 1) hx hb d_Model_place_31 rfl ?_
    refine lv_iload_n hx hb d_Model_place_32 rfl (lv_at hl 2 rfl) ?_
    refine xe_ishl (v := nI (1 * 2 ^ k2)) hx hb d_Model_place_33 (sh_shl 1 k2 (by omega)) ?_
    refine lv_iconst (v := -1) hx hb d_Model_place_34 (by decide) ?_
    refine xe_ixor (v := nI (2 ^ k2) ^^^ (-1)) hx hb d_Model_place_35 (by rw [Nat.one_mul]) ?_
    refine xe_iand (v := nI (2 ^ (n + 1) - 1 - 2 ^ k2)) hx hb d_Model_place_36 (mk_and (n + 1) (by omega) k2 (by omega)) ?_
    refine xn_imul hx hb d_Model_place_37 ?_
    exact W.iret (v := nI (56 * (2 ^ (n + 1) - 1 - 2 ^ k2))) hx hb hr (fun T_ ht_ hW_ => ⟨_, rfl, ⟨fun z => absurd z (by intro z; rw [z] at hge; exact absurd hge (by decide)), fun k3 e3 h3 => by rw [(nI_eq (by omega) (by omega)).mp e3]⟩, ht_⟩) (fun q hq => by cases hq) d_Model_place_38
  have hk4 : k = -1 := by
    rcases hk with z | ⟨k2, z, h2⟩
    · exact z
    · rw [z] at hge; exact absurd (nI_pos' (by omega)) hge
  refine lv_iload_n hx hb d_Model_place_17 rfl (lv_at hl 0 rfl) ?_
  refine lv_iconst (v := nI 1) hx hb d_Model_place_18 rfl ?_
  refine lv_aload_n hx hb d_Model_place_19 rfl (lv_at hl 1 rfl) ?_
  refine va_get (D := (dC, dI)) (ci := 3) (v := .int (nI n)) (C := R_Model) (T := F_Model) (N := 11) hx hb hts i_Model hown hK hP 0 rfl rfl 1 (by decide) (hts _ k_fl_Model_44) (fun _ h9 => h9) rfl d_Model_place_20 ?_
  refine xe_ishl (v := nI (1 * 2 ^ n)) hx hb d_Model_place_23 (sh_shl 1 n (by omega)) ?_
  refine lv_iconst (v := -1) hx hb d_Model_place_24 (by decide) ?_
  refine xe_ixor (v := nI (2 ^ n) ^^^ (-1)) hx hb d_Model_place_25 (by rw [Nat.one_mul]) ?_
  refine xe_iand (v := nI (2 ^ (n + 1) - 1 - 2 ^ n)) hx hb d_Model_place_26 (mk_and (n + 1) (by omega) n (by omega)) ?_
  refine lv_goto (tgt := 37) hx hb d_Model_place_27 (by decide) ?_
  refine xn_imul hx hb d_Model_place_37 ?_
  exact W.iret (v := nI (56 * (2 ^ (n + 1) - 1 - 2 ^ n))) hx hb hr (fun T_ ht_ hW_ => ⟨_, rfl, ⟨fun _ => by congr 2; rw [Nat.pow_succ]; omega, fun k3 e3 h3 => by rw [hk4] at e3; exact absurd (e3 ▸ nI_pos' (show k3 < 2 ^ 31 by omega)) (by decide)⟩, ht_⟩) (fun q hq => by cases hq) d_Model_place_38
set_option maxHeartbeats 8000000 in
set_option maxRecDepth 100000 in
/-- signAt -/
theorem c_Model_signAt (l : Launch) (dC : Nat → ClassId) (dI : Nat → Nat → Nat) (cA : ClassId) (m0 ma mS mt mo mb mg mh mr : Nat) (er : Int32) (n : Nat) (sv : Int32) (S : Nat → Nat) (at0 : Nat) (hS0 : ∀ i, S i < 65536) (hat : at0 + 56 ≤ 458752) : Met l y_Model_signAt w_Model_signAt ({ frames := 0, cells := 0, slots := 0, locals := 0 }) (xc_R [.ref m0, .int (nI at0)] dC dI ([(m0, .inr (3, [.int er, .int (nI n), .int sv, .ref ma, .ref mS, .ref mt, .ref mo, .ref mb, .ref mg, .ref mh, .ref mr])), (mS, .inl (cA, 458752, .inl (xn_f S)))]) [(cA, .int)]) (vp_Si (fun r => r = if 2 ^ 895 ≤ dg_v (fun j => S (at0 + j)) 56 then -1 else if dg_v (fun j => S (at0 + j)) 56 = 0 then 0 else 1)) 0 0 (fun _ => False) := by
  refine Met.ofW (cc := b_Model_signAt) (maxL := 3) (ret := (some .int)) (by decide) rfl ?_
  intro p e s m args below meth c s₁ B hml hv
  obtain ⟨rfl, hP, hK⟩ := hv
  have hx := B.exec
  have hb := B.bytes
  have hr := B.returns
  have hts : ∀ w ∈ gw_tbl, w.before ([.ref m0, .int (nI at0)] : List Value).toArray s = true := fun w h => atoms_spec (ws := w_Model_signAt) B.pre w (List.mem_cons_of_mem _ h)
  have hown : s.vm.findClass R_Model = some m.cls := findClass_of_methodNamed B.named
  have hlocks := B.notSynchronized
  have hl := lv_entry ([.ref m0, .int (nI at0)]) (n := 3) (Nat.le_of_ble_eq_true rfl)
  rw [lg_entry_eq]
  generalize (lg_sl ([.ref m0, .int (nI at0)]) ++ List.replicate (3 - (lg_sl ([.ref m0, .int (nI at0)])).length) Slot.unset).toArray = ls at hl ⊢
  have hl : lv_has ls 3 [(0, .ref m0), (1, .int (nI at0))] := hl
  have hb55 := hS0 (at0 + 56 - 1)
  have e55 : S (at0 + 56 - 1) = S (at0 + 55) := by rw [show at0 + 56 - 1 = at0 + 55 by omega]
  have htop := mk_top hS0 at0
  refine lv_aload_n hx hb d_Model_signAt_0 rfl (lv_at hl 0 rfl) ?_
  refine va_get (D := (dC, dI)) (ci := 3) (v := .ref mS) (C := R_Model) (T := F_Model) (N := 11) hx hb hts i_Model hown hK hP 0 rfl rfl 4 (by decide) (hts _ k_fl_Model_14) (fun _ h9 => h9) rfl d_Model_signAt_1 ?_
  refine lv_iload_n hx hb d_Model_signAt_4 rfl (lv_at hl 1 rfl) ?_
  refine lv_bipush (v := nI 56) hx hb d_Model_signAt_5 rfl ?_
  refine xn_iadd hx hb d_Model_signAt_7 ?_
  refine lv_iconst (v := nI 1) hx hb d_Model_signAt_8 rfl ?_
  refine xn_isub hx hb (by omega) d_Model_signAt_9 ?_
  refine xn_iald hx hb hK hP 1 0 rfl rfl (i := (at0 + 56) - 1) (by omega) (by omega) d_Model_signAt_10 ?_
  refine lv_ldc (v := nI 32768) hx hb hown (hts _ k_ldc_Model_78) d_Model_signAt_11 ?_
  refine xe_iand (v := nI (S (at0 + 56 - 1) / 32768 * 32768)) hx hb d_Model_signAt_13 (mk_hi (hS0 _)) ?_
  refine xn_if_eq (tgt := 19) hx hb (by omega) d_Model_signAt_14 (by decide) (fun hz => ?_) (fun hz => ?_)
  · have hlo : ¬ 2 ^ 895 ≤ dg_v (fun j => S (at0 + j)) 56 := by rw [htop]; omega
    skip
    refine lv_iconst (v := nI 0) hx hb d_Model_signAt_19 rfl ?_
    refine lv_istore_n (lv' := [(2, .int (nI 0)), (0, .ref m0), (1, .int (nI at0))]) hx hb d_Model_signAt_20 rfl hl (by decide) rfl (fun ls hl => ?_)
    have loop : ∀ (n0 : Nat) (k : Nat), (k ≤ 56) → (∀ i, i < k → S (at0 + i) = 0) → (57 ≤ k + n0) → ∀ (ls : Array Slot), lv_has ls 3 [(2, .int (nI k)), (0, .ref m0), (1, .int (nI at0))] → W p l e (headSpec w_Model_signAt ({ frames := 0, cells := 0, slots := 0, locals := 0 })).room s m ([.ref m0, .int (nI at0)] : List Value).toArray below meth c s.heap [] 0 0 (MQ below (vp_Si (fun r => r = if 2 ^ 895 ≤ dg_v (fun j => S (at0 + j)) 56 then -1 else if dg_v (fun j => S (at0 + j)) 56 = 0 then 0 else 1)) ([.ref m0, .int (nI at0)] : List Value).toArray s 0 0 (fun _ => False)) (F0 m 21 ls []) := by
      intro n0
      induction n0 with
      | zero => intro k hk hzz hn_; exact absurd hn_ (by omega)
      | succ n0 ih =>
        intro k hk hzz hn_ ls hl
        refine lv_iload_n hx hb d_Model_signAt_21 rfl (lv_at hl 0 rfl) ?_
        refine lv_bipush (v := nI 56) hx hb d_Model_signAt_22 rfl ?_
        refine xn_icmp_ge (tgt := 46) hx hb (by omega) (by omega) d_Model_signAt_24 (by decide) (fun hge2 => ?_) (fun hge2 => ?_)
        · refine lv_iconst (v := nI 0) hx hb d_Model_signAt_46 rfl ?_
          exact W.iret (v := nI 0) hx hb hr (fun T_ ht_ hW_ => ⟨_, rfl, by rw [if_neg hlo, if_pos ((dg_eq0 56).mpr (fun i hi => hzz i (by omega)))]; rfl, ht_⟩) (fun q hq => by cases hq) d_Model_signAt_47
        refine lv_aload_n hx hb d_Model_signAt_27 rfl (lv_at hl 1 rfl) ?_
        refine va_get (D := (dC, dI)) (ci := 3) (v := .ref mS) (C := R_Model) (T := F_Model) (N := 11) hx hb hts i_Model hown hK hP 0 rfl rfl 4 (by decide) (hts _ k_fl_Model_14) (fun _ h9 => h9) rfl d_Model_signAt_28 ?_
        refine lv_iload_n hx hb d_Model_signAt_31 rfl (lv_at hl 2 rfl) ?_
        refine lv_iload_n hx hb d_Model_signAt_32 rfl (lv_at hl 0 rfl) ?_
        refine xn_iadd hx hb d_Model_signAt_33 ?_
        refine xn_iald hx hb hK hP 1 0 rfl rfl (i := at0 + k) (by omega) (by omega) d_Model_signAt_34 ?_
        have b0 := hS0 (at0 + k)
        refine xn_if_eq (tgt := 40) hx hb (by omega) d_Model_signAt_35 (by decide) (fun hk0 => ?_) (fun hk0 => ?_)
        · refine lv_iinc (v := nI (k + 1)) (lv' := [(2, .int (nI (k + 1))), (0, .ref m0), (1, .int (nI at0))]) hx hb d_Model_signAt_40 hl (k := 0) rfl (nI_1 _) (by decide) rfl (fun ls hl => ?_)
          refine lv_goto (tgt := 21) hx hb d_Model_signAt_43 (by decide) ?_
          exact ih (k + 1) (by omega) (fun i hi => by
                        by_cases q : i = k
                        · rw [q]; exact hk0
                        · exact hzz i (by omega)) (by omega) ls (lv_sub hl [0, 1, 2] rfl)
        refine lv_iconst (v := nI 1) hx hb d_Model_signAt_38 rfl ?_
        exact W.iret (v := nI 1) hx hb hr (fun T_ ht_ hW_ => ⟨_, rfl, by rw [if_neg hlo, if_neg (fun z => hk0 ((dg_eq0 56).mp z k (by omega)))]; rfl, ht_⟩) (fun q hq => by cases hq) d_Model_signAt_39
    exact loop 57 0 (Nat.zero_le _) (fun i hi => absurd hi (Nat.not_lt_zero _)) (by omega) ls (lv_sub hl [0, 1, 2] rfl)
  refine lv_iconst (v := -1) hx hb d_Model_signAt_17 (by decide) ?_
  exact W.iret (v := (-1)) hx hb hr (fun T_ ht_ hW_ => ⟨_, rfl, by rw [if_pos (by rw [htop]; omega)], ht_⟩) (fun q hq => by cases hq) d_Model_signAt_18
set_option maxHeartbeats 8000000 in
set_option maxRecDepth 100000 in
/-- take -/
theorem c_Model_take (l : Launch) (dC : Nat → ClassId) (dI : Nat → Nat → Nat) (sz : Nat) (cA : ClassId) (m0 ma mS mt mo mb mg mh mr : Nat) (er : Int32) (n : Nat) (sv : Int32) (S : Nat → Nat) (at0 q1 : Nat) (y : Nat → Nat) (hS0 : ∀ i, S i < 65536) (hat : at0 + 56 ≤ 458752) (hy0 : ∀ i, y i < 65536) : Met l y_Model_take w_Model_take ({ frames := 0, cells := 0, slots := 0, locals := 0 }) (xc_W [.ref m0, .int (nI at0), .ref q1] dC dI ([(m0, .inr (3, [.int er, .int (nI n), .int sv, .ref ma, .ref mS, .ref mt, .ref mo, .ref mb, .ref mg, .ref mh, .ref mr])), (mS, .inl (cA, 458752, .inl (xn_f S))), (q1, .inl (cA, 56, .inl (xn_f y)))]) [(cA, .int)] sz) (va_Qv (S := Nat → Nat) (fun u => (∀ i, u i < 65536) ∧ dg_v u 56 = dg_v (fun j => S (at0 + j)) 56) (fun u t => va_P (dC, dI) classes ((fun u => [(m0, .inr (3, [.int er, .int (nI n), .int sv, .ref ma, .ref mS, .ref mt, .ref mo, .ref mb, .ref mg, .ref mh, .ref mr])), (mS, .inl (cA, 458752, .inl (xn_f S))), (q1, .inl (cA, 56, .inl (xn_f u)))]) u) t.heap) (va_A ([(m0, .inr (3, [.int er, .int (nI n), .int sv, .ref ma, .ref mS, .ref mt, .ref mo, .ref mb, .ref mg, .ref mh, .ref mr])), (mS, .inl (cA, 458752, .inl (xn_f S))), (q1, .inl (cA, 56, .inl (xn_f y)))]) sz)) 0 0 (va_A ([(m0, .inr (3, [.int er, .int (nI n), .int sv, .ref ma, .ref mS, .ref mt, .ref mo, .ref mb, .ref mg, .ref mh, .ref mr])), (mS, .inl (cA, 458752, .inl (xn_f S))), (q1, .inl (cA, 56, .inl (xn_f y)))]) sz) := by
  refine Met.ofW (cc := b_Model_take) (maxL := 4) (ret := none) (by decide) rfl ?_
  intro p e s m args below meth c s₁ B hml hv
  obtain ⟨rfl, hsz, hP, hK, hD0⟩ := hv
  have hx := B.exec
  have hb := B.bytes
  have hr := B.returns
  have hts : ∀ w ∈ gw_tbl, w.before ([.ref m0, .int (nI at0), .ref q1] : List Value).toArray s = true := fun w h => atoms_spec (ws := w_Model_take) B.pre w (List.mem_cons_of_mem _ h)
  have hown : s.vm.findClass R_Model = some m.cls := findClass_of_methodNamed B.named
  have hlocks := B.notSynchronized
  subst hsz
  have hD := hD0.self (sz := s.heap.size)
  generalize hAe : va_A ([(m0, .inr (3, [.int er, .int (nI n), .int sv, .ref ma, .ref mS, .ref mt, .ref mo, .ref mb, .ref mg, .ref mh, .ref mr])), (mS, .inl (cA, 458752, .inl (xn_f S))), (q1, .inl (cA, 56, .inl (xn_f y)))]) s.heap.size = A at hD ⊢
  have hA : ∀ q : Nat, s.heap.size ≤ q → A q := fun q h => by rw [← hAe]; exact Or.inr h
  have hS : va_S A s.heap s.heap [] := va_S.rf
  have hl := lv_entry ([.ref m0, .int (nI at0), .ref q1]) (n := 4) (Nat.le_of_ble_eq_true rfl)
  rw [lg_entry_eq]
  generalize (lg_sl ([.ref m0, .int (nI at0), .ref q1]) ++ List.replicate (4 - (lg_sl ([.ref m0, .int (nI at0), .ref q1])).length) Slot.unset).toArray = ls at hl ⊢
  have hl : lv_has ls 4 [(0, .ref m0), (1, .int (nI at0)), (2, .ref q1)] := hl
  refine lv_iconst (v := nI 0) hx hb d_Model_take_0 rfl ?_
  refine lv_istore_n (lv' := [(3, .int (nI 0)), (0, .ref m0), (1, .int (nI at0)), (2, .ref q1)]) hx hb d_Model_take_1 rfl hl (by decide) rfl (fun ls hl => ?_)
  have loop : ∀ (n0 : Nat) (k : Nat) (F : Nat → Nat), (k ≤ 56) → (∀ i, F i < 65536) → (∀ i, i < k → F i = S (at0 + i)) → (57 ≤ k + n0) → ∀ (H : Heap) (locs : List Loc), va_P (dC, dI) classes ([(m0, .inr (3, [.int er, .int (nI n), .int sv, .ref ma, .ref mS, .ref mt, .ref mo, .ref mb, .ref mg, .ref mh, .ref mr])), (mS, .inl (cA, 458752, .inl (xn_f S))), (q1, .inl (cA, 56, .inl (xn_f F)))]) H → va_D A ([(m0, .inr (3, [.int er, .int (nI n), .int sv, .ref ma, .ref mS, .ref mt, .ref mo, .ref mb, .ref mg, .ref mh, .ref mr])), (mS, .inl (cA, 458752, .inl (xn_f S))), (q1, .inl (cA, 56, .inl (xn_f F)))]) → va_S A s.heap H locs → ∀ (ls : Array Slot), lv_has ls 4 [(3, .int (nI k)), (0, .ref m0), (1, .int (nI at0)), (2, .ref q1)] → W p l e (headSpec w_Model_take ({ frames := 0, cells := 0, slots := 0, locals := 0 })).room s m ([.ref m0, .int (nI at0), .ref q1] : List Value).toArray below meth c H locs 0 0 (MQ below (va_Qv (S := Nat → Nat) (fun u => (∀ i, u i < 65536) ∧ dg_v u 56 = dg_v (fun j => S (at0 + j)) 56) (fun u t => va_P (dC, dI) classes ((fun u => [(m0, .inr (3, [.int er, .int (nI n), .int sv, .ref ma, .ref mS, .ref mt, .ref mo, .ref mb, .ref mg, .ref mh, .ref mr])), (mS, .inl (cA, 458752, .inl (xn_f S))), (q1, .inl (cA, 56, .inl (xn_f u)))]) u) t.heap) A) ([.ref m0, .int (nI at0), .ref q1] : List Value).toArray s 0 0 A) (F0 m 2 ls []) := by
    intro n0
    induction n0 with
    | zero => intro k F hk hF hz hn_; exact absurd hn_ (by omega)
    | succ n0 ih =>
      intro k F hk hF hz hn_ H locs hP hD hS ls hl
      refine lv_iload_n hx hb d_Model_take_2 rfl (lv_at hl 0 rfl) ?_
      refine lv_bipush (v := nI 56) hx hb d_Model_take_3 rfl ?_
      refine xn_icmp_ge (tgt := 25) hx hb (by omega) (by omega) d_Model_take_5 (by decide) (fun hge => ?_) (fun hge => ?_)
      · exact W.vret hx hb hr (fun T_ ht_ hW_ => ⟨⟨F, rfl, ⟨hF, dg_congr 56 (fun i hi => hz i (by omega))⟩, by show va_P (dC, dI) classes _ T_.heap; rw [ht_]; exact hP⟩, hS.F ht_⟩) hS.2.2 d_Model_take_25
      refine lv_aload_n hx hb d_Model_take_8 rfl (lv_at hl 3 rfl) ?_
      refine lv_iload_n hx hb d_Model_take_9 rfl (lv_at hl 0 rfl) ?_
      refine lv_aload_n hx hb d_Model_take_10 rfl (lv_at hl 1 rfl) ?_
      refine va_get (D := (dC, dI)) (ci := 3) (v := .ref mS) (C := R_Model) (T := F_Model) (N := 11) hx hb hts i_Model hown hK hP 0 rfl rfl 4 (by decide) (hts _ k_fl_Model_14) (fun _ h9 => h9) rfl d_Model_take_11 ?_
      refine lv_iload_n hx hb d_Model_take_14 rfl (lv_at hl 2 rfl) ?_
      refine lv_iload_n hx hb d_Model_take_15 rfl (lv_at hl 0 rfl) ?_
      refine xn_iadd hx hb d_Model_take_16 ?_
      refine xn_iald hx hb hK hP 1 0 rfl rfl (i := at0 + k) (by omega) (by omega) d_Model_take_17 ?_
      refine xn_iast hx hb hK hP hD hS 2 0 rfl rfl (i := k) (x := S (at0 + k)) (by omega) (by omega) d_Model_take_18 (fun H locs hP hD hS => ?_)
      have hP : va_P (dC, dI) classes ([(m0, .inr (3, [.int er, .int (nI n), .int sv, .ref ma, .ref mS, .ref mt, .ref mo, .ref mb, .ref mg, .ref mh, .ref mr])), (mS, .inl (cA, 458752, .inl (xn_f S))), (q1, .inl (cA, 56, .inl (xn_f (va_up F k (S (at0 + k))))))]) H := hP
      have hD : va_D A ([(m0, .inr (3, [.int er, .int (nI n), .int sv, .ref ma, .ref mS, .ref mt, .ref mo, .ref mb, .ref mg, .ref mh, .ref mr])), (mS, .inl (cA, 458752, .inl (xn_f S))), (q1, .inl (cA, 56, .inl (xn_f (va_up F k (S (at0 + k))))))]) := hD
      refine lv_iinc (v := nI (k + 1)) (lv' := [(3, .int (nI (k + 1))), (0, .ref m0), (1, .int (nI at0)), (2, .ref q1)]) hx hb d_Model_take_19 hl (k := 0) rfl (nI_1 _) (by decide) rfl (fun ls hl => ?_)
      refine lv_goto (tgt := 2) hx hb d_Model_take_22 (by decide) ?_
      exact ih (k + 1) (va_up F k (S (at0 + k))) (by omega) (va_up_lt hF (hS0 _)) (fun i hi => by
                by_cases q : i = k
                · rw [q, va_up_self]
                · rw [va_up_ne _ _ q]; exact hz i (by omega)) (by omega) H locs hP hD hS ls (lv_sub hl [0, 1, 2, 3] rfl)
  exact loop 57 0 y (Nat.zero_le _) hy0 (fun i hi => absurd hi (Nat.not_lt_zero _)) (by omega) s.heap [] hP hD hS ls (lv_sub hl [0, 1, 2, 3] rfl)
