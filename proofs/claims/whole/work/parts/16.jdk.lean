set_option maxHeartbeats 4000000 in
set_option maxRecDepth 100000 in
/-- Integer.numberOfTrailingZeros of a positive number -/
theorem c_Int_ntz (l : Launch) (dC : Nat → ClassId) (dI : Nat → Nat → Nat) (x t o : Nat) (hx0 : x = 2 ^ t * o) (ho : o % 2 = 1) (hlt : x < 2147483648) : Met l y_Int_ntz w_Int_ntz ({ frames := 0, cells := 0, slots := 0, locals := 0 }) (xc_R [.int (nI x)] dC dI ([]) []) (vp_Si (fun r => r = nI t)) 0 0 (fun _ => False) := by
  refine Met.ofW (cc := b_Int_ntz) (maxL := 2) (ret := (some .int)) (by decide) rfl ?_
  intro p e s m args below meth c s₁ B hml hv
  obtain ⟨rfl, hP, hK⟩ := hv
  have hx := B.exec
  have hb := B.bytes
  have hr := B.returns
  have hts : ∀ w ∈ gw_tbl, w.before ([.int (nI x)] : List Value).toArray s = true := fun w h => atoms_spec (ws := w_Int_ntz) B.pre w (List.mem_cons_of_mem _ h)
  have hown : s.vm.findClass R_Int = some m.cls := findClass_of_methodNamed B.named
  have hlocks := B.notSynchronized
  have hl := lv_entry ([.int (nI x)]) (n := 2) (Nat.le_of_ble_eq_true rfl)
  rw [lg_entry_eq]
  generalize (lg_sl ([.int (nI x)]) ++ List.replicate (2 - (lg_sl ([.int (nI x)])).length) Slot.unset).toArray = ls at hl ⊢
  have hl : lv_has ls 2 [(0, .int (nI x))] := hl
  have hp := Nat.two_pow_pos t
  have ht31 : t < 31 := by
    rcases Nat.lt_or_ge t 31 with q | q
    · exact q
    · have h1 := Nat.pow_le_pow_right (n := 2) (by decide) q
      have h2 : 2 ^ t * 1 ≤ 2 ^ t * o := Nat.mul_le_mul_left _ (by omega)
      omega
  have hpt := Nat.pow_le_pow_right (n := 2) (by decide) (show t ≤ 30 by omega)
  refine lv_iload_n hx hb d_Int_ntz_0 rfl (lv_at hl 0 rfl) ?_
  refine lv_iconst (v := -1) hx hb d_Int_ntz_1 (by decide) ?_
  refine xe_ixor (v := nI x ^^^ (-1)) hx hb d_Int_ntz_2 rfl ?_
  refine lv_iload_n hx hb d_Int_ntz_3 rfl (lv_at hl 0 rfl) ?_
  refine lv_iconst (v := nI 1) hx hb d_Int_ntz_4 rfl ?_
  refine xe_isub (v := nI x - nI 1) hx hb d_Int_ntz_5 rfl ?_
  refine xe_iand (v := nI (2 ^ t - 1)) hx hb d_Int_ntz_6 (nz_mask hx0 ho hlt) ?_
  refine lv_istore_n (lv' := [(0, .int (nI (2 ^ t - 1)))]) hx hb d_Int_ntz_7 rfl hl (by decide) rfl (fun ls hl => ?_)
  refine lv_iload_n hx hb d_Int_ntz_8 rfl (lv_at hl 0 rfl) ?_
  have st5 : ∀ (v k sq : Nat), (v = 2 ^ sq - 1) → (k + sq = t + 1) → (1 ≤ sq) → (sq ≤ 2) → ∀ (ls : Array Slot), lv_has ls 2 [(0, .int (nI v)), (1, .int (nI k))] → W p l e (headSpec w_Int_ntz ({ frames := 0, cells := 0, slots := 0, locals := 0 })).room s m ([.int (nI x)] : List Value).toArray below meth c s.heap [] 0 0 (MQ below (vp_Si (fun r => r = nI t)) ([.int (nI x)] : List Value).toArray s 0 0 (fun _ => False)) (F0 m 74 ls []) := by
    intro v k sq hv hsk hs1 hsm ls hl
    have hs2 := Nat.pow_le_pow_right (n := 2) (by decide) (show sq ≤ 30 by omega)
    have hs3 := Nat.two_pow_pos sq
    refine lv_iload_n hx hb d_Int_ntz_74 rfl (lv_at hl 1 rfl) ?_
    refine lv_iload_n hx hb d_Int_ntz_75 rfl (lv_at hl 0 rfl) ?_
    refine lv_iconst (v := nI 1) hx hb d_Int_ntz_76 rfl ?_
    refine lv_iushr (v := nI (v / 2 ^ 1)) hx hb d_Int_ntz_77 (pk_ushrN (by omega) _ 1 (by decide +kernel)) ?_
    refine xn_iadd hx hb d_Int_ntz_78 ?_
    have hfin : k + v / 2 ^ 1 = t := by
      rcases (show sq = 1 ∨ sq = 2 by omega) with q | q <;> (subst q; omega)
    rw [hfin]
    exact W.iret (v := nI t) hx hb hr (fun T_ ht_ hW_ => ⟨_, rfl, rfl, ht_⟩) (fun q hq => by cases hq) d_Int_ntz_79
  have st4 : ∀ (v k sq : Nat), (v = 2 ^ sq - 1) → (k + sq = t + 1) → (1 ≤ sq) → (sq ≤ 4) → ∀ (ls : Array Slot), lv_has ls 2 [(0, .int (nI v)), (1, .int (nI k))] → W p l e (headSpec w_Int_ntz ({ frames := 0, cells := 0, slots := 0, locals := 0 })).room s m ([.int (nI x)] : List Value).toArray below meth c s.heap [] 0 0 (MQ below (vp_Si (fun r => r = nI t)) ([.int (nI x)] : List Value).toArray s 0 0 (fun _ => False)) (F0 m 62 ls []) := by
    intro v k sq hv hsk hs1 hsm ls hl
    have hs2 := Nat.pow_le_pow_right (n := 2) (by decide) (show sq ≤ 30 by omega)
    have hs3 := Nat.two_pow_pos sq
    refine lv_iload_n hx hb d_Int_ntz_62 rfl (lv_at hl 0 rfl) ?_
    refine lv_iconst (v := nI 4) hx hb d_Int_ntz_63 rfl ?_
    refine xn_icmp_le (tgt := 74) hx hb (by omega) (by omega) d_Int_ntz_64 (by decide) (fun hle => ?_) (fun hle => ?_)
    · exact st5 v k sq hv hsk (by omega) (by have := (nz_gt (a := 2) (s := sq) (by decide)).mpr; omega) ls (lv_sub hl [0, 1] rfl)
    have hgt : 2 < sq := (nz_gt (a := 2) (s := sq) (by decide)).mp (by omega)
    refine lv_iinc (v := nI (k + 2)) (lv' := [(1, .int (nI (k + 2))), (0, .int (nI v))]) hx hb d_Int_ntz_67 hl (k := 1) rfl (nI_add _ 2) (by decide) rfl (fun ls hl => ?_)
    refine lv_iload_n hx hb d_Int_ntz_70 rfl (lv_at hl 1 rfl) ?_
    refine lv_iconst (v := nI 2) hx hb d_Int_ntz_71 rfl ?_
    refine lv_iushr (v := nI (v / 2 ^ 2)) hx hb d_Int_ntz_72 (pk_ushrN (by omega) _ 2 (by decide +kernel)) ?_
    refine lv_istore_n (lv' := [(0, .int (nI (v / 2 ^ 2))), (1, .int (nI (k + 2)))]) hx hb d_Int_ntz_73 rfl hl (by decide) rfl (fun ls hl => ?_)
    exact st5 (v / 2 ^ 2) (k + 2) (sq - 2) (by rw [hv]; exact nz_div (by omega)) (by omega) (by omega) (by omega) ls (lv_sub hl [0, 1] rfl)
  have st3 : ∀ (v k sq : Nat), (v = 2 ^ sq - 1) → (k + sq = t + 1) → (1 ≤ sq) → (sq ≤ 8) → ∀ (ls : Array Slot), lv_has ls 2 [(0, .int (nI v)), (1, .int (nI k))] → W p l e (headSpec w_Int_ntz ({ frames := 0, cells := 0, slots := 0, locals := 0 })).room s m ([.int (nI x)] : List Value).toArray below meth c s.heap [] 0 0 (MQ below (vp_Si (fun r => r = nI t)) ([.int (nI x)] : List Value).toArray s 0 0 (fun _ => False)) (F0 m 49 ls []) := by
    intro v k sq hv hsk hs1 hsm ls hl
    have hs2 := Nat.pow_le_pow_right (n := 2) (by decide) (show sq ≤ 30 by omega)
    have hs3 := Nat.two_pow_pos sq
    refine lv_iload_n hx hb d_Int_ntz_49 rfl (lv_at hl 0 rfl) ?_
    refine lv_bipush (v := nI 16) hx hb d_Int_ntz_50 rfl ?_
    refine xn_icmp_le (tgt := 62) hx hb (by omega) (by omega) d_Int_ntz_52 (by decide) (fun hle => ?_) (fun hle => ?_)
    · exact st4 v k sq hv hsk (by omega) (by have := (nz_gt (a := 4) (s := sq) (by decide)).mpr; omega) ls (lv_sub hl [0, 1] rfl)
    have hgt : 4 < sq := (nz_gt (a := 4) (s := sq) (by decide)).mp (by omega)
    refine lv_iinc (v := nI (k + 4)) (lv' := [(1, .int (nI (k + 4))), (0, .int (nI v))]) hx hb d_Int_ntz_55 hl (k := 1) rfl (nI_add _ 4) (by decide) rfl (fun ls hl => ?_)
    refine lv_iload_n hx hb d_Int_ntz_58 rfl (lv_at hl 1 rfl) ?_
    refine lv_iconst (v := nI 4) hx hb d_Int_ntz_59 rfl ?_
    refine lv_iushr (v := nI (v / 2 ^ 4)) hx hb d_Int_ntz_60 (pk_ushrN (by omega) _ 4 (by decide +kernel)) ?_
    refine lv_istore_n (lv' := [(0, .int (nI (v / 2 ^ 4))), (1, .int (nI (k + 4)))]) hx hb d_Int_ntz_61 rfl hl (by decide) rfl (fun ls hl => ?_)
    exact st4 (v / 2 ^ 4) (k + 4) (sq - 4) (by rw [hv]; exact nz_div (by omega)) (by omega) (by omega) (by omega) ls (lv_sub hl [0, 1] rfl)
  have st2 : ∀ (v k sq : Nat), (v = 2 ^ sq - 1) → (k + sq = t + 1) → (1 ≤ sq) → (sq ≤ 16) → ∀ (ls : Array Slot), lv_has ls 2 [(0, .int (nI v)), (1, .int (nI k))] → W p l e (headSpec w_Int_ntz ({ frames := 0, cells := 0, slots := 0, locals := 0 })).room s m ([.int (nI x)] : List Value).toArray below meth c s.heap [] 0 0 (MQ below (vp_Si (fun r => r = nI t)) ([.int (nI x)] : List Value).toArray s 0 0 (fun _ => False)) (F0 m 34 ls []) := by
    intro v k sq hv hsk hs1 hsm ls hl
    have hs2 := Nat.pow_le_pow_right (n := 2) (by decide) (show sq ≤ 30 by omega)
    have hs3 := Nat.two_pow_pos sq
    refine lv_iload_n hx hb d_Int_ntz_34 rfl (lv_at hl 0 rfl) ?_
    refine lv_sipush (v := nI 256) hx hb d_Int_ntz_35 rfl ?_
    refine xn_icmp_le (tgt := 49) hx hb (by omega) (by omega) d_Int_ntz_38 (by decide) (fun hle => ?_) (fun hle => ?_)
    · exact st3 v k sq hv hsk (by omega) (by have := (nz_gt (a := 8) (s := sq) (by decide)).mpr; omega) ls (lv_sub hl [0, 1] rfl)
    have hgt : 8 < sq := (nz_gt (a := 8) (s := sq) (by decide)).mp (by omega)
    refine lv_iinc (v := nI (k + 8)) (lv' := [(1, .int (nI (k + 8))), (0, .int (nI v))]) hx hb d_Int_ntz_41 hl (k := 1) rfl (nI_add _ 8) (by decide) rfl (fun ls hl => ?_)
    refine lv_iload_n hx hb d_Int_ntz_44 rfl (lv_at hl 1 rfl) ?_
    refine lv_bipush (v := nI 8) hx hb d_Int_ntz_45 rfl ?_
    refine lv_iushr (v := nI (v / 2 ^ 8)) hx hb d_Int_ntz_47 (pk_ushrN (by omega) _ 8 (by decide +kernel)) ?_
    refine lv_istore_n (lv' := [(0, .int (nI (v / 2 ^ 8))), (1, .int (nI (k + 8)))]) hx hb d_Int_ntz_48 rfl hl (by decide) rfl (fun ls hl => ?_)
    exact st3 (v / 2 ^ 8) (k + 8) (sq - 8) (by rw [hv]; exact nz_div (by omega)) (by omega) (by omega) (by omega) ls (lv_sub hl [0, 1] rfl)
  have st1 : ∀ (v k sq : Nat), (v = 2 ^ sq - 1) → (k + sq = t + 1) → (1 ≤ sq) → (sq ≤ 30) → ∀ (ls : Array Slot), lv_has ls 2 [(0, .int (nI v)), (1, .int (nI k))] → W p l e (headSpec w_Int_ntz ({ frames := 0, cells := 0, slots := 0, locals := 0 })).room s m ([.int (nI x)] : List Value).toArray below meth c s.heap [] 0 0 (MQ below (vp_Si (fun r => r = nI t)) ([.int (nI x)] : List Value).toArray s 0 0 (fun _ => False)) (F0 m 19 ls []) := by
    intro v k sq hv hsk hs1 hsm ls hl
    have hs2 := Nat.pow_le_pow_right (n := 2) (by decide) (show sq ≤ 30 by omega)
    have hs3 := Nat.two_pow_pos sq
    refine lv_iload_n hx hb d_Int_ntz_19 rfl (lv_at hl 0 rfl) ?_
    refine lv_ldcw (v := nI 65536) hx hb hown (hts _ k_ldc_Int_264) d_Int_ntz_20 ?_
    refine xn_icmp_le (tgt := 34) hx hb (by omega) (by omega) d_Int_ntz_23 (by decide) (fun hle => ?_) (fun hle => ?_)
    · exact st2 v k sq hv hsk (by omega) (by have := (nz_gt (a := 16) (s := sq) (by decide)).mpr; omega) ls (lv_sub hl [0, 1] rfl)
    have hgt : 16 < sq := (nz_gt (a := 16) (s := sq) (by decide)).mp (by omega)
    refine lv_iinc (v := nI (k + 16)) (lv' := [(1, .int (nI (k + 16))), (0, .int (nI v))]) hx hb d_Int_ntz_26 hl (k := 1) rfl (nI_add _ 16) (by decide) rfl (fun ls hl => ?_)
    refine lv_iload_n hx hb d_Int_ntz_29 rfl (lv_at hl 1 rfl) ?_
    refine lv_bipush (v := nI 16) hx hb d_Int_ntz_30 rfl ?_
    refine lv_iushr (v := nI (v / 2 ^ 16)) hx hb d_Int_ntz_32 (pk_ushrN (by omega) _ 16 (by decide +kernel)) ?_
    refine lv_istore_n (lv' := [(0, .int (nI (v / 2 ^ 16))), (1, .int (nI (k + 16)))]) hx hb d_Int_ntz_33 rfl hl (by decide) rfl (fun ls hl => ?_)
    exact st2 (v / 2 ^ 16) (k + 16) (sq - 16) (by rw [hv]; exact nz_div (by omega)) (by omega) (by omega) (by omega) ls (lv_sub hl [0, 1] rfl)
  refine xn_if_gt (tgt := 17) hx hb (by omega) d_Int_ntz_9 (by decide) (fun hgt0 => ?_) (fun hgt0 => ?_)
  rotate_left
  · have ht0 : t = 0 := by
      rcases Nat.eq_zero_or_pos t with q | q
      · exact q
      · have := Nat.pow_le_pow_right (n := 2) (by decide) (show 1 ≤ t from q)
        omega
    subst ht0
    refine lv_iload_n hx hb d_Int_ntz_12 rfl (lv_at hl 0 rfl) ?_
    refine lv_bipush (v := nI 32) hx hb d_Int_ntz_13 rfl ?_
    refine xe_iand (v := nI 0) hx hb d_Int_ntz_15 (by decide) ?_
    exact W.iret (v := nI 0) hx hb hr (fun T_ ht_ hW_ => ⟨_, rfl, rfl, ht_⟩) (fun q hq => by cases hq) d_Int_ntz_16
  have htp : 1 ≤ t := by
    rcases Nat.eq_zero_or_pos t with q | q
    · subst q; exact absurd rfl hgt0
    · exact q
  refine lv_iconst (v := nI 1) hx hb d_Int_ntz_17 rfl ?_
  refine lv_istore_n (lv' := [(1, .int (nI 1)), (0, .int (nI (2 ^ t - 1)))]) hx hb d_Int_ntz_18 rfl hl (by decide) rfl (fun ls hl => ?_)
  exact st1 (2 ^ t - 1) 1 t rfl (by omega) htp (by omega) ls (lv_sub hl [1, 0] rfl)
set_option maxHeartbeats 4000000 in
set_option maxRecDepth 100000 in
/-- Integer.numberOfLeadingZeros of a positive number of b + 1 bits -/
theorem c_Int_nlz (l : Launch) (dC : Nat → ClassId) (dI : Nat → Nat → Nat) (x b : Nat) (hb0 : 2 ^ b ≤ x) (hb1 : x < 2 ^ (b + 1)) (hb2 : b < 31) : Met l y_Int_nlz w_Int_nlz ({ frames := 0, cells := 0, slots := 0, locals := 0 }) (xc_R [.int (nI x)] dC dI ([]) []) (vp_Si (fun r => r = nI (31 - b))) 0 0 (fun _ => False) := by
  refine Met.ofW (cc := b_Int_nlz) (maxL := 2) (ret := (some .int)) (by decide) rfl ?_
  intro p e s m args below meth c s₁ B hml hv
  obtain ⟨rfl, hP, hK⟩ := hv
  have hx := B.exec
  have hb := B.bytes
  have hr := B.returns
  have hts : ∀ w ∈ gw_tbl, w.before ([.int (nI x)] : List Value).toArray s = true := fun w h => atoms_spec (ws := w_Int_nlz) B.pre w (List.mem_cons_of_mem _ h)
  have hown : s.vm.findClass R_Int = some m.cls := findClass_of_methodNamed B.named
  have hlocks := B.notSynchronized
  have hl := lv_entry ([.int (nI x)]) (n := 2) (Nat.le_of_ble_eq_true rfl)
  rw [lg_entry_eq]
  generalize (lg_sl ([.int (nI x)]) ++ List.replicate (2 - (lg_sl ([.int (nI x)])).length) Slot.unset).toArray = ls at hl ⊢
  have hl : lv_has ls 2 [(0, .int (nI x))] := hl
  have hp := Nat.two_pow_pos b
  have hq := Nat.pow_le_pow_right (n := 2) (by decide) (show b + 1 ≤ 31 by omega)
  refine lv_iload_n hx hb d_Int_nlz_0 rfl (lv_at hl 0 rfl) ?_
  have st5 : ∀ (v k : Nat), (k ≤ b) → (2 ^ (b - k) ≤ v) → (v < 2 ^ (b - k + 1)) → (v < 2 ^ 2) → ∀ (ls : Array Slot), lv_has ls 2 [(0, .int (nI v)), (1, .int (nI (31 - k)))] → W p l e (headSpec w_Int_nlz ({ frames := 0, cells := 0, slots := 0, locals := 0 })).room s m ([.int (nI x)] : List Value).toArray below meth c s.heap [] 0 0 (MQ below (vp_Si (fun r => r = nI (31 - b))) ([.int (nI x)] : List Value).toArray s 0 0 (fun _ => False)) (F0 m 73 ls []) := by
    intro v k hk hlo hhi hvm ls hl
    have hs2 := Nat.pow_le_pow_right (n := 2) (by decide) (show 2 ≤ 31 by omega)
    refine lv_iload_n hx hb d_Int_nlz_73 rfl (lv_at hl 1 rfl) ?_
    refine lv_iload_n hx hb d_Int_nlz_74 rfl (lv_at hl 0 rfl) ?_
    refine lv_iconst (v := nI 1) hx hb d_Int_nlz_75 rfl ?_
    refine lv_iushr (v := nI (v / 2 ^ 1)) hx hb d_Int_nlz_76 (pk_ushrN (by omega) _ 1 (by decide +kernel)) ?_
    refine xn_isub hx hb (by omega) d_Int_nlz_77 ?_
    have hfin : 31 - k - v / 2 ^ 1 = 31 - b := by
      rcases (show b - k = 0 ∨ b - k = 1 by
        rcases Nat.lt_or_ge (b - k) 2 with q | q
        · omega
        · have h1 := Nat.pow_le_pow_right (n := 2) (by decide) q
          omega) with q | q
      · rw [q] at hlo hhi; omega
      · rw [q] at hlo hhi; omega
    rw [hfin]
    exact W.iret (v := nI (31 - b)) hx hb hr (fun T_ ht_ hW_ => ⟨_, rfl, rfl, ht_⟩) (fun q hq => by cases hq) d_Int_nlz_78
  have st4 : ∀ (v k : Nat), (k ≤ b) → (2 ^ (b - k) ≤ v) → (v < 2 ^ (b - k + 1)) → (v < 2 ^ 4) → ∀ (ls : Array Slot), lv_has ls 2 [(0, .int (nI v)), (1, .int (nI (31 - k)))] → W p l e (headSpec w_Int_nlz ({ frames := 0, cells := 0, slots := 0, locals := 0 })).room s m ([.int (nI x)] : List Value).toArray below meth c s.heap [] 0 0 (MQ below (vp_Si (fun r => r = nI (31 - b))) ([.int (nI x)] : List Value).toArray s 0 0 (fun _ => False)) (F0 m 61 ls []) := by
    intro v k hk hlo hhi hvm ls hl
    have hs2 := Nat.pow_le_pow_right (n := 2) (by decide) (show 4 ≤ 31 by omega)
    refine lv_iload_n hx hb d_Int_nlz_61 rfl (lv_at hl 0 rfl) ?_
    refine lv_iconst (v := nI 4) hx hb d_Int_nlz_62 rfl ?_
    refine xn_icmp_lt (tgt := 73) hx hb (by omega) (by omega) d_Int_nlz_63 (by decide) (fun hlt => ?_) (fun hlt => ?_)
    · exact st5 v k hk hlo hhi (by omega) ls (lv_sub hl [0, 1] rfl)
    have hge : 2 ≤ b - k := by
      rcases Nat.lt_or_ge (b - k) 2 with q | q
      · have h1 := Nat.pow_le_pow_right (n := 2) (by decide) (show b - k + 1 ≤ 2 from q)
        omega
      · exact q
    refine lv_iinc (v := nI ((31 - k) - 2)) (lv' := [(1, .int (nI ((31 - k) - 2))), (0, .int (nI v))]) hx hb d_Int_nlz_66 hl (k := 1) rfl (xn_dec (by omega) (by decide)) (by decide) rfl (fun ls hl => ?_)
    refine lv_iload_n hx hb d_Int_nlz_69 rfl (lv_at hl 1 rfl) ?_
    refine lv_iconst (v := nI 2) hx hb d_Int_nlz_70 rfl ?_
    refine lv_iushr (v := nI (v / 2 ^ 2)) hx hb d_Int_nlz_71 (pk_ushrN (by omega) _ 2 (by decide +kernel)) ?_
    refine lv_istore_n (lv' := [(0, .int (nI (v / 2 ^ 2))), (1, .int (nI ((31 - k) - 2)))]) hx hb d_Int_nlz_72 rfl hl (by decide) rfl (fun ls hl => ?_)
    rw [show 31 - k - 2 = 31 - (k + 2) by omega] at hl
    have e1 : 2 ^ (b - k) = 2 ^ (b - (k + 2)) * 2 ^ 2 := by rw [← Nat.pow_add]; congr 1; omega
    have e2 : 2 ^ (b - k + 1) = 2 ^ (b - (k + 2) + 1) * 2 ^ 2 := by rw [← Nat.pow_add]; congr 1; omega
    exact st5 (v / 2 ^ 2) (k + 2) (by omega) ((Nat.le_div_iff_mul_le (by decide)).mpr (by omega)) ((Nat.div_lt_iff_lt_mul (by decide)).mpr (by omega)) ((Nat.div_lt_iff_lt_mul (by decide)).mpr (by omega)) ls (lv_sub hl [0, 1] rfl)
  have st3 : ∀ (v k : Nat), (k ≤ b) → (2 ^ (b - k) ≤ v) → (v < 2 ^ (b - k + 1)) → (v < 2 ^ 8) → ∀ (ls : Array Slot), lv_has ls 2 [(0, .int (nI v)), (1, .int (nI (31 - k)))] → W p l e (headSpec w_Int_nlz ({ frames := 0, cells := 0, slots := 0, locals := 0 })).room s m ([.int (nI x)] : List Value).toArray below meth c s.heap [] 0 0 (MQ below (vp_Si (fun r => r = nI (31 - b))) ([.int (nI x)] : List Value).toArray s 0 0 (fun _ => False)) (F0 m 48 ls []) := by
    intro v k hk hlo hhi hvm ls hl
    have hs2 := Nat.pow_le_pow_right (n := 2) (by decide) (show 8 ≤ 31 by omega)
    refine lv_iload_n hx hb d_Int_nlz_48 rfl (lv_at hl 0 rfl) ?_
    refine lv_bipush (v := nI 16) hx hb d_Int_nlz_49 rfl ?_
    refine xn_icmp_lt (tgt := 61) hx hb (by omega) (by omega) d_Int_nlz_51 (by decide) (fun hlt => ?_) (fun hlt => ?_)
    · exact st4 v k hk hlo hhi (by omega) ls (lv_sub hl [0, 1] rfl)
    have hge : 4 ≤ b - k := by
      rcases Nat.lt_or_ge (b - k) 4 with q | q
      · have h1 := Nat.pow_le_pow_right (n := 2) (by decide) (show b - k + 1 ≤ 4 from q)
        omega
      · exact q
    refine lv_iinc (v := nI ((31 - k) - 4)) (lv' := [(1, .int (nI ((31 - k) - 4))), (0, .int (nI v))]) hx hb d_Int_nlz_54 hl (k := 1) rfl (xn_dec (by omega) (by decide)) (by decide) rfl (fun ls hl => ?_)
    refine lv_iload_n hx hb d_Int_nlz_57 rfl (lv_at hl 1 rfl) ?_
    refine lv_iconst (v := nI 4) hx hb d_Int_nlz_58 rfl ?_
    refine lv_iushr (v := nI (v / 2 ^ 4)) hx hb d_Int_nlz_59 (pk_ushrN (by omega) _ 4 (by decide +kernel)) ?_
    refine lv_istore_n (lv' := [(0, .int (nI (v / 2 ^ 4))), (1, .int (nI ((31 - k) - 4)))]) hx hb d_Int_nlz_60 rfl hl (by decide) rfl (fun ls hl => ?_)
    rw [show 31 - k - 4 = 31 - (k + 4) by omega] at hl
    have e1 : 2 ^ (b - k) = 2 ^ (b - (k + 4)) * 2 ^ 4 := by rw [← Nat.pow_add]; congr 1; omega
    have e2 : 2 ^ (b - k + 1) = 2 ^ (b - (k + 4) + 1) * 2 ^ 4 := by rw [← Nat.pow_add]; congr 1; omega
    exact st4 (v / 2 ^ 4) (k + 4) (by omega) ((Nat.le_div_iff_mul_le (by decide)).mpr (by omega)) ((Nat.div_lt_iff_lt_mul (by decide)).mpr (by omega)) ((Nat.div_lt_iff_lt_mul (by decide)).mpr (by omega)) ls (lv_sub hl [0, 1] rfl)
  have st2 : ∀ (v k : Nat), (k ≤ b) → (2 ^ (b - k) ≤ v) → (v < 2 ^ (b - k + 1)) → (v < 2 ^ 16) → ∀ (ls : Array Slot), lv_has ls 2 [(0, .int (nI v)), (1, .int (nI (31 - k)))] → W p l e (headSpec w_Int_nlz ({ frames := 0, cells := 0, slots := 0, locals := 0 })).room s m ([.int (nI x)] : List Value).toArray below meth c s.heap [] 0 0 (MQ below (vp_Si (fun r => r = nI (31 - b))) ([.int (nI x)] : List Value).toArray s 0 0 (fun _ => False)) (F0 m 33 ls []) := by
    intro v k hk hlo hhi hvm ls hl
    have hs2 := Nat.pow_le_pow_right (n := 2) (by decide) (show 16 ≤ 31 by omega)
    refine lv_iload_n hx hb d_Int_nlz_33 rfl (lv_at hl 0 rfl) ?_
    refine lv_sipush (v := nI 256) hx hb d_Int_nlz_34 rfl ?_
    refine xn_icmp_lt (tgt := 48) hx hb (by omega) (by omega) d_Int_nlz_37 (by decide) (fun hlt => ?_) (fun hlt => ?_)
    · exact st3 v k hk hlo hhi (by omega) ls (lv_sub hl [0, 1] rfl)
    have hge : 8 ≤ b - k := by
      rcases Nat.lt_or_ge (b - k) 8 with q | q
      · have h1 := Nat.pow_le_pow_right (n := 2) (by decide) (show b - k + 1 ≤ 8 from q)
        omega
      · exact q
    refine lv_iinc (v := nI ((31 - k) - 8)) (lv' := [(1, .int (nI ((31 - k) - 8))), (0, .int (nI v))]) hx hb d_Int_nlz_40 hl (k := 1) rfl (xn_dec (by omega) (by decide)) (by decide) rfl (fun ls hl => ?_)
    refine lv_iload_n hx hb d_Int_nlz_43 rfl (lv_at hl 1 rfl) ?_
    refine lv_bipush (v := nI 8) hx hb d_Int_nlz_44 rfl ?_
    refine lv_iushr (v := nI (v / 2 ^ 8)) hx hb d_Int_nlz_46 (pk_ushrN (by omega) _ 8 (by decide +kernel)) ?_
    refine lv_istore_n (lv' := [(0, .int (nI (v / 2 ^ 8))), (1, .int (nI ((31 - k) - 8)))]) hx hb d_Int_nlz_47 rfl hl (by decide) rfl (fun ls hl => ?_)
    rw [show 31 - k - 8 = 31 - (k + 8) by omega] at hl
    have e1 : 2 ^ (b - k) = 2 ^ (b - (k + 8)) * 2 ^ 8 := by rw [← Nat.pow_add]; congr 1; omega
    have e2 : 2 ^ (b - k + 1) = 2 ^ (b - (k + 8) + 1) * 2 ^ 8 := by rw [← Nat.pow_add]; congr 1; omega
    exact st3 (v / 2 ^ 8) (k + 8) (by omega) ((Nat.le_div_iff_mul_le (by decide)).mpr (by omega)) ((Nat.div_lt_iff_lt_mul (by decide)).mpr (by omega)) ((Nat.div_lt_iff_lt_mul (by decide)).mpr (by omega)) ls (lv_sub hl [0, 1] rfl)
  have st1 : ∀ (v k : Nat), (k ≤ b) → (2 ^ (b - k) ≤ v) → (v < 2 ^ (b - k + 1)) → (v < 2 ^ 31) → ∀ (ls : Array Slot), lv_has ls 2 [(0, .int (nI v)), (1, .int (nI (31 - k)))] → W p l e (headSpec w_Int_nlz ({ frames := 0, cells := 0, slots := 0, locals := 0 })).room s m ([.int (nI x)] : List Value).toArray below meth c s.heap [] 0 0 (MQ below (vp_Si (fun r => r = nI (31 - b))) ([.int (nI x)] : List Value).toArray s 0 0 (fun _ => False)) (F0 m 18 ls []) := by
    intro v k hk hlo hhi hvm ls hl
    have hs2 := Nat.pow_le_pow_right (n := 2) (by decide) (show 31 ≤ 31 by omega)
    refine lv_iload_n hx hb d_Int_nlz_18 rfl (lv_at hl 0 rfl) ?_
    refine lv_ldcw (v := nI 65536) hx hb hown (hts _ k_ldc_Int_264) d_Int_nlz_19 ?_
    refine xn_icmp_lt (tgt := 33) hx hb (by omega) (by omega) d_Int_nlz_22 (by decide) (fun hlt => ?_) (fun hlt => ?_)
    · exact st2 v k hk hlo hhi (by omega) ls (lv_sub hl [0, 1] rfl)
    have hge : 16 ≤ b - k := by
      rcases Nat.lt_or_ge (b - k) 16 with q | q
      · have h1 := Nat.pow_le_pow_right (n := 2) (by decide) (show b - k + 1 ≤ 16 from q)
        omega
      · exact q
    refine lv_iinc (v := nI ((31 - k) - 16)) (lv' := [(1, .int (nI ((31 - k) - 16))), (0, .int (nI v))]) hx hb d_Int_nlz_25 hl (k := 1) rfl (xn_dec (by omega) (by decide)) (by decide) rfl (fun ls hl => ?_)
    refine lv_iload_n hx hb d_Int_nlz_28 rfl (lv_at hl 1 rfl) ?_
    refine lv_bipush (v := nI 16) hx hb d_Int_nlz_29 rfl ?_
    refine lv_iushr (v := nI (v / 2 ^ 16)) hx hb d_Int_nlz_31 (pk_ushrN (by omega) _ 16 (by decide +kernel)) ?_
    refine lv_istore_n (lv' := [(0, .int (nI (v / 2 ^ 16))), (1, .int (nI ((31 - k) - 16)))]) hx hb d_Int_nlz_32 rfl hl (by decide) rfl (fun ls hl => ?_)
    rw [show 31 - k - 16 = 31 - (k + 16) by omega] at hl
    have e1 : 2 ^ (b - k) = 2 ^ (b - (k + 16)) * 2 ^ 16 := by rw [← Nat.pow_add]; congr 1; omega
    have e2 : 2 ^ (b - k + 1) = 2 ^ (b - (k + 16) + 1) * 2 ^ 16 := by rw [← Nat.pow_add]; congr 1; omega
    exact st2 (v / 2 ^ 16) (k + 16) (by omega) ((Nat.le_div_iff_mul_le (by decide)).mpr (by omega)) ((Nat.div_lt_iff_lt_mul (by decide)).mpr (by omega)) ((Nat.div_lt_iff_lt_mul (by decide)).mpr (by omega)) ls (lv_sub hl [0, 1] rfl)
  refine xn_if_gt (tgt := 15) hx hb (by omega) d_Int_nlz_1 (by decide) (fun hgt0 => ?_) (fun hgt0 => ?_)
  rotate_left
  · exact absurd hgt0 (by omega)
  refine lv_bipush (v := nI 31) hx hb d_Int_nlz_15 rfl ?_
  refine lv_istore_n (lv' := [(1, .int (nI 31)), (0, .int (nI x))]) hx hb d_Int_nlz_17 rfl hl (by decide) rfl (fun ls hl => ?_)
  exact st1 x 0 (Nat.zero_le _) hb0 hb1 (by omega) ls (lv_sub hl [1, 0] rfl)
set_option maxHeartbeats 4000000 in
set_option maxRecDepth 100000 in
/-- Long.signum -/
theorem c_Long_signum (l : Launch) (dC : Nat → ClassId) (dI : Nat → Nat → Nat) (v : Int64)  : Met l y_Long_signum w_Long_signum ({ frames := 0, cells := 0, slots := 0, locals := 0 }) (xc_R [.long v] dC dI ([]) []) (vp_Si (fun r => r = (if v.toInt < 0 then -1 else if v.toInt = 0 then 0 else 1))) 0 0 (fun _ => False) := by
  refine Met.ofW (cc := b_Long_signum) (maxL := 2) (ret := (some .int)) (by decide) rfl ?_
  intro p e s m args below meth c s₁ B hml hv
  obtain ⟨rfl, hP, hK⟩ := hv
  have hx := B.exec
  have hb := B.bytes
  have hr := B.returns
  have hts : ∀ w ∈ gw_tbl, w.before ([.long v] : List Value).toArray s = true := fun w h => atoms_spec (ws := w_Long_signum) B.pre w (List.mem_cons_of_mem _ h)
  have hown : s.vm.findClass R_Long = some m.cls := findClass_of_methodNamed B.named
  have hlocks := B.notSynchronized
  have hl := lv_entry ([.long v]) (n := 2) (Nat.le_of_ble_eq_true rfl)
  rw [lg_entry_eq]
  generalize (lg_sl ([.long v]) ++ List.replicate (2 - (lg_sl ([.long v])).length) Slot.unset).toArray = ls at hl ⊢
  have hl : lv_has ls 2 [(0, .long v)] := hl
  refine lv_lload_n hx hb d_Long_signum_0 rfl (lv_at hl 0 rfl) ?_
  refine lv_bipush (v := nI 63) hx hb d_Long_signum_1 rfl ?_
  refine lv_lshr (v := v >>> ((nI 63).toInt64 &&& 63)) hx hb d_Long_signum_3 rfl ?_
  refine lv_lload_n hx hb d_Long_signum_4 rfl (lv_at hl 0 rfl) ?_
  refine lv_lneg hx hb d_Long_signum_5 ?_
  refine lv_bipush (v := nI 63) hx hb d_Long_signum_6 rfl ?_
  refine lv_lushr (v := ((-v).toUInt64 >>> ((nI 63).toInt64.toUInt64 &&& Int64.toUInt64 63)).toInt64) hx hb d_Long_signum_8 rfl ?_
  refine xe_lor (v := (v >>> ((nI 63).toInt64 &&& 63)) ||| ((-v).toUInt64 >>> ((nI 63).toInt64.toUInt64 &&& Int64.toUInt64 63)).toInt64) hx hb d_Long_signum_9 rfl ?_
  refine lv_l2i (v := if v.toInt < 0 then -1 else if v.toInt = 0 then 0 else 1) hx hb d_Long_signum_10 (sg_long v) ?_
  exact W.iret (v := (if v.toInt < 0 then -1 else if v.toInt = 0 then 0 else 1)) hx hb hr (fun T_ ht_ hW_ => ⟨_, rfl, rfl, ht_⟩) (fun q hq => by cases hq) d_Long_signum_11
