theorem sg_par (n : Nat) : dt_sg n = if n % 2 = 0 then 1 else -1 := by
  induction n with
  | zero => rfl
  | succ n ih =>
    show - dt_sg n = _
    rw [ih]
    rcases (show n % 2 = 0 ∨ n % 2 = 1 by omega) with q | q
    · rw [if_pos q, if_neg (by omega)]
    · rw [if_neg (by omega), if_pos (by omega)]; rfl
def ds_P (A : Nat → Nat → Int) (k s m : Nat) (z : Int) : Prop := z + dt_sg (dh s m (13 - m)).length * dt_alt (fun c => c k) (fun l => dt_E k ((dh s m (13 - m)).map (dt_col A) ++ l)) ((db s m).map (dt_col A)) = dE_ A s
theorem ds_end {A : Nat → Nat → Int} {k s : Nat} {z : Int} (h : ds_P A k s 0 z) : z = dE_ A s := by
  unfold ds_P at h
  have e : dt_alt (fun c => c k) (fun l => dt_E k ((dh s 0 (13 - 0)).map (dt_col A) ++ l)) ((db s 0).map (dt_col A)) = 0 := rfl
  rw [e, Int.mul_zero, Int.add_zero] at h
  exact h
theorem ds_start {A : Nat → Nat → Int} {k s n : Nat} (hn : n ≤ 12) (hs : s < 2 ^ (n + 1)) (hk : (db s 13).length = k + 1) : ds_P A k s (n + 1) 0 ∧ dh s (n + 1) (13 - (n + 1)) = [] := by
  have h1 := db_top hn hs
  have h2 := db_app s (n + 1) (13 - (n + 1))
  rw [show n + 1 + (13 - (n + 1)) = 13 by omega, h1] at h2
  have h3 : dh s (n + 1) (13 - (n + 1)) = [] := by
    have h4 := congrArg List.length h2
    rw [List.length_append] at h4
    exact List.length_eq_zero_iff.mp (by omega)
  refine ⟨?_, h3⟩
  unfold ds_P dE_
  rw [h3, hk, ← h1]
  show 0 + 1 * dt_alt (fun c => c k) (fun l => dt_E k l) ((db s 13).map (dt_col A)) = dt_alt (fun c => c k) (dt_E k) ((db s 13).map (dt_col A))
  rw [Int.one_mul, Int.zero_add]
theorem ds_skip {A : Nat → Nat → Int} {k s j : Nat} {z : Int} (hj : j < 13) (hb : ¬ s / 2 ^ j % 2 = 1) (h : ds_P A k s (j + 1) z) : ds_P A k s j z ∧ dh s j (13 - j) = dh s (j + 1) (13 - (j + 1)) := by
  have e1 : dh s j (13 - j) = dh s (j + 1) (13 - (j + 1)) := by
    rw [show 13 - j = 13 - (j + 1) + 1 by omega, dh_low, if_neg hb, List.append_nil]
  have e2 : db s (j + 1) = db s j := by
    show (if s / 2 ^ j % 2 = 1 then j :: db s j else db s j) = _
    rw [if_neg hb]
  refine ⟨?_, e1⟩
  unfold ds_P at h ⊢
  rw [e1, ← e2]
  exact h
theorem ds_set {A : Nat → Nat → Int} {k s j lp : Nat} {z : Int} (hj : j < 13) (hb : s / 2 ^ j % 2 = 1) (hk : (db s 13).length = k + 1) (hlp : lp = (dh s (j + 1) (13 - (j + 1))).length % 2) (h : ds_P A k s (j + 1) z) :
    ds_P A k s j (if nI lp = 0 then z + dE_ A (s - 2 ^ j) * A k j else z - dE_ A (s - 2 ^ j) * A k j) ∧ (dh s j (13 - j)).length = (dh s (j + 1) (13 - (j + 1))).length + 1 ∧ (db (s - 2 ^ j) 13).length = k := by
  have e1 : dh s j (13 - j) = dh s (j + 1) (13 - (j + 1)) ++ [j] := by
    rw [show 13 - j = 13 - (j + 1) + 1 by omega, dh_low, if_pos hb]
  have e2 : db s (j + 1) = j :: db s j := by
    show (if s / 2 ^ j % 2 = 1 then j :: db s j else db s j) = _
    rw [if_pos hb]
  obtain ⟨o1, o2⟩ := db_off hj hb
  rw [show 12 - j = 13 - (j + 1) by omega] at o1 o2
  have hlen : (db (s - 2 ^ j) 13).length = k := by
    rw [o1, List.length_append, List.length_cons] at hk
    rw [o2, List.length_append]
    omega
  refine ⟨?_, by rw [e1, List.length_append]; rfl, hlen⟩
  unfold ds_P at h ⊢
  have eE : dE_ A (s - 2 ^ j) = dt_E k ((dh s (j + 1) (13 - (j + 1))).map (dt_col A) ++ (db s j).map (dt_col A)) := by
    unfold dE_
    rw [hlen, o2, List.map_append]
  rw [eE]
  rw [e2, List.map_cons, dt_alt_cons] at h
  rw [e1]
  generalize hhi : dh s (j + 1) (13 - (j + 1)) = hi at *
  have e3 : (fun l => dt_E k ((hi ++ [j]).map (dt_col A) ++ l)) = (fun l => dt_E k (hi.map (dt_col A) ++ dt_col A j :: l)) := by
    funext l
    rw [List.map_append, List.append_assoc]
    rfl
  rw [e3, List.length_append]
  show _ + (- dt_sg hi.length) * _ = _
  have e4 : A k j = dt_col A j k := rfl
  rw [e4]
  generalize dt_alt (fun c => c k) (fun l => dt_E k (hi.map (dt_col A) ++ dt_col A j :: l)) ((db s j).map (dt_col A)) = Y at *
  generalize dt_E k (hi.map (dt_col A) ++ (db s j).map (dt_col A)) = X at *
  generalize dt_col A j k = a at *
  rw [← h, sg_par]
  have hcm : X * a = a * X := Int.mul_comm ..
  rcases (show hi.length % 2 = 0 ∨ hi.length % 2 = 1 by omega) with q | q
  · rw [hlp, q, if_pos (show (0 : Nat) = 0 from rfl), if_pos (show nI 0 = 0 by decide)]
    omega
  · rw [hlp, q, if_neg (show ¬ (1 : Nat) = 0 by decide), if_neg (show ¬ nI 1 = 0 by decide)]
    omega
theorem js_all : ∀ n, n < 13 → db (2 ^ n - 1) 13 = dt_js n := by decide +kernel
theorem js_len (n : Nat) : (dt_js n).length = n := by
  induction n with
  | zero => rfl
  | succ n ih => show (dt_js n).length + 1 = n + 1; rw [ih]
theorem dE_full (A : Nat → Nat → Int) {n : Nat} (hn : n ≤ 12) : dE_ A (2 ^ n - 1) = dt_d A n ∧ (db (2 ^ n - 1) 13).length = n := by
  have h := js_all n (by omega)
  unfold dE_ dt_d
  rw [h, js_len, dt_cs_map]
  exact ⟨rfl, rfl⟩
def sgI (z : Int) : Int32 := if z < 0 then -1 else if z = 0 then 0 else 1
theorem dg_56 : dg_p 56 = 2 ^ 896 := by rw [dg_p2]
theorem tc_pos {z : Int} (h0 : 0 ≤ z) (h : z.natAbs < 2 ^ 785) : tc z = z.natAbs := by
  have e : ((z.natAbs : Nat) : Int) = z := by omega
  have h1 := tc_self (n := z.natAbs) (by rw [dg_56]; exact Nat.lt_trans h (Nat.pow_lt_pow_right (by decide) (by decide)))
  rw [e] at h1
  exact h1
theorem tc_ng {z : Int} (h0 : z < 0) (h : z.natAbs < 2 ^ 785) : tc z = 2 ^ 896 - z.natAbs := by
  have h1 := tc_neg (- z)
  rw [Int.neg_neg, tc_pos (by omega) (by rw [Int.natAbs_neg]; exact h), Int.natAbs_neg, dg_56] at h1
  rw [← h1, Nat.mod_eq_of_lt (by omega)]
theorem sg_tc {z : Int} (h : z.natAbs < 2 ^ 785) : (if 2 ^ 895 ≤ tc z then (-1 : Int32) else if tc z = 0 then 0 else 1) = sgI z := by
  unfold sgI
  have h1 : (2 : Nat) ^ 785 ≤ 2 ^ 895 := Nat.pow_le_pow_right (by decide) (by decide)
  have h2 : (2 : Nat) ^ 896 = 2 ^ 895 * 2 := Nat.pow_succ ..
  rcases Int.lt_or_le z 0 with q | q
  · rw [if_pos q, tc_ng q h, if_pos (by omega)]
  · rw [tc_pos q h, if_neg (show ¬ 2 ^ 895 ≤ z.natAbs by omega)]
    by_cases c : z = 0
    · subst c; rw [if_pos (show (0 : Int).natAbs = 0 from rfl), if_neg (show ¬ (0 : Int) < 0 by decide), if_pos rfl]
    · rw [if_neg (show ¬ z.natAbs = 0 by omega), if_neg (show ¬ z < 0 by omega), if_neg c]
def mG (M : mT) : Prop := M.n ≤ 12 ∧ (M.sv = 0 ∨ M.sv = 1) ∧ (∀ i, M.S i < 65536) ∧ (∀ i, M.ft i < 65536) ∧ (∀ i, M.fo i < 65536) ∧ (∀ i, M.fb i < 65536) ∧ (∀ i, M.fg i < 65536) ∧ (∀ i, M.fh i < 65536) ∧ (∀ i, M.fr i < 65536) ∧
  (M.sv = 1 → dt_d (dA M.a) M.n ≠ 0 ∧ ∀ w, w < 2 ^ (M.n + 1) → (db w 13).length ≤ M.n → dg_v (fun j => M.S (56 * w + j)) 56 = tc (dE_ (dA M.a) w))
theorem sgI_0 (z : Int) : sgI z = 0 ↔ z = 0 := by
  unfold sgI
  rcases (show z < 0 ∨ z = 0 ∨ 0 < z by omega) with q | q | q
  · rw [if_pos q]; exact ⟨fun h => absurd h (by decide), fun h => by omega⟩
  · subst q; exact ⟨fun _ => rfl, fun _ => rfl⟩
  · rw [if_neg (by omega), if_neg (by omega)]; exact ⟨fun h => absurd h (by decide), fun h => by omega⟩
theorem dg_one {f : Nat → Nat} (h0 : f 0 = 1) (h : ∀ i, 1 ≤ i → i < 56 → f i = 0) : dg_v f 56 = 1 := by
  rw [dg_zero (a := 1) (by decide) h]
  show 0 + f 0 * 1 = 1
  rw [h0]
theorem tc_1 : tc 1 = 1 := tc_self (n := 1) (by rw [dg_56]; exact Nat.one_lt_two_pow (by decide))
theorem tc_0 : tc 0 = 0 := tc_self (n := 0) (dg_pp 56)
theorem db_le (s m : Nat) : (db s m).length ≤ m := by
  induction m with
  | zero => exact Nat.le_refl _
  | succ m ih =>
    show (if s / 2 ^ m % 2 = 1 then m :: db s m else db s m).length ≤ m + 1
    split
    · rw [List.length_cons]; omega
    · omega
set_option maxHeartbeats 8000000 in
set_option maxRecDepth 100000 in
/-- Integer.bitCount -/
theorem c_Int_bitCount (l : Launch) (dC : Nat → ClassId) (dI : Nat → Nat → Nat) (w0 : Nat) (hw0 : w0 < 8192) : Met l y_Int_bitCount w_Int_bitCount ({ frames := 0, cells := 0, slots := 0, locals := 0 }) (xc_R [.int (nI w0)] dC dI ([]) []) (vp_Si (fun r => r = nI (db w0 13).length)) 0 0 (fun _ => False) := by
  refine Met.ofW (cc := b_Int_bitCount) (maxL := 1) (ret := (some .int)) (by decide) rfl ?_
  intro p e s m args below meth c s₁ B hml hv
  obtain ⟨rfl, hP, hK⟩ := hv
  have hx := B.exec
  have hb := B.bytes
  have hr := B.returns
  have hts : ∀ w ∈ gw_tbl, w.before ([.int (nI w0)] : List Value).toArray s = true := fun w h => atoms_spec (ws := w_Int_bitCount) B.pre w (List.mem_cons_of_mem _ h)
  have hown : s.vm.findClass R_Int = some m.cls := findClass_of_methodNamed B.named
  have hlocks := B.notSynchronized
  have hl := lv_entry ([.int (nI w0)]) (n := 1) (Nat.le_of_ble_eq_true rfl)
  rw [lg_entry_eq]
  generalize (lg_sl ([.int (nI w0)]) ++ List.replicate (1 - (lg_sl ([.int (nI w0)])).length) Slot.unset).toArray = ls at hl ⊢
  have hl : lv_has ls 1 [(0, .int (nI w0))] := hl
  refine lv_iload_n hx hb d_Int_bitCount_0 rfl (lv_at hl 0 rfl) ?_
  refine lv_iload_n hx hb d_Int_bitCount_1 rfl (lv_at hl 0 rfl) ?_
  refine lv_iconst (v := nI 1) hx hb d_Int_bitCount_2 rfl ?_
  refine lv_iushr (v := bu (nI w0) (nI 1)) hx hb d_Int_bitCount_3 rfl ?_
  refine lv_ldcw (v := nI 1431655765) hx hb hown (hts _ k_ldc_Int_265) d_Int_bitCount_4 ?_
  refine xe_iand (v := bu (nI w0) (nI 1) &&& nI 1431655765) hx hb d_Int_bitCount_7 rfl ?_
  refine xe_isub (v := bc1 (nI w0)) hx hb d_Int_bitCount_8 rfl ?_
  refine lv_istore_n (lv' := [(0, .int (bc1 (nI w0)))]) hx hb d_Int_bitCount_9 rfl hl (by decide) rfl (fun ls hl => ?_)
  refine lv_iload_n hx hb d_Int_bitCount_10 rfl (lv_at hl 0 rfl) ?_
  refine lv_ldcw (v := nI 858993459) hx hb hown (hts _ k_ldc_Int_266) d_Int_bitCount_11 ?_
  refine xe_iand (v := bc1 (nI w0) &&& nI 858993459) hx hb d_Int_bitCount_14 rfl ?_
  refine lv_iload_n hx hb d_Int_bitCount_15 rfl (lv_at hl 0 rfl) ?_
  refine lv_iconst (v := nI 2) hx hb d_Int_bitCount_16 rfl ?_
  refine lv_iushr (v := bu (bc1 (nI w0)) (nI 2)) hx hb d_Int_bitCount_17 rfl ?_
  refine lv_ldcw (v := nI 858993459) hx hb hown (hts _ k_ldc_Int_266) d_Int_bitCount_18 ?_
  refine xe_iand (v := bu (bc1 (nI w0)) (nI 2) &&& nI 858993459) hx hb d_Int_bitCount_21 rfl ?_
  refine xe_iadd (v := bc2 (bc1 (nI w0))) hx hb d_Int_bitCount_22 rfl ?_
  refine lv_istore_n (lv' := [(0, .int (bc2 (bc1 (nI w0))))]) hx hb d_Int_bitCount_23 rfl hl (by decide) rfl (fun ls hl => ?_)
  refine lv_iload_n hx hb d_Int_bitCount_24 rfl (lv_at hl 0 rfl) ?_
  refine lv_iload_n hx hb d_Int_bitCount_25 rfl (lv_at hl 0 rfl) ?_
  refine lv_iconst (v := nI 4) hx hb d_Int_bitCount_26 rfl ?_
  refine lv_iushr (v := bu (bc2 (bc1 (nI w0))) (nI 4)) hx hb d_Int_bitCount_27 rfl ?_
  refine xe_iadd (v := bc2 (bc1 (nI w0)) + bu (bc2 (bc1 (nI w0))) (nI 4)) hx hb d_Int_bitCount_28 rfl ?_
  refine lv_ldcw (v := nI 252645135) hx hb hown (hts _ k_ldc_Int_267) d_Int_bitCount_29 ?_
  refine xe_iand (v := bc3 (bc2 (bc1 (nI w0)))) hx hb d_Int_bitCount_32 rfl ?_
  refine lv_istore_n (lv' := [(0, .int (bc3 (bc2 (bc1 (nI w0)))))]) hx hb d_Int_bitCount_33 rfl hl (by decide) rfl (fun ls hl => ?_)
  refine lv_iload_n hx hb d_Int_bitCount_34 rfl (lv_at hl 0 rfl) ?_
  refine lv_iload_n hx hb d_Int_bitCount_35 rfl (lv_at hl 0 rfl) ?_
  refine lv_bipush (v := nI 8) hx hb d_Int_bitCount_36 rfl ?_
  refine lv_iushr (v := bu (bc3 (bc2 (bc1 (nI w0)))) (nI 8)) hx hb d_Int_bitCount_38 rfl ?_
  refine xe_iadd (v := bc4 (bc3 (bc2 (bc1 (nI w0))))) hx hb d_Int_bitCount_39 rfl ?_
  refine lv_istore_n (lv' := [(0, .int (bc4 (bc3 (bc2 (bc1 (nI w0))))))]) hx hb d_Int_bitCount_40 rfl hl (by decide) rfl (fun ls hl => ?_)
  refine lv_iload_n hx hb d_Int_bitCount_41 rfl (lv_at hl 0 rfl) ?_
  refine lv_iload_n hx hb d_Int_bitCount_42 rfl (lv_at hl 0 rfl) ?_
  refine lv_bipush (v := nI 16) hx hb d_Int_bitCount_43 rfl ?_
  refine lv_iushr (v := bu (bc4 (bc3 (bc2 (bc1 (nI w0))))) (nI 16)) hx hb d_Int_bitCount_45 rfl ?_
  refine xe_iadd (v := bc4 (bc3 (bc2 (bc1 (nI w0)))) + bu (bc4 (bc3 (bc2 (bc1 (nI w0))))) (nI 16)) hx hb d_Int_bitCount_46 rfl ?_
  refine lv_istore_n (lv' := [(0, .int (bc4 (bc3 (bc2 (bc1 (nI w0)))) + bu (bc4 (bc3 (bc2 (bc1 (nI w0))))) (nI 16)))]) hx hb d_Int_bitCount_47 rfl hl (by decide) rfl (fun ls hl => ?_)
  refine lv_iload_n hx hb d_Int_bitCount_48 rfl (lv_at hl 0 rfl) ?_
  refine lv_bipush (v := nI 63) hx hb d_Int_bitCount_49 rfl ?_
  refine xe_iand (v := bc5 (bc4 (bc3 (bc2 (bc1 (nI w0)))))) hx hb d_Int_bitCount_51 rfl ?_
  exact W.iret (v := bc5 (bc4 (bc3 (bc2 (bc1 (nI w0)))))) hx hb hr (fun T_ ht_ hW_ => ⟨_, rfl, bc_all hw0, ht_⟩) (fun q hq => by cases hq) d_Int_bitCount_52
