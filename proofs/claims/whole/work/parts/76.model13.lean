theorem nI_x15 {a : Nat} (h : a < 65536) : nI a ^^^ nI 32768 = nI ((a + 32768) % 65536) := by
  rw [← Int32.toBitVec_inj]
  apply BitVec.eq_of_toNat_eq
  show (BitVec.ofNat 32 a ^^^ BitVec.ofNat 32 32768).toNat = (BitVec.ofNat 32 ((a + 32768) % 65536)).toNat
  rw [BitVec.toNat_xor, BitVec.toNat_ofNat, BitVec.toNat_ofNat, BitVec.toNat_ofNat, Nat.mod_eq_of_lt (show a < 2 ^ 32 by omega), show (32768 : Nat) % 2 ^ 32 = 2 ^ 15 from rfl, Nat.mod_eq_of_lt (show (a + 32768) % 65536 < 2 ^ 32 by omega)]
  have hlo : ∀ i, i < 15 → ((a + 32768) % 65536).testBit i = a.testBit i := by
    intro i hi
    rw [show (65536 : Nat) = 2 ^ 16 from rfl, Nat.testBit_mod_two_pow, show a + 32768 = 2 ^ 15 + a by omega, Nat.testBit_two_pow_add_gt hi]
    simp [show i < 16 by omega]
  apply Nat.eq_of_testBit_eq
  intro i
  rw [Nat.testBit_xor, Nat.testBit_two_pow]
  rcases Nat.lt_trichotomy i 15 with q | q | q
  · rw [hlo i q]
    simp [show ¬ 15 = i by omega]
  · subst q
    rw [show (65536 : Nat) = 2 ^ 16 from rfl, Nat.testBit_mod_two_pow, show a + 32768 = 2 ^ 15 + a by omega, Nat.testBit_two_pow_add_eq]
    simp
  · have h3 : a.testBit i = false := Nat.testBit_lt_two_pow (Nat.lt_of_lt_of_le h (Nat.pow_le_pow_right (n := 2) (i := 16) (by decide) (by omega)))
    have h4 : ((a + 32768) % 65536).testBit i = false := Nat.testBit_lt_two_pow (Nat.lt_of_lt_of_le (Nat.mod_lt _ (by decide)) (Nat.pow_le_pow_right (n := 2) (i := 16) (by decide) (by omega)))
    rw [h3, h4]
    simp [show ¬ 15 = i by omega]
theorem xr_val {f : Nat → Nat} (hf : ∀ i, f i < 65536) : dg_v (va_up f 55 ((f 55 + 32768) % 65536)) 56 = (dg_v f 56 + 2 ^ 895) % dg_p 56 := by
  have e1 : dg_v (va_up f 55 ((f 55 + 32768) % 65536)) 56 = dg_v f 55 + (f 55 + 32768) % 65536 * dg_p 55 := dg_set f 55 _
  have e2 : dg_v f 56 = dg_v f 55 + f 55 * dg_p 55 := dg_v1 f 55
  have e3 : dg_p 56 = dg_p 55 * 65536 := dg_p1 55
  have e4 : (2 : Nat) ^ 895 = 32768 * dg_p 55 := by rw [dg_p2]; decide +kernel
  have h1 := dg_lt (g := f) 55 (fun i _ => hf i)
  have h2 := hf 55
  rw [e1, e2, e3, e4]
  generalize dg_p 55 = P at *
  generalize dg_v f 55 = L at *
  generalize f 55 = a at *
  rcases Nat.lt_or_ge a 32768 with q | q
  · rw [Nat.mod_eq_of_lt (show a + 32768 < 65536 by omega), Nat.mod_eq_of_lt, Nat.add_mul]
    · omega
    · have h3 : (a + 1) * P ≤ 32768 * P := Nat.mul_le_mul_right _ q
      rw [Nat.add_mul] at h3
      omega
  · obtain ⟨b, hb⟩ : ∃ b, a = b + 32768 := ⟨a - 32768, by omega⟩
    subst hb
    rw [show (b + 32768 + 32768) % 65536 = b by omega]
    have h3 : (b + 1) * P ≤ 32768 * P := Nat.mul_le_mul_right _ (by omega)
    rw [Nat.add_mul] at h3
    have e5 : L + (b + 32768) * P + 32768 * P = (L + b * P) + P * 65536 := by rw [Nat.add_mul]; omega
    rw [e5, Nat.add_mod_right, Nat.mod_eq_of_lt (by omega)]
theorem tc_x {y : Int} (h : y.natAbs < 2 ^ 785) : (((tc y + 2 ^ 895) % dg_p 56 : Nat) : Int) = y + ((2 ^ 895 : Nat) : Int) := by
  have h1 : (2 : Nat) ^ 785 ≤ 2 ^ 895 := Nat.pow_le_pow_right (by decide) (by decide)
  have h2 : (2 : Nat) ^ 896 = 2 ^ 895 * 2 := Nat.pow_succ ..
  rcases Int.lt_or_le y 0 with q | q
  · rw [tc_ng q h, dg_56]
    generalize (2 : Nat) ^ 896 = W at *
    generalize (2 : Nat) ^ 895 = Q at *
    generalize (2 : Nat) ^ 785 = R at *
    rw [show W - y.natAbs + Q = (Q - y.natAbs) + W by omega, Nat.add_mod_right, Nat.mod_eq_of_lt (by omega)]
    omega
  · rw [tc_pos q h, dg_56]
    generalize (2 : Nat) ^ 896 = W at *
    generalize (2 : Nat) ^ 895 = Q at *
    generalize (2 : Nat) ^ 785 = R at *
    rw [Nat.mod_eq_of_lt (by omega)]
    omega
theorem cp_ord {y z : Int} {X Z : Nat} (hX : (X : Int) = y + ((2 ^ 895 : Nat) : Int)) (hZ : (Z : Int) = z + ((2 ^ 895 : Nat) : Int)) : (if X < Z then (-1 : Int32) else if Z < X then 1 else 0) = wh_c y z := by
  unfold wh_c
  generalize (2 : Nat) ^ 895 = Q at *
  rcases (show y < z ∨ z < y ∨ y = z by omega) with q | q | q
  · rw [if_pos (by omega), if_pos q]
  · rw [if_neg (by omega), if_pos (by omega), if_neg (by omega), if_pos q]
  · rw [if_neg (by omega), if_neg (by omega), if_neg (by omega), if_neg (by omega)]
theorem tn_sg {n : Nat} {y : Int} {f : Nat → Nat} (hf : dg_v f 56 = tc (dt_sg n * y)) : (¬ n % 2 = 1 → dg_v f 56 = tc y) ∧ (n % 2 = 1 → ∀ g : Nat → Nat, dg_v g 56 = (dg_p 56 - dg_v f 56) % dg_p 56 → dg_v g 56 = tc y) := by
  rw [sg_par] at hf
  constructor
  · intro h
    rw [if_pos (by omega), Int.one_mul] at hf
    exact hf
  · intro h g hg
    rw [if_neg (by omega), Int.neg_one_mul] at hf
    rw [hg, hf, tc_neg, Int.neg_neg]
theorem lg_lt {a b : Nat} (ha : a < 9223372036854775808) (hb : b < 9223372036854775808) : lg_cmp (lN a) (lN b) < 0 ↔ a < b := by
  have h1 : (lN a).toInt = (a : Int) := by rw [lZ_N]; exact lZ_toInt (by omega) (by omega)
  have h2 : (lN b).toInt = (b : Int) := by rw [lZ_N]; exact lZ_toInt (by omega) (by omega)
  rw [lg_cmp]
  split
  · rename_i h
    rw [gt_iff_lt, Int64.lt_iff_toInt_lt, h1, h2] at h
    exact ⟨fun z => absurd z (by decide), fun z => by omega⟩
  · split
    · rename_i h
      have h3 : (lN a).toInt = (lN b).toInt := by rw [h]
      rw [h1, h2] at h3
      exact ⟨fun z => absurd z (by decide), fun z => by omega⟩
    · rename_i h h'
      rw [gt_iff_lt, Int64.lt_iff_toInt_lt, h1, h2] at h
      refine ⟨fun _ => ?_, fun _ => by decide⟩
      rcases Nat.lt_or_ge a b with q | q
      · exact q
      · exfalso
        apply h'
        rw [show a = b by omega]
theorem nI_orr {a b k : Nat} (h : a < 2 ^ k) : nI (b * 2 ^ k) ||| nI a = nI (a + b * 2 ^ k) := by
  rw [sh_or, Nat.mul_comm b, ← Nat.two_pow_add_eq_or_of_lt h b, Nat.add_comm]
theorem pt_step {X a t v b : Nat} (hv : v = X / 2 ^ (a + 1) % 2 ^ t) (hb : b = X / 2 ^ a % 2) : b + v * 2 ^ 1 = X / 2 ^ a % 2 ^ (t + 1) := by
  have h1 : X / 2 ^ (a + 1) = X / 2 ^ a / 2 := by rw [Nat.pow_succ, Nat.div_div_eq_div_mul]
  rw [hv, hb, h1]
  generalize X / 2 ^ a = Y
  rw [show (2 : Nat) ^ (t + 1) = 2 * 2 ^ t by rw [Nat.pow_succ, Nat.mul_comm], Nat.mod_mul, Nat.pow_one]
  omega
theorem lZ_shr4 {z : Int} (h1 : -9223372036854775808 ≤ z) (h2 : z < 9223372036854775808) : lZ z >>> ((nI 4).toInt64 &&& 63) = lZ (z / 16) := by
  apply Int64.toInt_inj.mp
  have h3 : (lZ z >>> ((nI 4).toInt64 &&& 63)).toInt = (lZ z).toInt >>> 4 := by
    show ((lZ z).toBitVec.sshiftRight ((((nI 4).toInt64 &&& 63).toBitVec.smod 64).toNat)).toInt = _
    rw [show (((nI 4).toInt64 &&& 63).toBitVec.smod 64).toNat = 4 by decide +kernel, BitVec.toInt_sshiftRight]
    rfl
  rw [h3, lZ_toInt h1 h2, lZ_toInt (by omega) (by omega), Int.shiftRight_eq_div_pow]
  rfl
