-- BITS: trailing and leading zeros, the sign of a long
abbrev R_Int : String := "java/lang/Integer"
abbrev R_Long : String := "java/lang/Long"
theorem xn_dec {a n : Nat} (h : n ≤ a) {k : Int} (hk : Int32.ofInt k = - nI n) : nI a + Int32.ofInt k = nI (a - n) := by
  rw [hk, ← Int32.sub_eq_add_neg]
  exact pk_sub h
theorem bz_odd {o : Nat} (h : o % 2 = 1) (j : Nat) : o.testBit j = (decide (j = 0) || (o - 1).testBit j) := by
  cases j with
  | zero => simp [Nat.testBit_zero, h]
  | succ j =>
    rw [Nat.testBit_succ, Nat.testBit_succ, show (o - 1) / 2 = o / 2 by omega]
    simp
theorem nz_mask {x t o : Nat} (hx : x = 2 ^ t * o) (ho : o % 2 = 1) (hlt : x < 2147483648) : ((nI x ^^^ (-1)) &&& (nI x - nI 1)) = nI (2 ^ t - 1) := by
  have hp := Nat.two_pow_pos t
  have hpos : 1 ≤ x := by
    rw [hx]
    exact Nat.mul_pos hp (by omega)
  rw [pk_sub hpos]
  apply Int32.toBitVec_inj.mp
  rw [Int32.toBitVec_and, Int32.toBitVec_xor]
  show (BitVec.ofNat 32 x ^^^ (-1 : Int32).toBitVec) &&& BitVec.ofNat 32 (x - 1) = BitVec.ofNat 32 (2 ^ t - 1)
  rw [show (-1 : Int32).toBitVec = BitVec.allOnes 32 by decide]
  apply BitVec.eq_of_getLsbD_eq
  intro i hi
  have e1 : x.testBit i = (decide (i ≥ t) && o.testBit (i - t)) := by rw [hx]; exact Nat.testBit_two_pow_mul
  have e2 : (x - 1).testBit i = if i < t then (2 ^ t - 1).testBit i else (o - 1).testBit (i - t) := by
    have h1 : x - 1 = 2 ^ t * (o - 1) + (2 ^ t - 1) := by
      obtain ⟨k, rfl⟩ : ∃ k, o = k + 1 := ⟨o - 1, by omega⟩
      rw [hx, Nat.add_sub_cancel, Nat.mul_add, Nat.mul_one]
      omega
    rw [h1]
    exact Nat.testBit_two_pow_mul_add _ (by omega) _
  simp only [BitVec.getLsbD_and, BitVec.getLsbD_xor, BitVec.getLsbD_ofNat, BitVec.getLsbD_allOnes, hi, decide_true, Bool.true_and, e1, e2, Nat.testBit_two_pow_sub_one]
  by_cases h : i < t
  · simp [h, Nat.not_le.mpr h]
  · rw [bz_odd ho (i - t)]
    simp [h]
theorem nz_gt {a s : Nat} (ha : 0 < a) : 2 ^ a < 2 ^ s - 1 ↔ a < s := by
  have h2 : 2 ^ 1 ≤ 2 ^ a := Nat.pow_le_pow_right (by decide) ha
  constructor
  · intro h
    rcases Nat.lt_or_ge a s with q | q
    · exact q
    · have := Nat.pow_le_pow_right (n := 2) (by decide) q
      omega
  · intro h
    have := Nat.pow_le_pow_right (n := 2) (by decide) (show a + 1 ≤ s from h)
    rw [Nat.pow_succ] at this
    omega
theorem nz_div {a s : Nat} (h : a ≤ s) : (2 ^ s - 1) / 2 ^ a = 2 ^ (s - a) - 1 := by
  have hp := Nat.two_pow_pos a
  have hq := Nat.two_pow_pos (s - a)
  have e : 2 ^ s - 1 = (2 ^ a - 1) + 2 ^ a * (2 ^ (s - a) - 1) := by
    have h1 : 2 ^ s = 2 ^ a * 2 ^ (s - a) := by rw [← Nat.pow_add]; congr 1; omega
    rw [h1, Nat.mul_sub, Nat.mul_one]
    have h2 : 2 ^ a * 1 ≤ 2 ^ a * 2 ^ (s - a) := Nat.mul_le_mul_left _ hq
    omega
  rw [e, Nat.add_mul_div_left _ _ hp, Nat.div_eq_of_lt (by omega), Nat.zero_add]
theorem sg_long (v : Int64) : ((v >>> ((nI 63).toInt64 &&& 63)) ||| ((-v).toUInt64 >>> ((nI 63).toInt64.toUInt64 &&& Int64.toUInt64 63)).toInt64).toInt32 = (if v.toInt < 0 then -1 else if v.toInt = 0 then 0 else 1) := by
  obtain ⟨z, ez⟩ : ∃ z : Int, z = v.toInt := ⟨_, rfl⟩
  have h1 : -9223372036854775808 ≤ z := by rw [ez]; exact Int64.le_toInt v
  have h2 : z < 9223372036854775808 := by rw [ez]; exact Int64.toInt_lt v
  have ev : v = lZ z := by
    apply Int64.toInt_inj.mp
    rw [lZ_toInt h1 h2, ez]
  rw [← ez, ev, lZ_neg]
  have a1 : lZ z >>> ((nI 63).toInt64 &&& 63) = lZ (z / 9223372036854775808) := by
    apply Int64.toInt_inj.mp
    have h3 : (lZ z >>> ((nI 63).toInt64 &&& 63)).toInt = (lZ z).toInt >>> 63 := by
      show ((lZ z).toBitVec.sshiftRight ((((nI 63).toInt64 &&& 63).toBitVec.smod 64).toNat)).toInt = _
      rw [show (((nI 63).toInt64 &&& 63).toBitVec.smod 64).toNat = 63 by decide +kernel, BitVec.toInt_sshiftRight]
      rfl
    rw [h3, lZ_toInt h1 h2, lZ_toInt (by omega) (by omega), Int.shiftRight_eq_div_pow]
    rfl
  have a2 : ((lZ (-z)).toUInt64 >>> ((nI 63).toInt64.toUInt64 &&& Int64.toUInt64 63)).toInt64 = lN ((-z % 18446744073709551616).toNat / 9223372036854775808) := by
    rw [lZ_lN (-z)]
    exact wb_shr (k := 63) (by omega) (by decide)
  rw [a1, a2]
  rcases (show z < 0 ∨ z = 0 ∨ 0 < z by omega) with q | q | q
  · rw [if_pos q, show z / 9223372036854775808 = -1 by omega]
    rcases (show (-z % 18446744073709551616).toNat / 9223372036854775808 = 0 ∨ (-z % 18446744073709551616).toNat / 9223372036854775808 = 1 by omega) with r | r <;> rw [r] <;> decide +kernel
  · subst q
    decide +kernel
  · rw [if_neg (by omega), if_neg (by omega), show z / 9223372036854775808 = 0 by omega, show (-z % 18446744073709551616).toNat / 9223372036854775808 = 1 by omega]
    decide +kernel
theorem lg_z2 {n : Nat} (h : n < 18446744073709551616) : lg_cmp (lN n) (lN 0) = 0 ↔ n = 0 := by
  constructor
  · intro e
    rcases Nat.lt_or_ge n 9223372036854775808 with q | q
    · exact (lg_z (by omega)).mp e
    · exfalso
      have h1 : (lN n).toInt = (n : Int) - 18446744073709551616 := by
        rw [lZ_N]
        have h2 : lZ (n : Int) = lZ ((n : Int) - 18446744073709551616) := by
          rw [lZ_lN, lZ_lN ((n : Int) - 18446744073709551616)]
          congr 2
          omega
        rw [h2]
        exact lZ_toInt (by omega) (by omega)
      have h3 : ¬ lN 0 < lN n := by
        rw [Int64.lt_iff_toInt_lt, h1]
        show ¬ (0 : Int) < _
        omega
      have h4 : ¬ lN n = lN 0 := by
        intro q2
        rw [q2] at h1
        have : (lN 0).toInt = 0 := by decide
        omega
      rw [lg_cmp, if_neg h3, if_neg h4] at e
      exact absurd e (by decide)
  · intro e; subst e; decide
