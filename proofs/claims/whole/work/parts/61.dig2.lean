-- SHIFTS OF SMALL NUMBERS
theorem nI_shr {x k : Nat} (hx : x < 2147483648) (hk : k < 32) : nI x >>> (nI k &&& 31) = nI (x / 2 ^ k) := by
  apply Int32.toInt_inj.mp
  have h0 : x / 2 ^ k ≤ x := Nat.div_le_self _ _
  have h3 : (nI x >>> (nI k &&& 31)).toInt = (nI x).toInt >>> k := by
    show ((nI x).toBitVec.sshiftRight (((nI k &&& 31).toBitVec.smod 32).toNat)).toInt = _
    rw [sh_cs k hk, BitVec.toInt_sshiftRight]
    rfl
  rw [h3, nI_toInt (by omega), nI_toInt (by omega), Int.shiftRight_eq_div_pow]
  exact (Int.natCast_ediv x (2 ^ k)).symm
theorem nI_orl {a b k : Nat} (h : a < 2 ^ k) : nI a ||| nI (b * 2 ^ k) = nI (a + b * 2 ^ k) := by
  rw [sh_or, Nat.or_comm, Nat.mul_comm b, ← Nat.two_pow_add_eq_or_of_lt h b, Nat.add_comm]
theorem nI_bit {a : Nat} (h : a < 2147483648) : nI a &&& nI 1 = nI (a % 2) := by
  rw [← Int32.toBitVec_inj]
  apply BitVec.eq_of_toNat_eq
  show (BitVec.ofNat 32 a &&& BitVec.ofNat 32 1).toNat = (BitVec.ofNat 32 (a % 2)).toNat
  rw [BitVec.toNat_and, BitVec.toNat_ofNat, BitVec.toNat_ofNat, BitVec.toNat_ofNat, Nat.mod_eq_of_lt (show a < 2 ^ 32 by omega), show (1 : Nat) % 2 ^ 32 = 2 ^ 1 - 1 from rfl, Nat.and_two_pow_sub_one_eq_mod]
  show a % 2 ^ 1 = a % 2 % 2 ^ 32
  omega
theorem nI_15 {a : Nat} (h : a < 2147483648) : nI a &&& nI 15 = nI (a % 16) := by
  rw [← Int32.toBitVec_inj]
  apply BitVec.eq_of_toNat_eq
  show (BitVec.ofNat 32 a &&& BitVec.ofNat 32 15).toNat = (BitVec.ofNat 32 (a % 16)).toNat
  rw [BitVec.toNat_and, BitVec.toNat_ofNat, BitVec.toNat_ofNat, BitVec.toNat_ofNat, Nat.mod_eq_of_lt (show a < 2 ^ 32 by omega), show (15 : Nat) % 2 ^ 32 = 2 ^ 4 - 1 from rfl, Nat.and_two_pow_sub_one_eq_mod]
  show a % 2 ^ 4 = a % 16 % 2 ^ 32
  omega
theorem va_up_lt {F : Nat → Nat} {k v : Nat} (hF : ∀ i, F i < 65536) (hv : v < 65536) : ∀ i, va_up F k v i < 65536 := by
  intro i
  by_cases q : i = k
  · subst q; rw [va_up_self]; exact hv
  · rw [va_up_ne _ _ q]; exact hF i
theorem dg_set (F : Nat → Nat) (k v : Nat) : dg_v (va_up F k v) (k + 1) = dg_v F k + v * dg_p k := by
  rw [dg_v1, va_up_self, dg_up_ge _ _ _ (Nat.le_refl _)]
theorem dg_turn {F X c P : Nat} (h : F + c * P + X = 0 + P) (hF : F < P) : F = (P - X) % P := by
  rcases Nat.eq_zero_or_pos c with q | q
  · subst q
    have h1 : F = P - X := by omega
    rw [← h1, Nat.mod_eq_of_lt hF]
  · have h2 : P ≤ c * P := Nat.le_mul_of_pos_left P q
    have h3 : F = 0 := by omega
    have h4 : X = 0 := by omega
    rw [h3, h4, Nat.sub_zero, Nat.mod_self]
theorem dg_lessE {F X Y c P : Nat} (h : F + c * P + Y = X + P) (hF : F < P) (hX : X < P) (hle : Y ≤ X) : F = X - Y := by
  rcases Nat.lt_trichotomy c 1 with q | q | q
  · have e : c = 0 := by omega
    subst e
    omega
  · subst q
    omega
  · have h2 : 2 * P ≤ c * P := Nat.mul_le_mul_right P q
    omega
theorem dg_twiceE {F X c b P : Nat} (h : F + c * P = 2 * X + b) (hF : F < P) (hX : 2 * X + b < P) : F = 2 * X + b := by
  rcases Nat.eq_zero_or_pos c with q | q
  · subst q; omega
  · have h2 : P ≤ c * P := Nat.le_mul_of_pos_left P q
    omega
