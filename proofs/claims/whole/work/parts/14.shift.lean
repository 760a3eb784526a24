-- SHIFTS
theorem sh_or (a b : Nat) : nI a ||| nI b = nI (a ||| b) := by
  apply Int32.toBitVec_inj.mp
  rw [Int32.toBitVec_or]
  show BitVec.ofNat 32 a ||| BitVec.ofNat 32 b = BitVec.ofNat 32 (a ||| b)
  apply BitVec.eq_of_getLsbD_eq
  intro i hi
  simp [BitVec.getLsbD_ofNat, hi]
theorem sh_mod (n : Nat) : nI n = nI (n % 4294967296) := by
  apply Int32.toBitVec_inj.mp
  show BitVec.ofNat 32 n = BitVec.ofNat 32 (n % 4294967296)
  apply BitVec.eq_of_toNat_eq
  rw [BitVec.toNat_ofNat, BitVec.toNat_ofNat]
  omega
theorem sh_cs : ∀ k, k < 32 → ((nI k &&& 31).toBitVec.smod 32).toNat = k := by decide +kernel
theorem sh_cu : ∀ k, k < 32 → (((nI k).toUInt32 &&& Int32.toUInt32 31).toBitVec % 32).toNat = k := by decide +kernel
theorem sh_shl (x k : Nat) (hk : k < 32) : nI x <<< (nI k &&& 31) = nI (x * 2 ^ k) := by
  apply Int32.toBitVec_inj.mp
  apply BitVec.eq_of_toNat_eq
  rw [pk_shl (nI x) (nI k &&& 31) k (sh_cs k hk)]
  show (BitVec.ofNat 32 x).toNat * 2 ^ k % 2 ^ 32 = (BitVec.ofNat 32 (x * 2 ^ k)).toNat
  rw [BitVec.toNat_ofNat, BitVec.toNat_ofNat, Nat.mul_mod, Nat.mod_mod, ← Nat.mul_mod]
/-- one limb of a number moved down -/
def sh_g (h : Nat → Nat) (l : Nat) : Nat → Nat := fun j => h j / 2 ^ l + h (j + 1) % 2 ^ l * 2 ^ (31 - l)
theorem sh_pw {l : Nat} (hl : l ≤ 31) : 2 ^ l * 2 ^ (31 - l) = 2147483648 := by
  rw [← Nat.pow_add, show l + (31 - l) = 31 by omega]
theorem sh_limb {y x l : Nat} (hy : y < 2147483648) (hl : l < 31) : ((nI (y / 2 ^ l) ||| (nI x <<< (nI (31 - l) &&& 31))) &&& nI 2147483647) = nI (y / 2 ^ l + x % 2 ^ l * 2 ^ (31 - l)) := by
  rw [sh_shl x (31 - l) (by omega), sh_or]
  have h1 : (nI (y / 2 ^ l ||| x * 2 ^ (31 - l)) &&& nI 2147483647) = nI ((y / 2 ^ l ||| x * 2 ^ (31 - l)) % 4294967296 % 2 ^ 31) := by
    rw [sh_mod (y / 2 ^ l ||| x * 2 ^ (31 - l))]
    exact pk_andN (by omega) 31 (by decide +kernel)
  rw [h1]
  congr 1
  have hp := sh_pw (show l ≤ 31 by omega)
  have h2 : y / 2 ^ l < 2 ^ (31 - l) := by
    apply Nat.div_lt_of_lt_mul
    rw [hp]
    exact hy
  have h3 : x * 2 ^ (31 - l) % 2 ^ 31 = x % 2 ^ l * 2 ^ (31 - l) := by
    rw [show (2 : Nat) ^ 31 = 2 ^ l * 2 ^ (31 - l) by rw [hp], Nat.mul_mod_mul_right]
  have h5 : 2 ^ (31 - l) ≤ 2 ^ 31 := Nat.pow_le_pow_right (by decide) (by omega)
  rw [show (4294967296 : Nat) = 2 ^ 32 from rfl, Nat.mod_mod_of_dvd _ (show 2 ^ 31 ∣ 2 ^ 32 by decide), Nat.or_mod_two_pow, h3, Nat.mod_eq_of_lt (show y / 2 ^ l < 2 ^ 31 by omega)]
  have h4 := Nat.two_pow_add_eq_or_of_lt h2 (x % 2 ^ l)
  rw [Nat.or_comm, Nat.mul_comm (x % 2 ^ l), ← h4]
  omega
theorem sh_lt {h : Nat → Nat} (hh : ∀ j, h j < 2147483648) {l : Nat} (hl : l < 31) (j : Nat) : sh_g h l j < 2147483648 := by
  have hp := sh_pw (show l ≤ 31 by omega)
  have h1 : h j / 2 ^ l < 2 ^ (31 - l) := by
    apply Nat.div_lt_of_lt_mul
    rw [hp]
    exact hh j
  have h2 : h (j + 1) % 2 ^ l < 2 ^ l := Nat.mod_lt _ (Nat.pow_pos (by decide))
  have h3 : (h (j + 1) % 2 ^ l + 1) * 2 ^ (31 - l) ≤ 2 ^ l * 2 ^ (31 - l) := Nat.mul_le_mul_right _ h2
  rw [hp, Nat.add_mul, Nat.one_mul] at h3
  show h j / 2 ^ l + h (j + 1) % 2 ^ l * 2 ^ (31 - l) < 2147483648
  omega
theorem sh_sum (h : Nat → Nat) {l : Nat} (hl : l < 31) (n : Nat) : 2 ^ l * lb_v (sh_g h l) n + h 0 % 2 ^ l = lb_v h n + h n % 2 ^ l * lb_p n := by
  have hp := sh_pw (show l ≤ 31 by omega)
  induction n with
  | zero => simp [lb_v, lb_p]
  | succ n ih =>
    have h1 := Nat.div_add_mod (h n) (2 ^ l)
    have h2 : 2 ^ l * (sh_g h l n * lb_p n) = (2 ^ l * (h n / 2 ^ l)) * lb_p n + h (n + 1) % 2 ^ l * (2 ^ l * 2 ^ (31 - l)) * lb_p n := by
      show 2 ^ l * ((h n / 2 ^ l + h (n + 1) % 2 ^ l * 2 ^ (31 - l)) * lb_p n) = _
      generalize 2 ^ l = A
      generalize 2 ^ (31 - l) = B
      grind
    rw [hp] at h2
    have h3 : (2 ^ l * (h n / 2 ^ l)) * lb_p n + h n % 2 ^ l * lb_p n = h n * lb_p n := by rw [← Nat.add_mul, h1]
    rw [lb_v1, lb_v1, Nat.mul_add, h2, lb_p1]
    have h4 : h (n + 1) % 2 ^ l * 2147483648 * lb_p n = h (n + 1) % 2 ^ l * (lb_p n * 2147483648) := by rw [Nat.mul_assoc, Nat.mul_comm 2147483648]
    omega
theorem sh_div {h : Nat → Nat} {l n : Nat} (hl : l < 31) (h0 : h n = 0) : lb_v (sh_g h l) n = lb_v h n / 2 ^ l := by
  have h1 := sh_sum h hl n
  rw [h0] at h1
  have h2 : h 0 % 2 ^ l < 2 ^ l := Nat.mod_lt _ (Nat.pow_pos (by decide))
  have h3 : lb_v h n = h 0 % 2 ^ l + 2 ^ l * lb_v (sh_g h l) n := by
    rw [Nat.zero_mod, Nat.zero_mul] at h1
    omega
  rw [h3, Nat.add_mul_div_left _ _ (Nat.pow_pos (by decide)), Nat.div_eq_of_lt h2, Nat.zero_add]
/-- a number moved down by whole limbs and some bits -/
theorem sh_all {f : Nat → Nat} (hf : ∀ j, f j < 2147483648) (len bc : Nat) : lb_v (sh_g (fun j => lb_at f len (bc / 31 + j)) (bc % 31)) (len - bc / 31) = lb_v f len / 2 ^ bc := by
  have hl : bc % 31 < 31 := Nat.mod_lt _ (by decide)
  rw [sh_div hl (by simp [lb_at]; omega)]
  have h1 : lb_v (fun j => lb_at f len (bc / 31 + j)) (len - bc / 31) = lb_v f len / lb_p (bc / 31) := by
    rcases Nat.lt_or_ge len (bc / 31) with q | q
    · rw [show len - bc / 31 = 0 by omega]
      have h2 := lb_lt len (fun i _ => hf i)
      have h3 := lb_ple (show len ≤ bc / 31 by omega)
      have h4 : lb_v f len / lb_p (bc / 31) = 0 := Nat.div_eq_of_lt (by omega)
      rw [h4]
      rfl
    · have h4 := lb_div (g := lb_at f len) q (fun i _ => lb_at_lt len hf i)
      rw [lb_at_v f (Nat.le_refl len)] at h4
      exact h4.symm
  rw [h1, Nat.div_div_eq_div_mul, lb_p2, ← Nat.pow_add]
  congr 2
  omega
