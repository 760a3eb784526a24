-- NUMBERS IN LIMBS OF 31 BITS
def dg_p (n : Nat) : Nat := 65536 ^ n
theorem dg_p0 : dg_p 0 = 1 := rfl
theorem dg_p1 (n : Nat) : dg_p (n + 1) = dg_p n * 65536 := Nat.pow_succ ..
theorem dg_pa (a b : Nat) : dg_p (a + b) = dg_p a * dg_p b := Nat.pow_add ..
theorem dg_pp (n : Nat) : 0 < dg_p n := Nat.pow_pos (by decide)
theorem dg_p2 (n : Nat) : dg_p n = 2 ^ (16 * n) := by
  show 65536 ^ n = _
  rw [Nat.pow_mul]
theorem dg_ple {a b : Nat} (h : a ≤ b) : dg_p a ≤ dg_p b := Nat.pow_le_pow_right (by decide) h
def dg_v (g : Nat → Nat) : Nat → Nat
  | 0 => 0
  | n + 1 => dg_v g n + g n * dg_p n
theorem dg_v1 (g : Nat → Nat) (n : Nat) : dg_v g (n + 1) = dg_v g n + g n * dg_p n := rfl
theorem dg_congr {g h : Nat → Nat} (n : Nat) (e : ∀ i, i < n → g i = h i) : dg_v g n = dg_v h n := by
  induction n with
  | zero => rfl
  | succ n ih => rw [dg_v1, dg_v1, ih (fun i hi => e i (by omega)), e n (by omega)]
theorem dg_up_ge (g : Nat → Nat) (i x : Nat) {n : Nat} (h : n ≤ i) : dg_v (va_up g i x) n = dg_v g n := dg_congr n (fun j hj => va_up_ne g x (by omega))
theorem dg_up (g : Nat → Nat) (i x : Nat) {n : Nat} (h : i < n) : dg_v (va_up g i x) n + g i * dg_p i = dg_v g n + x * dg_p i := by
  induction n with
  | zero => omega
  | succ n ih =>
    rw [dg_v1, dg_v1]
    by_cases hi : i = n
    · subst hi
      rw [dg_up_ge g i x (Nat.le_refl i), va_up_self]
      omega
    · have h1 := ih (by omega)
      rw [va_up_ne g x (show n ≠ i by omega)]
      omega
theorem dg_lt {g : Nat → Nat} (n : Nat) (h : ∀ i, i < n → g i < 65536) : dg_v g n < dg_p n := by
  induction n with
  | zero => show (0 : Nat) < 1; decide
  | succ n ih =>
    have h1 := ih (fun i hi => h i (by omega))
    have h2 := h n (by omega)
    rw [dg_v1, dg_p1]
    have h3 : g n * dg_p n ≤ 65535 * dg_p n := Nat.mul_le_mul_right _ (by omega)
    omega
theorem dg_mono {g : Nat → Nat} {a n : Nat} (h : a ≤ n) : dg_v g a ≤ dg_v g n := by
  induction n with
  | zero => rw [show a = 0 by omega]; exact Nat.le_refl _
  | succ n ih =>
    by_cases hn : a = n + 1
    · subst hn; exact Nat.le_refl _
    · have := ih (by omega)
      rw [dg_v1]
      omega
theorem dg_zero {g : Nat → Nat} {a n : Nat} (h : a ≤ n) (hz : ∀ i, a ≤ i → i < n → g i = 0) : dg_v g n = dg_v g a := by
  induction n with
  | zero => rw [show a = 0 by omega]
  | succ n ih =>
    by_cases hn : a = n + 1
    · subst hn; rfl
    · rw [dg_v1, ih (by omega) (fun i h1 h2 => hz i h1 (by omega)), hz n (by omega) (by omega)]
      omega
theorem dg_add (g : Nat → Nat) (a b : Nat) : dg_v g (a + b) = dg_v g a + dg_p a * dg_v (fun j => g (a + j)) b := by
  induction b with
  | zero => simp [dg_v]
  | succ b ih =>
    rw [← Nat.add_assoc, dg_v1, ih, dg_v1, dg_pa, Nat.mul_add]
    have : g (a + b) * (dg_p a * dg_p b) = dg_p a * (g (a + b) * dg_p b) := by rw [← Nat.mul_assoc, Nat.mul_comm (g (a + b)), Nat.mul_assoc]
    omega
theorem dg_top {g : Nat → Nat} {n : Nat} (h : g n ≠ 0) : dg_p n ≤ dg_v g (n + 1) := by
  rw [dg_v1]
  have : 1 * dg_p n ≤ g n * dg_p n := Nat.mul_le_mul_right _ (by omega)
  omega
/-- the low limbs are the remainder, the high ones the quotient -/
theorem dg_mod {g : Nat → Nat} {a n : Nat} (ha : a ≤ n) (h : ∀ i, i < a → g i < 65536) : dg_v g n % dg_p a = dg_v g a := by
  obtain ⟨b, rfl⟩ : ∃ b, n = a + b := ⟨n - a, by omega⟩
  rw [dg_add, Nat.add_mul_mod_self_left]
  exact Nat.mod_eq_of_lt (dg_lt a h)
theorem dg_div {g : Nat → Nat} {a n : Nat} (ha : a ≤ n) (h : ∀ i, i < a → g i < 65536) : dg_v g n / dg_p a = dg_v (fun j => g (a + j)) (n - a) := by
  obtain ⟨b, rfl⟩ : ∃ b, n = a + b := ⟨n - a, by omega⟩
  rw [dg_add, Nat.add_mul_div_left _ _ (dg_pp a), Nat.div_eq_of_lt (dg_lt a h), Nat.zero_add, Nat.add_sub_cancel_left]
/-- the limbs are told by the number -/
theorem dg_digit {g : Nat → Nat} {n i : Nat} (hi : i < n) (h : ∀ j, j < n → g j < 65536) : dg_v g n / dg_p i % 65536 = g i := by
  rw [dg_div (by omega) (fun j hj => h j (by omega))]
  obtain ⟨b, hb⟩ : ∃ b, n - i = b + 1 := ⟨n - i - 1, by omega⟩
  have e := dg_mod (g := fun j => g (i + j)) (a := 1) (n := n - i) (by omega) (fun j hj => h (i + j) (by omega))
  rw [show dg_p 1 = 65536 from rfl] at e
  rw [e]
  simp [dg_v, dg_p]
theorem dg_inj {g h : Nat → Nat} {n : Nat} (hg : ∀ j, j < n → g j < 65536) (hh : ∀ j, j < n → h j < 65536) (e : dg_v g n = dg_v h n) : ∀ i, i < n → g i = h i := by
  intro i hi
  rw [← dg_digit hi hg, e, dg_digit hi hh]
theorem dg_cmp {f h : Nat → Nat} {k n : Nat} (hk : k < n) (hf : ∀ i, f i < 65536) (e : ∀ i, k < i → i < n → f i = h i) (hlt : f k < h k) : dg_v f n < dg_v h n := by
  obtain ⟨b, rfl⟩ : ∃ b, n = (k + 1) + b := ⟨n - (k + 1), by omega⟩
  have h0 : dg_v f (k + 1) < dg_v h (k + 1) := by
    have h1 := dg_lt k (fun i _ => hf i)
    have h2 : (f k + 1) * dg_p k ≤ h k * dg_p k := Nat.mul_le_mul_right _ hlt
    rw [Nat.add_mul, Nat.one_mul] at h2
    rw [dg_v1, dg_v1]
    omega
  have h3 : dg_v (fun j => f (k + 1 + j)) b = dg_v (fun j => h (k + 1 + j)) b := dg_congr b (fun j hj => e (k + 1 + j) (by omega) (by omega))
  rw [dg_add f (k + 1) b, dg_add h (k + 1) b, h3]
  omega
theorem dg_bit {x : Nat → Nat} {n i : Nat} (hi : i < 16 * n) (h : ∀ j, x j < 65536) : dg_v x n / 2 ^ i % 2 = x (i / 16) / 2 ^ (i % 16) % 2 := by
  have h1 := dg_digit (g := x) (n := n) (i := i / 16) (by omega) (fun j _ => h j)
  rw [dg_p2] at h1
  have h2 : 2 ^ i = 2 ^ (16 * (i / 16)) * 2 ^ (i % 16) := by rw [← Nat.pow_add]; congr 1; omega
  rw [h2, ← Nat.div_div_eq_div_mul, ← h1]
  have h3 : ∃ k, 65536 = 2 ^ (i % 16) * (2 * k) := ⟨2 ^ (15 - i % 16), by
    have : i % 16 < 16 := Nat.mod_lt _ (by decide)
    rw [← Nat.pow_succ', ← Nat.pow_add]
    have e : i % 16 + (15 - i % 16 + 1) = 16 := by omega
    rw [e]⟩
  obtain ⟨k, hk⟩ := h3
  rw [hk, Nat.mod_mul_right_div_self, Nat.mod_mul_right_mod]
theorem dg_eq0 {x : Nat → Nat} (n : Nat) : dg_v x n = 0 ↔ ∀ i, i < n → x i = 0 := by
  induction n with
  | zero => exact ⟨fun _ i h => absurd h (Nat.not_lt_zero _), fun _ => rfl⟩
  | succ k ih =>
    rw [dg_v1]
    constructor
    · intro h i hi
      have h1 : dg_v x k = 0 := by omega
      have h2 : x k * dg_p k = 0 := by omega
      rcases Nat.mul_eq_zero.mp h2 with q | q
      · by_cases e : i = k
        · rw [e]; exact q
        · exact ih.mp h1 i (by omega)
      · have := dg_pp k; omega
    · intro h
      rw [ih.mpr (fun i hi => h i (by omega)), h k (by omega)]
      omega
/-- the carry of a turn, a difference, a doubling -/
theorem dg_less {F X Y c t y x P : Nat} (inv : F + c * P + Y = X + P) (hy : y ≤ 65535) (ht : t = c + x + (65535 - y)) : F + t % 65536 * P + t / 65536 * (P * 65536) + (Y + y * P) = X + x * P + P * 65536 := by
  have h1 := Nat.div_add_mod t 65536
  have h2 : t % 65536 * P + t / 65536 * (P * 65536) = t * P := by
    have e : t / 65536 * (P * 65536) = 65536 * (t / 65536) * P := by
      rw [Nat.mul_comm P 65536, ← Nat.mul_assoc, Nat.mul_comm (t / 65536) 65536]
    rw [e, ← Nat.add_mul]
    congr 1
    omega
  have h3 : t * P + y * P = c * P + x * P + 65535 * P := by
    rw [← Nat.add_mul, ← Nat.add_mul, ← Nat.add_mul]
    congr 1
    omega
  have h4 : P * 65536 = 65535 * P + P := by omega
  omega
theorem dg_twice {F X c t x P b : Nat} (inv : F + c * P = 2 * X + b) (ht : t = 2 * x + c) : F + t % 65536 * P + t / 65536 * (P * 65536) = 2 * (X + x * P) + b := by
  have h1 := Nat.div_add_mod t 65536
  have h2 : t % 65536 * P + t / 65536 * (P * 65536) = t * P := by
    have e : t / 65536 * (P * 65536) = 65536 * (t / 65536) * P := by
      rw [Nat.mul_comm P 65536, ← Nat.mul_assoc, Nat.mul_comm (t / 65536) 65536]
    rw [e, ← Nat.add_mul]
    congr 1
    omega
  have h3 : t * P = 2 * (x * P) + c * P := by
    rw [ht, Nat.add_mul, Nat.mul_assoc]
  omega
theorem dg_half {F X f x b b' z P : Nat} (inv : F * 2 + z = X + b * P) (hf : f * 2 + b = x + b' * 65536) : (F + f * P) * 2 + z = X + x * P + b' * (P * 65536) := by
  have h1 : f * P * 2 + b * P = x * P + b' * (P * 65536) := by
    have e1 : f * P * 2 = f * 2 * P := by rw [Nat.mul_assoc, Nat.mul_comm P 2, ← Nat.mul_assoc]
    have e2 : b' * (P * 65536) = b' * 65536 * P := by rw [Nat.mul_comm P 65536, ← Nat.mul_assoc]
    rw [e1, e2, ← Nat.add_mul, ← Nat.add_mul, hf]
  rw [Nat.add_mul]
  omega
theorem nI_16 {a : Nat} (h : a < 2147483648) : nI a &&& nI 65535 = nI (a % 65536) := by
  rw [← Int32.toBitVec_inj]
  apply BitVec.eq_of_toNat_eq
  show (BitVec.ofNat 32 a &&& BitVec.ofNat 32 65535).toNat = (BitVec.ofNat 32 (a % 65536)).toNat
  rw [BitVec.toNat_and, BitVec.toNat_ofNat, BitVec.toNat_ofNat, BitVec.toNat_ofNat, Nat.mod_eq_of_lt (show a < 2 ^ 32 by omega), show (65535 : Nat) % 2 ^ 32 = 2 ^ 16 - 1 from rfl, Nat.and_two_pow_sub_one_eq_mod]
  show a % 2 ^ 16 = a % 65536 % 2 ^ 32
  omega
theorem nI_n16 {a : Nat} (h : a < 65536) : (nI a ^^^ (-1)) &&& nI 65535 = nI (65535 - a) := by
  rw [← Int32.toBitVec_inj]
  apply BitVec.eq_of_toNat_eq
  show ((BitVec.ofNat 32 a ^^^ (-1 : Int32).toBitVec) &&& BitVec.ofNat 32 65535).toNat = (BitVec.ofNat 32 (65535 - a)).toNat
  have e : (-1 : Int32).toBitVec = BitVec.allOnes 32 := by decide
  rw [e, BitVec.xor_allOnes, BitVec.toNat_and, BitVec.toNat_not, BitVec.toNat_ofNat, BitVec.toNat_ofNat, BitVec.toNat_ofNat, Nat.mod_eq_of_lt (show a < 2 ^ 32 by omega), show (65535 : Nat) % 2 ^ 32 = 2 ^ 16 - 1 from rfl, Nat.and_two_pow_sub_one_eq_mod]
  omega
