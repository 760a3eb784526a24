-- DIVISORS: what the common divisor and the exact division rest on
theorem ar_odd2 {b : Nat} (h : b % 2 = 1) : Nat.Coprime 2 b := by
  show Nat.gcd 2 b = 1
  rw [Nat.gcd_rec, h]
  rfl
theorem ar_pow2 (t : Nat) {b : Nat} (h : b % 2 = 1) : Nat.Coprime (2 ^ t) b := Nat.Coprime.pow_left t (ar_odd2 h)
theorem ar_strip (t c : Nat) {b : Nat} (h : b % 2 = 1) : Nat.gcd (2 ^ t * c) b = Nat.gcd c b := Nat.Coprime.gcd_mul_left_cancel c (ar_pow2 t h)
theorem ar_step {a b t c : Nat} (hab : b ≤ a) (hb : b % 2 = 1) (e : a - b = 2 ^ t * c) : Nat.gcd c b = Nat.gcd a b := by
  rw [← ar_strip t c hb, ← e]
  exact Nat.gcd_sub_self_left hab
theorem ar_lbp (n : Nat) {o : Nat} (h : o % 2 = 1) : Nat.Coprime (lb_p n) o := by
  rw [lb_p2]
  exact ar_pow2 _ h
theorem ar_mod_sub {a b P : Nat} (hab : b ≤ a) (h : a % P = b % P) : P ∣ a - b := by
  have h1 := Nat.div_add_mod a P
  have h2 := Nat.div_add_mod b P
  refine ⟨a / P - b / P, ?_⟩
  rw [Nat.mul_sub]
  omega
theorem ar_uniq1 {o q Q n : Nat} (ho : o % 2 = 1) (h : o * q % lb_p n = o * Q % lb_p n) (hq : q < lb_p n) (hle : Q ≤ q) : q = Q := by
  have h1 : lb_p n ∣ o * q - o * Q := ar_mod_sub (Nat.mul_le_mul_left o hle) h
  rw [← Nat.mul_sub] at h1
  have h2 : lb_p n ∣ q - Q := Nat.Coprime.dvd_of_dvd_mul_left (ar_lbp n ho) h1
  have h3 := Nat.eq_zero_of_dvd_of_lt h2 (by omega)
  omega
theorem ar_uniq {o q Q n : Nat} (ho : o % 2 = 1) (h : o * q % lb_p n = o * Q % lb_p n) (hq : q < lb_p n) (hQ : Q < lb_p n) : q = Q := by
  rcases Nat.le_total Q q with g | g
  · exact ar_uniq1 ho h hq g
  · exact (ar_uniq1 ho h.symm hQ g).symm
