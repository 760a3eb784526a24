-- NUMBERS OF 896 BITS, AND A PRODUCT DIGIT BY DIGIT
def tc (z : Int) : Nat := (z % (dg_p 56 : Int)).toNat
theorem dg_pI : (0 : Int) < (dg_p 56 : Int) := by have := dg_pp 56; omega
theorem tc_I (z : Int) : ((tc z : Nat) : Int) = z % (dg_p 56 : Int) := by
  unfold tc
  exact Int.toNat_of_nonneg (Int.emod_nonneg _ (by have := dg_pI; omega))
theorem tc_lt (z : Int) : tc z < dg_p 56 := by
  have h1 := tc_I z
  have h2 := Int.emod_lt_of_pos z dg_pI
  omega
theorem tc_of {n : Nat} {z : Int} (h : ((n : Nat) : Int) % (dg_p 56 : Int) = z % (dg_p 56 : Int)) : n % dg_p 56 = tc z := by
  apply Int.ofNat_inj.mp
  rw [tc_I, ← h]
  exact Int.natCast_emod n (dg_p 56)
theorem tc_self {n : Nat} (h : n < dg_p 56) : tc (n : Int) = n := by
  rw [← tc_of (n := n) (z := (n : Int)) rfl, Nat.mod_eq_of_lt h]
theorem tc_mul (z : Int) (m : Nat) : tc z * m % dg_p 56 = tc (z * (m : Int)) := by
  apply tc_of
  rw [Int.natCast_mul, tc_I, Int.mul_emod, Int.emod_emod_of_dvd _ (Int.dvd_refl _), ← Int.mul_emod]
theorem tc_add (x y : Int) : (tc x + tc y) % dg_p 56 = tc (x + y) := by
  apply tc_of
  rw [Int.natCast_add, tc_I, tc_I, ← Int.add_emod]
theorem tc_neg (z : Int) : (dg_p 56 - tc z) % dg_p 56 = tc (- z) := by
  apply tc_of
  have h1 := tc_lt z
  rw [Int.ofNat_sub (Nat.le_of_lt h1), tc_I]
  have h2 : z % (dg_p 56 : Int) = z - (dg_p 56 : Int) * (z / (dg_p 56 : Int)) := Int.emod_def ..
  have h3 : (dg_p 56 : Int) - z % (dg_p 56 : Int) = - z + (dg_p 56 : Int) * (1 + z / (dg_p 56 : Int)) := by
    rw [h2, Int.mul_add, Int.mul_one]
    omega
  rw [h3, Int.add_mul_emod_self_left]
theorem tc_sub (x y : Int) : (tc x + (dg_p 56 - tc y) % dg_p 56) % dg_p 56 = tc (x - y) := by
  rw [tc_neg, tc_add, Int.sub_eq_add_neg]
def md (m j : Nat) : Nat := m / 2 ^ (16 * j) % 65536
theorem md_lt (m j : Nat) : md m j < 65536 := Nat.mod_lt _ (by decide)
theorem md_all {m : Nat} (h : m < 18446744073709551616) : m = md m 0 + 65536 * (md m 1 + 65536 * (md m 2 + 65536 * md m 3)) := by
  unfold md
  omega
def ts (f : Nat → Nat) (m k : Nat) : Nat → Nat
  | 0 => 0
  | j + 1 => ts f m k j + md m j * (dg_p j * dg_v f (k - j))
def tp (f : Nat → Nat) (m k : Nat) : Nat → Nat
  | 0 => 0
  | j + 1 => tp f m k j + f (k - j) * md m j
def tq (m : Nat) : Nat → Nat
  | 0 => 0
  | j + 1 => tq m j + md m j * dg_p j
theorem rg_a (M p X f q : Nat) : M * (p * (X + f * q)) = M * (p * X) + f * M * (p * q) := by
  rw [Nat.mul_add, Nat.mul_add]
  congr 1
  ac_rfl
theorem ts_step (f : Nat → Nat) (m k n : Nat) : ts f m (k + 1) n = ts f m k n + tp f m k (min n (k + 1)) * dg_p k := by
  induction n with
  | zero => show 0 = 0 + tp f m k (min 0 (k + 1)) * dg_p k; rw [Nat.zero_min]; show 0 = 0 + 0 * dg_p k; omega
  | succ n ih =>
    show ts f m (k + 1) n + md m n * (dg_p n * dg_v f (k + 1 - n)) = ts f m k n + md m n * (dg_p n * dg_v f (k - n)) + tp f m k (min (n + 1) (k + 1)) * dg_p k
    rw [ih]
    rcases Nat.lt_or_ge k n with q | q
    · rw [show k + 1 - n = k - n by omega, show min (n + 1) (k + 1) = min n (k + 1) by omega]
      omega
    · rw [show k + 1 - n = k - n + 1 by omega, dg_v1, rg_a, ← dg_pa, show n + (k - n) = k by omega, show min (n + 1) (k + 1) = n + 1 by omega, show min n (k + 1) = n by omega]
      show _ = _ + (tp f m k n + f (k - n) * md m n) * dg_p k
      rw [Nat.add_mul]
      omega
theorem ts_end (f : Nat → Nat) (m n : Nat) (h : n ≤ 56) : ∃ y, dg_v f 56 * tq m n = ts f m 56 n + dg_p 56 * y := by
  induction n with
  | zero => exact ⟨0, rfl⟩
  | succ n ih =>
    obtain ⟨y, hy⟩ := ih (by omega)
    have a1 := dg_add f (56 - n) n
    have p1 := dg_pa n (56 - n)
    rw [show 56 - n + n = 56 by omega] at a1
    rw [show n + (56 - n) = 56 by omega] at p1
    generalize dg_v (fun j => f (56 - n + j)) n = Y at a1
    refine ⟨y + md m n * Y, ?_⟩
    show dg_v f 56 * (tq m n + md m n * dg_p n) = ts f m 56 n + md m n * (dg_p n * dg_v f (56 - n)) + dg_p 56 * (y + md m n * Y)
    have e1 : dg_v f 56 * (md m n * dg_p n) = md m n * (dg_p n * dg_v f (56 - n)) + dg_p 56 * (md m n * Y) := by
      rw [p1, a1, Nat.add_mul]
      congr 1
      · ac_rfl
      · ac_rfl
    rw [Nat.mul_add, hy, e1, Nat.mul_add]
    omega
theorem tq_4 {m : Nat} (h : m < 18446744073709551616) : tq m 4 = m := by
  have h1 := md_all h
  show 0 + md m 0 * dg_p 0 + md m 1 * dg_p 1 + md m 2 * dg_p 2 + md m 3 * dg_p 3 = m
  have e0 : dg_p 0 = 1 := rfl
  have e1 : dg_p 1 = 65536 := rfl
  have e2 : dg_p 2 = 4294967296 := rfl
  have e3 : dg_p 3 = 281474976710656 := rfl
  rw [e0, e1, e2, e3]
  omega
theorem tm_end (f : Nat → Nat) {m : Nat} (h : m < 18446744073709551616) : ts f m 56 4 % dg_p 56 = dg_v f 56 * m % dg_p 56 := by
  obtain ⟨y, hy⟩ := ts_end f m 4 (by decide)
  rw [tq_4 h] at hy
  rw [hy, Nat.add_mul_mod_self_left]
theorem tp_min {f : Nat → Nat} {m k j : Nat} (h : j = 4 ∨ j = k + 1) (h4 : j ≤ 4) (hk : j ≤ k + 1) : tp f m k j = tp f m k (min 4 (k + 1)) := by
  congr 1
  omega
theorem tm_inv {F T c t c' P pp : Nat} (inv : F + c * P = T) (hc : t + 65536 * c' = c + pp) : F + t * P + c' * (P * 65536) = T + pp * P := by
  have h2 : t * P + c' * (P * 65536) = (c + pp) * P := by
    rw [← hc, Nat.add_mul]
    congr 1
    ac_rfl
  rw [Nat.add_mul] at h2
  omega
theorem tm_fin {F c T P : Nat} (h : F + c * P = T) (hF : F < P) : F = T % P := by
  rw [← h, Nat.add_mul_mod_self_right, Nat.mod_eq_of_lt hF]
