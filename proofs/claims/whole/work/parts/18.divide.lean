-- EXACT DIVISION FROM BELOW
def cg (P A B : Nat) : Prop := ∃ k1 k2, A + k1 * P = B + k2 * P
theorem cg_trans {P A B C : Nat} (h1 : cg P A B) (h2 : cg P B C) : cg P A C := by
  obtain ⟨k1, k2, e1⟩ := h1
  obtain ⟨k3, k4, e2⟩ := h2
  refine ⟨k1 + k3, k2 + k4, ?_⟩
  rw [Nat.add_mul, Nat.add_mul]
  omega
theorem cg_add {P A B : Nat} (C : Nat) (h : cg P A B) : cg P (A + C) (B + C) := by
  obtain ⟨k1, k2, e⟩ := h
  exact ⟨k1, k2, by omega⟩
theorem cg_cancel {P A B : Nat} (C : Nat) (h : cg P (A + C) (B + C)) : cg P A B := by
  obtain ⟨k1, k2, e⟩ := h
  exact ⟨k1, k2, by omega⟩
theorem cg_mod {P A B : Nat} (h : cg P A B) : A % P = B % P := by
  obtain ⟨k1, k2, e⟩ := h
  rw [← Nat.add_mul_mod_self_right A k1 P, e, Nat.add_mul_mod_self_right]
theorem cg_of_mod (P A : Nat) : cg P (A % P) A := ⟨A / P, 0, by have := Nat.mod_add_div A P; rw [Nat.mul_comm] at this; omega⟩
theorem lb_low (g : Nat → Nat) (hg : ∀ j, g j < 2147483648) {n : Nat} (hn : 0 < n) : lb_v g n % 2147483648 = g 0 := by
  have h := lb_mod (g := g) (a := 1) (n := n) hn (fun j _ => hg j)
  rw [show lb_p 1 = 2147483648 from rfl] at h
  rw [h]
  simp [lb_v, lb_p]
theorem dv_zero {F G fo : Nat → Nat} {c i r ql inv k : Nat} (hF : ∀ j, F j < 2147483648) (hG : ∀ j, G j < 2147483648) (ho : ∀ j, fo j < 2147483648) (hi : i < c) (hr : 0 < r) (hk : lb_v G c + ql * lb_v fo r * lb_p i = lb_v F c + k * lb_p c) (hlow : ∀ j, j < i → G j = F j) (hq : ql = F i * inv % 2147483648) (hinv : fo 0 * inv % 2147483648 = 1) : G i = 0 := by
  obtain ⟨b, rfl⟩ : ∃ b, c = i + (b + 1) := ⟨c - i - 1, by omega⟩
  rw [lb_add G i (b + 1), lb_add F i (b + 1), lb_congr i hlow, lb_pa] at hk
  have h1 : lb_p i * (lb_v (fun j => G (i + j)) (b + 1) + ql * lb_v fo r) = lb_p i * (lb_v (fun j => F (i + j)) (b + 1) + k * lb_p (b + 1)) := by
    generalize lb_v (fun j => G (i + j)) (b + 1) = x1 at *
    generalize lb_v (fun j => F (i + j)) (b + 1) = x2 at *
    generalize lb_v fo r = x3 at *
    generalize lb_p (b + 1) = x4 at *
    generalize lb_v F i = x5 at *
    generalize lb_p i = P at *
    have e1 : P * (x1 + ql * x3) = P * x1 + ql * x3 * P := by grind
    have e2 : P * (x2 + k * x4) = P * x2 + k * (P * x4) := by grind
    rw [e1, e2]
    omega
  have h2 := Nat.eq_of_mul_eq_mul_left (lb_pp i) h1
  have h3 : (lb_v (fun j => G (i + j)) (b + 1) + ql * lb_v fo r) % 2147483648 = (lb_v (fun j => F (i + j)) (b + 1) + k * lb_p (b + 1)) % 2147483648 := by rw [h2]
  rw [lb_p1, ← Nat.mul_assoc, Nat.add_mul_mod_self_right, lb_low (fun j => F (i + j)) (fun j => hF _) (by omega), Nat.add_mod, lb_low (fun j => G (i + j)) (fun j => hG _) (by omega), Nat.mul_mod, lb_low fo ho hr] at h3
  have h4 : ql % 2147483648 * fo 0 % 2147483648 = F i := by
    rw [hq, Nat.mod_mod, Nat.mod_mul_mod, Nat.mul_assoc, Nat.mul_comm inv, Nat.mul_mod, hinv, Nat.mul_one, Nat.mod_mod]
    exact Nat.mod_eq_of_lt (hF i)
  rw [h4] at h3
  have h5 := hG i
  have h6 := hF i
  have h7 : (G (i + 0) + F i) % 2147483648 = F (i + 0) := h3
  rw [Nat.add_zero] at h7
  omega
theorem dv_cg {F G fo : Nat → Nat} {c i leno ql k : Nat} (hi : i < c) (hk : lb_v G c + ql * lb_v fo (min leno (c - i)) * lb_p i = lb_v F c + k * lb_p c) : cg (lb_p c) (lb_v G c + lb_v fo leno * (ql * lb_p i)) (lb_v F c) := by
  rcases Nat.le_total leno (c - i) with q | q
  · rw [Nat.min_eq_left q] at hk
    refine ⟨0, k, ?_⟩
    rw [← hk]
    generalize lb_v fo leno = x
    generalize lb_p i = y
    grind
  · rw [Nat.min_eq_right q] at hk
    obtain ⟨d, hd⟩ : ∃ d, leno = (c - i) + d := ⟨leno - (c - i), by omega⟩
    have h1 := lb_add fo (c - i) d
    rw [← hd] at h1
    have h2 : lb_p c = lb_p (c - i) * lb_p i := by rw [← lb_pa]; congr 1; omega
    refine ⟨0, k + lb_v (fun j => fo (c - i + j)) d * ql, ?_⟩
    rw [h1, Nat.add_mul k]
    generalize lb_v (fun j => fo (c - i + j)) d = y
    generalize lb_v fo (c - i) = x at *
    generalize lb_v G c = g at *
    generalize lb_v F c = f at *
    rw [h2] at hk ⊢
    generalize lb_p (c - i) = A at *
    generalize lb_p i = B at *
    have e1 : (x + A * y) * (ql * B) = ql * x * B + y * ql * (A * B) := by grind
    rw [e1]
    omega
theorem dv_msub {X X' X0 y x b b' a o V Pm Pj : Nat} (e1 : X' + y * (Pm * Pj) = X + x * (Pm * Pj)) (key : x + a * o + b = y + b' * 2147483648) (inv : X + a * V * Pm = X0 + b * (Pm * Pj)) : X' + a * (V + o * Pj) * Pm = X0 + b' * (Pm * Pj * 2147483648) := by
  have h : (x + a * o + b) * (Pm * Pj) = (y + b' * 2147483648) * (Pm * Pj) := by rw [key]
  simp only [Nat.add_mul, Nat.mul_add] at h ⊢
  simp only [Nat.mul_comm, Nat.mul_left_comm, Nat.mul_assoc] at e1 h inv ⊢
  omega
theorem dv_msub2 {X X' X0 y x b b' C P : Nat} (e1 : X' + y * P = X + x * P) (key : x + b = y + b' * 2147483648) (inv : X + C = X0 + b * P) : X' + C = X0 + b' * (P * 2147483648) := by
  have h : (x + b) * P = (y + b' * 2147483648) * P := by rw [key]
  rw [Nat.add_mul, Nat.add_mul, Nat.mul_assoc, Nat.mul_comm 2147483648] at h
  omega
/-- a limb less a product and a borrow: what stays, what is borrowed -/
theorem dv_limb {y a o b : Nat} (hy : y < 2147483648) (ha : a < 2147483648) (ho : o < 2147483648) (hb : b < 2147483648) (z : Int) (ez : z = (y : Int) - (a * o : Nat) + -(b : Int)) : ∃ b' : Nat, b' < 2147483648 ∧ z / 2147483648 = -(b' : Int) ∧ (z % 2147483648).toNat + a * o + b = y + b' * 2147483648 ∧ -9223372036854775808 ≤ z ∧ z < 9223372036854775808 := by
  have h : a * o ≤ 2147483647 * 2147483647 := Nat.mul_le_mul (by omega) (by omega)
  generalize a * o = w at *
  exact ⟨(-(z / 2147483648)).toNat, by omega, by omega, by omega, by omega, by omega⟩
theorem lg_eq (x y : Int64) : lg_cmp x y = 0 ↔ x = y := by
  rw [lg_cmp]
  split
  · rename_i h
    constructor
    · intro q; exact absurd q (by decide)
    · intro q
      subst q
      exact absurd h (Int64.lt_irrefl)
  · split
    · rename_i h1 h2
      exact ⟨fun _ => h2, fun _ => rfl⟩
    · rename_i h1 h2
      exact ⟨fun q => absurd q (by decide), fun q => absurd q h2⟩
theorem lZ_0 {b : Nat} (h : b < 9223372036854775808) : lZ (-(b : Int)) = lN 0 ↔ b = 0 := by
  constructor
  · intro e
    have h1 : (lZ (-(b : Int))).toInt = (lN 0).toInt := by rw [e]
    rw [lZ_toInt (by omega) (by omega)] at h1
    have h2 : (lN 0).toInt = 0 := by decide
    omega
  · intro e; subst e; rfl
theorem nI_mask (n : Nat) : nI n &&& nI 2147483647 = nI (n % 2147483648) := by
  rw [sh_mod n]
  have h := pk_andN (n := n % 4294967296) (by omega) (m := nI 2147483647) 31 (by decide +kernel)
  rw [h]
  congr 1
  omega
-- Newton's steps
def iZ (z : Int) : Int32 := Int32.ofInt z
theorem iZ_N (n : Nat) : nI n = iZ (n : Int) := by
  show Int32.ofNat n = Int32.ofInt (n : Int)
  apply Int32.toBitVec_inj.mp
  show BitVec.ofNat 32 n = BitVec.ofInt 32 (n : Int)
  rw [BitVec.ofInt_natCast]
theorem iZ_mul (a b : Int) : iZ a * iZ b = iZ (a * b) := (Int32.ofInt_mul a b).symm
theorem iZ_sub (a b : Int) : iZ a - iZ b = iZ (a - b) := (Int32.ofInt_sub a b).symm
theorem iZ_nI (z : Int) : iZ z = nI (z % 4294967296).toNat := by
  apply Int32.toBitVec_inj.mp
  show BitVec.ofInt 32 z = BitVec.ofNat 32 _
  apply BitVec.eq_of_toNat_eq
  rw [BitVec.toNat_ofInt, BitVec.toNat_ofNat]
  omega
theorem iZ_mask (z : Int) : iZ z &&& nI 2147483647 = nI (z % 2147483648).toNat := by
  rw [iZ_nI, nI_mask]
  congr 1
  omega
theorem nw_start {L : Nat} (h : L % 2 = 1) : ∃ c : Int, (L : Int) * L = 1 + 2 ^ 3 * c := by
  obtain ⟨k, hk⟩ : ∃ k : Nat, L = 2 * k + 1 := ⟨L / 2, by omega⟩
  obtain ⟨m, hm⟩ : ∃ m : Nat, k * (k + 1) = 2 * m := by
    rcases (show k % 2 = 0 ∨ k % 2 = 1 by omega) with q | q
    · exact ⟨k / 2 * (k + 1), by rw [← Nat.mul_assoc]; congr 1; omega⟩
    · refine ⟨k * ((k + 1) / 2), ?_⟩
      rw [Nat.mul_left_comm]
      congr 1
      omega
  refine ⟨(m : Int), ?_⟩
  have h2 : (k : Int) * (k + 1) = 2 * m := by exact_mod_cast hm
  rw [hk]
  push_cast
  grind
theorem nw_step {L y c : Int} {n : Nat} (h : L * y = 1 + 2 ^ n * c) : ∃ c', L * (y * (2 - L * y)) = 1 + 2 ^ (n + n) * c' := by
  refine ⟨-(c * c), ?_⟩
  rw [Int.pow_add]
  generalize (2 : Int) ^ n = P at *
  have e : L * (y * (2 - L * y)) = L * y * (2 - L * y) := by grind
  rw [e, h]
  grind
theorem nw_end {L : Nat} {y c : Int} (h : (L : Int) * y = 1 + 2 ^ 48 * c) : L * (y % 2147483648).toNat % 2147483648 = 1 := by
  have h1 := Int.emod_add_mul_ediv y 2147483648
  obtain ⟨w, hw⟩ : ∃ w : Nat, (w : Int) = y % 2147483648 := ⟨(y % 2147483648).toNat, by omega⟩
  rw [← hw, Int.toNat_natCast]
  have h2 : ((L * w : Nat) : Int) = 1 + 2147483648 * (131072 * c - (L : Int) * (y / 2147483648)) := by
    push_cast
    rw [← hw] at h1
    have h3 : (L : Int) * (w + 2147483648 * (y / 2147483648)) = 1 + 2 ^ 48 * c := by rw [h1]; exact h
    grind
  omega
