-- THE COMMON DIVISOR
theorem gd_min {ta tb oa ob : Nat} (ha : oa % 2 = 1) (hb : ob % 2 = 1) : Nat.gcd (2 ^ ta * oa) (2 ^ tb * ob) = Nat.gcd oa ob * 2 ^ min ta tb := by
  rcases Nat.le_total ta tb with q | q
  · rw [Nat.min_eq_left q]
    have e : 2 ^ tb * ob = 2 ^ ta * (2 ^ (tb - ta) * ob) := by rw [← Nat.mul_assoc, ← Nat.pow_add]; congr 2; omega
    rw [e, Nat.gcd_mul_left, Nat.gcd_comm oa, ar_strip _ _ ha, Nat.gcd_comm ob, Nat.mul_comm]
  · rw [Nat.min_eq_right q]
    have e : 2 ^ ta * oa = 2 ^ tb * (2 ^ (ta - tb) * oa) := by rw [← Nat.mul_assoc, ← Nat.pow_add]; congr 2; omega
    rw [e, Nat.gcd_mul_left, ar_strip _ _ hb, Nat.mul_comm]
theorem gd_half {a b t c w k : Nat} (hb : b < a) (e : a - b = 2 ^ t * c) (ht : 1 ≤ t) (h : a * b * 2 ^ k ≤ w) : c * b * 2 ^ (k + 1) ≤ w := by
  have h1 : 2 ^ 1 * c ≤ 2 ^ t * c := Nat.mul_le_mul_right _ (Nat.pow_le_pow_right (by decide) ht)
  have h2 : 2 * c ≤ a := by omega
  have h3 : 2 * c * b ≤ a * b := Nat.mul_le_mul_right _ h2
  have h4 : 2 * c * b * 2 ^ k ≤ a * b * 2 ^ k := Nat.mul_le_mul_right _ h3
  have h5 : c * b * 2 ^ (k + 1) = 2 * c * b * 2 ^ k := by
    rw [Nat.pow_succ]
    generalize 2 ^ k = z
    grind
  omega
theorem gd_stop {a b w : Nat} (ha : 0 < a) (hb : 0 < b) {k : Nat} (h : a * b * 2 ^ k ≤ w) (hw : w < 2 ^ 1611) (hk : 1612 ≤ k) : False := by
  have h1 : 1 * 2 ^ k ≤ a * b * 2 ^ k := Nat.mul_le_mul_right _ (Nat.mul_pos ha hb)
  have h2 := Nat.pow_le_pow_right (n := 2) (by decide) hk
  have h3 := Nat.pow_le_pow_right (n := 2) (by decide) (show 1611 ≤ 1612 by decide)
  omega
theorem gd_low {f : Nat → Nat} {len : Nat} (hf : ∀ j, f j < 2147483648) (h : lb_v f len % 2 = 1) : 0 < len ∧ f 0 % 2 = 1 := by
  have hp : 0 < len := by
    rcases Nat.eq_zero_or_pos len with q | q
    · subst q; simp [lb_v] at h
    · exact q
  have h1 := lb_low f hf hp
  exact ⟨hp, by omega⟩
theorem wh_len0 {cap : Nat} {f : Nat → Nat} {len : Nat} {sg : Int32} (h : wh_ok cap f len sg) (h1 : lb_v f len ≠ 0) : 0 < len ∧ ¬ sg = 0 := by
  have hp : 0 < len := by
    rcases Nat.eq_zero_or_pos len with q | q
    · subst q; exact absurd rfl h1
    · exact q
  exact ⟨hp, fun q => by have := h.2.2.2.1.mp q; omega⟩
/-- the same sign over other limbs, both not 0 -/
theorem wh_re {cap cap' : Nat} {f F : Nat → Nat} {len len2 : Nat} {sg : Int32} (h : wh_ok cap f len sg) (h1 : lb_v f len ≠ 0) (hn : lb_n cap' F len2) (h2 : lb_v F len2 ≠ 0) : wh_ok cap' F len2 sg := by
  have hs := (wh_len0 h h1).2
  exact wh_of hn h.2.2.1 ⟨fun q => absurd q hs, fun q => absurd ((lb_n0 hn).mpr q) h2⟩
