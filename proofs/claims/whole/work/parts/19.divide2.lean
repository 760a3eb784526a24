-- DIVISION: its last steps
theorem dv_odd {fo : Nat → Nat} {leno : Nat} (hf : ∀ j, fo j < 2147483648) (hpos : 0 < leno) (h : fo 0 % 2 = 1) : lb_v fo leno % 2 = 1 := by
  have h1 := lb_low fo hf hpos
  omega
theorem dv_lt {cap : Nat} {fo : Nat → Nat} {leno len1 q N1 : Nat} (ho : lb_n cap fo leno) (hpos : 0 < leno) (h1 : N1 < lb_p len1) (e : N1 = q * lb_v fo leno) : q < lb_p (len1 + 1 - leno) := by
  obtain ⟨k, rfl⟩ : ∃ k, leno = k + 1 := ⟨leno - 1, by omega⟩
  have h2 := lb_top (ho.2.2 k rfl)
  have h3 : q * lb_p k ≤ q * lb_v fo (k + 1) := Nat.mul_le_mul_left _ h2
  rcases Nat.lt_or_ge len1 k with g | g
  · have h4 := lb_ple (show len1 ≤ k by omega)
    have h5 : q = 0 := by
      rcases Nat.eq_zero_or_pos q with r | r
      · exact r
      · have : 1 * lb_p k ≤ q * lb_p k := Nat.mul_le_mul_right _ r
        omega
    rw [h5]
    exact lb_pp _
  · have h4 : lb_p len1 = lb_p k * lb_p (len1 + 1 - (k + 1)) := by rw [← lb_pa]; congr 1; omega
    rw [h4] at h1
    apply Nat.lt_of_mul_lt_mul_left (a := lb_p k)
    rw [Nat.mul_comm (lb_p k) q]
    omega
theorem dv_abs {cap : Nat} {f : Nat → Nat} {len D : Nat} {sg sgo : Int32} {Q : Int} (h : wh_ok cap f len sg) (hs : sgo = 1 ∨ sgo = -1) (hQ : wh_z f len sg = Q * (sgo.toInt * (D : Int))) : lb_v f len = Q.natAbs * D := by
  have h1 := wh_abs h
  rw [hQ, Int.natAbs_mul, Int.natAbs_mul] at h1
  rcases hs with e | e
  · rw [e, wh_t1] at h1
    simp at h1
    exact h1.symm
  · rw [e, wh_tm] at h1
    simp at h1
    exact h1.symm
theorem dv_fin {cap len len1 len2 D : Nat} {f F : Nat → Nat} {sg sg1 sg2 sgo : Int32} {Q : Int} (h : wh_ok cap f len sg) (hs : sgo = 1 ∨ sgo = -1) (hD : 0 < D) (hQ : wh_z f len sg = Q * (sgo.toInt * (D : Int))) (hF : ∀ i, F i < 2147483648) (hl : len2 ≤ cap) (hz : ∀ k, len2 = k + 1 → F k ≠ 0) (hv : lb_v F len2 = Q.natAbs) (h1 : sg1 = if len1 = 0 then 0 else sg) (hl1 : Q ≠ 0 → len1 ≠ 0) (h2 : sg2 = if len2 = 0 then 0 else sg1 * sgo) :
    wh_ok cap F len2 sg2 ∧ wh_z F len2 sg2 = Q := by
  have hn : lb_n cap F len2 := ⟨hl, hF, hz⟩
  have h0 := lb_n0 hn
  by_cases e : Q = 0
  · have e2 : len2 = 0 := h0.mp (by rw [hv, e]; rfl)
    rw [if_pos e2] at h2
    subst h2
    refine ⟨wh_of hn (Or.inl rfl) ⟨fun _ => e2, fun _ => rfl⟩, ?_⟩
    unfold wh_z
    rw [wh_t0, e]
    omega
  · have e2 : ¬ len2 = 0 := fun q => by have := h0.mpr q; omega
    rw [if_neg (hl1 e)] at h1
    rw [if_neg e2, h1] at h2
    have hDi : (0 : Int) < (D : Int) := by omega
    have hneg : Q < 0 → Q * (D : Int) < 0 := fun q => Int.mul_neg_of_neg_of_pos q hDi
    have hpos : 0 < Q → 0 < Q * (D : Int) := fun q => Int.mul_pos q hDi
    have m1 : Q * (1 * (D : Int)) = Q * D := by rw [Int.one_mul]
    have m2 : Q * (-1 * (D : Int)) = -(Q * D) := by rw [Int.neg_mul, Int.one_mul, Int.mul_neg]
    have fin : ∀ s : Int32, (s = 1 ∧ 0 < Q) ∨ (s = -1 ∧ Q < 0) → wh_ok cap F len2 s ∧ wh_z F len2 s = Q := by
      intro s hs2
      rcases hs2 with ⟨q, r⟩ | ⟨q, r⟩
      · subst q
        refine ⟨wh_of hn (Or.inr (Or.inl rfl)) ⟨fun z => absurd z (by decide), fun z => absurd z e2⟩, ?_⟩
        unfold wh_z
        rw [wh_t1, hv]
        omega
      · subst q
        refine ⟨wh_of hn (Or.inr (Or.inr rfl)) ⟨fun z => absurd z (by decide), fun z => absurd z e2⟩, ?_⟩
        unfold wh_z
        rw [wh_tm, hv]
        omega
    apply fin
    rcases wh_sign h with ⟨a, b⟩ | ⟨a, b⟩ | ⟨a, b⟩ <;> rcases hs with r | r <;> rw [hQ, r] at b <;> first | rw [wh_t1, m1] at b | rw [wh_tm, m2] at b
    · exfalso
      rcases (show Q < 0 ∨ 0 < Q by omega) with q | q
      · have := hneg q; omega
      · have := hpos q; omega
    · exfalso
      rcases (show Q < 0 ∨ 0 < Q by omega) with q | q
      · have := hneg q; omega
      · have := hpos q; omega
    · rcases (show Q < 0 ∨ 0 < Q by omega) with q | q
      · have := hneg q; omega
      · exact Or.inl ⟨by rw [h2, a, r]; decide, q⟩
    · rcases (show Q < 0 ∨ 0 < Q by omega) with q | q
      · exact Or.inr ⟨by rw [h2, a, r]; decide, q⟩
      · have := hpos q; omega
    · rcases (show Q < 0 ∨ 0 < Q by omega) with q | q
      · exact Or.inr ⟨by rw [h2, a, r]; decide, q⟩
      · have := hpos q; omega
    · rcases (show Q < 0 ∨ 0 < Q by omega) with q | q
      · have := hneg q; omega
      · exact Or.inl ⟨by rw [h2, a, r]; decide, q⟩
theorem dv_next {F G fo : Nat → Nat} {c i leno ql N1 : Nat} (hi : i < c) (hG0 : G i = 0) (hlow : ∀ j, j < i → G j = F j) (h1 : cg (lb_p c) (lb_v G c + lb_v fo leno * (ql * lb_p i)) (lb_v F c)) (h2 : cg (lb_p c) (lb_v fo leno * lb_v F i + lb_v F c) (N1 + lb_v F i)) : cg (lb_p c) (lb_v fo leno * lb_v (va_up G i ql) (i + 1) + lb_v (va_up G i ql) c) (N1 + lb_v (va_up G i ql) (i + 1)) := by
  have e1 : lb_v (va_up G i ql) (i + 1) = lb_v F i + ql * lb_p i := by rw [lb_v1, va_up_self, lb_up_ge G i ql (Nat.le_refl i), lb_congr i hlow]
  have e2 := lb_up G i ql hi
  rw [hG0, Nat.zero_mul, Nat.add_zero] at e2
  rw [e1, e2, Nat.mul_add]
  have h3 := cg_add (lb_v fo leno * lb_v F i + ql * lb_p i) h1
  have h4 := cg_add (ql * lb_p i) h2
  have h5 : lb_v F c + (lb_v fo leno * lb_v F i + ql * lb_p i) = lb_v fo leno * lb_v F i + lb_v F c + ql * lb_p i := by omega
  rw [h5] at h3
  have h6 := cg_trans h3 h4
  have h7 : lb_v fo leno * lb_v F i + lb_v fo leno * (ql * lb_p i) + (lb_v G c + ql * lb_p i) = lb_v G c + lb_v fo leno * (ql * lb_p i) + (lb_v fo leno * lb_v F i + ql * lb_p i) := by omega
  rw [h7, ← Nat.add_assoc N1]
  exact h6
theorem dv_done {F fo : Nat → Nat} {c leno q N1 : Nat} (hF : ∀ i, F i < 2147483648) (hodd : lb_v fo leno % 2 = 1) (hq : q < lb_p c) (e : N1 = q * lb_v fo leno) (h : cg (lb_p c) (lb_v fo leno * lb_v F c + lb_v F c) (N1 + lb_v F c)) : lb_v F c = q := by
  have h1 := cg_mod (cg_cancel _ h)
  rw [e, Nat.mul_comm q] at h1
  exact (ar_uniq hodd h1.symm hq (lb_lt c (fun i _ => hF i))).symm
theorem xn_sub1 (a b : Nat) : nI a - nI b + nI 1 = nI (a + 1) - nI b := by
  rw [← nI_add a 1]
  rw [Int32.sub_eq_add_neg, Int32.sub_eq_add_neg, Int32.add_assoc, Int32.add_comm (-nI b), ← Int32.add_assoc]
