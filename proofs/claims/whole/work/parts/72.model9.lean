theorem jh_all : ∀ n, n < 13 → ∀ k, k < n → db (2 ^ (n + 1) - 1 - 2 ^ k) 13 = n :: (dt_jh k (n - 1 - k) ++ dt_js k) := by decide +kernel
theorem jh_len (k m : Nat) : (dt_jh k m).length = m := by
  induction m with
  | zero => rfl
  | succ m ih => show (dt_jh k m).length + 1 = m + 1; rw [ih]
theorem dE_k (A : Nat → Nat → Int) {n k : Nat} (hn : n ≤ 12) (hk : k < n) : dE_ A (2 ^ (n + 1) - 1 - 2 ^ k) = dt_sg (n - 1 - k) * dt_y A k (n - 1 - k) n ∧ (db (2 ^ (n + 1) - 1 - 2 ^ k) 13).length = n := by
  have h := jh_all n (by omega) k hk
  have hl : (db (2 ^ (n + 1) - 1 - 2 ^ k) 13).length = n := by
    rw [h, List.length_cons, List.length_append, jh_len, js_len]
    omega
  refine ⟨?_, hl⟩
  unfold dE_
  rw [hl, h, dt_y_map, show k + 1 + (n - 1 - k) = n by omega, List.map_cons, List.map_append]
  have h2 := dt_move (dt_EA n) (dt_col A n) ((dt_js k).map (dt_col A)) ((dt_jh k (n - 1 - k)).map (dt_col A)) []
  rw [List.length_map, jh_len, List.nil_append, List.nil_append] at h2
  rw [h2, List.map_append, List.map_cons]
theorem sgI_t (z : Int) : (sgI z).toInt = z.sign := by
  unfold sgI
  rcases (show z < 0 ∨ z = 0 ∨ 0 < z by omega) with q | q | q
  · rw [if_pos q, Int.sign_eq_neg_one_of_neg q]; decide
  · subst q; decide
  · rw [if_neg (by omega), if_neg (by omega), Int.sign_eq_one_of_pos q]; decide
theorem sgI_sg (z : Int) : wh_sg (sgI z) := by
  unfold sgI
  split
  · exact Or.inr (Or.inr rfl)
  · split
    · exact Or.inl rfl
    · exact Or.inr (Or.inl rfl)
theorem sg_mul {a b : Int32} (ha : wh_sg a) (hb : wh_sg b) : wh_sg (a * b) ∧ (a * b).toInt = a.toInt * b.toInt := by
  rcases ha with e | e | e <;> rcases hb with f | f | f <;> subst e <;> subst f <;> (unfold wh_sg; decide)
theorem sg_abs (n : Nat) (y : Int) : (dt_sg n * y).natAbs = y.natAbs ∧ (dt_sg n * y).sign = dt_sg n * y.sign := by
  rw [sg_par]
  split
  · rw [Int.one_mul, Int.one_mul]; exact ⟨rfl, rfl⟩
  · rw [Int.neg_one_mul, Int.neg_one_mul, Int.natAbs_neg, Int.sign_neg]; exact ⟨rfl, rfl⟩
theorem so_fin {n : Nat} {y d : Int} {r : Int32} (hr : r = if n % 2 = 1 then -(sgI (dt_sg n * y) * sgI d) else sgI (dt_sg n * y) * sgI d) : r.toInt = y.sign * d.sign := by
  obtain ⟨m1, m2⟩ := sg_mul (sgI_sg (dt_sg n * y)) (sgI_sg d)
  rw [sgI_t, sgI_t, (sg_abs n y).2] at m2
  generalize sgI (dt_sg n * y) * sgI d = X at hr m1 m2
  rw [sg_par] at m2
  rcases (show n % 2 = 0 ∨ n % 2 = 1 by omega) with q | q
  · rw [if_neg (by omega)] at hr
    rw [if_pos q, Int.one_mul] at m2
    rw [hr, m2]
  · rw [if_pos q] at hr
    rw [if_neg (by omega), Int.neg_one_mul] at m2
    rw [hr, rs_neg m1, m2, Int.neg_mul, Int.neg_neg]
theorem tk_abs {z : Int} (h : z.natAbs < 2 ^ 785) {f g : Nat → Nat} (hf : dg_v f 56 = tc z) (hg : dg_v g 56 = (dg_p 56 - dg_v f 56) % dg_p 56) : (sgI z < 0 → dg_v g 56 = z.natAbs) ∧ (¬ sgI z < 0 → dg_v f 56 = z.natAbs) := by
  constructor
  · intro h1
    have h2 : z < 0 := by
      rcases Int.lt_or_le z 0 with q | q
      · exact q
      · exfalso
        unfold sgI at h1
        rw [if_neg (by omega)] at h1
        split at h1 <;> exact absurd h1 (by decide)
    rw [hg, hf, tc_neg, tc_pos (by omega) (by rw [Int.natAbs_neg]; exact h), Int.natAbs_neg]
  · intro h1
    have h2 : 0 ≤ z := by
      rcases Int.lt_or_le z 0 with q | q
      · exfalso
        apply h1
        unfold sgI
        rw [if_pos q]
        decide
      · exact q
    rw [hf, tc_pos h2 h]
theorem tk_pos {z : Int} (h : z.natAbs < 2 ^ 785) {f : Nat → Nat} (hf : dg_v f 56 = tc z) (h1 : 0 ≤ sgI z) : dg_v f 56 = z.natAbs := by
  have h2 : 0 ≤ z := by
    rcases Int.lt_or_le z 0 with q | q
    · exfalso
      unfold sgI at h1
      rw [if_pos q] at h1
      exact absurd h1 (by decide)
    · exact q
  rw [hf, tc_pos h2 h]
theorem tk_neg {z : Int} (h : z.natAbs < 2 ^ 785) {f g : Nat → Nat} (hf : dg_v f 56 = tc z) (hg : dg_v g 56 = (dg_p 56 - dg_v f 56) % dg_p 56) (h1 : ¬ 0 ≤ sgI z) : dg_v g 56 = z.natAbs := by
  have h2 : z < 0 := by
    rcases Int.lt_or_le z 0 with q | q
    · exact q
    · exfalso
      apply h1
      unfold sgI
      rw [if_neg (by omega)]
      split <;> decide
  rw [hg, hf, tc_neg, tc_pos (by omega) (by rw [Int.natAbs_neg]; exact h), Int.natAbs_neg]
