-- THE DESK AS A CALLER SEES IT
def dA (a : Nat → Int64) : Nat → Nat → Int := fun i j => (a (i * 13 + j)).toInt
def dG (D : dS) : Prop := D.n ≤ 12 ∧ (D.sv = 0 ∨ D.sv = 1) ∧ wk D.gg D.ln D.sn ∧ wh_ok 26 D.fd D.lend D.sgd ∧ wh_ok 26 D.fu D.lenu D.sgu ∧ wh_ok 26 D.fe D.lene D.sge ∧ (∀ x, D.fp x < 2147483648) ∧ (∀ x, D.fq x < 2147483648) ∧ (∀ x, D.fo x < 2147483648) ∧ (∀ x, D.fr x < 2147483648) ∧
  (D.sv = 1 → dt_d (dA D.a) D.n ≠ 0 ∧ wh_z D.fd D.lend D.sgd = dt_d (dA D.a) D.n ∧ ∀ i, i < D.n → wz D.gg D.ln D.sn (i * 13 + D.n) = dt_y (dA D.a) i (D.n - 1 - i) D.n)
/-- numerator and denominator of the RESULT, their sizes -/
def dN (D : dS) : Nat := lb_v D.fu D.lenu
def dE (D : dS) : Nat := lb_v D.fe D.lene
theorem dA_bd (a : Nat → Int64) (i j : Nat) : (dA a i j).natAbs ≤ 2 ^ 63 := by
  have h1 := Int64.le_toInt (a (i * 13 + j))
  have h2 := Int64.toInt_lt (a (i * 13 + j))
  unfold dA
  omega
theorem dA_up0 {a : Nat → Int64} (h : ∀ j, j < 156 → a j = 0) (i j : Nat) (hi : i < 12) (hj : j ≤ 12) : dA a i j = 0 := by
  unfold dA
  rw [h _ (by omega)]
  rfl
theorem lb_part {cap : Nat} {f : Nat → Nat} {len : Nat} (h : lb_n cap f len) (k : Nat) : (if k < len then f k else 0) = lb_v f len / 2 ^ (31 * k) % 2147483648 := by
  rw [← lb_p2]
  by_cases q : k < len
  · rw [if_pos q, lb_digit q (fun i _ => h.2.1 i)]
  · rw [if_neg q, Nat.div_eq_of_lt (Nat.lt_of_lt_of_le (lb_lt len (fun i _ => h.2.1 i)) (lb_ple (by omega)))]
theorem arr_congrJ {cA : ClassId} {n : Nat} {f g : Nat → Int64} (h : ∀ i, i < n → f i = g i) : vp_cell cA (n, .inr (.inl f)) = vp_cell cA (n, .inr (.inl g)) := by
  rw [vp_cell_l, vp_cell_l]
  unfold arrV
  congr 1
  apply Array.ext
  · simp
  · intro i h1 h2
    simp at h1 h2
    simp [h i h1]
theorem arr_PJ {D : va_G} {cl : List vw_C} {ws : va_W} {H : Heap} {k a n : Nat} {cA : ClassId} {f g : Nat → Int64} (hP : va_P D cl ws H) (hk : ws[k]? = some (a, .inl (cA, n, .inr (.inl f)))) (h : ∀ i, i < n → f i = g i) : va_P D cl (ws.set k (a, .inl (cA, n, .inr (.inl g)))) H := by
  intro j q hj
  rw [List.getElem?_set] at hj
  by_cases e : k = j
  · subst e
    rw [if_pos rfl] at hj
    have hl := (List.getElem?_eq_some_iff.mp hk).1
    rw [if_pos hl] at hj
    cases hj
    show H[a]? = some (vp_cell cA (n, .inr (.inl g)))
    rw [← arr_congrJ h]
    exact hP k _ hk
  · rw [if_neg e] at hj
    exact hP j q hj
