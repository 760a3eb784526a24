-- BAREISS: the cells of the elimination are minors
def dt_cf (c : dt_C) : (List dt_C → Int) → List dt_C → List (Int × dt_C)
  | _, [] => []
  | F, x :: xs => (F (c :: xs), x) :: dt_cf c (fun l => F (x :: l)) xs
def dt_cb : List (Int × dt_C) → dt_C
  | [] => fun _ => 0
  | q :: qs => dt_lc q.1 q.2 1 (dt_cb qs)
def dt_sm (G : dt_C → Int) : List (Int × dt_C) → Int
  | [] => 0
  | q :: qs => q.1 * G q.2 + dt_sm G qs
theorem dt_cb_rp (i : Nat) (c : dt_C) (cs : List dt_C) : ∀ (F : List dt_C → Int), dt_cb (dt_cf c F cs) i = dt_rp (fun x => x i) c F cs := by
  induction cs with
  | nil => intro F; rfl
  | cons x xs ih =>
    intro F
    have h := ih (fun l => F (x :: l))
    show F (c :: xs) * x i + 1 * dt_cb (dt_cf c (fun l => F (x :: l)) xs) i = x i * F (c :: xs) + dt_rp (fun x => x i) c (fun l => F (x :: l)) xs
    rw [h, Int.mul_comm]
    omega
theorem dt_sum (F : List dt_C → Int) (hl : ∀ (x : Int) (a : dt_C) (y : Int) (b : dt_C) (pre post : List dt_C), F (pre ++ dt_lc x a y b :: post) = x * F (pre ++ a :: post) + y * F (pre ++ b :: post)) (pre post : List dt_C) (qs : List (Int × dt_C)) : F (pre ++ dt_cb qs :: post) = dt_sm (fun c => F (pre ++ c :: post)) qs := by
  induction qs with
  | nil =>
    have h := hl 0 (fun _ => 0) 0 (fun _ => 0) pre post
    have e : dt_lc 0 (fun _ => 0) 0 (fun _ => 0) = (fun _ => 0) := by funext r; rfl
    rw [e] at h
    show F (pre ++ (fun _ => 0) :: post) = 0
    omega
  | cons q qs ih =>
    have h := hl q.1 q.2 1 (dt_cb qs) pre post
    show F (pre ++ dt_lc q.1 q.2 1 (dt_cb qs) :: post) = q.1 * F (pre ++ q.2 :: post) + dt_sm (fun c => F (pre ++ c :: post)) qs
    rw [h, ih]
    omega
theorem dt_sm_zero (G : dt_C → Int) (c : dt_C) (cs : List dt_C) : ∀ (F : List dt_C → Int), (∀ y ∈ cs, G y = 0) → dt_sm G (dt_cf c F cs) = 0 := by
  induction cs with
  | nil => intro F _; rfl
  | cons x xs ih =>
    intro F h
    show F (c :: xs) * G x + dt_sm G (dt_cf c (fun l => F (x :: l)) xs) = 0
    rw [ih (fun l => F (x :: l)) (fun y hy => h y (List.mem_cons_of_mem _ hy)), h x List.mem_cons_self]
    simp
theorem dt_sm_one (G : dt_C → Int) (c x : dt_C) (lo hi : List dt_C) (hlo : ∀ y ∈ lo, G y = 0) : ∀ (F : List dt_C → Int), (∀ y ∈ hi, G y = 0) → dt_sm G (dt_cf c F (hi ++ x :: lo)) = F (hi ++ c :: lo) * G x := by
  induction hi with
  | nil =>
    intro F _
    show F (c :: lo) * G x + dt_sm G (dt_cf c (fun l => F (x :: l)) lo) = F (c :: lo) * G x
    rw [dt_sm_zero G c lo (fun l => F (x :: l)) hlo]
    omega
  | cons h hi ih =>
    intro F hh
    show F (c :: (hi ++ x :: lo)) * G h + dt_sm G (dt_cf c (fun l => F (h :: l)) (hi ++ x :: lo)) = F (h :: (hi ++ c :: lo)) * G x
    rw [ih (fun l => F (h :: l)) (fun y hy => hh y (List.mem_cons_of_mem _ hy)), hh h List.mem_cons_self]
    simp
theorem dt_rp_lin (w : dt_C → Int) (c1 c2 c3 : dt_C) (α β γ : Int) (cs : List dt_C) : ∀ (F1 F2 F3 : List dt_C → Int), (∀ hi x lo, cs = hi ++ x :: lo → α * F1 (hi ++ c1 :: lo) = β * F2 (hi ++ c2 :: lo) - γ * F3 (hi ++ c3 :: lo)) →
    α * dt_rp w c1 F1 cs = β * dt_rp w c2 F2 cs - γ * dt_rp w c3 F3 cs := by
  induction cs with
  | nil => intro F1 F2 F3 _; simp [dt_rp]
  | cons x xs ih =>
    intro F1 F2 F3 h
    have h1 := ih (fun l => F1 (x :: l)) (fun l => F2 (x :: l)) (fun l => F3 (x :: l)) (fun hi y lo e => h (x :: hi) y lo (by rw [e]; rfl))
    have h2 := h [] x xs rfl
    rw [List.nil_append, List.nil_append, List.nil_append] at h2
    rw [dt_rp_cons, dt_rp_cons, dt_rp_cons]
    grind
-- the matrix
def dt_col (A : Nat → Nat → Int) (j : Nat) : dt_C := fun r => A r j
def dt_cs (A : Nat → Nat → Int) : Nat → List dt_C
  | 0 => []
  | k + 1 => dt_col A k :: dt_cs A k
def dt_hi (A : Nat → Nat → Int) (t : Nat) : Nat → List dt_C
  | 0 => []
  | m + 1 => dt_col A (t + 1 + m) :: dt_hi A t m
abbrev dt_E (k : Nat) : List dt_C → Int := dt_W (dt_ev k)
def dt_d (A : Nat → Nat → Int) (k : Nat) : Int := dt_E k (dt_cs A k)
def dt_m (A : Nat → Nat → Int) (k i j : Nat) : Int := dt_alt (fun c => c i) (dt_E k) (dt_col A j :: dt_cs A k)
def dt_y (A : Nat → Nat → Int) (t m j : Nat) : Int := dt_E (t + 1 + m) (dt_hi A t m ++ dt_col A j :: dt_cs A t)
theorem dt_split (A : Nat → Nat → Int) (t m : Nat) : dt_cs A (t + 1 + m) = dt_hi A t m ++ dt_col A t :: dt_cs A t := by
  induction m with
  | zero => rfl
  | succ m ih =>
    show dt_col A (t + 1 + m) :: dt_cs A (t + 1 + m) = dt_col A (t + 1 + m) :: (dt_hi A t m ++ dt_col A t :: dt_cs A t)
    rw [ih]
theorem dt_splits (A : Nat → Nat → Int) (k : Nat) : ∀ (hi : List dt_C) (x : dt_C) (lo : List dt_C), dt_cs A k = hi ++ x :: lo → ∃ t m, k = t + 1 + m ∧ hi = dt_hi A t m ∧ x = dt_col A t ∧ lo = dt_cs A t := by
  induction k with
  | zero =>
    intro hi x lo h
    have h1 : (dt_cs A 0).length = 0 := rfl
    rw [h] at h1
    simp at h1
  | succ k ih =>
    intro hi x lo h
    cases hi with
    | nil =>
      have h1 : dt_col A k :: dt_cs A k = x :: lo := h
      injection h1 with e1 e2
      exact ⟨k, 0, rfl, rfl, e1.symm, e2.symm⟩
    | cons y hi =>
      have h1 : dt_col A k :: dt_cs A k = y :: (hi ++ x :: lo) := h
      injection h1 with e1 e2
      obtain ⟨t, m, q1, q2, q3, q4⟩ := ih hi x lo e2
      refine ⟨t, m + 1, by omega, ?_, q3, q4⟩
      rw [q2, ← e1, q1]
      rfl
theorem dt_EL (k : Nat) : ∀ (x : Int) (a : dt_C) (y : Int) (b : dt_C) (pre post : List dt_C), dt_E k (pre ++ dt_lc x a y b :: post) = x * dt_E k (pre ++ a :: post) + y * dt_E k (pre ++ b :: post) := fun x a y b pre post => dt_place (dt_ev k) (dt_ev_lin k) x a y b pre post
theorem dt_EA (k : Nat) : dt_An (dt_E k) := dt_swap (dt_ev k) (dt_ev_lin k)
theorem dt_ED (k : Nat) (a : dt_C) (pre mid post : List dt_C) : dt_E k (pre ++ a :: (mid ++ a :: post)) = 0 := dt_dup2 (dt_E k) (dt_EA k) (fun a pre post => dt_dup (dt_ev k) a pre post) a pre mid post
/-- a column that stands before the place too, or behind it -/
theorem dt_ED1 (k : Nat) (y : dt_C) (pre post : List dt_C) (h : y ∈ pre) : dt_E k (pre ++ y :: post) = 0 := by
  obtain ⟨p1, p2, rfl⟩ := List.append_of_mem h
  have := dt_ED k y p1 p2 post
  rw [List.append_assoc, List.cons_append]
  exact this
theorem dt_ED2 (k : Nat) (y : dt_C) (pre post : List dt_C) (h : y ∈ post) : dt_E k (pre ++ y :: post) = 0 := by
  obtain ⟨p1, p2, rfl⟩ := List.append_of_mem h
  exact dt_ED k y pre p1 p2
theorem dt_mrp (A : Nat → Nat → Int) (k i j : Nat) : dt_m A k i j = A i j * dt_d A k - dt_rp (fun c => c i) (dt_col A j) (dt_E k) (dt_cs A k) := by
  have h := dt_alt_rp (fun c => c i) (dt_col A j) (dt_cs A k) (dt_E k) (dt_EA k)
  rw [← h]
  rfl
theorem dt_colEq (A : Nat → Nat → Int) (k j r : Nat) : dt_d A k * A r j = dt_cb (dt_cf (dt_col A j) (dt_E k) (dt_cs A k)) r + dt_m A k r j := by
  rw [dt_cb_rp, dt_mrp, Int.mul_comm]
  omega
theorem dt_m0 (A : Nat → Nat → Int) (k i j : Nat) (h : i < k) : dt_m A k i j = 0 := dt_alt_row i k h _
/-- the step above the pivot -/
theorem dt_stepY (A : Nat → Nat → Int) (t m j : Nat) : dt_d A (t + 1 + m) * dt_y A t (m + 1) j = dt_d A (t + 1 + m + 1) * dt_y A t m j - dt_y A t m (t + 1 + m) * dt_m A (t + 1 + m) (t + 1 + m) j := by
  generalize hk : t + 1 + m = k
  have hcs : dt_cs A k = dt_hi A t m ++ dt_col A t :: dt_cs A t := by rw [← hk]; exact dt_split A t m
  have hy : dt_y A t (m + 1) j = dt_E (k + 1) ((dt_col A k :: dt_hi A t m) ++ dt_col A j :: dt_cs A t) := by rw [← hk]; rfl
  have hyk : ∀ q, dt_y A t m q = dt_E k (dt_hi A t m ++ dt_col A q :: dt_cs A t) := by intro q; rw [← hk]; rfl
  have hd1 : dt_d A (k + 1) = dt_E (k + 1) ((dt_col A k :: dt_hi A t m) ++ dt_col A t :: dt_cs A t) := by
    show dt_E (k + 1) (dt_col A k :: dt_cs A k) = _
    rw [hcs]
    rfl
  obtain ⟨R, hR⟩ : ∃ R : dt_C, R = fun r => dt_m A k r j := ⟨_, rfl⟩
  have hcol : dt_lc (dt_d A k) (dt_col A j) 0 (dt_col A j) = dt_lc 1 (dt_cb (dt_cf (dt_col A j) (dt_E k) (dt_cs A k))) 1 R := by
    funext r
    have := dt_colEq A k j r
    show dt_d A k * A r j + 0 * A r j = 1 * dt_cb (dt_cf (dt_col A j) (dt_E k) (dt_cs A k)) r + 1 * R r
    rw [hR]
    show _ = _ + 1 * dt_m A k r j
    omega
  have h1 := dt_EL (k + 1) (dt_d A k) (dt_col A j) 0 (dt_col A j) (dt_col A k :: dt_hi A t m) (dt_cs A t)
  have h2 := dt_EL (k + 1) 1 (dt_cb (dt_cf (dt_col A j) (dt_E k) (dt_cs A k))) 1 R (dt_col A k :: dt_hi A t m) (dt_cs A t)
  rw [hcol, h2] at h1
  have h3 := dt_sum (dt_E (k + 1)) (dt_EL (k + 1)) (dt_col A k :: dt_hi A t m) (dt_cs A t) (dt_cf (dt_col A j) (dt_E k) (dt_cs A k))
  have h4 := dt_sm_one (fun c => dt_E (k + 1) ((dt_col A k :: dt_hi A t m) ++ c :: dt_cs A t)) (dt_col A j) (dt_col A t) (dt_cs A t) (dt_hi A t m) (fun y hy => dt_ED2 (k + 1) y _ _ hy) (dt_E k) (fun y hy => dt_ED1 (k + 1) y _ _ (List.mem_cons_of_mem _ hy))
  rw [hcs, h4] at h3
  have h5 := dt_alt_one (fun c => c k) R (dt_cs A t) (dt_col A k :: dt_hi A t m) (dt_E k) (fun p q => dt_W_zcol k p q (fun r hr => by rw [hR]; exact dt_m0 A k r j hr))
  have h5' : dt_E (k + 1) ((dt_col A k :: dt_hi A t m) ++ R :: dt_cs A t) = dt_sg (dt_col A k :: dt_hi A t m).length * (R k * dt_E k ((dt_col A k :: dt_hi A t m) ++ dt_cs A t)) := h5
  have h6 := dt_move (dt_EA k) (dt_col A k) (dt_cs A t) (dt_hi A t m) []
  rw [List.nil_append, List.nil_append] at h6
  have h7 : dt_E k ((dt_col A k :: dt_hi A t m) ++ dt_cs A t) = dt_sg (dt_hi A t m).length * dt_E k (dt_hi A t m ++ dt_col A k :: dt_cs A t) := h6
  have h8 : dt_sg (dt_col A k :: dt_hi A t m).length = - dt_sg (dt_hi A t m).length := rfl
  have h9 := dt_sg_sq (dt_hi A t m).length
  have hRk : R k = dt_m A k k j := by rw [hR]
  rw [hcs] at h1
  rw [h3, h5', h7, h8, hRk] at h1
  rw [hy, hyk j, hyk k, hd1]
  generalize dt_sg (dt_hi A t m).length = z at *
  grind
/-- the step below the pivot -/
theorem dt_stepM (A : Nat → Nat → Int) (k i j : Nat) : dt_d A k * dt_m A (k + 1) i j = dt_d A (k + 1) * dt_m A k i j - dt_m A k i k * dt_m A k k j := by
  have h1 := dt_mrp A (k + 1) i j
  have h2 := dt_mrp A k i j
  have h3 := dt_mrp A k i k
  have h4 : dt_rp (fun c => c i) (dt_col A j) (dt_E (k + 1)) (dt_cs A (k + 1)) = A i k * dt_m A k k j + dt_rp (fun c => c i) (dt_col A j) (fun l => dt_E (k + 1) (dt_col A k :: l)) (dt_cs A k) := rfl
  have h5 := dt_rp_lin (fun c => c i) (dt_col A j) (dt_col A j) (dt_col A k) (dt_d A k) (dt_d A (k + 1)) (dt_m A k k j) (dt_cs A k) (fun l => dt_E (k + 1) (dt_col A k :: l)) (dt_E k) (dt_E k) (by
    intro hi x lo e
    obtain ⟨t, m, q1, q2, q3, q4⟩ := dt_splits A k hi x lo e
    subst q2; subst q3; subst q4; subst q1
    have := dt_stepY A t m j
    have e1 : dt_y A t (m + 1) j = dt_E (t + 1 + m + 1) (dt_col A (t + 1 + m) :: (dt_hi A t m ++ dt_col A j :: dt_cs A t)) := rfl
    rw [e1] at this
    show dt_d A (t + 1 + m) * dt_E (t + 1 + m + 1) (dt_col A (t + 1 + m) :: (dt_hi A t m ++ dt_col A j :: dt_cs A t)) = dt_d A (t + 1 + m + 1) * dt_y A t m j - dt_m A (t + 1 + m) (t + 1 + m) j * dt_y A t m (t + 1 + m)
    rw [this, Int.mul_comm (dt_y A t m (t + 1 + m))])
  rw [h4] at h1
  rw [h1, h2, h3]
  grind
theorem dt_m_d (A : Nat → Nat → Int) (k : Nat) : dt_m A k k k = dt_d A (k + 1) := rfl
theorem dt_m_y (A : Nat → Nat → Int) (k j : Nat) : dt_m A k k j = dt_y A k 0 j := rfl
/-- no pivot: the determinant is 0 -/
theorem dt_sing (A : Nat → Nat → Int) (n k : Nat) (hk : k < n) (hd : dt_d A k ≠ 0) (hz : ∀ i, k ≤ i → i < n → dt_m A k i k = 0) : dt_d A n = 0 := by
  obtain ⟨m, rfl⟩ : ∃ m, n = k + 1 + m := ⟨n - (k + 1), by omega⟩
  have hz' : ∀ r, r < k + 1 + m → dt_m A k r k = 0 := by
    intro r hr
    by_cases h : r < k
    · exact dt_m0 A k r k h
    · exact hz r (by omega) hr
  have h1 := dt_EL (k + 1 + m) (dt_d A k) (dt_col A k) 0 (dt_col A k) (dt_hi A k m) (dt_cs A k)
  have h2 := dt_W_col (k + 1 + m) (dt_hi A k m) (dt_cs A k) (a := dt_lc (dt_d A k) (dt_col A k) 0 (dt_col A k)) (b := dt_cb (dt_cf (dt_col A k) (dt_E k) (dt_cs A k))) (fun r hr => by
    have := dt_colEq A k k r
    have h0 := hz' r hr
    show dt_d A k * A r k + 0 * A r k = _
    omega)
  have h3 := dt_sum (dt_E (k + 1 + m)) (dt_EL (k + 1 + m)) (dt_hi A k m) (dt_cs A k) (dt_cf (dt_col A k) (dt_E k) (dt_cs A k))
  have h4 := dt_sm_zero (fun c => dt_E (k + 1 + m) (dt_hi A k m ++ c :: dt_cs A k)) (dt_col A k) (dt_cs A k) (dt_E k) (fun y hy => dt_ED2 (k + 1 + m) y _ _ hy)
  have h5 : dt_d A (k + 1 + m) = dt_E (k + 1 + m) (dt_hi A k m ++ dt_col A k :: dt_cs A k) := by
    show dt_E (k + 1 + m) (dt_cs A (k + 1 + m)) = _
    rw [dt_split]
  have h6 : dt_d A k * dt_d A (k + 1 + m) = 0 := by
    rw [h5]
    have h7 : dt_E (k + 1 + m) (dt_hi A k m ++ dt_lc (dt_d A k) (dt_col A k) 0 (dt_col A k) :: dt_cs A k) = 0 := by
      show dt_W (dt_ev (k + 1 + m)) _ = 0
      rw [h2]
      show dt_E (k + 1 + m) _ = 0
      rw [h3, h4]
    rw [h7] at h1
    omega
  rcases Int.mul_eq_zero.mp h6 with h | h
  · exact absurd h hd
  · exact h
