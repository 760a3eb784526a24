-- ROWS: two rows exchanged, one of them negated; how large a minor can be
theorem dt_wneg (w : dt_C → Int) (post pre : List (dt_C → Int)) : ∀ (cs : List dt_C), dt_W (pre ++ (fun c => - w c) :: post) cs = - dt_W (pre ++ w :: post) cs := by
  induction pre with
  | nil => intro cs; exact dt_alt_negw w cs (dt_W post)
  | cons v pre ih =>
    intro cs
    show dt_alt v (dt_W (pre ++ (fun c => - w c) :: post)) cs = - dt_alt v (dt_W (pre ++ w :: post)) cs
    rw [dt_alt_congr v (fun l => ih l) cs, dt_alt_negF]
theorem dt_wAn1 (a b : dt_C → Int) (post pre : List (dt_C → Int)) : ∀ (cs : List dt_C), dt_W (pre ++ a :: b :: post) cs = - dt_W (pre ++ b :: a :: post) cs := by
  induction pre with
  | nil => intro cs; exact dt_anti a b cs (dt_W post)
  | cons v pre ih =>
    intro cs
    show dt_alt v (dt_W (pre ++ a :: b :: post)) cs = - dt_alt v (dt_W (pre ++ b :: a :: post)) cs
    rw [dt_alt_congr v (fun l => ih l) cs, dt_alt_negF]
theorem dt_wAn (cs : List dt_C) : dt_An (fun ws => dt_W ws cs) := fun pre a b post => dt_wAn1 a b post pre cs
theorem dt_exch {α : Type} {F : List α → Int} (hF : dt_An F) (a b : α) (pre mid post : List α) : F (pre ++ a :: (mid ++ b :: post)) = - F (pre ++ b :: (mid ++ a :: post)) := by
  have h1 := dt_move hF a (b :: post) mid pre
  have h2 := dt_move hF b (a :: post) mid pre
  have h3 := hF (pre ++ mid) a b post
  simp only [List.append_assoc] at h3
  rw [h1, h2, h3]
  grind
def dt_phi (p q : Nat) (c : dt_C) : dt_C := fun r => if r = p then c q else if r = q then - c p else c r
def dt_eh (t : Nat) : Nat → List (dt_C → Int)
  | 0 => []
  | m + 1 => (fun c => c (t + 1 + m)) :: dt_eh t m
theorem dt_ev_split (t m : Nat) : dt_ev (t + 1 + m) = dt_eh t m ++ (fun c => c t) :: dt_ev t := by
  induction m with
  | zero => rfl
  | succ m ih =>
    show (fun c : dt_C => c (t + 1 + m)) :: dt_ev (t + 1 + m) = (fun c : dt_C => c (t + 1 + m)) :: (dt_eh t m ++ (fun c => c t) :: dt_ev t)
    rw [ih]
theorem dt_phi_at {p q r : Nat} (h : r ≠ p ∧ r ≠ q) : (fun c : dt_C => dt_phi p q c r) = (fun c => c r) := by
  funext c
  simp [dt_phi, h.1, h.2]
theorem dt_eh_phi (p q t m : Nat) (h : ∀ r, t < r → r ≤ t + m → r ≠ p ∧ r ≠ q) : (dt_eh t m).map (fun w => fun c => w (dt_phi p q c)) = dt_eh t m := by
  induction m with
  | zero => rfl
  | succ m ih =>
    show (fun c => dt_phi p q c (t + 1 + m)) :: (dt_eh t m).map (fun w => fun c => w (dt_phi p q c)) = (fun c : dt_C => c (t + 1 + m)) :: dt_eh t m
    rw [ih (fun r h1 h2 => h r h1 (by omega)), dt_phi_at (h (t + 1 + m) (by omega) (by omega))]
theorem dt_ev_phi (p q t : Nat) (h : ∀ r, r < t → r ≠ p ∧ r ≠ q) : (dt_ev t).map (fun w => fun c => w (dt_phi p q c)) = dt_ev t := by
  induction t with
  | zero => rfl
  | succ t ih =>
    show (fun c => dt_phi p q c t) :: (dt_ev t).map (fun w => fun c => w (dt_phi p q c)) = (fun c : dt_C => c t) :: dt_ev t
    rw [ih (fun r h1 => h r (by omega)), dt_phi_at (h t (by omega))]
theorem dt_rows (p q n : Nat) (hpq : p < q) (hqn : q < n) (cs : List dt_C) : dt_E n (cs.map (dt_phi p q)) = dt_E n cs := by
  obtain ⟨m1, rfl⟩ : ∃ m, q = p + 1 + m := ⟨q - (p + 1), by omega⟩
  obtain ⟨m2, rfl⟩ : ∃ m, n = p + 1 + m1 + 1 + m := ⟨n - (p + 1 + m1 + 1), by omega⟩
  have e1 := dt_ev_split (p + 1 + m1) m2
  have e2 := dt_ev_split p m1
  rw [e2] at e1
  show dt_W (dt_ev (p + 1 + m1 + 1 + m2)) (cs.map (dt_phi p (p + 1 + m1))) = dt_W (dt_ev (p + 1 + m1 + 1 + m2)) cs
  rw [dt_W_map, e1, List.map_append, List.map_cons, List.map_append, List.map_cons, dt_eh_phi p (p + 1 + m1) (p + 1 + m1) m2 (fun r h1 h2 => by omega), dt_eh_phi p (p + 1 + m1) p m1 (fun r h1 h2 => by omega), dt_ev_phi p (p + 1 + m1) p (fun r h1 => by omega)]
  have f1 : (fun c : dt_C => dt_phi p (p + 1 + m1) c (p + 1 + m1)) = (fun c => - (fun c : dt_C => c p) c) := by
    funext c
    simp [dt_phi, show p + 1 + m1 ≠ p by omega]
  have f2 : (fun c : dt_C => dt_phi p (p + 1 + m1) c p) = (fun c => c (p + 1 + m1)) := by
    funext c
    simp [dt_phi]
  show dt_W (dt_eh (p + 1 + m1) m2 ++ (fun c => dt_phi p (p + 1 + m1) c (p + 1 + m1)) :: (dt_eh p m1 ++ (fun c => dt_phi p (p + 1 + m1) c p) :: dt_ev p)) cs = _
  rw [f1, f2, dt_wneg]
  have h : dt_W (dt_eh (p + 1 + m1) m2 ++ (fun c => c p) :: (dt_eh p m1 ++ (fun c => c (p + 1 + m1)) :: dt_ev p)) cs = - dt_W (dt_eh (p + 1 + m1) m2 ++ (fun c => c (p + 1 + m1)) :: (dt_eh p m1 ++ (fun c => c p) :: dt_ev p)) cs := dt_exch (dt_wAn cs) (fun c => c p) (fun c => c (p + 1 + m1)) (dt_eh (p + 1 + m1) m2) (dt_eh p m1) (dt_ev p)
  rw [h, Int.neg_neg]

def dt_bd (B : Nat) : Nat → Nat
  | 0 => 1
  | k + 1 => (k + 1) * (B * dt_bd B k)
theorem dt_alt_bd (w : dt_C → Int) (B G : Nat) (P : dt_C → Prop) (hw : ∀ c, P c → (w c).natAbs ≤ B) (cs : List dt_C) : ∀ (F : List dt_C → Int), (∀ c ∈ cs, P c) → (∀ l, l.length + 1 = cs.length → (∀ c ∈ l, P c) → (F l).natAbs ≤ G) → (dt_alt w F cs).natAbs ≤ cs.length * (B * G) := by
  induction cs with
  | nil => intro F _ _; simp [dt_alt]
  | cons c cs ih =>
    intro F hP hF
    have h1 := ih (fun l => F (c :: l)) (fun x hx => hP x (List.mem_cons_of_mem _ hx)) (fun l hl hx => hF (c :: l) (by simp only [List.length_cons] at hl ⊢; omega) (fun x hx' => by
      rcases List.mem_cons.mp hx' with rfl | h
      · exact hP x List.mem_cons_self
      · exact hx x h))
    have h2 := hF cs rfl (fun x hx => hP x (List.mem_cons_of_mem _ hx))
    have h3 := hw c (hP c List.mem_cons_self)
    have h4 : (w c * F cs).natAbs ≤ B * G := by
      rw [Int.natAbs_mul]
      exact Nat.mul_le_mul h3 h2
    rw [dt_alt_cons, List.length_cons, Nat.succ_mul]
    generalize dt_alt w (fun l => F (c :: l)) cs = z at *
    generalize w c * F cs = y at *
    generalize cs.length * (B * G) = u at *
    generalize B * G = v at *
    omega
theorem dt_E_bd (B n : Nat) (k : Nat) : ∀ (cs : List dt_C), k ≤ n → cs.length = k → (∀ c ∈ cs, ∀ r, r < n → (c r).natAbs ≤ B) → (dt_E k cs).natAbs ≤ dt_bd B k := by
  induction k with
  | zero =>
    intro cs _ h _
    cases cs with
    | nil => show (1 : Int).natAbs ≤ 1; decide
    | cons a l => cases h
  | succ k ih =>
    intro cs hk hl hc
    have h := dt_alt_bd (fun c => c k) B (dt_bd B k) (fun c => ∀ r, r < n → (c r).natAbs ≤ B) (fun c h => h k (by omega)) cs (dt_E k) hc (fun l h1 h2 => ih l (by omega) (by omega) h2)
    rw [hl] at h
    exact h
theorem dt_bd_lt (k : Nat) (h : k ≤ 12) : dt_bd (2 ^ 63) k < 2 ^ 785 := by
  have h2 : ∀ k, k < 13 → dt_bd (2 ^ 63) k < 2 ^ 785 := by decide +kernel
  exact h2 k (by omega)
theorem dt_cs_len (A : Nat → Nat → Int) (k : Nat) : (dt_cs A k).length = k := by
  induction k with
  | zero => rfl
  | succ k ih => show (dt_cs A k).length + 1 = k + 1; rw [ih]
theorem dt_hi_len (A : Nat → Nat → Int) (t m : Nat) : (dt_hi A t m).length = m := by
  induction m with
  | zero => rfl
  | succ m ih => show (dt_hi A t m).length + 1 = m + 1; rw [ih]
theorem dt_cs_mem (A : Nat → Nat → Int) (k : Nat) {c : dt_C} (h : c ∈ dt_cs A k) : ∃ j, j < k ∧ c = dt_col A j := by
  induction k with
  | zero => cases h
  | succ k ih =>
    rcases List.mem_cons.mp h with rfl | h
    · exact ⟨k, by omega, rfl⟩
    · obtain ⟨j, h1, h2⟩ := ih h
      exact ⟨j, by omega, h2⟩
theorem dt_hi_mem (A : Nat → Nat → Int) (t m : Nat) {c : dt_C} (h : c ∈ dt_hi A t m) : ∃ j, j < t + 1 + m ∧ c = dt_col A j := by
  induction m with
  | zero => cases h
  | succ m ih =>
    rcases List.mem_cons.mp h with rfl | h
    · exact ⟨t + 1 + m, by omega, rfl⟩
    · obtain ⟨j, h1, h2⟩ := ih h
      exact ⟨j, by omega, h2⟩
/-- every minor of a system of at most twelve rows of longs -/
theorem dt_m_lt (A : Nat → Nat → Int) (n k i j : Nat) (hk : k < n) (hn : n ≤ 12) (hi : i < n) (hj : j ≤ n) (hA : ∀ r c, r < n → c ≤ n → (A r c).natAbs ≤ 2 ^ 63) : (dt_m A k i j).natAbs < 2 ^ 785 := by
  have h := dt_alt_bd (fun c => c i) (2 ^ 63) (dt_bd (2 ^ 63) k) (fun c => ∀ r, r < n → (c r).natAbs ≤ 2 ^ 63) (fun c h => h i hi) (dt_col A j :: dt_cs A k) (dt_E k) (fun c hc r hr => by
      rcases List.mem_cons.mp hc with rfl | hc
      · exact hA r j hr hj
      · obtain ⟨q, h1, rfl⟩ := dt_cs_mem A k hc
        exact hA r q hr (by omega)) (fun l h1 h2 => by
      simp only [List.length_cons, dt_cs_len] at h1
      exact dt_E_bd (2 ^ 63) n k l (by omega) (by omega) h2)
  have h3 := dt_bd_lt (k + 1) (by omega)
  simp only [List.length_cons, dt_cs_len] at h
  exact Nat.lt_of_le_of_lt h h3
theorem dt_y_lt (A : Nat → Nat → Int) (n t m j : Nat) (hk : t + 1 + m ≤ n) (hn : n ≤ 12) (hj : j ≤ n) (hA : ∀ r c, r < n → c ≤ n → (A r c).natAbs ≤ 2 ^ 63) : (dt_y A t m j).natAbs < 2 ^ 785 := by
  have h := dt_E_bd (2 ^ 63) n (t + 1 + m) (dt_hi A t m ++ dt_col A j :: dt_cs A t) hk (by simp [dt_hi_len, dt_cs_len]; omega) (fun c hc r hr => by
      rcases List.mem_append.mp hc with hc | hc
      · obtain ⟨q, h1, rfl⟩ := dt_hi_mem A t m hc
        exact hA r q hr (by omega)
      · rcases List.mem_cons.mp hc with rfl | hc
        · exact hA r j hr hj
        · obtain ⟨q, h1, rfl⟩ := dt_cs_mem A t hc
          exact hA r q hr (by omega))
  exact Nat.lt_of_le_of_lt h (dt_bd_lt (t + 1 + m) (by omega))
theorem dt_d_lt (A : Nat → Nat → Int) (n k : Nat) (hk : k ≤ n) (hn : n ≤ 12) (hA : ∀ r c, r < n → c ≤ n → (A r c).natAbs ≤ 2 ^ 63) : (dt_d A k).natAbs < 2 ^ 785 := by
  have h := dt_E_bd (2 ^ 63) n k (dt_cs A k) hk (dt_cs_len A k) (fun c hc r hr => by
      obtain ⟨q, h1, rfl⟩ := dt_cs_mem A k hc
      exact hA r q hr (by omega))
  exact Nat.lt_of_le_of_lt h (dt_bd_lt k (by omega))
