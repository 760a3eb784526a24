-- NUMBERS IN LIMBS OF 31 BITS
def lb_p (n : Nat) : Nat := 2147483648 ^ n
theorem lb_p0 : lb_p 0 = 1 := rfl
theorem lb_p1 (n : Nat) : lb_p (n + 1) = lb_p n * 2147483648 := Nat.pow_succ ..
theorem lb_pa (a b : Nat) : lb_p (a + b) = lb_p a * lb_p b := Nat.pow_add ..
theorem lb_pp (n : Nat) : 0 < lb_p n := Nat.pow_pos (by decide)
theorem lb_p2 (n : Nat) : lb_p n = 2 ^ (31 * n) := by
  show 2147483648 ^ n = _
  rw [Nat.pow_mul]
theorem lb_ple {a b : Nat} (h : a ≤ b) : lb_p a ≤ lb_p b := Nat.pow_le_pow_right (by decide) h
def lb_v (g : Nat → Nat) : Nat → Nat
  | 0 => 0
  | n + 1 => lb_v g n + g n * lb_p n
theorem lb_v1 (g : Nat → Nat) (n : Nat) : lb_v g (n + 1) = lb_v g n + g n * lb_p n := rfl
theorem lb_congr {g h : Nat → Nat} (n : Nat) (e : ∀ i, i < n → g i = h i) : lb_v g n = lb_v h n := by
  induction n with
  | zero => rfl
  | succ n ih => rw [lb_v1, lb_v1, ih (fun i hi => e i (by omega)), e n (by omega)]
theorem lb_up_ge (g : Nat → Nat) (i x : Nat) {n : Nat} (h : n ≤ i) : lb_v (va_up g i x) n = lb_v g n := lb_congr n (fun j hj => va_up_ne g x (by omega))
theorem lb_up (g : Nat → Nat) (i x : Nat) {n : Nat} (h : i < n) : lb_v (va_up g i x) n + g i * lb_p i = lb_v g n + x * lb_p i := by
  induction n with
  | zero => omega
  | succ n ih =>
    rw [lb_v1, lb_v1]
    by_cases hi : i = n
    · subst hi
      rw [lb_up_ge g i x (Nat.le_refl i), va_up_self]
      omega
    · have h1 := ih (by omega)
      rw [va_up_ne g x (show n ≠ i by omega)]
      omega
theorem lb_lt {g : Nat → Nat} (n : Nat) (h : ∀ i, i < n → g i < 2147483648) : lb_v g n < lb_p n := by
  induction n with
  | zero => show (0 : Nat) < 1; decide
  | succ n ih =>
    have h1 := ih (fun i hi => h i (by omega))
    have h2 := h n (by omega)
    rw [lb_v1, lb_p1]
    have h3 : g n * lb_p n ≤ 2147483647 * lb_p n := Nat.mul_le_mul_right _ (by omega)
    omega
theorem lb_mono {g : Nat → Nat} {a n : Nat} (h : a ≤ n) : lb_v g a ≤ lb_v g n := by
  induction n with
  | zero => rw [show a = 0 by omega]; exact Nat.le_refl _
  | succ n ih =>
    by_cases hn : a = n + 1
    · subst hn; exact Nat.le_refl _
    · have := ih (by omega)
      rw [lb_v1]
      omega
theorem lb_zero {g : Nat → Nat} {a n : Nat} (h : a ≤ n) (hz : ∀ i, a ≤ i → i < n → g i = 0) : lb_v g n = lb_v g a := by
  induction n with
  | zero => rw [show a = 0 by omega]
  | succ n ih =>
    by_cases hn : a = n + 1
    · subst hn; rfl
    · rw [lb_v1, ih (by omega) (fun i h1 h2 => hz i h1 (by omega)), hz n (by omega) (by omega)]
      omega
theorem lb_add (g : Nat → Nat) (a b : Nat) : lb_v g (a + b) = lb_v g a + lb_p a * lb_v (fun j => g (a + j)) b := by
  induction b with
  | zero => simp [lb_v]
  | succ b ih =>
    rw [← Nat.add_assoc, lb_v1, ih, lb_v1, lb_pa, Nat.mul_add]
    have : g (a + b) * (lb_p a * lb_p b) = lb_p a * (g (a + b) * lb_p b) := by rw [← Nat.mul_assoc, Nat.mul_comm (g (a + b)), Nat.mul_assoc]
    omega
theorem lb_top {g : Nat → Nat} {n : Nat} (h : g n ≠ 0) : lb_p n ≤ lb_v g (n + 1) := by
  rw [lb_v1]
  have : 1 * lb_p n ≤ g n * lb_p n := Nat.mul_le_mul_right _ (by omega)
  omega
/-- the low limbs are the remainder, the high ones the quotient -/
theorem lb_mod {g : Nat → Nat} {a n : Nat} (ha : a ≤ n) (h : ∀ i, i < a → g i < 2147483648) : lb_v g n % lb_p a = lb_v g a := by
  obtain ⟨b, rfl⟩ : ∃ b, n = a + b := ⟨n - a, by omega⟩
  rw [lb_add, Nat.add_mul_mod_self_left]
  exact Nat.mod_eq_of_lt (lb_lt a h)
theorem lb_div {g : Nat → Nat} {a n : Nat} (ha : a ≤ n) (h : ∀ i, i < a → g i < 2147483648) : lb_v g n / lb_p a = lb_v (fun j => g (a + j)) (n - a) := by
  obtain ⟨b, rfl⟩ : ∃ b, n = a + b := ⟨n - a, by omega⟩
  rw [lb_add, Nat.add_mul_div_left _ _ (lb_pp a), Nat.div_eq_of_lt (lb_lt a h), Nat.zero_add, Nat.add_sub_cancel_left]
/-- the limbs are told by the number -/
theorem lb_digit {g : Nat → Nat} {n i : Nat} (hi : i < n) (h : ∀ j, j < n → g j < 2147483648) : lb_v g n / lb_p i % 2147483648 = g i := by
  rw [lb_div (by omega) (fun j hj => h j (by omega))]
  obtain ⟨b, hb⟩ : ∃ b, n - i = b + 1 := ⟨n - i - 1, by omega⟩
  have e := lb_mod (g := fun j => g (i + j)) (a := 1) (n := n - i) (by omega) (fun j hj => h (i + j) (by omega))
  rw [show lb_p 1 = 2147483648 from rfl] at e
  rw [e]
  simp [lb_v, lb_p]
theorem lb_inj {g h : Nat → Nat} {n : Nat} (hg : ∀ j, j < n → g j < 2147483648) (hh : ∀ j, j < n → h j < 2147483648) (e : lb_v g n = lb_v h n) : ∀ i, i < n → g i = h i := by
  intro i hi
  rw [← lb_digit hi hg, e, lb_digit hi hh]
theorem lb_cmp {f h : Nat → Nat} {k n : Nat} (hk : k < n) (hf : ∀ i, f i < 2147483648) (e : ∀ i, k < i → i < n → f i = h i) (hlt : f k < h k) : lb_v f n < lb_v h n := by
  obtain ⟨b, rfl⟩ : ∃ b, n = (k + 1) + b := ⟨n - (k + 1), by omega⟩
  have h0 : lb_v f (k + 1) < lb_v h (k + 1) := by
    have h1 := lb_lt k (fun i _ => hf i)
    have h2 : (f k + 1) * lb_p k ≤ h k * lb_p k := Nat.mul_le_mul_right _ hlt
    rw [Nat.add_mul, Nat.one_mul] at h2
    rw [lb_v1, lb_v1]
    omega
  have h3 : lb_v (fun j => f (k + 1 + j)) b = lb_v (fun j => h (k + 1 + j)) b := lb_congr b (fun j hj => e (k + 1 + j) (by omega) (by omega))
  rw [lb_add f (k + 1) b, lb_add h (k + 1) b, h3]
  omega
theorem xn_pre {k : Nat} (h : 0 < k) : nI k - 1 = nI (k - 1) := by
  have := nI_pred (k - 1)
  rw [show k - 1 + 1 = k by omega] at this
  exact this
theorem xn_m1 (x : Int32) : x + Int32.ofInt (-1) = x - 1 := by
  rw [Int32.sub_eq_add_neg]
  rfl
theorem lb_step {x y b z b' P S1 S2 S3 : Nat} (key : z + y + b = x + b' * 2147483648) (inv : S1 + S2 = S3 + b * P) : S1 + z * P + (S2 + y * P) = S3 + x * P + b' * (P * 2147483648) := by
  have h : (z + y + b) * P = (x + b' * 2147483648) * P := by rw [key]
  rw [Nat.add_mul, Nat.add_mul, Nat.add_mul, Nat.mul_assoc, Nat.mul_comm 2147483648 P] at h
  omega
/-- a number's limbs, 0 behind its length -/
def lb_at (f : Nat → Nat) (len : Nat) : Nat → Nat := fun i => if i < len then f i else 0
theorem lb_at_v (f : Nat → Nat) {len n : Nat} (h : len ≤ n) : lb_v (lb_at f len) n = lb_v f len := by
  rw [lb_zero h (fun i h1 _ => by simp [lb_at, Nat.not_lt.mpr h1])]
  exact lb_congr len (fun i hi => by simp [lb_at, hi])
theorem lb_at_lt {f : Nat → Nat} (len : Nat) (h : ∀ i, f i < 2147483648) (i : Nat) : lb_at f len i < 2147483648 := by
  unfold lb_at
  have := h i
  split <;> omega
/-- a number without needless limbs -/
def lb_n (cap : Nat) (f : Nat → Nat) (len : Nat) : Prop := len ≤ cap ∧ (∀ i, f i < 2147483648) ∧ (∀ k, len = k + 1 → f k ≠ 0)
theorem lb_n_le {cap cap' : Nat} {f g : Nat → Nat} {len len' : Nat} (hf : lb_n cap f len) (hg : lb_n cap' g len') (h : lb_v g len' ≤ lb_v f len) : len' ≤ len := by
  rcases Nat.lt_or_ge len len' with q | q
  · obtain ⟨k, rfl⟩ : ∃ k, len' = k + 1 := ⟨len' - 1, by omega⟩
    have h1 := lb_top (hg.2.2 k rfl)
    have h2 := lb_lt len (fun i _ => hf.2.1 i)
    have h3 := lb_ple (show len ≤ k by omega)
    omega
  · exact q
/-- behind the loop of a difference no borrow is left -/
theorem lb_sub_end {f F g : Nat → Nat} {n b : Nat} (hF : ∀ i, F i < 2147483648) (h : lb_v g n ≤ lb_v f n) (inv : lb_v F n + lb_v g n = lb_v f n + b * lb_p n) (hb : b ≤ 1) : lb_v F n = lb_v f n - lb_v g n := by
  have h1 := lb_lt n (fun i _ => hF i)
  rcases (show b = 0 ∨ b = 1 by omega) with q | q
  · subst q; omega
  · subst q; omega
theorem lb_mul_step {X X' X0 fi x c c' s a o V Pm Pj : Nat} (e1 : X' + fi * (Pm * Pj) = X + x * (Pm * Pj)) (e2 : s = c' * 2147483648 + x) (e3 : s = a * o + fi + c) (inv : X + c * (Pm * Pj) = X0 + a * V * Pm) : X' + c' * (Pm * Pj * 2147483648) = X0 + a * (V + o * Pj) * Pm := by
  have h : (c' * 2147483648 + x) * (Pm * Pj) = (a * o + fi + c) * (Pm * Pj) := by rw [← e2, e3]
  simp only [Nat.add_mul, Nat.mul_add] at h ⊢
  simp only [Nat.mul_comm, Nat.mul_left_comm, Nat.mul_assoc] at e1 h inv ⊢
  omega
theorem lb_mul_lt {a o f c : Nat} (ha : a < 2147483648) (ho : o < 2147483648) (hf : f < 2147483648) (hc : c < 2147483648) : a * o + f + c < 4611686018427387904 := by
  have h : a * o ≤ 2147483647 * 2147483647 := Nat.mul_le_mul (by omega) (by omega)
  omega
theorem lb_n0 {cap : Nat} {f : Nat → Nat} {len : Nat} (h : lb_n cap f len) : lb_v f len = 0 ↔ len = 0 := by
  constructor
  · intro e
    rcases Nat.eq_zero_or_pos len with q | q
    · exact q
    · obtain ⟨k, rfl⟩ : ∃ k, len = k + 1 := ⟨len - 1, by omega⟩
      have h1 := lb_top (h.2.2 k rfl)
      have h2 := lb_pp k
      omega
  · intro e; subst e; rfl
/-- the last limb is not 0 where the number is large enough -/
theorem lb_topne {F : Nat → Nat} (hF : ∀ i, F i < 2147483648) {k : Nat} (h : lb_p k ≤ lb_v F (k + 1)) : F k ≠ 0 := by
  intro e
  have h1 := lb_lt k (fun i _ => hF i)
  rw [lb_v1, e] at h
  omega
theorem lg_z {n : Nat} (h : n < 2 ^ 63) : lg_cmp (lN n) (lN 0) = 0 ↔ n = 0 := by
  constructor
  · intro e
    rcases Nat.eq_zero_or_pos n with q | q
    · exact q
    · have h1 : lN 0 < lN n := (pk_lLT (by decide) h).mpr q
      rw [lg_cmp, if_pos h1] at e
      exact absurd e (by decide)
  · intro e; subst e; decide
theorem lb_add_step {x y b z b' P S1 S2 S3 : Nat} (key : z + b' * 2147483648 = x + y + b) (inv : S1 + b * P = S2 + S3) : S1 + z * P + b' * (P * 2147483648) = S2 + x * P + (S3 + y * P) := by
  have h : (z + b' * 2147483648) * P = (x + y + b) * P := by rw [key]
  rw [Nat.add_mul, Nat.add_mul, Nat.add_mul, Nat.mul_assoc, Nat.mul_comm 2147483648 P] at h
  omega
