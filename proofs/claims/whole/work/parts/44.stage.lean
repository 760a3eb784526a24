-- THE STAGES OF THE ELIMINATION
def bz (M : Nat → Nat → Int) (k i j : Nat) : Int := if i < k then dt_y M i (k - 1 - i) j else dt_m M k i j
theorem bz_lo {M : Nat → Nat → Int} {k i j : Nat} (h : k ≤ i) : bz M k i j = dt_m M k i j := by
  unfold bz
  rw [if_neg (by omega)]
theorem bz_up {M : Nat → Nat → Int} {k i j : Nat} (h : i < k) : bz M k i j = dt_y M i (k - 1 - i) j := by
  unfold bz
  rw [if_pos h]
theorem bz_0 (M : Nat → Nat → Int) (i j : Nat) : bz M 0 i j = M i j := by
  rw [bz_lo (Nat.zero_le _)]
  show M i j * 1 - 0 = M i j
  omega
theorem bz_kk (M : Nat → Nat → Int) (k : Nat) : bz M k k k = dt_d M (k + 1) := by
  rw [bz_lo (Nat.le_refl _)]
  rfl
theorem bz_piv (M : Nat → Nat → Int) (k j : Nat) : bz M (k + 1) k j = bz M k k j := by
  rw [bz_up (by omega), bz_lo (Nat.le_refl _), show k + 1 - 1 - k = 0 by omega]
  rfl
theorem bz_step (M : Nat → Nat → Int) {k i : Nat} (j : Nat) (hik : i ≠ k) : bz M k k k * bz M k i j - bz M k i k * bz M k k j = bz M (k + 1) i j * dt_d M k := by
  rw [bz_kk, bz_lo (i := k) (Nat.le_refl k)]
  rcases Nat.lt_or_ge i k with q | q
  · obtain ⟨m, rfl⟩ : ∃ m, k = i + 1 + m := ⟨k - (i + 1), by omega⟩
    rw [bz_up q, bz_up q, bz_up (by omega), show i + 1 + m - 1 - i = m by omega, show i + 1 + m + 1 - 1 - i = m + 1 by omega]
    have h := dt_stepY M i m j
    rw [Int.mul_comm (dt_y M i (m + 1) j), h]
  · have h := dt_stepM M k i j
    rw [bz_lo q, bz_lo q, bz_lo (by omega), Int.mul_comm (dt_m M (k + 1) i j), h]
theorem bz_lt (M : Nat → Nat → Int) {n k i j : Nat} (hk : k ≤ n) (hn : n ≤ 12) (hi : i < n) (hj : j ≤ n) (hA : ∀ r c, r < n → c ≤ n → (M r c).natAbs ≤ 2 ^ 63) (hki : k < n ∨ i < k) : (bz M k i j).natAbs < 2 ^ 785 := by
  rcases Nat.lt_or_ge i k with q | q
  · rw [bz_up q]
    exact dt_y_lt M n i (k - 1 - i) j (by omega) hn hj hA
  · rw [bz_lo q]
    exact dt_m_lt M n k i j (by omega) hn hi hj hA
def dt_js : Nat → List Nat
  | 0 => []
  | k + 1 => k :: dt_js k
def dt_jh (t : Nat) : Nat → List Nat
  | 0 => []
  | m + 1 => (t + 1 + m) :: dt_jh t m
theorem dt_cs_map (A : Nat → Nat → Int) (k : Nat) : dt_cs A k = (dt_js k).map (dt_col A) := by
  induction k with
  | zero => rfl
  | succ k ih => show dt_col A k :: dt_cs A k = dt_col A k :: (dt_js k).map (dt_col A); rw [ih]
theorem dt_hi_map (A : Nat → Nat → Int) (t m : Nat) : dt_hi A t m = (dt_jh t m).map (dt_col A) := by
  induction m with
  | zero => rfl
  | succ m ih => show dt_col A (t + 1 + m) :: dt_hi A t m = dt_col A (t + 1 + m) :: (dt_jh t m).map (dt_col A); rw [ih]
theorem dt_y_map (A : Nat → Nat → Int) (t m j : Nat) : dt_y A t m j = dt_E (t + 1 + m) ((dt_jh t m ++ j :: dt_js t).map (dt_col A)) := by
  unfold dt_y
  rw [dt_hi_map, dt_cs_map, List.map_append, List.map_cons]
/-- rows p and q exchanged, the new row q negated -/
def sw_M (p q : Nat) (M : Nat → Nat → Int) : Nat → Nat → Int := fun r j => dt_phi p q (dt_col M j) r
theorem sw_col (p q : Nat) (M : Nat → Nat → Int) (j : Nat) : dt_col (sw_M p q M) j = dt_phi p q (dt_col M j) := rfl
theorem sw_map (p q : Nat) (M : Nat → Nat → Int) (js : List Nat) : js.map (dt_col (sw_M p q M)) = (js.map (dt_col M)).map (dt_phi p q) := by
  rw [List.map_map]
  rfl
theorem sw_E {p q k : Nat} (hp : k ≤ p) (hq : k ≤ q) (cs : List dt_C) : dt_E k (cs.map (dt_phi p q)) = dt_E k cs := by
  show dt_W (dt_ev k) (cs.map (dt_phi p q)) = dt_W (dt_ev k) cs
  rw [dt_W_map, dt_ev_phi p q k (fun r h => by omega)]
theorem sw_d {p q k : Nat} (hp : k ≤ p) (hq : k ≤ q) (M : Nat → Nat → Int) : dt_d (sw_M p q M) k = dt_d M k := by
  unfold dt_d
  rw [dt_cs_map, dt_cs_map, sw_map, sw_E hp hq]
theorem sw_m {p q k : Nat} (hp : k ≤ p) (hq : k ≤ q) (M : Nat → Nat → Int) (i j : Nat) : dt_m (sw_M p q M) k i j = if i = p then dt_m M k q j else if i = q then - dt_m M k p j else dt_m M k i j := by
  have e : dt_m (sw_M p q M) k i j = dt_alt (fun c => dt_phi p q c i) (dt_E k) (dt_col M j :: dt_cs M k) := by
    unfold dt_m
    have h1 : dt_col (sw_M p q M) j :: dt_cs (sw_M p q M) k = (dt_col M j :: dt_cs M k).map (dt_phi p q) := by
      rw [dt_cs_map, dt_cs_map, sw_map, List.map_cons, sw_col]
    rw [h1, dt_alt_map]
    exact dt_alt_congr _ (fun l => sw_E hp hq l) _
  rw [e]
  by_cases h1 : i = p
  · rw [if_pos h1]
    have : (fun c : dt_C => dt_phi p q c i) = (fun c => c q) := by funext c; simp [dt_phi, h1]
    rw [this]
    rfl
  · rw [if_neg h1]
    by_cases h2 : i = q
    · rw [if_pos h2]
      have : (fun c : dt_C => dt_phi p q c i) = (fun c => - (fun c : dt_C => c p) c) := by
        funext c
        unfold dt_phi
        rw [if_neg h1, if_pos h2]
      rw [this, dt_alt_negw]
      rfl
    · rw [if_neg h2]
      have : (fun c : dt_C => dt_phi p q c i) = (fun c => c i) := by
        funext c
        unfold dt_phi
        rw [if_neg h1, if_neg h2]
      rw [this]
      rfl
theorem sw_bz {p q k : Nat} (hp : k ≤ p) (hq : k ≤ q) (M : Nat → Nat → Int) (i j : Nat) : bz (sw_M p q M) k i j = if i = p then bz M k q j else if i = q then - bz M k p j else bz M k i j := by
  rcases Nat.lt_or_ge i k with h | h
  · rw [bz_up h, if_neg (by omega), if_neg (by omega), bz_up h, dt_y_map, dt_y_map, sw_map, sw_E (by omega) (by omega)]
  · rw [bz_lo h, sw_m hp hq, bz_lo hq, bz_lo hp, bz_lo h]
theorem sw_bd {p q n : Nat} (hp : p < n) (hq : q < n) {M : Nat → Nat → Int} (h : ∀ r c, r < n → c ≤ n → (M r c).natAbs ≤ 2 ^ 63) : ∀ r c, r < n → c ≤ n → (sw_M p q M r c).natAbs ≤ 2 ^ 63 := by
  intro r c hr hc
  show (dt_phi p q (dt_col M c) r).natAbs ≤ _
  unfold dt_phi dt_col
  split
  · exact h q c hq hc
  · split
    · rw [Int.natAbs_neg]; exact h p c hp hc
    · exact h r c hr hc
theorem sw_all {p q n : Nat} (hpq : p < q) (hq : q < n) {M A0 : Nat → Nat → Int} (h : ∀ js : List Nat, dt_E n (js.map (dt_col M)) = dt_E n (js.map (dt_col A0))) : ∀ js : List Nat, dt_E n (js.map (dt_col (sw_M p q M))) = dt_E n (js.map (dt_col A0)) := by
  intro js
  rw [sw_map, dt_rows p q n hpq hq]
  exact h js
theorem sw_dn {n : Nat} {M A0 : Nat → Nat → Int} (h : ∀ js : List Nat, dt_E n (js.map (dt_col M)) = dt_E n (js.map (dt_col A0))) : dt_d M n = dt_d A0 n := by
  unfold dt_d
  rw [dt_cs_map, dt_cs_map]
  exact h _
theorem sw_yn {n i : Nat} (hi : i < n) {M A0 : Nat → Nat → Int} (h : ∀ js : List Nat, dt_E n (js.map (dt_col M)) = dt_E n (js.map (dt_col A0))) (j : Nat) : bz M n i j = dt_y A0 i (n - 1 - i) j := by
  rw [bz_up hi, dt_y_map, dt_y_map, show i + 1 + (n - 1 - i) = n by omega]
  exact h _
