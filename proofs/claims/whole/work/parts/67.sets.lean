-- SETS OF COLUMNS AS NUMBERS
def db (s : Nat) : Nat → List Nat
  | 0 => []
  | m + 1 => if s / 2 ^ m % 2 = 1 then m :: db s m else db s m
def dh (s m : Nat) : Nat → List Nat
  | 0 => []
  | k + 1 => if s / 2 ^ (m + k) % 2 = 1 then (m + k) :: dh s m k else dh s m k
theorem db_app (s m k : Nat) : db s (m + k) = dh s m k ++ db s m := by
  induction k with
  | zero => rfl
  | succ k ih =>
    show (if s / 2 ^ (m + k) % 2 = 1 then (m + k) :: db s (m + k) else db s (m + k)) = (if s / 2 ^ (m + k) % 2 = 1 then (m + k) :: dh s m k else dh s m k) ++ db s m
    rw [ih]
    split <;> rfl
theorem dh_low (s j k : Nat) : dh s j (k + 1) = dh s (j + 1) k ++ (if s / 2 ^ j % 2 = 1 then [j] else []) := by
  induction k with
  | zero => show (if s / 2 ^ (j + 0) % 2 = 1 then (j + 0) :: [] else []) = _; rfl
  | succ k ih =>
    show (if s / 2 ^ (j + (k + 1)) % 2 = 1 then (j + (k + 1)) :: dh s j (k + 1) else dh s j (k + 1)) = (if s / 2 ^ (j + 1 + k) % 2 = 1 then (j + 1 + k) :: dh s (j + 1) k else dh s (j + 1) k) ++ _
    rw [ih, show j + (k + 1) = j + 1 + k by omega]
    split <;> rfl
theorem bt_parts {s j : Nat} (h : s / 2 ^ j % 2 = 1) : ∃ q r, r < 2 ^ j ∧ s = 2 ^ j * (2 * q + 1) + r ∧ s - 2 ^ j = 2 ^ j * (2 * q) + r := by
  refine ⟨s / 2 ^ j / 2, s % 2 ^ j, Nat.mod_lt _ (Nat.two_pow_pos j), ?_, ?_⟩
  · have h1 := Nat.div_add_mod s (2 ^ j)
    have h2 : 2 * (s / 2 ^ j / 2) + 1 = s / 2 ^ j := by omega
    rw [h2]
    exact h1.symm
  · have h1 := Nat.div_add_mod s (2 ^ j)
    have h2 : s / 2 ^ j = 2 * (s / 2 ^ j / 2) + 1 := by omega
    rw [h2, Nat.mul_add, Nat.mul_one] at h1
    omega
theorem bt_eq {s j i : Nat} (h : s / 2 ^ j % 2 = 1) (hi : i ≠ j) : (s - 2 ^ j) / 2 ^ i % 2 = s / 2 ^ i % 2 := by
  obtain ⟨q, r, hr, e1, e2⟩ := bt_parts h
  rw [e2]
  rcases Nat.lt_or_ge i j with c | c
  · have hp : 2 ^ j = 2 ^ i * (2 * 2 ^ (j - i - 1)) := by rw [← Nat.pow_succ', ← Nat.pow_add]; congr 1; omega
    have e3 : 2 ^ j * (2 * q) + r = 2 ^ i * (2 * 2 ^ (j - i - 1) * (2 * q)) + r := by rw [hp, Nat.mul_assoc]
    have e4 : s = 2 ^ i * (2 * 2 ^ (j - i - 1) * (2 * q + 1)) + r := by rw [e1, hp, Nat.mul_assoc]
    rw [e3]
    rw [show s / 2 ^ i = (2 ^ i * (2 * 2 ^ (j - i - 1) * (2 * q + 1)) + r) / 2 ^ i by rw [← e4], Nat.mul_add_div (Nat.two_pow_pos i), Nat.mul_add_div (Nat.two_pow_pos i)]
    generalize 2 ^ (j - i - 1) = w
    have e5 : 2 * w * (2 * q + 1) = 2 * (w * (2 * q + 1)) := Nat.mul_assoc ..
    have e6 : 2 * w * (2 * q) = 2 * (w * (2 * q)) := Nat.mul_assoc ..
    omega
  · have hp : 2 ^ i = 2 ^ j * (2 * 2 ^ (i - j - 1)) := by rw [← Nat.pow_succ', ← Nat.pow_add]; congr 1; omega
    have e3 : (2 ^ j * (2 * q) + r) / 2 ^ j = 2 * q := by rw [Nat.mul_add_div (Nat.two_pow_pos j), Nat.div_eq_of_lt hr, Nat.add_zero]
    have e4 : s / 2 ^ j = 2 * q + 1 := by rw [e1, Nat.mul_add_div (Nat.two_pow_pos j), Nat.div_eq_of_lt hr, Nat.add_zero]
    rw [hp, ← Nat.div_div_eq_div_mul, ← Nat.div_div_eq_div_mul, ← Nat.div_div_eq_div_mul, ← Nat.div_div_eq_div_mul, e3, e4, show 2 * q / 2 = q by omega, show (2 * q + 1) / 2 = q by omega]
theorem bt_off {s j : Nat} (h : s / 2 ^ j % 2 = 1) : (s - 2 ^ j) / 2 ^ j % 2 = 0 := by
  obtain ⟨q, r, hr, e1, e2⟩ := bt_parts h
  rw [e2, Nat.mul_add_div (Nat.two_pow_pos j), Nat.div_eq_of_lt hr]
  omega
theorem bt_le {s j : Nat} (h : s / 2 ^ j % 2 = 1) : 2 ^ j ≤ s := by
  obtain ⟨q, r, hr, e1, e2⟩ := bt_parts h
  rw [Nat.mul_add, Nat.mul_one] at e1
  omega
theorem db_cong {s t m : Nat} (h : ∀ i, i < m → s / 2 ^ i % 2 = t / 2 ^ i % 2) : db s m = db t m := by
  induction m with
  | zero => rfl
  | succ m ih =>
    show (if s / 2 ^ m % 2 = 1 then m :: db s m else db s m) = (if t / 2 ^ m % 2 = 1 then m :: db t m else db t m)
    rw [h m (by omega), ih (fun i hi => h i (by omega))]
theorem dh_cong {s t m k : Nat} (h : ∀ i, m ≤ i → s / 2 ^ i % 2 = t / 2 ^ i % 2) : dh s m k = dh t m k := by
  induction k with
  | zero => rfl
  | succ k ih =>
    show (if s / 2 ^ (m + k) % 2 = 1 then (m + k) :: dh s m k else dh s m k) = (if t / 2 ^ (m + k) % 2 = 1 then (m + k) :: dh t m k else dh t m k)
    rw [h (m + k) (by omega), ih]
/-- a column taken away -/
theorem db_off {s j : Nat} (hj : j < 13) (h : s / 2 ^ j % 2 = 1) : db s 13 = dh s (j + 1) (12 - j) ++ j :: db s j ∧ db (s - 2 ^ j) 13 = dh s (j + 1) (12 - j) ++ db s j := by
  have a1 := db_app s (j + 1) (12 - j)
  have a2 := db_app (s - 2 ^ j) (j + 1) (12 - j)
  rw [show j + 1 + (12 - j) = 13 by omega] at a1 a2
  rw [a1, a2]
  constructor
  · congr 1
    show (if s / 2 ^ j % 2 = 1 then j :: db s j else db s j) = _
    rw [if_pos h]
  · rw [dh_cong (t := s) (fun i hi => bt_eq h (by omega))]
    congr 1
    show (if (s - 2 ^ j) / 2 ^ j % 2 = 1 then j :: db (s - 2 ^ j) j else db (s - 2 ^ j) j) = _
    rw [bt_off h, if_neg (by decide), db_cong (t := s) (fun i hi => bt_eq h (by omega))]
theorem mk_clr {s j : Nat} (hs : s < 8192) (h : s / 2 ^ j % 2 = 1) : nI s &&& (nI (2 ^ j) ^^^ (-1)) = nI (s - 2 ^ j) := by
  have hle := bt_le h
  have e : (-1 : Int32).toBitVec = BitVec.allOnes 32 := by decide
  rw [← Int32.toBitVec_inj]
  apply BitVec.eq_of_toNat_eq
  show (BitVec.ofNat 32 s &&& (BitVec.ofNat 32 (2 ^ j) ^^^ (-1 : Int32).toBitVec)).toNat = (BitVec.ofNat 32 (s - 2 ^ j)).toNat
  rw [e, BitVec.xor_allOnes, BitVec.toNat_and, BitVec.toNat_not, BitVec.toNat_ofNat, BitVec.toNat_ofNat, BitVec.toNat_ofNat, Nat.mod_eq_of_lt (show s < 2 ^ 32 by omega), Nat.mod_eq_of_lt (show 2 ^ j < 2 ^ 32 by omega), Nat.mod_eq_of_lt (show s - 2 ^ j < 2 ^ 32 from Nat.lt_of_le_of_lt (Nat.sub_le _ _) (by omega))]
  apply Nat.eq_of_testBit_eq
  intro i
  rw [Nat.testBit_and, show 2 ^ 32 - 1 - 2 ^ j = 2 ^ 32 - (2 ^ j + 1) by omega, Nat.testBit_two_pow_sub_succ (show 2 ^ j < 2 ^ 32 by omega), Nat.testBit_two_pow]
  by_cases c : i = j
  · subst c
    have h1 := bt_off h
    simp [Nat.testBit_eq_decide_div_mod_eq, h1]
  · have h1 := bt_eq (i := i) h c
    simp only [Nat.testBit_eq_decide_div_mod_eq, h1]
    by_cases d : i < 32
    · simp [d, show ¬ j = i from fun z => c z.symm]
    · have h2 : s / 2 ^ i = 0 := Nat.div_eq_of_lt (Nat.lt_of_lt_of_le (show s < 2 ^ 32 by omega) (Nat.pow_le_pow_right (by decide) (by omega)))
      simp [h2]
theorem db_top {s n : Nat} (hn : n ≤ 12) (hs : s < 2 ^ (n + 1)) : db s 13 = db s (n + 1) := by
  have a1 := db_app s (n + 1) (12 - n)
  rw [show n + 1 + (12 - n) = 13 by omega] at a1
  rw [a1]
  have : ∀ k, dh s (n + 1) k = [] := by
    intro k
    induction k with
    | zero => rfl
    | succ k ih =>
      show (if s / 2 ^ (n + 1 + k) % 2 = 1 then (n + 1 + k) :: dh s (n + 1) k else dh s (n + 1) k) = []
      rw [Nat.div_eq_of_lt (Nat.lt_of_lt_of_le hs (Nat.pow_le_pow_right (by decide) (by omega))), if_neg (by decide), ih]
  rw [this]
  rfl
/-- the minor of a set of columns -/
def dE_ (A : Nat → Nat → Int) (s : Nat) : Int := dt_E (db s 13).length ((db s 13).map (dt_col A))
theorem bt_bd {A : Nat → Nat → Int} (hA : ∀ i j, (A i j).natAbs ≤ 2 ^ 63) {s : Nat} (h : (db s 13).length ≤ 12) : (dE_ A s).natAbs < 2 ^ 785 := by
  unfold dE_
  exact Nat.lt_of_le_of_lt (dt_E_bd (2 ^ 63) 12 _ _ h (by rw [List.length_map]) (fun c hc r hr => by
    obtain ⟨j, -, e⟩ := List.mem_map.mp hc
    rw [← e]
    exact hA r j)) (dt_bd_lt _ h)
def bu (x y : Int32) : Int32 := (x.toUInt32 >>> (y.toUInt32 &&& Int32.toUInt32 31)).toInt32
def bc1 (i : Int32) : Int32 := i - (bu i (nI 1) &&& nI 1431655765)
def bc2 (i : Int32) : Int32 := (i &&& nI 858993459) + (bu i (nI 2) &&& nI 858993459)
def bc3 (i : Int32) : Int32 := (i + bu i (nI 4)) &&& nI 252645135
def bc4 (i : Int32) : Int32 := i + bu i (nI 8)
def bc5 (i : Int32) : Int32 := (i + bu i (nI 16)) &&& nI 63
theorem bc_0 : ∀ a, a < 64 → ∀ b, b < 128 → bc5 (bc4 (bc3 (bc2 (bc1 (nI (a * 128 + b)))))) = nI (db (a * 128 + b) 13).length := by decide +kernel
theorem bc_all {s : Nat} (h : s < 8192) : bc5 (bc4 (bc3 (bc2 (bc1 (nI s))))) = nI (db s 13).length := by
  have h1 := bc_0 (s / 128) (by omega) (s % 128) (by omega)
  rw [show s / 128 * 128 + s % 128 = s by omega] at h1
  exact h1
