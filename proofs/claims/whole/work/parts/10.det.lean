-- DETERMINANTS: a column is a function of the row; dt_W ws cs expands along the first of the rows ws, the first column with + first
abbrev dt_C : Type := Nat → Int
def dt_alt (w : dt_C → Int) : (List dt_C → Int) → List dt_C → Int
  | _, [] => 0
  | F, c :: cs => w c * F cs - dt_alt w (fun l => F (c :: l)) cs
def dt_W : List (dt_C → Int) → List dt_C → Int
  | [], [] => 1
  | [], _ :: _ => 0
  | w :: ws, cs => dt_alt w (dt_W ws) cs
def dt_ev : Nat → List (dt_C → Int)
  | 0 => []
  | k + 1 => (fun c => c k) :: dt_ev k
def dt_sg : Nat → Int
  | 0 => 1
  | n + 1 => - dt_sg n
def dt_lc (x : Int) (a : dt_C) (y : Int) (b : dt_C) : dt_C := fun r => x * a r + y * b r
def dt_isL (w : dt_C → Int) : Prop := ∀ (x : Int) (a : dt_C) (y : Int) (b : dt_C), w (dt_lc x a y b) = x * w a + y * w b
theorem dt_sg_sq (n : Nat) : dt_sg n * dt_sg n = 1 := by
  induction n with
  | zero => rfl
  | succ n ih => show (- dt_sg n) * (- dt_sg n) = 1; rw [Int.neg_mul_neg]; exact ih
theorem dt_alt_nil (w : dt_C → Int) (F : List dt_C → Int) : dt_alt w F [] = 0 := rfl
theorem dt_alt_cons (w : dt_C → Int) (F : List dt_C → Int) (c : dt_C) (cs : List dt_C) : dt_alt w F (c :: cs) = w c * F cs - dt_alt w (fun l => F (c :: l)) cs := rfl
theorem dt_alt_lin (w : dt_C → Int) (x y : Int) (cs : List dt_C) : ∀ (F G : List dt_C → Int), dt_alt w (fun l => x * F l + y * G l) cs = x * dt_alt w F cs + y * dt_alt w G cs := by
  induction cs with
  | nil => intro F G; simp [dt_alt_nil]
  | cons c cs ih =>
    intro F G
    rw [dt_alt_cons, dt_alt_cons, dt_alt_cons, ih (fun l => F (c :: l)) (fun l => G (c :: l))]
    grind
theorem dt_alt_congr (w : dt_C → Int) {F G : List dt_C → Int} (h : ∀ l, F l = G l) (cs : List dt_C) : dt_alt w F cs = dt_alt w G cs := by
  have e : F = G := funext h
  rw [e]
theorem dt_alt_zero (w : dt_C → Int) (cs : List dt_C) : ∀ (F : List dt_C → Int), (∀ l, F l = 0) → dt_alt w F cs = 0 := by
  induction cs with
  | nil => intro F _; rfl
  | cons c cs ih =>
    intro F h
    rw [dt_alt_cons, ih (fun l => F (c :: l)) (fun l => h (c :: l)), h cs]
    simp
theorem dt_alt_negF (w : dt_C → Int) (F : List dt_C → Int) (cs : List dt_C) : dt_alt w (fun l => - F l) cs = - dt_alt w F cs := by
  have h := dt_alt_lin w (-1) 0 cs F F
  have e : (fun l => - F l) = (fun l => (-1) * F l + 0 * F l) := by funext l; omega
  rw [e, h]
  omega
theorem dt_alt_negw (w : dt_C → Int) (cs : List dt_C) : ∀ (F : List dt_C → Int), dt_alt (fun c => - w c) F cs = - dt_alt w F cs := by
  induction cs with
  | nil => intro F; simp [dt_alt_nil]
  | cons c cs ih =>
    intro F
    rw [dt_alt_cons, dt_alt_cons, ih (fun l => F (c :: l))]
    grind
theorem dt_anti (f g : dt_C → Int) (cs : List dt_C) : ∀ (F : List dt_C → Int), dt_alt f (fun l => dt_alt g F l) cs = - dt_alt g (fun l => dt_alt f F l) cs := by
  induction cs with
  | nil => intro F; simp [dt_alt_nil]
  | cons c cs ih =>
    intro F
    have key : ∀ (u v : dt_C → Int), dt_alt u (fun l => dt_alt v F (c :: l)) cs = v c * dt_alt u F cs - dt_alt u (fun l => dt_alt v (fun l2 => F (c :: l2)) l) cs := by
      intro u v
      have h := dt_alt_lin u (v c) (-1) cs F (fun l => dt_alt v (fun l2 => F (c :: l2)) l)
      have e : (fun l => dt_alt v F (c :: l)) = (fun l => v c * F l + (-1) * dt_alt v (fun l2 => F (c :: l2)) l) := by
        funext l
        rw [dt_alt_cons]
        omega
      rw [e, h]
      omega
    have h := ih (fun l => F (c :: l))
    rw [dt_alt_cons, dt_alt_cons, key f g, key g f]
    omega
-- equal columns side by side
theorem dt_alt_dup (w : dt_C → Int) (a : dt_C) (post pre : List dt_C) : ∀ (F : List dt_C → Int), (∀ p q, F (p ++ a :: a :: q) = 0) → dt_alt w F (pre ++ a :: a :: post) = 0 := by
  induction pre with
  | nil =>
    intro F h
    rw [List.nil_append, dt_alt_cons, dt_alt_cons, dt_alt_zero w post (fun l => F (a :: a :: l)) (fun l => h [] l)]
    omega
  | cons c pre ih =>
    intro F h
    rw [List.cons_append, dt_alt_cons, ih (fun l => F (c :: l)) (fun p q => h (c :: p) q), h pre post]
    simp
theorem dt_dup (ws : List (dt_C → Int)) (a : dt_C) : ∀ (pre post : List dt_C), dt_W ws (pre ++ a :: a :: post) = 0 := by
  induction ws with
  | nil => intro pre post; cases pre <;> rfl
  | cons w ws ih => intro pre post; exact dt_alt_dup w a post pre (dt_W ws) ih
-- linear in each place
theorem dt_alt_place (w : dt_C → Int) (hw : dt_isL w) (x : Int) (a : dt_C) (y : Int) (b : dt_C) (post pre : List dt_C) : ∀ (F : List dt_C → Int), (∀ p q, F (p ++ dt_lc x a y b :: q) = x * F (p ++ a :: q) + y * F (p ++ b :: q)) →
    dt_alt w F (pre ++ dt_lc x a y b :: post) = x * dt_alt w F (pre ++ a :: post) + y * dt_alt w F (pre ++ b :: post) := by
  induction pre with
  | nil =>
    intro F h
    have e : (fun l => F (dt_lc x a y b :: l)) = (fun l => x * F (a :: l) + y * F (b :: l)) := by funext l; exact h [] l
    have h2 := dt_alt_lin w x y post (fun l => F (a :: l)) (fun l => F (b :: l))
    rw [List.nil_append, List.nil_append, List.nil_append, dt_alt_cons, dt_alt_cons, dt_alt_cons, e, h2, hw]
    grind
  | cons c pre ih =>
    intro F h
    have h2 := ih (fun l => F (c :: l)) (fun p q => h (c :: p) q)
    rw [List.cons_append, List.cons_append, List.cons_append, dt_alt_cons, dt_alt_cons, dt_alt_cons, h2, h pre post]
    grind
theorem dt_place (ws : List (dt_C → Int)) (hws : ∀ w ∈ ws, dt_isL w) (x : Int) (a : dt_C) (y : Int) (b : dt_C) : ∀ (pre post : List dt_C), dt_W ws (pre ++ dt_lc x a y b :: post) = x * dt_W ws (pre ++ a :: post) + y * dt_W ws (pre ++ b :: post) := by
  induction ws with
  | nil => intro pre post; cases pre <;> simp [dt_W]
  | cons w ws ih =>
    intro pre post
    exact dt_alt_place w (hws w List.mem_cons_self) x a y b post pre (dt_W ws) (ih (fun v hv => hws v (List.mem_cons_of_mem _ hv)))
def dt_An {α : Type} (F : List α → Int) : Prop := ∀ (pre : List α) (a b : α) (post : List α), F (pre ++ a :: b :: post) = - F (pre ++ b :: a :: post)
theorem dt_An_of (F : List dt_C → Int) (hl : ∀ (x : Int) (a : dt_C) (y : Int) (b : dt_C) (pre post : List dt_C), F (pre ++ dt_lc x a y b :: post) = x * F (pre ++ a :: post) + y * F (pre ++ b :: post)) (hd : ∀ (a : dt_C) (pre post : List dt_C), F (pre ++ a :: a :: post) = 0) : dt_An F := by
  intro pre a b post
  have h0 := hd (dt_lc 1 a 1 b) pre post
  have h1 := hl 1 a 1 b pre (dt_lc 1 a 1 b :: post)
  have h2 := hl 1 a 1 b (pre ++ [a]) post
  have h3 := hl 1 a 1 b (pre ++ [b]) post
  simp only [List.append_assoc, List.cons_append, List.nil_append] at h2 h3
  have h4 := hd a pre post
  have h5 := hd b pre post
  rw [h1, h2, h3, h4, h5] at h0
  omega
theorem dt_swap (ws : List (dt_C → Int)) (hws : ∀ w ∈ ws, dt_isL w) : dt_An (dt_W ws) := dt_An_of _ (fun x a y b pre post => dt_place ws hws x a y b pre post) (fun a pre post => dt_dup ws a pre post)
theorem dt_An_cons {F : List dt_C → Int} (h : dt_An F) (c : dt_C) : dt_An (fun l => F (c :: l)) := fun pre a b post => h (c :: pre) a b post
theorem dt_move {α : Type} {F : List α → Int} (hF : dt_An F) (a : α) (post mid : List α) : ∀ (pre : List α), F (pre ++ a :: (mid ++ post)) = dt_sg mid.length * F (pre ++ (mid ++ a :: post)) := by
  induction mid with
  | nil => intro pre; simp [dt_sg]
  | cons m mid ih =>
    intro pre
    have h1 := hF pre a m (mid ++ post)
    have h2 := ih (pre ++ [m])
    simp only [List.append_assoc, List.cons_append, List.nil_append] at h1 h2 ⊢
    rw [h1, h2]
    show _ = (- dt_sg mid.length) * _
    grind
theorem dt_dup2 (F : List dt_C → Int) (hF : dt_An F) (hd : ∀ (a : dt_C) (pre post : List dt_C), F (pre ++ a :: a :: post) = 0) (a : dt_C) (pre mid post : List dt_C) : F (pre ++ a :: (mid ++ a :: post)) = 0 := by
  have h1 := dt_move hF a (a :: post) mid pre
  have h2 := hd a (pre ++ mid) post
  rw [List.append_assoc] at h2
  rw [h1, h2]
  simp
-- a column put in the place of each in turn
def dt_rp (w : dt_C → Int) (c : dt_C) : (List dt_C → Int) → List dt_C → Int
  | _, [] => 0
  | F, x :: xs => w x * F (c :: xs) + dt_rp w c (fun l => F (x :: l)) xs
theorem dt_rp_cons (w : dt_C → Int) (c : dt_C) (F : List dt_C → Int) (x : dt_C) (xs : List dt_C) : dt_rp w c F (x :: xs) = w x * F (c :: xs) + dt_rp w c (fun l => F (x :: l)) xs := rfl
theorem dt_alt_rp (w : dt_C → Int) (c : dt_C) (cs : List dt_C) : ∀ (F : List dt_C → Int), dt_An F → dt_alt w (fun l => F (c :: l)) cs = dt_rp w c F cs := by
  induction cs with
  | nil => intro F _; rfl
  | cons x xs ih =>
    intro F hF
    have h1 := ih (fun l => F (x :: l)) (dt_An_cons hF x)
    have e : (fun l => F (c :: x :: l)) = (fun l => - F (x :: c :: l)) := by funext l; exact hF [] c x l
    rw [dt_alt_cons, dt_rp_cons, ← h1, e, dt_alt_negF]
    omega
-- two equal rows
theorem dt_alt_row (i k : Nat) (hik : i < k) (cs : List dt_C) : dt_alt (fun c => c i) (dt_W (dt_ev k)) cs = 0 := by
  induction k generalizing cs with
  | zero => omega
  | succ k ih =>
    have h := dt_anti (fun c => c i) (fun c => c k) cs (dt_W (dt_ev k))
    have e : dt_alt (fun c => c i) (dt_W (dt_ev (k + 1))) cs = dt_alt (fun c => c i) (fun l => dt_alt (fun c => c k) (dt_W (dt_ev k)) l) cs := rfl
    rw [e]
    by_cases hk : i = k
    · subst hk
      omega
    · rw [h, dt_alt_zero _ cs (fun l => dt_alt (fun c => c i) (dt_W (dt_ev k)) l) (fun l => ih (by omega) l)]
      rfl
theorem dt_ev_lin (k : Nat) : ∀ w ∈ dt_ev k, dt_isL w := by
  induction k with
  | zero => intro w h; cases h
  | succ k ih =>
    intro w h
    rcases List.mem_cons.mp h with rfl | h
    · intro x a y b; rfl
    · exact ih w h
-- only the rows asked for count
theorem dt_alt_map (w : dt_C → Int) (φ : dt_C → dt_C) (cs : List dt_C) : ∀ (F : List dt_C → Int), dt_alt w F (cs.map φ) = dt_alt (fun c => w (φ c)) (fun l => F (l.map φ)) cs := by
  induction cs with
  | nil => intro F; rfl
  | cons c cs ih =>
    intro F
    rw [List.map_cons, dt_alt_cons, dt_alt_cons, ih (fun l => F (φ c :: l))]
    rfl
theorem dt_W_map (φ : dt_C → dt_C) (ws : List (dt_C → Int)) : ∀ (cs : List dt_C), dt_W ws (cs.map φ) = dt_W (ws.map (fun w => fun c => w (φ c))) cs := by
  induction ws with
  | nil => intro cs; cases cs <;> rfl
  | cons w ws ih =>
    intro cs
    show dt_alt w (dt_W ws) (cs.map φ) = dt_alt (fun c => w (φ c)) (dt_W (ws.map (fun w => fun c => w (φ c)))) cs
    rw [dt_alt_map]
    exact dt_alt_congr _ (fun l => ih l) cs
def dt_cut (k : Nat) (c : dt_C) : dt_C := fun r => if r < k then c r else 0
theorem dt_ev_cut (n k : Nat) (h : k ≤ n) : (dt_ev k).map (fun w => fun c => w (dt_cut n c)) = dt_ev k := by
  induction k with
  | zero => rfl
  | succ k ih =>
    show (fun c => dt_cut n c k) :: (dt_ev k).map (fun w => fun c => w (dt_cut n c)) = _
    rw [ih (by omega)]
    have e : (fun c : dt_C => dt_cut n c k) = (fun c => c k) := by
      funext c
      simp [dt_cut, show k < n by omega]
    rw [e]
    rfl
theorem dt_W_cut (k : Nat) (cs : List dt_C) : dt_W (dt_ev k) (cs.map (dt_cut k)) = dt_W (dt_ev k) cs := by
  rw [dt_W_map, dt_ev_cut k k (Nat.le_refl k)]
theorem dt_W_cong (k : Nat) {cs ds : List dt_C} (h : cs.map (dt_cut k) = ds.map (dt_cut k)) : dt_W (dt_ev k) cs = dt_W (dt_ev k) ds := by
  rw [← dt_W_cut k cs, h, dt_W_cut]
theorem dt_cut_eq {k : Nat} {a b : dt_C} (h : ∀ r, r < k → a r = b r) : dt_cut k a = dt_cut k b := by
  funext r
  unfold dt_cut
  by_cases hr : r < k
  · simp [hr, h r hr]
  · simp [hr]
theorem dt_W_col (k : Nat) (pre post : List dt_C) {a b : dt_C} (h : ∀ r, r < k → a r = b r) : dt_W (dt_ev k) (pre ++ a :: post) = dt_W (dt_ev k) (pre ++ b :: post) := by
  refine dt_W_cong k ?_
  simp [dt_cut_eq h]
theorem dt_W_zcol (k : Nat) (pre post : List dt_C) {z : dt_C} (h : ∀ r, r < k → z r = 0) : dt_W (dt_ev k) (pre ++ z :: post) = 0 := by
  have h1 := dt_W_col k pre post (a := z) (b := dt_lc 0 z 0 z) (fun r hr => by show z r = 0 * z r + 0 * z r; rw [h r hr]; rfl)
  have h2 := dt_place (dt_ev k) (dt_ev_lin k) 0 z 0 z pre post
  rw [h1, h2]
  omega
theorem dt_alt_one (w : dt_C → Int) (z : dt_C) (post pre : List dt_C) : ∀ (F : List dt_C → Int), (∀ p q, F (p ++ z :: q) = 0) → dt_alt w F (pre ++ z :: post) = dt_sg pre.length * (w z * F (pre ++ post)) := by
  induction pre with
  | nil =>
    intro F h
    rw [List.nil_append, dt_alt_cons, dt_alt_zero w post (fun l => F (z :: l)) (fun l => h [] l)]
    simp [dt_sg]
  | cons c pre ih =>
    intro F h
    rw [List.cons_append, dt_alt_cons, ih (fun l => F (c :: l)) (fun p q => h (c :: p) q), h pre post]
    show _ = (- dt_sg pre.length) * _
    rw [List.cons_append]
    grind
