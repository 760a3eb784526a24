-- A CALL THAT HAS THE SECOND PART OF THE WORLD
theorem xz_r (Y Z : va_W) (k : Nat) : (Y ++ Z)[Y.length + k]? = Z[k]? := by rw [List.getElem?_append_right (by omega), Nat.add_sub_cancel_left]
theorem xz_l {Y : va_W} (Z : va_W) {k : Nat} {q : Nat × va_E} (h : Y[k]? = some q) : (Y ++ Z)[k]? = some q := by rw [List.getElem?_append_left (List.getElem?_eq_some_iff.mp h).1]; exact h
theorem xz_P {D : va_G} {cl : List vw_C} {Y Z : va_W} {H : Heap} (hP : va_P D cl (Y ++ Z) H) : va_P D cl Z H := fun k q hk => hP (Y.length + k) q (by rw [xz_r]; exact hk)
theorem xz_Y {D : va_G} {cl : List vw_C} {Y Z : va_W} {H : Heap} (hP : va_P D cl (Y ++ Z) H) : va_P D cl Y H := fun k q hk => hP k q (xz_l Z hk)
theorem xz_D {A : Nat → Prop} {Y Z : va_W} (hD : va_D A (Y ++ Z)) : va_D A Z := ⟨fun i j a b ha hb e => by
    have := hD.1 (Y.length + i) (Y.length + j) a b (by rw [xz_r]; exact ha) (by rw [xz_r]; exact hb) e
    omega, fun k q hk => hD.2 (Y.length + k) q (by rw [xz_r]; exact hk)⟩
theorem xz_DY {A : Nat → Prop} {Y Z : va_W} (hD : va_D A (Y ++ Z)) : va_D A Y := ⟨fun i j a b ha hb e => hD.1 i j a b (xz_l Z ha) (xz_l Z hb) e, fun k q hk => hD.2 k q (xz_l Z hk)⟩
theorem xz_ne {A : Nat → Prop} {Y Z : va_W} (hD : va_D A (Y ++ Z)) {i j : Nat} {a b : Nat × va_E} (ha : Y[i]? = some a) (hb : Z[j]? = some b) : a.1 ≠ b.1 := fun e => by
  have h1 := hD.1 i (Y.length + j) a b (xz_l Z ha) (by rw [xz_r]; exact hb) e
  have h2 := (List.getElem?_eq_some_iff.mp ha).1
  omega
theorem xz_rotP {D : va_G} {cl : List vw_C} {Y Z : va_W} {H : Heap} (hP : va_P D cl (Y ++ Z) H) : va_P D cl (Z ++ Y) H := (xz_P hP).app (xz_Y hP)
theorem xz_rotD {A : Nat → Prop} {Y Z : va_W} (hD : va_D A (Y ++ Z)) : va_D A (Z ++ Y) := (xz_D hD).app (xz_DY hD) (fun i j a b ha hb e => xz_ne hD hb ha e.symm)
theorem xz_F {A : Nat → Prop} {Y Z : va_W} {H0 H : Heap} {locs : List Loc} (hD : va_D A (Y ++ Z)) (hS : va_S A H0 H locs) (hA : ∀ x, H0.size ≤ x → A x) : ∀ x, va_A Z H.size x → A x := by
  intro x hx
  rcases hx with ⟨j, f, hj⟩ | h
  · exact (xz_D hD).2 j (x, f) hj
  · exact hA x (Nat.le_trans hS.1 h)
theorem xz_1 {A0 : Nat → Prop} {D : va_G} {cl : List vw_C} {Y Z w1 : va_W} {H H1 : Heap} (hP : va_P D cl (Y ++ Z) H) (hD : va_D A0 (Y ++ Z)) (hk : ∀ q : Nat, q < H.size → ¬ va_A Z H.size q → H1[q]? = H[q]?) (hF : ∀ q, va_A Z H.size q → A0 q)
    (hP1 : va_P D cl w1 H1) (hD1 : va_D (va_A Z H.size) w1) : va_P D cl (Y ++ w1) H1 ∧ va_D A0 (Y ++ w1) := by
  have hne : ∀ (k : Nat) (q : Nat × va_E), Y[k]? = some q → q.1 < H.size ∧ ¬ va_A Z H.size q.1 := by
    intro k q hq
    have h1 : q.1 < H.size := vx_lt hP (xz_l Z hq)
    refine ⟨h1, fun z => ?_⟩
    rcases z with ⟨j, f, hj⟩ | z
    · exact xz_ne hD hq hj rfl
    · omega
  refine ⟨va_P.app (va_P.kept (xz_Y hP) (fun k q hq => hk _ (hne k q hq).1 (hne k q hq).2)) hP1, va_D.app (xz_DY hD) (hD1.weaken (fun k q _ z => hF _ z)) (fun i j a b ha hb e9 => ?_)⟩
  have z := hD1.2 j b hb
  rw [← e9] at z
  exact (hne i a ha).2 z
theorem xz_same {D : va_G} {cl : List vw_C} {ws : va_W} {H H1 : Heap} (hP : va_P D cl ws H) (e : H1 = H) : va_P D cl ws H1 := by rw [e]; exact hP
