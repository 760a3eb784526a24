-- THE LAST CELL BEFORE A CONSTRUCTOR'S CALL; A POOL THAT GROWS
theorem k_code_oi : Cond.code objectInit ⟨#[0xb1]⟩ 1 none ∈ gw_tbl := gw_in 45 (by decide +kernel) (by decide +kernel)
theorem xg_at (Y : va_W) (q : Nat × va_E) : (Y ++ [q])[Y.length]? = some q := by rw [List.getElem?_append_right (Nat.le_refl _), Nat.sub_self]; rfl
theorem xg_P {D : va_G} {cl : List vw_C} {Y : va_W} {H : Heap} {q : Nat × va_E} (hP : va_P D cl (Y ++ [q]) H) : va_P D cl [q] H := by
  intro k r hk
  have h0 : k < 1 := (List.getElem?_eq_some_iff.mp hk).1
  rw [show k = 0 by omega] at hk
  cases hk
  exact hP Y.length q (xg_at Y q)
theorem xg_D {A : Nat → Prop} {Y : va_W} {q : Nat × va_E} (hD : va_D A (Y ++ [q])) : va_D A [q] := by
  refine ⟨fun i j a b ha hb _ => ?_, fun k r hk => ?_⟩
  · have h1 : i < 1 := (List.getElem?_eq_some_iff.mp ha).1
    have h2 : j < 1 := (List.getElem?_eq_some_iff.mp hb).1
    omega
  · have h0 : k < 1 := (List.getElem?_eq_some_iff.mp hk).1
    rw [show k = 0 by omega] at hk
    cases hk
    exact hD.2 Y.length q (xg_at Y q)
theorem xg_F {A : Nat → Prop} {Y : va_W} {q : Nat × va_E} {H0 H : Heap} {locs : List Loc} (hD : va_D A (Y ++ [q])) (hS : va_S A H0 H locs) (hA : ∀ x, H0.size ≤ x → A x) : ∀ x, va_A [q] H.size x → A x := by
  intro x hx
  rcases hx with ⟨j, f, hj⟩ | h
  · exact (xg_D hD).2 j (x, f) hj
  · exact hA x (Nat.le_trans hS.1 h)
theorem cwk_len (X : va_W) (k : Nat) (c : Nat → Nat × va_E) : (X ++ cwk k c).length = X.length + 2 * k := by
  unfold cwk
  rw [List.length_append, List.length_map, List.length_range]
theorem cwk_new {X : va_W} {n k : Nat} {c : Nat → Nat × va_E} {a b : Nat × va_E} (hX : X.length = n) : (X ++ cwk k c ++ [a, b])[n + 2 * k]? = some a := by
  rw [List.getElem?_append_right (by rw [cwk_len]; omega), cwk_len, hX, Nat.sub_self]
  rfl
theorem arr_congr {cA : ClassId} {n : Nat} {f g : Nat → Option Nat} (h : ∀ i, i < n → f i = g i) : vp_cell cA (n, .inr (.inr (.inr (.inr f)))) = vp_cell cA (n, .inr (.inr (.inr (.inr g)))) := by
  rw [vp_cell_q, vp_cell_q]
  unfold arrV
  congr 1
  apply Array.ext
  · simp
  · intro i h1 h2
    simp at h1 h2
    simp [h i h1]
theorem arr_P {D : va_G} {cl : List vw_C} {ws : va_W} {H : Heap} {k a n : Nat} {cA : ClassId} {f g : Nat → Option Nat} (hP : va_P D cl ws H) (hk : ws[k]? = some (a, .inl (cA, n, .inr (.inr (.inr (.inr f)))))) (h : ∀ i, i < n → f i = g i) : va_P D cl (ws.set k (a, .inl (cA, n, .inr (.inr (.inr (.inr g)))))) H := by
  intro j q hj
  rw [List.getElem?_set] at hj
  by_cases e : k = j
  · subst e
    rw [if_pos rfl] at hj
    have hl := (List.getElem?_eq_some_iff.mp hk).1
    rw [if_pos hl] at hj
    cases hj
    show H[a]? = some (vp_cell cA (n, .inr (.inr (.inr (.inr g)))))
    rw [← arr_congr h]
    exact hP k _ hk
  · rw [if_neg e] at hj
    exact hP j q hj
theorem cwk_push0 {cA : ClassId} {hw qw : Nat → Nat} {k h q : Nat} :
    cwk k (cf cA hw qw (fun _ _ => 0) (fun _ => 0) (fun _ => nI 0)) ++ [(h, .inr (1, [.ref q, .int (nI 0), .int (nI 0)])), (q, .inl (cA, 26, .inl (xn_f (fun _ => 0))))] = cwk (k + 1) (cf cA (va_up hw k h) (va_up qw k q) (fun _ _ => 0) (fun _ => 0) (fun _ => nI 0)) := by
  rw [cwk_push]
  have e1 : va_up (fun (_ : Nat) (_ : Nat) => (0 : Nat)) k (fun _ => 0) = fun _ _ => 0 := va_up_id (fun (_ : Nat) (_ : Nat) => (0 : Nat)) k
  have e2 : va_up (fun (_ : Nat) => (0 : Nat)) k 0 = fun _ => 0 := va_up_id (fun (_ : Nat) => (0 : Nat)) k
  have e3 : va_up (fun (_ : Nat) => nI 0) k (nI 0) = fun _ => nI 0 := va_up_id (fun (_ : Nat) => nI 0) k
  rw [e1, e2, e3]
theorem wh_ok0 (cap : Nat) : wh_ok cap (fun _ => 0) 0 (nI 0) := ⟨Nat.zero_le _, fun _ => by show 0 < 2147483648; decide, Or.inl rfl, ⟨fun _ => rfl, fun _ => rfl⟩, fun k h => by omega⟩
