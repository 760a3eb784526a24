-- THE CELLS OF THE DESK: 156 Wholes by their places; hw, qw: where the Whole and its limbs at a place lie
def cw (c : Nat → Nat × va_E) : va_W := (List.range 312).map c
def cf (cA : ClassId) (hw qw : Nat → Nat) (gg : Nat → Nat → Nat) (ln : Nat → Nat) (sn : Nat → Int32) : Nat → Nat × va_E := fun i =>
  if i % 2 = 0 then (hw (i / 2), .inr (1, [.ref (qw (i / 2)), .int (nI (ln (i / 2))), .int (sn (i / 2))])) else (qw (i / 2), .inl (cA, 26, .inl (xn_f (gg (i / 2)))))
theorem cw_at {X : va_W} {c : Nat → Nat × va_E} {n i : Nat} (hX : X.length = n) (hi : i < 312) : (X ++ cw c)[n + i]? = some (c i) := by
  rw [List.getElem?_append_right (by omega), hX, Nat.add_sub_cancel_left]
  unfold cw
  rw [List.getElem?_map, List.getElem?_range hi]
  rfl
theorem cw_set {X : va_W} {c : Nat → Nat × va_E} {n i : Nat} {r : Nat × va_E} (hX : X.length = n) : (X ++ cw c).set (n + i) r = X ++ cw (va_up c i r) := by
  rw [List.set_append_right _ _ (by omega), hX, Nat.add_sub_cancel_left]
  congr 1
  unfold cw
  apply List.ext_getElem?
  intro j
  rw [List.getElem?_set]
  by_cases e : i = j
  · subst e
    rw [if_pos rfl, List.length_map, List.length_range]
    by_cases hl : i < 312
    · rw [if_pos hl, List.getElem?_map, List.getElem?_range hl]
      simp [va_up]
    · rw [if_neg hl, List.getElem?_map, List.getElem?_eq_none (by simp; omega)]
      rfl
  · rw [if_neg e, List.getElem?_map, List.getElem?_map]
    by_cases hl : j < 312
    · rw [List.getElem?_range hl]
      simp [va_up, show ¬ j = i from fun q => e q.symm]
    · rw [List.getElem?_eq_none (by simp; omega)]
      rfl
section CW
variable {X : va_W} {cA : ClassId} {hw qw : Nat → Nat} {gg : Nat → Nat → Nat} {ln : Nat → Nat} {sn : Nat → Int32} {n j : Nat}
theorem cf_w : cf cA hw qw gg ln sn (2 * j) = (hw j, .inr (1, [.ref (qw j), .int (nI (ln j)), .int (sn j)])) := by
  unfold cf
  rw [if_pos (by omega), show 2 * j / 2 = j by omega]
theorem cf_q : cf cA hw qw gg ln sn (2 * j + 1) = (qw j, .inl (cA, 26, .inl (xn_f (gg j)))) := by
  unfold cf
  rw [if_neg (by omega), show (2 * j + 1) / 2 = j by omega]
theorem cw_w (hX : X.length = n) (hj : j < 156) : (X ++ cw (cf cA hw qw gg ln sn))[n + 2 * j]? = some (hw j, .inr (1, [.ref (qw j), .int (nI (ln j)), .int (sn j)])) := by
  rw [cw_at hX (by omega), cf_w]
theorem cw_q (hX : X.length = n) (hj : j < 156) : (X ++ cw (cf cA hw qw gg ln sn))[n + 2 * j + 1]? = some (qw j, .inl (cA, 26, .inl (xn_f (gg j)))) := by
  rw [Nat.add_assoc, cw_at hX (by omega), cf_q]
theorem cw_pair (hX : X.length = n) {L : Nat} {S : Int32} {G : Nat → Nat} : ((X ++ cw (cf cA hw qw gg ln sn)).set (n + 2 * j) (hw j, .inr (1, [.ref (qw j), .int (nI L), .int S]))).set (n + 2 * j + 1) (qw j, .inl (cA, 26, .inl (xn_f G))) = X ++ cw (cf cA hw qw (va_up gg j G) (va_up ln j L) (va_up sn j S)) := by
  rw [cw_set hX, Nat.add_assoc, cw_set hX]
  congr 2
  funext i
  by_cases h1 : i = 2 * j + 1
  · subst h1
    rw [va_up_self, cf_q, va_up_self]
  · rw [va_up_ne _ _ h1]
    by_cases h2 : i = 2 * j
    · subst h2
      rw [va_up_self, cf_w, va_up_self, va_up_self]
    · rw [va_up_ne _ _ h2]
      unfold cf
      by_cases h3 : i % 2 = 0
      · rw [if_pos h3, if_pos h3, va_up_ne _ _ (show i / 2 ≠ j by omega), va_up_ne _ _ (show i / 2 ≠ j by omega)]
      · rw [if_neg h3, if_neg h3, va_up_ne _ _ (show i / 2 ≠ j by omega)]
theorem va_up_id {α : Type} (f : Nat → α) (k : Nat) : va_up f k (f k) = f := by
  funext i
  by_cases h : i = k
  · rw [h, va_up_self]
  · rw [va_up_ne _ _ h]
theorem cw_keep (hX : X.length = n) : ((X ++ cw (cf cA hw qw gg ln sn)).set (n + 2 * j) (hw j, .inr (1, [.ref (qw j), .int (nI (ln j)), .int (sn j)]))).set (n + 2 * j + 1) (qw j, .inl (cA, 26, .inl (xn_f (gg j)))) = X ++ cw (cf cA hw qw gg ln sn) := by
  rw [cw_pair hX, va_up_id, va_up_id, va_up_id]
theorem cw_sgn (hX : X.length = n) {S : Int32} : (X ++ cw (cf cA hw qw gg ln sn)).set (n + 2 * j) (hw j, .inr (1, [.ref (qw j), .int (nI (ln j)), .int S])) = X ++ cw (cf cA hw qw gg ln (va_up sn j S)) := by
  have h := cw_pair (X := X) (cA := cA) (hw := hw) (qw := qw) (gg := gg) (ln := ln) (sn := sn) (j := j) hX (L := ln j) (S := S) (G := gg j)
  rw [va_up_id, va_up_id] at h
  rw [← h, cw_set hX, Nat.add_assoc, cw_set hX]
  congr 2
  funext i
  by_cases h1 : i = 2 * j + 1
  · subst h1
    rw [va_up_self, va_up_ne _ _ (by omega), cf_q]
  · rw [va_up_ne (va_up _ _ _) _ h1]
end CW
/-- two places of the cells exchanged -/
def cx_s (a b : Nat) (j : Nat) : Nat := if j = a then b else if j = b then a else j
theorem cx_ss (a b j : Nat) : cx_s a b (cx_s a b j) = j := by
  unfold cx_s
  by_cases h1 : j = a <;> by_cases h2 : j = b <;> by_cases h3 : b = a <;> simp_all
theorem cx_lt {a b j N : Nat} (ha : a < N) (hb : b < N) (hj : j < N) : cx_s a b j < N := by
  unfold cx_s
  split
  · exact hb
  · split
    · exact ha
    · exact hj
def cx_i (a b i : Nat) : Nat := 2 * cx_s a b (i / 2) + i % 2
theorem cx_cf {cA : ClassId} {hw qw : Nat → Nat} {gg : Nat → Nat → Nat} {ln : Nat → Nat} {sn : Nat → Int32} (a b i : Nat) : cf cA (fun j => hw (cx_s a b j)) (fun j => qw (cx_s a b j)) (fun j => gg (cx_s a b j)) (fun j => ln (cx_s a b j)) (fun j => sn (cx_s a b j)) i = cf cA hw qw gg ln sn (cx_i a b i) := by
  unfold cf cx_i
  rcases (show i % 2 = 0 ∨ i % 2 = 1 by omega) with q | q
  · rw [if_pos q, if_pos (by omega), show (2 * cx_s a b (i / 2) + i % 2) / 2 = cx_s a b (i / 2) by omega]
  · rw [if_neg (by omega), if_neg (by omega), show (2 * cx_s a b (i / 2) + i % 2) / 2 = cx_s a b (i / 2) by omega]
theorem cx_get {X : va_W} {c c' : Nat → Nat × va_E} {σ : Nat → Nat} (hσ : ∀ i, i < 312 → σ i < 312) (hc : ∀ i, c' i = c (σ i)) (k : Nat) (q : Nat × va_E) (hk : (X ++ cw c')[k]? = some q) : (X ++ cw c)[if k < X.length then k else X.length + σ (k - X.length)]? = some q := by
  by_cases h : k < X.length
  · rw [if_pos h, List.getElem?_append_left h]
    rw [List.getElem?_append_left h] at hk
    exact hk
  · rw [if_neg h]
    rw [List.getElem?_append_right (by omega)] at hk
    have hl : k - X.length < 312 := by
      have := (List.getElem?_eq_some_iff.mp hk).1
      simpa [cw] using this
    rw [cw_at rfl (hσ _ hl)]
    unfold cw at hk
    rw [List.getElem?_map, List.getElem?_range hl] at hk
    rw [← hc]
    exact hk
theorem cx_P {D : va_G} {cl : List vw_C} {X : va_W} {H : Heap} {cA : ClassId} {hw qw : Nat → Nat} {gg : Nat → Nat → Nat} {ln : Nat → Nat} {sn : Nat → Int32} {a b : Nat} (ha : a < 156) (hb : b < 156) (h : va_P D cl (X ++ cw (cf cA hw qw gg ln sn)) H) : va_P D cl (X ++ cw (cf cA (fun j => hw (cx_s a b j)) (fun j => qw (cx_s a b j)) (fun j => gg (cx_s a b j)) (fun j => ln (cx_s a b j)) (fun j => sn (cx_s a b j)))) H :=
  h.by _ (cx_get (σ := cx_i a b) (fun i hi => by have := cx_lt ha hb (show i / 2 < 156 by omega); unfold cx_i; omega) (cx_cf a b))
theorem cx_D {A : Nat → Prop} {X : va_W} {cA : ClassId} {hw qw : Nat → Nat} {gg : Nat → Nat → Nat} {ln : Nat → Nat} {sn : Nat → Int32} {a b : Nat} (ha : a < 156) (hb : b < 156) (h : va_D A (X ++ cw (cf cA hw qw gg ln sn))) : va_D A (X ++ cw (cf cA (fun j => hw (cx_s a b j)) (fun j => qw (cx_s a b j)) (fun j => gg (cx_s a b j)) (fun j => ln (cx_s a b j)) (fun j => sn (cx_s a b j)))) := by
  refine h.by _ (cx_get (σ := cx_i a b) (fun i hi => by have := cx_lt ha hb (show i / 2 < 156 by omega); unfold cx_i; omega) (cx_cf a b)) (fun i j hi hj e => ?_)
  have hin : ∀ x y, cx_i a b x = cx_i a b y → x = y := by
    intro x y q
    unfold cx_i at q
    have h1 : cx_s a b (x / 2) = cx_s a b (y / 2) := by omega
    have h2 : x / 2 = y / 2 := by rw [← cx_ss a b (x / 2), h1, cx_ss]
    omega
  by_cases h1 : i < X.length <;> by_cases h2 : j < X.length
  · rw [if_pos h1, if_pos h2] at e; exact e
  · rw [if_pos h1, if_neg h2] at e; omega
  · rw [if_neg h1, if_pos h2] at e; omega
  · rw [if_neg h1, if_neg h2] at e
    have := hin _ _ (Nat.add_left_cancel e)
    omega
theorem xp_P {D : va_G} {cl : List vw_C} {ws wc : va_W} {H : Heap} (h : va_P D cl ws H) (is : List Nat) (hs : is.map (fun i => ws[i]?) = wc.map some) : va_P D cl wc H := by
  intro k q hk
  obtain ⟨i, -, hi⟩ := va_in_of is hs hk
  exact h i q hi
/-- a call that has the whole world -/
theorem xp_all {A : Nat → Prop} {ws : va_W} {H0 H : Heap} {locs : List Loc} (hD : va_D A ws) (hS : va_S A H0 H locs) (hA : ∀ q, H0.size ≤ q → A q) : ∀ q, va_A ws H.size q → A q := by
  intro q h
  rcases h with ⟨k, e, h⟩ | h
  · exact hD.2 k (q, e) h
  · exact hA q (Nat.le_trans hS.1 h)
