-- THE CELLS' VALUES
def wz (g : Nat → Nat → Nat) (l : Nat → Nat) (s : Nat → Int32) (p : Nat) : Int := wh_z (g p) (l p) (s p)
def wk (g : Nat → Nat → Nat) (l : Nat → Nat) (s : Nat → Int32) : Prop := ∀ p, p < 156 → wh_ok 26 (g p) (l p) (s p)
theorem wh_neg {cap : Nat} {f : Nat → Nat} {len : Nat} {sg : Int32} (h : wh_ok cap f len sg) : wh_ok cap f len (-sg) ∧ wh_z f len (-sg) = - wh_z f len sg := by
  have hsg : wh_sg (-sg) ∧ ((-sg) = 0 ↔ sg = 0) ∧ (-sg).toInt = - sg.toInt := by
    rcases h.2.2.1 with q | q | q
    · subst q; exact ⟨Or.inl (by decide), by decide, by decide⟩
    · subst q; exact ⟨Or.inr (Or.inr rfl), by decide, by decide⟩
    · subst q; exact ⟨Or.inr (Or.inl (by decide)), by decide, by decide⟩
  refine ⟨⟨h.1, h.2.1, hsg.1, hsg.2.1.trans h.2.2.2.1, h.2.2.2.2⟩, ?_⟩
  unfold wh_z
  rw [hsg.2.2, Int.neg_mul]
theorem cx_f {hw : Nat → Nat} {a b : Nat} (hne : a ≠ b) : va_up (va_up (fun j => some (hw j)) a (some (hw b))) b (some (hw a)) = fun j => some ((fun j => hw (cx_s a b j)) j) := by
  funext j
  unfold va_up cx_s
  by_cases h1 : j = a
  · subst h1
    simp [hne]
  · by_cases h2 : j = b <;> simp [h1, h2, Ne.symm hne]
/-- what a swap of two cells, the first one negated, leaves -/
theorem sw_ok {g : Nat → Nat → Nat} {l : Nat → Nat} {s : Nat → Int32} {a b : Nat} (ha : a < 156) (hb : b < 156) (hne : a ≠ b) (h : wk g l s) :
    wk (fun j => g (cx_s a b j)) (fun j => l (cx_s a b j)) (fun j => va_up s a (-(s a)) (cx_s a b j)) ∧ (∀ p, wz (fun j => g (cx_s a b j)) (fun j => l (cx_s a b j)) (fun j => va_up s a (-(s a)) (cx_s a b j)) p = if p = a then wz g l s b else if p = b then - wz g l s a else wz g l s p) := by
  have key : ∀ p, p = a ∨ p = b ∨ (p ≠ a ∧ p ≠ b) := fun p => by omega
  have sa : cx_s a b a = b := by simp [cx_s]
  have sb : cx_s a b b = a := by
    unfold cx_s
    rw [if_neg (fun q => hne q.symm), if_pos rfl]
  have so : ∀ p, p ≠ a → p ≠ b → cx_s a b p = p := fun p h1 h2 => by simp [cx_s, h1, h2]
  constructor
  · intro p hp
    show wh_ok 26 (g (cx_s a b p)) (l (cx_s a b p)) (va_up s a (-(s a)) (cx_s a b p))
    rcases key p with q | q | ⟨q1, q2⟩
    · rw [q, sa, va_up_ne _ _ (fun z => hne z.symm)]; exact h b hb
    · rw [q, sb, va_up_self]; exact (wh_neg (h a ha)).1
    · rw [so p q1 q2, va_up_ne _ _ q1]; exact h p hp
  · intro p
    show wh_z (g (cx_s a b p)) (l (cx_s a b p)) (va_up s a (-(s a)) (cx_s a b p)) = _
    rcases key p with q | q | ⟨q1, q2⟩
    · rw [q, sa, va_up_ne _ _ (fun z => hne z.symm), if_pos rfl]; rfl
    · rw [q, sb, va_up_self, if_neg (fun z => hne z.symm), if_pos rfl, (wh_neg (h a ha)).2]; rfl
    · rw [so p q1 q2, va_up_ne _ _ q1, if_neg q1, if_neg q2]; rfl
theorem bn_51 {x y : Nat} (hx : x < 2 ^ 785) (hy : y < 2 ^ 785) : x * y < lb_p 51 := by
  have h1 : x * y < 2 ^ 785 * 2 ^ 785 := Nat.mul_lt_mul'' hx hy
  have h2 : (2 : Nat) ^ 785 * 2 ^ 785 < lb_p 51 := by decide +kernel
  omega
theorem bn_26 {x : Nat} (hx : x < 2 ^ 785) : x < lb_p 26 := by
  have h2 : (2 : Nat) ^ 785 < lb_p 26 := by decide +kernel
  omega
theorem bn_len {cap : Nat} {f : Nat → Nat} {len : Nat} {sg : Int32} {z : Int} (h : wh_ok cap f len sg) (hz : wh_z f len sg = z) (hb : z.natAbs < lb_p 51) : len < 52 := by
  have h1 := wh_abs h
  rw [hz] at h1
  have := wh_lenle h (n := 51) (by omega)
  omega
theorem bn_len26 {cap : Nat} {f : Nat → Nat} {len : Nat} {sg : Int32} {z : Int} (h : wh_ok cap f len sg) (hz : wh_z f len sg = z) (hb : z.natAbs < 2 ^ 785) : len ≤ 26 := by
  have h1 := wh_abs h
  rw [hz] at h1
  exact wh_lenle h (n := 26) (by have := bn_26 hb; omega)
theorem wk_up {g : Nat → Nat → Nat} {l : Nat → Nat} {s : Nat → Int32} {c : Nat} {G : Nat → Nat} {L : Nat} {S : Int32} (h : wk g l s) (hG : wh_ok 26 G L S) : wk (va_up g c G) (va_up l c L) (va_up s c S) := by
  intro p hp
  by_cases q : p = c
  · subst q; rw [va_up_self, va_up_self, va_up_self]; exact hG
  · rw [va_up_ne _ _ q, va_up_ne _ _ q, va_up_ne _ _ q]; exact h p hp
theorem wz_up {g : Nat → Nat → Nat} {l : Nat → Nat} {s : Nat → Int32} {c : Nat} {G : Nat → Nat} {L : Nat} {S : Int32} (p : Nat) : wz (va_up g c G) (va_up l c L) (va_up s c S) p = if p = c then wh_z G L S else wz g l s p := by
  unfold wz
  by_cases q : p = c
  · subst q; rw [va_up_self, va_up_self, va_up_self, if_pos rfl]
  · rw [va_up_ne _ _ q, va_up_ne _ _ q, va_up_ne _ _ q, if_neg q]
