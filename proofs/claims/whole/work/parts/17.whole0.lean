-- WHOLES: powers of two in a number, its length in bits, its order
theorem ct_ex (x : Nat) (h : x ≠ 0) : ∃ t o, x = 2 ^ t * o ∧ o % 2 = 1 := by
  induction x using Nat.strongRecOn with
  | ind x ih =>
    rcases (show x % 2 = 1 ∨ x % 2 = 0 by omega) with q | q
    · exact ⟨0, x, by simp, q⟩
    · obtain ⟨t, o, h1, h2⟩ := ih (x / 2) (by omega) (by omega)
      refine ⟨t + 1, o, ?_, h2⟩
      rw [Nat.pow_succ, Nat.mul_right_comm, ← h1]
      omega
theorem ct_main {f : Nat → Nat} {len i t o : Nat} (hz : ∀ j, j < i → f j = 0) (hi : i < len) (hx : f i = 2 ^ t * o) (ho : o % 2 = 1) (ht : t < 31) : ∃ o', lb_v f len = 2 ^ (i * 31 + t) * o' ∧ o' % 2 = 1 := by
  obtain ⟨b, rfl⟩ : ∃ b, len = i + (1 + b) := ⟨len - i - 1, by omega⟩
  have h1 := lb_add f i (1 + b)
  have h2 := lb_add (fun j => f (i + j)) 1 b
  have h3 : lb_v f i = 0 := by
    rw [lb_zero (a := 0) (Nat.zero_le _) (fun j _ hj => hz j hj)]
    rfl
  have h4 : lb_v (fun j => f (i + j)) 1 = f i := by simp [lb_v, lb_p]
  have hp : (2147483648 : Nat) = 2 ^ t * 2 ^ (31 - t) := by
    rw [← Nat.pow_add, show t + (31 - t) = 31 by omega]
  have he : 2 ^ (31 - t) % 2 = 0 := by
    obtain ⟨k, hk⟩ : ∃ k, 31 - t = k + 1 := ⟨31 - t - 1, by omega⟩
    rw [hk, Nat.pow_succ]
    omega
  refine ⟨o + 2 ^ (31 - t) * lb_v (fun j => f (i + (1 + j))) b, ?_, ?_⟩
  · rw [h1, h2, h3, h4, hx, lb_p2, show lb_p 1 = 2147483648 from rfl, hp, Nat.pow_add, Nat.mul_comm 31 i]
    generalize 2 ^ (i * 31) = P
    generalize 2 ^ t = A
    generalize 2 ^ (31 - t) = B
    generalize lb_v (fun j => f (i + (1 + j))) b = C
    grind
  · rw [Nat.add_mod, Nat.mul_mod, he, ho]
    simp
theorem bl_main {f : Nat → Nat} {k b : Nat} (hf : ∀ i, f i < 2147483648) (h1 : 2 ^ b ≤ f k) (h2 : f k < 2 ^ (b + 1)) : 2 ^ (k * 31 + b) ≤ lb_v f (k + 1) ∧ lb_v f (k + 1) < 2 ^ (k * 31 + b + 1) := by
  have h3 := lb_lt k (fun i _ => hf i)
  have h4 : lb_p k = 2 ^ (k * 31) := by rw [lb_p2, Nat.mul_comm]
  have h5 : 2 ^ b * lb_p k ≤ f k * lb_p k := Nat.mul_le_mul_right _ h1
  have h6 : (f k + 1) * lb_p k ≤ 2 ^ (b + 1) * lb_p k := Nat.mul_le_mul_right _ h2
  rw [Nat.add_mul, Nat.one_mul] at h6
  have h7 : 2 ^ (k * 31 + b) = 2 ^ b * lb_p k := by rw [h4, ← Nat.pow_add, Nat.add_comm]
  have h8 : 2 ^ (k * 31 + b + 1) = 2 ^ (b + 1) * lb_p k := by rw [h4, ← Nat.pow_add]; congr 1; omega
  rw [h7, h8, lb_v1]
  omega
theorem wh_sign {cap : Nat} {f : Nat → Nat} {len : Nat} {sg : Int32} (h : wh_ok cap f len sg) : (sg = 0 ∧ wh_z f len sg = 0) ∨ (sg = 1 ∧ 0 < wh_z f len sg) ∨ (sg = -1 ∧ wh_z f len sg < 0) := by
  have hp := wh_pos h
  obtain ⟨h1, h2, h3, h4, h5⟩ := h
  unfold wh_z
  rcases h3 with e | e | e
  · exact Or.inl ⟨e, by rw [e, wh_t0]; omega⟩
  · have := hp (Nat.pos_of_ne_zero (fun q => by have := h4.mpr q; rw [e] at this; exact absurd this (by decide)))
    exact Or.inr (Or.inl ⟨e, by rw [e, wh_t1]; omega⟩)
  · have := hp (Nat.pos_of_ne_zero (fun q => by have := h4.mpr q; rw [e] at this; exact absurd this (by decide)))
    exact Or.inr (Or.inr ⟨e, by rw [e, wh_tm]; omega⟩)
def wh_c (a b : Int) : Int32 := if a < b then -1 else if b < a then 1 else 0
theorem wh_ord {cap capb : Nat} {f fb : Nat → Nat} {len lenb : Nat} {sg : Int32} (h : wh_ok cap f len sg) (hb : wh_ok capb fb lenb sg) : sg * (if lb_v f len < lb_v fb lenb then -1 else if lb_v fb lenb < lb_v f len then 1 else 0) = wh_c (wh_z f len sg) (wh_z fb lenb sg) := by
  unfold wh_c wh_z
  rcases h.2.2.1 with e | e | e
  · rw [e, wh_t0, Int32.zero_mul, if_neg (by omega), if_neg (by omega)]
  · rw [e, wh_t1]
    rcases (show lb_v f len < lb_v fb lenb ∨ lb_v fb lenb < lb_v f len ∨ lb_v f len = lb_v fb lenb by omega) with q | q | q
    · rw [if_pos q, if_pos (by omega)]; decide
    · rw [if_neg (by omega), if_pos q, if_neg (by omega), if_pos (by omega)]; decide
    · rw [if_neg (by omega), if_neg (by omega), if_neg (by omega), if_neg (by omega)]; decide
  · rw [e, wh_tm]
    rcases (show lb_v f len < lb_v fb lenb ∨ lb_v fb lenb < lb_v f len ∨ lb_v f len = lb_v fb lenb by omega) with q | q | q
    · rw [if_pos q, if_neg (by omega), if_pos (by omega)]; decide
    · rw [if_neg (by omega), if_pos q, if_pos (by omega)]; decide
    · rw [if_neg (by omega), if_neg (by omega), if_neg (by omega), if_neg (by omega)]; decide
theorem wh_ordN {cap capb : Nat} {f fb : Nat → Nat} {len lenb : Nat} {sg sgb : Int32} (h : wh_ok cap f len sg) (hb : wh_ok capb fb lenb sgb) (hne : ¬ sg = sgb) : (sgb ≤ sg → wh_c (wh_z f len sg) (wh_z fb lenb sgb) = 1) ∧ (¬ sgb ≤ sg → wh_c (wh_z f len sg) (wh_z fb lenb sgb) = -1) := by
  unfold wh_c
  rcases wh_sign h with ⟨e, z⟩ | ⟨e, z⟩ | ⟨e, z⟩ <;> rcases wh_sign hb with ⟨e2, z2⟩ | ⟨e2, z2⟩ | ⟨e2, z2⟩ <;>
    first
    | exact absurd (e.trans e2.symm) hne
    | exact ⟨fun _ => by rw [if_neg (by omega), if_pos (by omega)], fun q => absurd (by rw [e, e2]; decide) q⟩
    | exact ⟨fun q => absurd q (by rw [e, e2]; decide), fun _ => by rw [if_pos (by omega)]⟩
