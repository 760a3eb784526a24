-- A COPIED NUMBER
theorem cp_n {cap capn : Nat} {F fn fo : Nat → Nat} {lenn : Nat} {sgn : Int32} (h : wh_ok capn fn lenn sgn) (hfit : lenn ≤ cap) (hfo : ∀ i, fo i < 2147483648) (he : ∀ i, F i = if i < lenn then fn i else fo i) : lb_n cap F lenn ∧ lb_v F lenn = lb_v fn lenn ∧ wh_ok cap F lenn sgn := by
  have h1 : ∀ i, F i < 2147483648 := fun i => by
    rw [he i]
    have := h.2.1 i
    have := hfo i
    split <;> omega
  have h2 : ∀ k, lenn = k + 1 → F k ≠ 0 := fun k hk => by
    rw [he k, if_pos (by omega)]
    exact h.2.2.2.2 k hk
  exact ⟨⟨hfit, h1, h2⟩, lb_congr lenn (fun i hi => by rw [he i, if_pos hi]), hfit, h1, h.2.2.1, h.2.2.2.1, h2⟩
