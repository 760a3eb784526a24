-- A WHOLE: limbs g in an array of cap places, the first len of them in use, the sign sg
def wh_sg (sg : Int32) : Prop := sg = 0 ∨ sg = 1 ∨ sg = -1
def wh_ok (cap : Nat) (g : Nat → Nat) (len : Nat) (sg : Int32) : Prop := len ≤ cap ∧ (∀ i, g i < 2147483648) ∧ wh_sg sg ∧ (sg = 0 ↔ len = 0) ∧ (∀ k, len = k + 1 → g k ≠ 0)
def wh_z (g : Nat → Nat) (len : Nat) (sg : Int32) : Int := sg.toInt * (lb_v g len : Int)
theorem wh_t0 : (0 : Int32).toInt = 0 := by decide
theorem wh_t1 : (1 : Int32).toInt = 1 := by decide
theorem wh_tm : (-1 : Int32).toInt = -1 := by decide
theorem wh_abs {cap : Nat} {g : Nat → Nat} {len : Nat} {sg : Int32} (h : wh_ok cap g len sg) : (wh_z g len sg).natAbs = lb_v g len := by
  obtain ⟨h1, h2, h3, h4, h5⟩ := h
  unfold wh_z
  rcases h3 with e | e | e
  · have := h4.mp e
    subst this
    simp [lb_v]
  · rw [e, wh_t1]
    omega
  · rw [e, wh_tm]
    omega
theorem wh_len {cap : Nat} {g : Nat → Nat} {len : Nat} {sg : Int32} (h : wh_ok cap g len sg) : lb_v g len < lb_p len ∧ (∀ k, len = k + 1 → lb_p k ≤ lb_v g len) := by
  obtain ⟨h1, h2, h3, h4, h5⟩ := h
  refine ⟨lb_lt len (fun i _ => h2 i), fun k hk => ?_⟩
  subst hk
  exact lb_top (h5 k rfl)
/-- how many limbs a number of so many bits has at most -/
theorem wh_lenle {cap : Nat} {g : Nat → Nat} {len n : Nat} {sg : Int32} (h : wh_ok cap g len sg) (hn : lb_v g len < lb_p n) : len ≤ n := by
  rcases Nat.lt_or_ge n len with q | q
  · obtain ⟨k, rfl⟩ : ∃ k, len = k + 1 := ⟨len - 1, by omega⟩
    have h1 := (wh_len h).2 k rfl
    have h2 := lb_ple (show n ≤ k by omega)
    omega
  · exact q
/-- a number's sign is that of its value -/
theorem wh_pos {cap : Nat} {g : Nat → Nat} {len : Nat} {sg : Int32} (h : wh_ok cap g len sg) : 0 < len → 0 < lb_v g len := by
  intro hl
  obtain ⟨k, rfl⟩ : ∃ k, len = k + 1 := ⟨len - 1, by omega⟩
  have h1 := (wh_len h).2 k rfl
  have h2 := lb_pp k
  omega
theorem wh_z0 {cap : Nat} {g : Nat → Nat} {len : Nat} {sg : Int32} (h : wh_ok cap g len sg) : wh_z g len sg = 0 ↔ sg = 0 := by
  have hp := wh_pos h
  have ha := wh_abs h
  obtain ⟨h1, h2, h3, h4, h5⟩ := h
  constructor
  · intro e
    rw [e] at ha
    apply h4.mpr
    rcases Nat.eq_zero_or_pos len with q | q
    · exact q
    · have := hp q
      simp at ha
      omega
  · intro e
    unfold wh_z
    rw [e, wh_t0]
    omega
theorem wh_n {cap : Nat} {f : Nat → Nat} {len : Nat} {sg : Int32} (h : wh_ok cap f len sg) : lb_n cap f len := ⟨h.1, h.2.1, h.2.2.2.2⟩
theorem wh_mulS {cap capa capb len2 lena lenb : Nat} {F fa fb : Nat → Nat} {sg2 sga sgb : Int32} (ha : wh_ok capa fa lena sga) (hb : wh_ok capb fb lenb sgb) (hF : ∀ i, F i < 2147483648) (hl : len2 ≤ cap) (hz : ∀ k, len2 = k + 1 → F k ≠ 0) (hs : sg2 = if len2 = 0 then 0 else sga * sgb) (hv : sga * sgb ≠ 0 → lb_v F len2 = lb_v fa lena * lb_v fb lenb) (h0 : sga * sgb = 0 → len2 = 0) :
    wh_ok cap F len2 sg2 ∧ wh_z F len2 sg2 = wh_z fa lena sga * wh_z fb lenb sgb := by
  have hpa := wh_pos ha
  have hpb := wh_pos hb
  have za := ha.2.2.2.1
  have zb := hb.2.2.2.1
  by_cases e : sga * sgb = 0
  · have e2 := h0 e
    subst e2
    rw [if_pos rfl] at hs
    subst hs
    refine ⟨⟨hl, hF, Or.inl rfl, ⟨fun _ => rfl, fun _ => rfl⟩, hz⟩, ?_⟩
    have h2 : wh_z fa lena sga = 0 ∨ wh_z fb lenb sgb = 0 := by
      rcases ha.2.2.1 with q | q | q
      · exact Or.inl ((wh_z0 ha).mpr q)
      all_goals
        rcases hb.2.2.1 with r | r | r
        · exact Or.inr ((wh_z0 hb).mpr r)
        all_goals
          rw [q, r] at e
          exact absurd e (by decide)
    have h3 : wh_z F 0 0 = 0 := by simp [wh_z, lb_v]
    rw [h3]
    rcases h2 with q | q <;> rw [q] <;> simp
  · have hv := hv e
    have na : sga ≠ 0 := fun q => e (by rw [q]; exact Int32.zero_mul)
    have nb : sgb ≠ 0 := fun q => e (by rw [q]; exact Int32.mul_zero)
    have pa := hpa (Nat.pos_of_ne_zero (fun q => na (za.mpr q)))
    have pb := hpb (Nat.pos_of_ne_zero (fun q => nb (zb.mpr q)))
    have pv : 0 < lb_v F len2 := by rw [hv]; exact Nat.mul_pos pa pb
    have n2 : len2 ≠ 0 := fun q => by subst q; simp [lb_v] at pv
    rw [if_neg n2] at hs
    subst hs
    have hz2 : wh_z F len2 (sga * sgb) = wh_z fa lena sga * wh_z fb lenb sgb := by
      unfold wh_z
      rw [hv, Int.natCast_mul]
      rcases ha.2.2.1 with q | q | q
      · exact absurd q na
      all_goals
        rcases hb.2.2.1 with r | r | r
        · exact absurd r nb
        all_goals
          rw [q, r]
          first
          | (rw [show ((1 : Int32) * 1).toInt = 1 by decide, show (1 : Int32).toInt = 1 by decide]; grind)
          | (rw [show ((1 : Int32) * -1).toInt = -1 by decide, show (1 : Int32).toInt = 1 by decide, show (-1 : Int32).toInt = -1 by decide]; grind)
          | (rw [show ((-1 : Int32) * 1).toInt = -1 by decide, show (1 : Int32).toInt = 1 by decide, show (-1 : Int32).toInt = -1 by decide]; grind)
          | (rw [show ((-1 : Int32) * -1).toInt = 1 by decide, show (-1 : Int32).toInt = -1 by decide]; grind)
    refine ⟨⟨hl, hF, ?_, ⟨fun q => absurd q e, fun q => absurd q n2⟩, hz⟩, hz2⟩
    rcases ha.2.2.1 with q | q | q
    · exact absurd q na
    all_goals
      rcases hb.2.2.1 with r | r | r
      · exact absurd r nb
      all_goals
        rw [q, r]
        unfold wh_sg
        decide
theorem wh_of {cap : Nat} {F : Nat → Nat} {len2 : Nat} {sg2 : Int32} (hn : lb_n cap F len2) (hs : wh_sg sg2) (h0 : sg2 = 0 ↔ len2 = 0) : wh_ok cap F len2 sg2 := ⟨hn.1, hn.2.1, hs, h0, hn.2.2⟩
theorem wh_addS {cap capb len lenb len2 : Nat} {f fb F : Nat → Nat} {sg sgb : Int32} (ho : wh_ok cap f len sg) (hob : wh_ok capb fb lenb sgb) (hne : ¬ sg = sgb) (h0 : ¬ sg = 0) (h0b : ¬ sgb = 0) (hn : lb_n cap F len2) (hv : lb_v F len2 = lb_v f len + lb_v fb lenb) :
    wh_ok cap F len2 sg ∧ wh_z F len2 sg = wh_z f len sg - wh_z fb lenb sgb := by
  have p1 := wh_pos ho (Nat.pos_of_ne_zero (fun q => h0 (ho.2.2.2.1.mpr q)))
  have n2 : ¬ len2 = 0 := fun q => by have := (lb_n0 hn).mpr q; omega
  refine ⟨wh_of hn ho.2.2.1 ⟨fun q => absurd q h0, fun q => absurd q n2⟩, ?_⟩
  unfold wh_z
  rw [hv, Int.natCast_add]
  rcases ho.2.2.1 with q | q | q
  · exact absurd q h0
  all_goals
    rcases hob.2.2.1 with r | r | r
    · exact absurd r h0b
    all_goals
      first
      | exact absurd (q.trans r.symm) hne
      | (rw [q, r, wh_t1, wh_tm]; omega)
theorem wh_difA {cap capb len lenb len2 : Nat} {f fb F : Nat → Nat} {sg sgb sg2 : Int32} (ho : wh_ok cap f len sg) (hob : wh_ok capb fb lenb sgb) (he : sg = sgb) (h0 : ¬ sg = 0) (hle : lb_v fb lenb ≤ lb_v f len) (hn : lb_n cap F len2) (hv : lb_v F len2 = lb_v f len - lb_v fb lenb) (hs : sg2 = if len2 = 0 then 0 else sg) :
    wh_ok cap F len2 sg2 ∧ wh_z F len2 sg2 = wh_z f len sg - wh_z fb lenb sgb := by
  subst he
  by_cases e : len2 = 0
  · rw [if_pos e] at hs
    have hv0 := (lb_n0 hn).mpr e
    subst hs
    refine ⟨wh_of hn (Or.inl rfl) ⟨fun _ => e, fun _ => rfl⟩, ?_⟩
    unfold wh_z
    rw [show lb_v f len = lb_v fb lenb by omega, wh_t0]
    omega
  · rw [if_neg e] at hs
    subst hs
    refine ⟨wh_of hn ho.2.2.1 ⟨fun q => absurd q h0, fun q => absurd q e⟩, ?_⟩
    unfold wh_z
    rw [hv, Int.ofNat_sub hle, Int.mul_sub]
theorem wh_difB {cap capb len lenb len2 : Nat} {f fb F : Nat → Nat} {sg sgb sg2 : Int32} (ho : wh_ok cap f len sg) (hob : wh_ok capb fb lenb sgb) (he : sg = sgb) (h0 : ¬ sg = 0) (hle : lb_v f len ≤ lb_v fb lenb) (hn : lb_n cap F len2) (hv : lb_v F len2 = lb_v fb lenb - lb_v f len) (hs : sg2 = if len2 = 0 then 0 else -sg) :
    wh_ok cap F len2 sg2 ∧ wh_z F len2 sg2 = wh_z f len sg - wh_z fb lenb sgb := by
  subst he
  by_cases e : len2 = 0
  · rw [if_pos e] at hs
    have hv0 := (lb_n0 hn).mpr e
    subst hs
    refine ⟨wh_of hn (Or.inl rfl) ⟨fun _ => e, fun _ => rfl⟩, ?_⟩
    unfold wh_z
    rw [show lb_v f len = lb_v fb lenb by omega, wh_t0]
    omega
  · rw [if_neg e] at hs
    subst hs
    have hsg : wh_sg (-sg) ∧ ¬ (-sg) = 0 ∧ (-sg).toInt = - sg.toInt := by
      rcases ho.2.2.1 with q | q | q
      · exact absurd q h0
      · subst q; exact ⟨Or.inr (Or.inr rfl), by decide, by decide⟩
      · subst q; exact ⟨Or.inr (Or.inl (by decide)), by decide, by decide⟩
    refine ⟨wh_of hn hsg.1 ⟨fun q => absurd q hsg.2.1, fun q => absurd q e⟩, ?_⟩
    unfold wh_z
    rw [hv, hsg.2.2, Int.ofNat_sub hle, Int.mul_sub]
    rw [Int.neg_mul, Int.neg_mul]
    omega
theorem wh_negS {cap capb len lenb : Nat} {f fb F : Nat → Nat} {sg sgb : Int32} (ho : wh_ok cap f len sg) (hob : wh_ok capb fb lenb sgb) (h0 : sg = 0) (hl : lenb ≤ cap) (hF : ∀ i, F i < 2147483648) (he : ∀ i, i < lenb → F i = fb i) :
    wh_ok cap F lenb (-sgb) ∧ wh_z F lenb (-sgb) = wh_z f len sg - wh_z fb lenb sgb := by
  have hsg : wh_sg (-sgb) ∧ ((-sgb) = 0 ↔ sgb = 0) ∧ (-sgb).toInt = - sgb.toInt := by
    rcases hob.2.2.1 with q | q | q
    · subst q; exact ⟨Or.inl (by decide), by decide, by decide⟩
    · subst q; exact ⟨Or.inr (Or.inr rfl), by decide, by decide⟩
    · subst q; exact ⟨Or.inr (Or.inl (by decide)), by decide, by decide⟩
  refine ⟨⟨hl, hF, hsg.1, hsg.2.1.trans hob.2.2.2.1, fun k hk => by rw [he k (by omega)]; exact hob.2.2.2.2 k hk⟩, ?_⟩
  have hz := (wh_z0 ho).mpr h0
  rw [hz]
  unfold wh_z
  rw [lb_congr lenb he, hsg.2.2, Int.neg_mul]
  omega
