-- THE RESULT OF A DIVISION IN LOWEST TERMS
theorem wh_sgn {cap : Nat} {f : Nat → Nat} {len : Nat} {sg : Int32} (h : wh_ok cap f len sg) : sg.toInt = (wh_z f len sg).sign := by
  rcases wh_sign h with ⟨e, h9⟩ | ⟨e, h9⟩ | ⟨e, h9⟩
  · rw [h9, e]; decide
  · rw [Int.sign_eq_one_of_pos h9, e]; decide
  · rw [Int.sign_eq_neg_one_of_neg h9, e]; decide
theorem rs_val {cu ce : Nat} {fu fe : Nat → Nat} {lu le g : Nat} {su se : Int32} {z d Qn Qd : Int} (hu : wh_ok cu fu lu su) (he : wh_ok ce fe le se) (h1 : wh_z fu lu su = Qn) (h2 : wh_z fe le se = Qd) (hz : z = Qn * (g : Int)) (hd : d = Qd * (g : Int)) (hg : 0 < g) :
    lb_v fu lu = z.natAbs / g ∧ lb_v fe le = d.natAbs / g ∧ su.toInt = z.sign ∧ se.toInt = d.sign := by
  have hgs : ((g : Int)).sign = 1 := Int.sign_eq_one_of_pos (by omega)
  refine ⟨?_, ?_, ?_, ?_⟩
  · rw [← wh_abs hu, h1, hz, Int.natAbs_mul, Int.natAbs_natCast, Nat.mul_div_cancel _ hg]
  · rw [← wh_abs he, h2, hd, Int.natAbs_mul, Int.natAbs_natCast, Nat.mul_div_cancel _ hg]
  · rw [wh_sgn hu, h1, hz, Int.sign_mul, hgs, Int.mul_one]
  · rw [wh_sgn he, h2, hd, Int.sign_mul, hgs, Int.mul_one]
theorem rs_dv {z : Int} {g : Nat} (h : g ∣ z.natAbs) : ∃ Q : Int, z = Q * (g : Int) := by
  obtain ⟨Q, hQ⟩ := Int.ofNat_dvd_left.mpr h
  exact ⟨Q, by rw [hQ, Int.mul_comm]⟩
theorem rs_1 (x : Int) : x * ((1 : Int32).toInt * x) = x * x := by
  rw [wh_t1, Int.one_mul]
theorem rs_neg {s : Int32} (h : wh_sg s) : (-s).toInt = - s.toInt := by
  rcases h with e | e | e <;> rw [e] <;> decide
