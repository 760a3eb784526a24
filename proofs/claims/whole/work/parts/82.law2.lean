-- THE LAW: HOW THE DESK STANDS TO THE REFERENCE, AND WHAT EACH CALL KEEPS OF IT
abbrev dv (x0 gv cl d0 h0d q0d h0u q0u h0e q0e h0p q0p h0q q0q h0o q0o h0r q0r : Nat) (cA cJ cW : ClassId) (D : dS) : va_W := dw x0 gv cl d0 h0d q0d h0u q0u h0e q0e h0p q0p h0q q0q h0o q0o h0r q0r cA cJ cW D.n D.sv D.a D.lend D.fd D.sgd D.lenu D.fu D.sgu D.lene D.fe D.sge D.lenp D.fp D.sgp D.lenq D.fq D.sgq D.leno D.fo D.sgo D.lenr D.fr D.sgr D.tw D.iv D.hw D.qw D.gg D.ln D.sn
abbrev mv (m0 ma mS mt mo mb mg mh mr : Nat) (cA cJ : ClassId) (M : mT) : va_W := mw m0 ma mS mt mo mb mg mh mr cA cJ M.er M.n M.sv M.a M.S M.ft M.fo M.fb M.fg M.fh M.fr
abbrev ob (ou : Nat) (cJ : ClassId) (o1 : Nat → Int64) : va_W := [(ou, .inl (cJ, 1, .inr (.inl o1)))]
def lw_R (D : dS) (M : mT) : Prop := dG D ∧ mG M ∧ D.n = M.n ∧ D.sv = M.sv ∧ D.a = M.a ∧ dN D = dg_v M.fo 56 ∧ dE D = dg_v M.fb 56
theorem lr_i {i : Int32} {a : Nat} (h : i = nI a) (ha : a ≤ 12) : i.toInt = (a : Int) := by rw [h]; exact nI_toInt (by omega)
theorem lr_u {i : Int32} {a b : Nat} (h : i = nI a) (ha : a ≤ 12) (h2 : i = nI b) (hb : b ≤ 12) : a = b := (nI_eq (by omega) (by omega)).mp (h.symm.trans h2)
theorem lr_size {D : dS} {M : mT} {k : Int32} {rr : Int32} {u : dS × (Nat → Int64)} {w : mT} (hR : lw_R D M) (h1 : (fun (rr : Int32) (u : dS × (Nat → Int64)) => (rr = 0 ∧ (fun u => dG u ∧ (u.n : Int) = k.toInt ∧ 0 ≤ k.toInt ∧ k.toInt ≤ 12 ∧ u.sv = 0 ∧ u.a = (fun _ => 0) ∧ dN u = dN D ∧ dE u = dE D) u.1) ∨ (rr = 1 ∧ (¬ (0 ≤ k.toInt ∧ k.toInt ≤ 12)) ∧ u.1 = D)) rr u) (h2 : (fun (u : mT) => mG u ∧ ((0 ≤ k.toInt ∧ k.toInt ≤ 12 ∧ u.er = 0 ∧ (u.n : Int) = k.toInt ∧ u.sv = 0 ∧ u.a = fun _ => 0) ∨ (¬ (0 ≤ k.toInt ∧ k.toInt ≤ 12) ∧ u.er = 1 ∧ u.n = M.n ∧ u.sv = M.sv ∧ u.a = M.a)) ∧ u.fo = M.fo ∧ u.fb = M.fb) w) : w.er = rr ∧ lw_R u.1 w := by
  obtain ⟨g1, g2, e1, e2, e3, e4, e5⟩ := hR
  have hn : M.n ≤ 12 := g2.1
  obtain ⟨m1, m2, m3, m4⟩ := h2
  rcases h1 with ⟨hr, q1, q2, q3, q4, q5, q6, q7, q8⟩ | ⟨hr, q1, q2⟩
  · rcases m2 with ⟨w1, w2, w3, w4, w5, w6⟩ | ⟨w1, -⟩
    · exact ⟨by rw [w3, hr], q1, m1, by have := q2.trans w4.symm; omega, by rw [q5, w5], by rw [q6, w6], by rw [q7, m3]; exact e4, by rw [q8, m4]; exact e5⟩
    · exact absurd ⟨q3, q4⟩ w1
  · rcases m2 with ⟨w1, w2, -⟩ | ⟨w1, w2, w3, w4, w5⟩
    · exact absurd ⟨w1, w2⟩ q1
    · rw [q2]
      exact ⟨by rw [w2, hr], g1, m1, by rw [w3, e1], by rw [w4, e2], by rw [w5, e3], by rw [m3]; exact e4, by rw [m4]; exact e5⟩
theorem lr_put {D : dS} {M : mT} {i j : Int32} {v : Int64} {r2 : Int64} {rr : Int32} {u : dS × (Nat → Int64)} {w : mT} (hR : lw_R D M) (h1 : (fun (rr : Int32) (u : dS × (Nat → Int64)) => (rr = 0 ∧ ∃ r : Int64, (fun r u => dG u ∧ (∃ i2 j2 : Nat, i = nI i2 ∧ j = nI j2 ∧ i2 < D.n ∧ j2 ≤ D.n ∧ r = D.a (i2 * 13 + j2) ∧ u.a = va_up D.a (i2 * 13 + j2) v) ∧ u.n = D.n ∧ u.sv = 0 ∧ dN u = dN D ∧ dE u = dE D) r u.1 ∧ u.2 0 = r) ∨ (rr = 1 ∧ (¬ (0 ≤ i.toInt ∧ i.toInt < D.n ∧ 0 ≤ j.toInt ∧ j.toInt ≤ D.n)) ∧ u.1 = D)) rr u) (h2 : (fun (r : Int64) (u : mT) => mG u ∧ ((∃ i2 j2 : Nat, i = nI i2 ∧ j = nI j2 ∧ i2 < M.n ∧ j2 ≤ M.n ∧ u.er = 0 ∧ r = M.a (i2 * 13 + j2) ∧ u.a = va_up M.a (i2 * 13 + j2) v ∧ u.sv = 0) ∨ (¬ (0 ≤ i.toInt ∧ i.toInt < M.n ∧ 0 ≤ j.toInt ∧ j.toInt ≤ M.n) ∧ u.er = 1 ∧ u.sv = M.sv ∧ u.a = M.a)) ∧ u.n = M.n ∧ u.fo = M.fo ∧ u.fb = M.fb) r2 w) : w.er = rr ∧ (rr = 0 → u.2 0 = r2) ∧ lw_R u.1 w := by
  obtain ⟨g1, g2, e1, e2, e3, e4, e5⟩ := hR
  have hn : M.n ≤ 12 := g2.1
  obtain ⟨m1, m2, m3, m4, m5⟩ := h2
  rcases h1 with ⟨hr, r, ⟨q1, ⟨i1, j1, a1, a2, a3, a4, a5, a6⟩, q3, q4, q5, q6⟩, q7⟩ | ⟨hr, q1, q2⟩
  · have x1 := lr_i a1 (by omega)
    have x2 := lr_i a2 (by omega)
    rcases m2 with ⟨i2, j2, b1, b2, b3, b4, b5, b6, b7, b8⟩ | ⟨c1, -⟩
    · have y1 : i1 = i2 := lr_u a1 (by omega) b1 (by omega)
      have y2 : j1 = j2 := lr_u a2 (by omega) b2 (by omega)
      subst y1
      subst y2
      exact ⟨by rw [b5, hr], fun _ => by rw [q7, a5, b6, e3], q1, m1, by rw [q3, m3, e1], by rw [q4, b8], by rw [a6, b7, e3], by rw [q5, m4]; exact e4, by rw [q6, m5]; exact e5⟩
    · exact absurd (by omega) c1
  · rcases m2 with ⟨i2, j2, b1, b2, b3, b4, -⟩ | ⟨c1, c2, c3, c4⟩
    · have x1 := lr_i b1 (by omega)
      have x2 := lr_i b2 (by omega)
      exact absurd (by omega) q1
    · rw [q2]
      exact ⟨by rw [c2, hr], fun h => absurd (hr.symm.trans h) (by decide), g1, m1, by rw [m3, e1], by rw [c3, e2], by rw [c4, e3], by rw [m4]; exact e4, by rw [m5]; exact e5⟩
theorem lr_solve {D : dS} {M : mT} {r r2 : Int32} {u : dS} {w : mT} (hR : lw_R D M) (h1 : (fun (r : Int32) (u : dS) => dG u ∧ r = u.sv ∧ u.n = D.n ∧ u.a = D.a ∧ (u.sv = 1 ↔ dt_d (dA D.a) D.n ≠ 0) ∧ dN u = dN D ∧ dE u = dE D) r u) (h2 : (fun (r : Int32) (u : mT) => mG u ∧ r = u.sv ∧ u.er = 0 ∧ u.n = M.n ∧ u.a = M.a ∧ (u.sv = 1 ↔ dt_d (dA M.a) M.n ≠ 0) ∧ u.fo = M.fo ∧ u.fb = M.fb) r2 w) : r = r2 ∧ lw_R u w := by
  obtain ⟨g1, g2, e1, e2, e3, e4, e5⟩ := hR
  obtain ⟨q1, q2, q3, q4, q5, q6, q7⟩ := h1
  obtain ⟨m1, m2, m3, m4, m5, m6, m7, m8⟩ := h2
  rw [e1, e3] at q5
  have y : u.sv = w.sv := by
    rcases q1.2.1 with z | z
    · rcases m1.2.1 with z2 | z2
      · rw [z, z2]
      · exact absurd (z.symm.trans (q5.mpr (m6.mp z2))) (by decide)
    · rw [z, m6.mpr (q5.mp z)]
  exact ⟨by rw [q2, m2, y], q1, m1, by rw [q3, m4, e1], y, by rw [q4, m5, e3], by rw [q6, m7]; exact e4, by rw [q7, m8]; exact e5⟩
theorem lr_unknown {D : dS} {M : mT} {k : Int32} {r2 : Int32} {rr : Int32} {u : dS × (Nat → Int64)} {w : mT} (hR : lw_R D M) (h1 : (fun (rr : Int32) (u : dS × (Nat → Int64)) => (rr = 0 ∧ ∃ r : Int32, (fun r u => dG u ∧ (∃ k2 : Nat, k = nI k2 ∧ k2 < D.n ∧ D.sv = 1 ∧ r.toInt = (dt_y (dA D.a) k2 (D.n - 1 - k2) D.n).sign * (dt_d (dA D.a) D.n).sign ∧ dN u = (dt_y (dA D.a) k2 (D.n - 1 - k2) D.n).natAbs / (Nat.gcd (dt_y (dA D.a) k2 (D.n - 1 - k2) D.n).natAbs (dt_d (dA D.a) D.n).natAbs) ∧ dE u = (dt_d (dA D.a) D.n).natAbs / (Nat.gcd (dt_y (dA D.a) k2 (D.n - 1 - k2) D.n).natAbs (dt_d (dA D.a) D.n).natAbs)) ∧ u.n = D.n ∧ u.sv = D.sv ∧ u.a = D.a) r u.1 ∧ u.2 0 = r.toInt64) ∨ (rr = 1 ∧ (D.sv = 0) ∧ u.1 = D) ∨ (rr = 2 ∧ (D.sv = 1 ∧ ¬ (0 ≤ k.toInt ∧ k.toInt < D.n)) ∧ u.1 = D)) rr u) (h2 : (fun (r : Int32) (u : mT) => mG u ∧ ((M.sv = 0 ∧ u.er = 1 ∧ u.fo = M.fo ∧ u.fb = M.fb) ∨ (M.sv = 1 ∧ ¬ (0 ≤ (k).toInt ∧ (k).toInt < M.n) ∧ u.er = 2 ∧ u.fo = M.fo ∧ u.fb = M.fb) ∨ (∃ k2 : Nat, k = nI k2 ∧ k2 < M.n ∧ M.sv = 1 ∧ u.er = 0 ∧ r.toInt = (dt_y (dA M.a) k2 (M.n - 1 - k2) M.n).sign * (dt_d (dA M.a) M.n).sign ∧ dg_v u.fo 56 = (dt_y (dA M.a) k2 (M.n - 1 - k2) M.n).natAbs / (Nat.gcd (dt_y (dA M.a) k2 (M.n - 1 - k2) M.n).natAbs (dt_d (dA M.a) M.n).natAbs) ∧ dg_v u.fb 56 = (dt_d (dA M.a) M.n).natAbs / (Nat.gcd (dt_y (dA M.a) k2 (M.n - 1 - k2) M.n).natAbs (dt_d (dA M.a) M.n).natAbs))) ∧ u.n = M.n ∧ u.sv = M.sv ∧ u.a = M.a) r2 w) : w.er = rr ∧ (rr = 0 → u.2 0 = r2.toInt64) ∧ lw_R u.1 w := by
  obtain ⟨g1, g2, e1, e2, e3, e4, e5⟩ := hR
  have hn : M.n ≤ 12 := g2.1
  obtain ⟨m1, m2, m3, m4, m5⟩ := h2
  rcases h1 with ⟨hr, r, ⟨q1, ⟨k1, a1, a2, a3, a4, a5, a6⟩, q3, q4, q5⟩, q6⟩ | ⟨hr, q1, q2⟩ | ⟨hr, ⟨q1, q3⟩, q2⟩
  · have x1 := lr_i a1 (by omega)
    rw [e2] at a3
    rcases m2 with ⟨c1, -⟩ | ⟨-, c1, -⟩ | ⟨k2, b1, b2, b3, b4, b5, b6, b7⟩
    · exact absurd (a3.symm.trans c1) (by decide)
    · exact absurd (by omega) c1
    · have y1 : k1 = k2 := lr_u a1 (by omega) b1 (by omega)
      subst y1
      rw [e1, e3] at a4 a5 a6
      have y3 : r = r2 := Int32.toInt_inj.mp (a4.trans b5.symm)
      exact ⟨by rw [b4, hr], fun _ => by rw [q6, y3], q1, m1, by rw [q3, m3, e1], by rw [q4, m4, e2], by rw [q5, m5, e3], a5.trans b6.symm, a6.trans b7.symm⟩
  · rw [e2] at q1
    rcases m2 with ⟨c1, c2, c3, c4⟩ | ⟨c1, -⟩ | ⟨k2, b1, b2, b3, -⟩
    · rw [q2]
      exact ⟨by rw [c2, hr], fun h => absurd (hr.symm.trans h) (by decide), g1, m1, by rw [m3, e1], by rw [m4, e2], by rw [m5, e3], by rw [c3]; exact e4, by rw [c4]; exact e5⟩
    · exact absurd (q1.symm.trans c1) (by decide)
    · exact absurd (q1.symm.trans b3) (by decide)
  · rw [e2] at q1
    rcases m2 with ⟨c1, -⟩ | ⟨-, c1, c2, c3, c4⟩ | ⟨k2, b1, b2, b3, -⟩
    · exact absurd (q1.symm.trans c1) (by decide)
    · rw [q2]
      exact ⟨by rw [c2, hr], fun h => absurd (hr.symm.trans h) (by decide), g1, m1, by rw [m3, e1], by rw [m4, e2], by rw [m5, e3], by rw [c3]; exact e4, by rw [c4]; exact e5⟩
    · have x1 := lr_i b1 (by omega)
      exact absurd (by omega) q3
theorem lr_determinant {D : dS} {M : mT} {r2 : Int32} {rr : Int32} {u : dS × (Nat → Int64)} {w : mT} (hR : lw_R D M) (h1 : (fun (rr : Int32) (u : dS × (Nat → Int64)) => (rr = 0 ∧ ∃ r : Int32, (fun r u => dG u ∧ (D.sv = 1 ∧ r.toInt = (dt_d (dA D.a) D.n).sign ∧ dN u = (dt_d (dA D.a) D.n).natAbs ∧ dE u = 1) ∧ u.n = D.n ∧ u.sv = D.sv ∧ u.a = D.a) r u.1 ∧ u.2 0 = r.toInt64) ∨ (rr = 1 ∧ (D.sv = 0) ∧ u.1 = D)) rr u) (h2 : (fun (r : Int32) (u : mT) => mG u ∧ ((M.sv = 0 ∧ u.er = 1 ∧ u.fo = M.fo ∧ u.fb = M.fb) ∨ (M.sv = 1 ∧ u.er = 0 ∧ r.toInt = (dt_d (dA M.a) M.n).sign ∧ dg_v u.fo 56 = (dt_d (dA M.a) M.n).natAbs ∧ dg_v u.fb 56 = 1)) ∧ u.n = M.n ∧ u.sv = M.sv ∧ u.a = M.a) r2 w) : w.er = rr ∧ (rr = 0 → u.2 0 = r2.toInt64) ∧ lw_R u.1 w := by
  obtain ⟨g1, g2, e1, e2, e3, e4, e5⟩ := hR
  have hn : M.n ≤ 12 := g2.1
  obtain ⟨m1, m2, m3, m4, m5⟩ := h2
  rcases h1 with ⟨hr, r, ⟨q1, ⟨a3, a4, a5, a6⟩, q3, q4, q5⟩, q6⟩ | ⟨hr, q1, q2⟩
  · rw [e2] at a3
    rcases m2 with ⟨c1, -⟩ | ⟨b3, b4, b5, b6, b7⟩
    · exact absurd (a3.symm.trans c1) (by decide)
    · rw [e1, e3] at a4 a5
      have y3 : r = r2 := Int32.toInt_inj.mp (a4.trans b5.symm)
      exact ⟨by rw [b4, hr], fun _ => by rw [q6, y3], q1, m1, by rw [q3, m3, e1], by rw [q4, m4, e2], by rw [q5, m5, e3], a5.trans b6.symm, a6.trans b7.symm⟩
  · rw [e2] at q1
    rcases m2 with ⟨c1, c2, c3, c4⟩ | ⟨b3, -⟩
    · rw [q2]
      exact ⟨by rw [c2, hr], fun h => absurd (hr.symm.trans h) (by decide), g1, m1, by rw [m3, e1], by rw [m4, e2], by rw [m5, e3], by rw [c3]; exact e4, by rw [c4]; exact e5⟩
    · exact absurd (q1.symm.trans b3) (by decide)
theorem lr_compare {D : dS} {M : mT} {j k : Int32} {r2 : Int32} {rr : Int32} {u : dS × (Nat → Int64)} {w : mT} (hR : lw_R D M) (h1 : (fun (rr : Int32) (u : dS × (Nat → Int64)) => (rr = 0 ∧ ∃ r : Int32, (u.1 = D ∧ (fun r u => ∃ (j2 k2 : Nat) (sg : Int32), j = nI j2 ∧ k = nI k2 ∧ j2 < D.n ∧ k2 < D.n ∧ D.sv = 1 ∧ sg.toInt = (dt_d (dA D.a) D.n).sign ∧ r = wh_c (dt_y (dA D.a) j2 (D.n - 1 - j2) D.n) (dt_y (dA D.a) k2 (D.n - 1 - k2) D.n) * sg) r ()) ∧ u.2 0 = r.toInt64) ∨ (rr = 1 ∧ (D.sv = 0) ∧ u.1 = D) ∨ (rr = 2 ∧ (D.sv = 1 ∧ ¬ (0 ≤ j.toInt ∧ j.toInt < D.n ∧ 0 ≤ k.toInt ∧ k.toInt < D.n)) ∧ u.1 = D)) rr u) (h2 : (fun (r : Int32) (u : mT) => mG u ∧ ((M.sv = 0 ∧ u.er = 1) ∨ (M.sv = 1 ∧ ¬ (0 ≤ (j).toInt ∧ (j).toInt < M.n ∧ 0 ≤ (k).toInt ∧ (k).toInt < M.n) ∧ u.er = 2) ∨ (∃ j2 k2 : Nat, j = nI j2 ∧ k = nI k2 ∧ j2 < M.n ∧ k2 < M.n ∧ M.sv = 1 ∧ u.er = 0 ∧ r = wh_c (dt_y (dA M.a) j2 (M.n - 1 - j2) M.n) (dt_y (dA M.a) k2 (M.n - 1 - k2) M.n) * sgI (dt_d (dA M.a) M.n))) ∧ u.n = M.n ∧ u.sv = M.sv ∧ u.a = M.a ∧ u.fo = M.fo ∧ u.fb = M.fb) r2 w) : w.er = rr ∧ (rr = 0 → u.2 0 = r2.toInt64) ∧ lw_R u.1 w := by
  obtain ⟨g1, g2, e1, e2, e3, e4, e5⟩ := hR
  have hn : M.n ≤ 12 := g2.1
  obtain ⟨m1, m2, m3, m4, m5, m6, m7⟩ := h2
  rcases h1 with ⟨hr, r, ⟨q0, j1, k1, sg, a1, a2, a3, a4, a5, a6, a7⟩, q6⟩ | ⟨hr, q1, q2⟩ | ⟨hr, ⟨q1, q3⟩, q2⟩
  · have x1 := lr_i a1 (by omega)
    have x2 := lr_i a2 (by omega)
    rw [e2] at a5
    rcases m2 with ⟨c1, -⟩ | ⟨-, c1, -⟩ | ⟨j2, k2, b1, b2, b3, b4, b5, b6, b7⟩
    · exact absurd (a5.symm.trans c1) (by decide)
    · exact absurd (by omega) c1
    · have y1 : j1 = j2 := lr_u a1 (by omega) b1 (by omega)
      have y2 : k1 = k2 := lr_u a2 (by omega) b2 (by omega)
      subst y1
      subst y2
      rw [e1, e3] at a6 a7
      have y4 : sg = sgI (dt_d (dA M.a) M.n) := Int32.toInt_inj.mp (a6.trans (sgI_t _).symm)
      have y3 : r = r2 := by rw [a7, b7, y4]
      rw [q0]
      exact ⟨by rw [b6, hr], fun _ => by rw [q6, y3], g1, m1, by rw [m3, e1], by rw [m4, e2], by rw [m5, e3], by rw [m6]; exact e4, by rw [m7]; exact e5⟩
  · rw [e2] at q1
    rcases m2 with ⟨c1, c2⟩ | ⟨c1, -⟩ | ⟨j2, k2, b1, b2, b3, b4, b5, -⟩
    · rw [q2]
      exact ⟨by rw [c2, hr], fun h => absurd (hr.symm.trans h) (by decide), g1, m1, by rw [m3, e1], by rw [m4, e2], by rw [m5, e3], by rw [m6]; exact e4, by rw [m7]; exact e5⟩
    · exact absurd (q1.symm.trans c1) (by decide)
    · exact absurd (q1.symm.trans b5) (by decide)
  · rw [e2] at q1
    rcases m2 with ⟨c1, -⟩ | ⟨-, c1, c2⟩ | ⟨j2, k2, b1, b2, b3, b4, -⟩
    · exact absurd (q1.symm.trans c1) (by decide)
    · rw [q2]
      exact ⟨by rw [c2, hr], fun h => absurd (hr.symm.trans h) (by decide), g1, m1, by rw [m3, e1], by rw [m4, e2], by rw [m5, e3], by rw [m6]; exact e4, by rw [m7]; exact e5⟩
    · have x1 := lr_i b1 (by omega)
      have x2 := lr_i b2 (by omega)
      exact absurd (by omega) q3
theorem lr_part {D : dS} {M : mT} {b k : Int32} {r2 : Int32} {rr : Int32} {u : dS × (Nat → Int64)} {w : mT} (hR : lw_R D M) (h1 : (fun (rr : Int32) (u : dS × (Nat → Int64)) => (rr = 0 ∧ ∃ r : Int32, (u.1 = D ∧ (fun r u => ∃ k2 : Nat, k = nI k2 ∧ k2 < 2 ^ 31 ∧ r = nI ((if b = 0 then dN D else dE D) / 2 ^ (31 * k2) % 2147483648)) r ()) ∧ u.2 0 = r.toInt64) ∨ (rr = 1 ∧ (k < 0) ∧ u.1 = D)) rr u) (h2 : (fun (r : Int32) (u : mT) => mG u ∧ ((k < 0 ∧ u.er = 1) ∨ (∃ k2 : Nat, k = nI k2 ∧ k2 < 2 ^ 31 ∧ u.er = 0 ∧ r = nI ((if b = 0 then dg_v M.fo 56 else dg_v M.fb 56) / 2 ^ (31 * k2) % 2147483648))) ∧ u.n = M.n ∧ u.sv = M.sv ∧ u.a = M.a ∧ u.fo = M.fo ∧ u.fb = M.fb) r2 w) : w.er = rr ∧ (rr = 0 → u.2 0 = r2.toInt64) ∧ lw_R u.1 w := by
  obtain ⟨g1, g2, e1, e2, e3, e4, e5⟩ := hR
  obtain ⟨m1, m2, m3, m4, m5, m6, m7⟩ := h2
  rcases h1 with ⟨hr, r, ⟨q0, k1, a1, a2, a3⟩, q6⟩ | ⟨hr, q1, q2⟩
  · rcases m2 with ⟨c1, -⟩ | ⟨k2, b1, b2, b3, b4⟩
    · rw [a1] at c1
      exact absurd c1 (nI_pos a2)
    · have y1 : k1 = k2 := (nI_eq a2 b2).mp (a1.symm.trans b1)
      subst y1
      rw [e4, e5] at a3
      have y3 : r = r2 := a3.trans b4.symm
      rw [q0]
      exact ⟨by rw [b3, hr], fun _ => by rw [q6, y3], g1, m1, by rw [m3, e1], by rw [m4, e2], by rw [m5, e3], by rw [m6]; exact e4, by rw [m7]; exact e5⟩
  · rcases m2 with ⟨c1, c2⟩ | ⟨k2, b1, b2, b3, b4⟩
    · rw [q2]
      exact ⟨by rw [c2, hr], fun h => absurd (hr.symm.trans h) (by decide), g1, m1, by rw [m3, e1], by rw [m4, e2], by rw [m5, e3], by rw [m6]; exact e4, by rw [m7]; exact e5⟩
    · rw [b1] at q1
      exact absurd q1 (nI_pos b2)
theorem lr_bl {X a c : Nat} (h1 : X < 2 ^ a) (h2 : ∀ q, a = q + 1 → 2 ^ q ≤ X) (h3 : X < 2 ^ c) (h4 : ∀ q, c = q + 1 → 2 ^ q ≤ X) : a = c := by
  have key : ∀ x y : Nat, X < 2 ^ x → (∀ q, y = q + 1 → 2 ^ q ≤ X) → y ≤ x := by
    intro x y hx hy
    cases y with
    | zero => exact Nat.zero_le _
    | succ q =>
      have h5 := hy q rfl
      have h6 : 2 ^ q < 2 ^ x := Nat.lt_of_le_of_lt h5 hx
      have h7 := (Nat.pow_lt_pow_iff_right (by decide : 1 < 2)).mp h6
      omega
  have h8 := key a c h1 h4
  have h9 := key c a h3 h2
  omega
theorem lr_bits {D : dS} {M : mT} {b : Int32} {r r2 : Int32} {w : mT} (hR : lw_R D M) (h1 : (fun (r : Int32) => ∃ bl : Nat, r = nI bl ∧ bl ≤ 806 ∧ (if b = 0 then dN D else dE D) < 2 ^ bl ∧ ∀ q, bl = q + 1 → 2 ^ q ≤ (if b = 0 then dN D else dE D)) r) (h2 : (fun (r : Int32) (u : mT) => mG u ∧ (∃ bl : Nat, r = nI bl ∧ (if b = 0 then dg_v M.fo 56 else dg_v M.fb 56) < 2 ^ bl ∧ ∀ q, bl = q + 1 → 2 ^ q ≤ (if b = 0 then dg_v M.fo 56 else dg_v M.fb 56)) ∧ u.er = 0 ∧ u.n = M.n ∧ u.sv = M.sv ∧ u.a = M.a ∧ u.fo = M.fo ∧ u.fb = M.fb) r2 w) : r = r2 ∧ lw_R D w := by
  obtain ⟨g1, g2, e1, e2, e3, e4, e5⟩ := hR
  obtain ⟨bl, q1, q2, q3, q4⟩ := h1
  obtain ⟨m1, ⟨b2, c1, c2, c3⟩, m2, m3, m4, m5, m6, m7⟩ := h2
  rw [e4, e5] at q3
  have q5 : ∀ q, bl = q + 1 → 2 ^ q ≤ (if b = 0 then dg_v M.fo 56 else dg_v M.fb 56) := fun q hq => by rw [← e4, ← e5]; exact q4 q hq
  have y : bl = b2 := lr_bl q3 q5 c2 c3
  exact ⟨by rw [q1, c1, y], g1, m1, by rw [m3, e1], by rw [m4, e2], by rw [m5, e3], by rw [m6]; exact e4, by rw [m7]; exact e5⟩
theorem lr_turn0 : ∀ L, L < 5 → ∀ i, i ≤ L → nI L - nI 5 < nI i := by decide +kernel
theorem lr_turn {i L : Nat} (hL : L ≤ 2560) (hi : i ≤ L) (h : ¬ nI L - nI 5 < nI i) : i + 5 ≤ L := by
  by_cases q : L < 5
  · exact absurd (lr_turn0 L q i hi) h
  · rw [pk_sub (by omega), nI_ltI (by omega) (by omega)] at h
    omega
theorem lr_and7 (x : Int32) : ∃ k : Nat, k < 8 ∧ x &&& nI 7 = nI k := by
  refine ⟨(x &&& nI 7).toBitVec.toNat, ?_, ?_⟩
  · have h : (x &&& nI 7).toBitVec.toNat = x.toBitVec.toNat &&& 7 := by
      rw [Int32.toBitVec_and, BitVec.toNat_and] <;> rfl
    rw [h]
    exact Nat.lt_succ_of_le Nat.and_le_right
  · apply Int32.toBitVec_inj.mp
    show _ = BitVec.ofNat 32 _
    rw [BitVec.ofNat_toNat, BitVec.setWidth_eq]
theorem gw_SW {own : String} {idx n : Nat} {y : MethodName} {b : ByteArray} {r : Option FieldType} {hh : List (Nat × Nat × Nat × Nat)} (h1 : Cond.methodLink own idx y ∈ gw_tbl) (h2 : Cond.static y ∈ gw_tbl) (h4 : Cond.initialized y.cls ∈ gw_tbl) (h5 : Cond.codeWith y b n r hh ∈ gw_tbl) : GoodIn gw_tbl (va_wsS own idx y (Cond.codeWith y b n r hh :: gw_tbl)) := by
  intro w hw
  have key : w ∈ gw_tbl := by
    rcases List.mem_append.mp hw with h | h
    · simp only [List.mem_cons, List.not_mem_nil, or_false] at h
      rcases h with rfl | rfl | rfl
      · exact h1
      · exact h2
      · exact h4
    · rcases List.mem_cons.mp h with rfl | h
      · exact h5
      · exact h
  exact ⟨key, gw_good w key⟩
theorem d_Law_law_39 : decode code 39 = .ok (.tableswitch 498 0 7 #[45, 81, 192, 205, 261, 305, 373, 414], 45) := by decide +kernel
section LWR
variable {p : Program} {l : Launch} {e : Env} {R : Room} {s : State} {m : MethodId} {args : Array Value} {below : List Frame} {meth : Method} {c : Code} {H H0 : Heap} {locs : List Loc} {cells slots : Nat} {Q : State → Prop}
variable {cc : ByteArray} {pc : Nat} {ls : Array Slot} {rest : List Value} {A : Nat → Prop}
theorem lw_sld (hexec : p.tables.exec = Jvm.exec) (hb : c.code = cc) {b L : Nat} {xs : Nat → Int32} (hX : va_X b L xs s H0) (hbl : b < H0.size) (hbA : ¬ A b) (hS : va_S A H0 H locs) {i : Nat} (hi : i < L) (hL : L ≤ 2560) (hdg : decode cc pc = .ok (.iaload, 1))
    (kk : W p l e R s m args below meth c H locs cells slots Q (F0 m (pc + 1) ls (.int (xs i) :: rest))) : W p l e R s m args below meth c H locs cells slots Q (F0 m pc ls (.int (nI i) :: .ref b :: rest)) :=
  va_sld hexec hb hX hbl hbA hS (i := nI i) (vp_in_nI hi (by omega)) hdg (by rw [nI_clamp (by omega)]; exact kk)
theorem lw_slen (hexec : p.tables.exec = Jvm.exec) (hb : c.code = cc) {b L : Nat} {xs : Nat → Int32} (hX : va_X b L xs s H0) (hbl : b < H0.size) (hbA : ¬ A b) (hS : va_S A H0 H locs) (hdg : decode cc pc = .ok (.arraylength, 1))
    (kk : W p l e R s m args below meth c H locs cells slots Q (F0 m (pc + 1) ls (.int (nI L) :: rest))) : W p l e R s m args below meth c H locs cells slots Q (F0 m pc ls (.ref b :: rest)) := va_slen hexec hb hX hbl hbA hS hdg kk
end LWR
