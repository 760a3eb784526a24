-- WORLDS WHOSE PLACES STAY: behind a call the callee's cells are set in their places
def xj_sets : va_W → List (Nat × (Nat × va_E)) → va_W
  | ws, [] => ws
  | ws, r :: rs => xj_sets (ws.set r.1 r.2) rs
theorem xj_get (rs : List (Nat × (Nat × va_E))) : ∀ (ws : va_W) (j : Nat) (q : Nat × va_E), (xj_sets ws rs)[j]? = some q → ((j, q) ∈ rs) ∨ (ws[j]? = some q ∧ ∀ r ∈ rs, r.1 ≠ j) := by
  induction rs with
  | nil => intro ws j q h; exact Or.inr ⟨h, fun r hr => by cases hr⟩
  | cons r rs ih =>
    intro ws j q h
    rcases ih (ws.set r.1 r.2) j q h with h1 | ⟨h1, h2⟩
    · exact Or.inl (List.mem_cons_of_mem _ h1)
    · by_cases e : r.1 = j
      · rw [List.getElem?_set] at h1
        rw [if_pos e] at h1
        by_cases hl : r.1 < ws.length
        · rw [if_pos hl] at h1
          cases h1
          refine Or.inl ?_
          rw [← e]
          exact List.mem_cons_self
        · rw [if_neg hl] at h1
          cases h1
      · rw [List.getElem?_set, if_neg e] at h1
        refine Or.inr ⟨h1, fun x hx => ?_⟩
        rcases List.mem_cons.mp hx with rfl | hx
        · exact e
        · exact h2 x hx
theorem xj_main {A0 : Nat → Prop} {D : va_G} {cl : List vw_C} {ws : va_W} {H H1 : Heap} (rs : List (Nat × (Nat × va_E))) (hP : va_P D cl ws H) (hD : va_D A0 ws) (ha : ∀ r ∈ rs, ∃ e, ws[r.1]? = some (r.2.1, e)) (h1 : ∀ r ∈ rs, va_at D cl r.2 H1) (hk : ∀ q : Nat, q < H.size → (∀ r ∈ rs, r.2.1 ≠ q) → H1[q]? = H[q]?) :
    va_P D cl (xj_sets ws rs) H1 ∧ va_D A0 (xj_sets ws rs) := by
  have adr : ∀ (j : Nat) (q : Nat × va_E), (xj_sets ws rs)[j]? = some q → ∃ e, ws[j]? = some (q.1, e) := by
    intro j q h
    rcases xj_get rs ws j q h with h2 | ⟨h2, -⟩
    · exact ha (j, q) h2
    · exact ⟨q.2, h2⟩
  refine ⟨fun j q h => ?_, fun i j p q hp hq e => ?_, fun k q h => ?_⟩
  · rcases xj_get rs ws j q h with h2 | ⟨h2, h3⟩
    · exact h1 (j, q) h2
    · refine (hP j q h2).kept (hk q.1 (hP j q h2).lt (fun r hr e => ?_))
      obtain ⟨e2, h4⟩ := ha r hr
      exact h3 r hr (hD.1 r.1 j (r.2.1, e2) q h4 h2 e)
  · obtain ⟨e1, g1⟩ := adr i p hp
    obtain ⟨e2, g2⟩ := adr j q hq
    exact hD.1 i j _ _ g1 g2 e
  · obtain ⟨e1, g1⟩ := adr k q h
    exact hD.2 k (q.1, e1) g1
theorem xj_one {D : va_G} {cl : List vw_C} {ws : va_W} {H : Heap} (h : va_P D cl ws H) : ∀ w ∈ ws, va_at D cl w H := by
  intro w hw
  obtain ⟨i, hi⟩ := List.getElem?_of_mem hw
  exact h i w hi
theorem xj_of {D : va_G} {cl : List vw_C} {ws : va_W} {H : Heap} (h : ∀ w ∈ ws, va_at D cl w H) : va_P D cl ws H := fun _ w hk => h w (List.mem_of_getElem? hk)
theorem xj_A {wc : va_W} {sz q : Nat} (h : va_A wc sz q) : (∃ w ∈ wc, w.1 = q) ∨ sz ≤ q := by
  rcases h with ⟨k, e, h⟩ | h
  · exact Or.inl ⟨(q, e), List.mem_of_getElem? h, rfl⟩
  · exact Or.inr h
theorem xj_1 {A0 : Nat → Prop} {D : va_G} {cl : List vw_C} {ws : va_W} {H H1 : Heap} {a1 : Nat} {e1 f1 : va_E} (i1 : Nat) (hP : va_P D cl ws H) (hD : va_D A0 ws) (h1 : ws[i1]? = some (a1, e1)) (hk : ∀ q : Nat, q < H.size → ¬ va_A [(a1, e1)] H.size q → H1[q]? = H[q]?) (hP1 : va_P D cl [(a1, f1)] H1) : va_P D cl (ws.set i1 (a1, f1)) H1 ∧ va_D A0 (ws.set i1 (a1, f1)) := by
  refine xj_main [(i1, (a1, f1))] hP hD (fun r hr => ?_) (fun r hr => ?_) (fun q hq hn => hk q hq (fun h => ?_))
  · simp only [List.mem_cons, List.not_mem_nil, or_false] at hr
    rcases hr with rfl
    · exact ⟨_, h1⟩
  · simp only [List.mem_cons, List.not_mem_nil, or_false] at hr
    rcases hr with rfl
    · exact hP1 0 _ rfl
  · rcases xj_A h with ⟨w, hw, e⟩ | h
    · simp only [List.mem_cons, List.not_mem_nil, or_false] at hw
      rcases hw with rfl
      · exact hn (i1, (a1, f1)) (by simp) e
    · omega
theorem xj_2 {A0 : Nat → Prop} {D : va_G} {cl : List vw_C} {ws : va_W} {H H1 : Heap} {a1 a2 : Nat} {e1 f1 e2 f2 : va_E} (i1 i2 : Nat) (hP : va_P D cl ws H) (hD : va_D A0 ws) (h1 : ws[i1]? = some (a1, e1)) (h2 : ws[i2]? = some (a2, e2)) (hk : ∀ q : Nat, q < H.size → ¬ va_A [(a1, e1), (a2, e2)] H.size q → H1[q]? = H[q]?) (hP1 : va_P D cl [(a1, f1), (a2, f2)] H1) : va_P D cl ((ws.set i1 (a1, f1)).set i2 (a2, f2)) H1 ∧ va_D A0 ((ws.set i1 (a1, f1)).set i2 (a2, f2)) := by
  refine xj_main [(i1, (a1, f1)), (i2, (a2, f2))] hP hD (fun r hr => ?_) (fun r hr => ?_) (fun q hq hn => hk q hq (fun h => ?_))
  · simp only [List.mem_cons, List.not_mem_nil, or_false] at hr
    rcases hr with rfl | rfl
    · exact ⟨_, h1⟩
    · exact ⟨_, h2⟩
  · simp only [List.mem_cons, List.not_mem_nil, or_false] at hr
    rcases hr with rfl | rfl
    · exact hP1 0 _ rfl
    · exact hP1 1 _ rfl
  · rcases xj_A h with ⟨w, hw, e⟩ | h
    · simp only [List.mem_cons, List.not_mem_nil, or_false] at hw
      rcases hw with rfl | rfl
      · exact hn (i1, (a1, f1)) (by simp) e
      · exact hn (i2, (a2, f2)) (by simp) e
    · omega
theorem xj_3 {A0 : Nat → Prop} {D : va_G} {cl : List vw_C} {ws : va_W} {H H1 : Heap} {a1 a2 a3 : Nat} {e1 f1 e2 f2 e3 f3 : va_E} (i1 i2 i3 : Nat) (hP : va_P D cl ws H) (hD : va_D A0 ws) (h1 : ws[i1]? = some (a1, e1)) (h2 : ws[i2]? = some (a2, e2)) (h3 : ws[i3]? = some (a3, e3)) (hk : ∀ q : Nat, q < H.size → ¬ va_A [(a1, e1), (a2, e2), (a3, e3)] H.size q → H1[q]? = H[q]?) (hP1 : va_P D cl [(a1, f1), (a2, f2), (a3, f3)] H1) : va_P D cl (((ws.set i1 (a1, f1)).set i2 (a2, f2)).set i3 (a3, f3)) H1 ∧ va_D A0 (((ws.set i1 (a1, f1)).set i2 (a2, f2)).set i3 (a3, f3)) := by
  refine xj_main [(i1, (a1, f1)), (i2, (a2, f2)), (i3, (a3, f3))] hP hD (fun r hr => ?_) (fun r hr => ?_) (fun q hq hn => hk q hq (fun h => ?_))
  · simp only [List.mem_cons, List.not_mem_nil, or_false] at hr
    rcases hr with rfl | rfl | rfl
    · exact ⟨_, h1⟩
    · exact ⟨_, h2⟩
    · exact ⟨_, h3⟩
  · simp only [List.mem_cons, List.not_mem_nil, or_false] at hr
    rcases hr with rfl | rfl | rfl
    · exact hP1 0 _ rfl
    · exact hP1 1 _ rfl
    · exact hP1 2 _ rfl
  · rcases xj_A h with ⟨w, hw, e⟩ | h
    · simp only [List.mem_cons, List.not_mem_nil, or_false] at hw
      rcases hw with rfl | rfl | rfl
      · exact hn (i1, (a1, f1)) (by simp) e
      · exact hn (i2, (a2, f2)) (by simp) e
      · exact hn (i3, (a3, f3)) (by simp) e
    · omega
theorem xj_4 {A0 : Nat → Prop} {D : va_G} {cl : List vw_C} {ws : va_W} {H H1 : Heap} {a1 a2 a3 a4 : Nat} {e1 f1 e2 f2 e3 f3 e4 f4 : va_E} (i1 i2 i3 i4 : Nat) (hP : va_P D cl ws H) (hD : va_D A0 ws) (h1 : ws[i1]? = some (a1, e1)) (h2 : ws[i2]? = some (a2, e2)) (h3 : ws[i3]? = some (a3, e3)) (h4 : ws[i4]? = some (a4, e4)) (hk : ∀ q : Nat, q < H.size → ¬ va_A [(a1, e1), (a2, e2), (a3, e3), (a4, e4)] H.size q → H1[q]? = H[q]?) (hP1 : va_P D cl [(a1, f1), (a2, f2), (a3, f3), (a4, f4)] H1) : va_P D cl ((((ws.set i1 (a1, f1)).set i2 (a2, f2)).set i3 (a3, f3)).set i4 (a4, f4)) H1 ∧ va_D A0 ((((ws.set i1 (a1, f1)).set i2 (a2, f2)).set i3 (a3, f3)).set i4 (a4, f4)) := by
  refine xj_main [(i1, (a1, f1)), (i2, (a2, f2)), (i3, (a3, f3)), (i4, (a4, f4))] hP hD (fun r hr => ?_) (fun r hr => ?_) (fun q hq hn => hk q hq (fun h => ?_))
  · simp only [List.mem_cons, List.not_mem_nil, or_false] at hr
    rcases hr with rfl | rfl | rfl | rfl
    · exact ⟨_, h1⟩
    · exact ⟨_, h2⟩
    · exact ⟨_, h3⟩
    · exact ⟨_, h4⟩
  · simp only [List.mem_cons, List.not_mem_nil, or_false] at hr
    rcases hr with rfl | rfl | rfl | rfl
    · exact hP1 0 _ rfl
    · exact hP1 1 _ rfl
    · exact hP1 2 _ rfl
    · exact hP1 3 _ rfl
  · rcases xj_A h with ⟨w, hw, e⟩ | h
    · simp only [List.mem_cons, List.not_mem_nil, or_false] at hw
      rcases hw with rfl | rfl | rfl | rfl
      · exact hn (i1, (a1, f1)) (by simp) e
      · exact hn (i2, (a2, f2)) (by simp) e
      · exact hn (i3, (a3, f3)) (by simp) e
      · exact hn (i4, (a4, f4)) (by simp) e
    · omega
theorem xj_5 {A0 : Nat → Prop} {D : va_G} {cl : List vw_C} {ws : va_W} {H H1 : Heap} {a1 a2 a3 a4 a5 : Nat} {e1 f1 e2 f2 e3 f3 e4 f4 e5 f5 : va_E} (i1 i2 i3 i4 i5 : Nat) (hP : va_P D cl ws H) (hD : va_D A0 ws) (h1 : ws[i1]? = some (a1, e1)) (h2 : ws[i2]? = some (a2, e2)) (h3 : ws[i3]? = some (a3, e3)) (h4 : ws[i4]? = some (a4, e4)) (h5 : ws[i5]? = some (a5, e5)) (hk : ∀ q : Nat, q < H.size → ¬ va_A [(a1, e1), (a2, e2), (a3, e3), (a4, e4), (a5, e5)] H.size q → H1[q]? = H[q]?) (hP1 : va_P D cl [(a1, f1), (a2, f2), (a3, f3), (a4, f4), (a5, f5)] H1) : va_P D cl (((((ws.set i1 (a1, f1)).set i2 (a2, f2)).set i3 (a3, f3)).set i4 (a4, f4)).set i5 (a5, f5)) H1 ∧ va_D A0 (((((ws.set i1 (a1, f1)).set i2 (a2, f2)).set i3 (a3, f3)).set i4 (a4, f4)).set i5 (a5, f5)) := by
  refine xj_main [(i1, (a1, f1)), (i2, (a2, f2)), (i3, (a3, f3)), (i4, (a4, f4)), (i5, (a5, f5))] hP hD (fun r hr => ?_) (fun r hr => ?_) (fun q hq hn => hk q hq (fun h => ?_))
  · simp only [List.mem_cons, List.not_mem_nil, or_false] at hr
    rcases hr with rfl | rfl | rfl | rfl | rfl
    · exact ⟨_, h1⟩
    · exact ⟨_, h2⟩
    · exact ⟨_, h3⟩
    · exact ⟨_, h4⟩
    · exact ⟨_, h5⟩
  · simp only [List.mem_cons, List.not_mem_nil, or_false] at hr
    rcases hr with rfl | rfl | rfl | rfl | rfl
    · exact hP1 0 _ rfl
    · exact hP1 1 _ rfl
    · exact hP1 2 _ rfl
    · exact hP1 3 _ rfl
    · exact hP1 4 _ rfl
  · rcases xj_A h with ⟨w, hw, e⟩ | h
    · simp only [List.mem_cons, List.not_mem_nil, or_false] at hw
      rcases hw with rfl | rfl | rfl | rfl | rfl
      · exact hn (i1, (a1, f1)) (by simp) e
      · exact hn (i2, (a2, f2)) (by simp) e
      · exact hn (i3, (a3, f3)) (by simp) e
      · exact hn (i4, (a4, f4)) (by simp) e
      · exact hn (i5, (a5, f5)) (by simp) e
    · omega
theorem xj_6 {A0 : Nat → Prop} {D : va_G} {cl : List vw_C} {ws : va_W} {H H1 : Heap} {a1 a2 a3 a4 a5 a6 : Nat} {e1 f1 e2 f2 e3 f3 e4 f4 e5 f5 e6 f6 : va_E} (i1 i2 i3 i4 i5 i6 : Nat) (hP : va_P D cl ws H) (hD : va_D A0 ws) (h1 : ws[i1]? = some (a1, e1)) (h2 : ws[i2]? = some (a2, e2)) (h3 : ws[i3]? = some (a3, e3)) (h4 : ws[i4]? = some (a4, e4)) (h5 : ws[i5]? = some (a5, e5)) (h6 : ws[i6]? = some (a6, e6)) (hk : ∀ q : Nat, q < H.size → ¬ va_A [(a1, e1), (a2, e2), (a3, e3), (a4, e4), (a5, e5), (a6, e6)] H.size q → H1[q]? = H[q]?) (hP1 : va_P D cl [(a1, f1), (a2, f2), (a3, f3), (a4, f4), (a5, f5), (a6, f6)] H1) : va_P D cl ((((((ws.set i1 (a1, f1)).set i2 (a2, f2)).set i3 (a3, f3)).set i4 (a4, f4)).set i5 (a5, f5)).set i6 (a6, f6)) H1 ∧ va_D A0 ((((((ws.set i1 (a1, f1)).set i2 (a2, f2)).set i3 (a3, f3)).set i4 (a4, f4)).set i5 (a5, f5)).set i6 (a6, f6)) := by
  refine xj_main [(i1, (a1, f1)), (i2, (a2, f2)), (i3, (a3, f3)), (i4, (a4, f4)), (i5, (a5, f5)), (i6, (a6, f6))] hP hD (fun r hr => ?_) (fun r hr => ?_) (fun q hq hn => hk q hq (fun h => ?_))
  · simp only [List.mem_cons, List.not_mem_nil, or_false] at hr
    rcases hr with rfl | rfl | rfl | rfl | rfl | rfl
    · exact ⟨_, h1⟩
    · exact ⟨_, h2⟩
    · exact ⟨_, h3⟩
    · exact ⟨_, h4⟩
    · exact ⟨_, h5⟩
    · exact ⟨_, h6⟩
  · simp only [List.mem_cons, List.not_mem_nil, or_false] at hr
    rcases hr with rfl | rfl | rfl | rfl | rfl | rfl
    · exact hP1 0 _ rfl
    · exact hP1 1 _ rfl
    · exact hP1 2 _ rfl
    · exact hP1 3 _ rfl
    · exact hP1 4 _ rfl
    · exact hP1 5 _ rfl
  · rcases xj_A h with ⟨w, hw, e⟩ | h
    · simp only [List.mem_cons, List.not_mem_nil, or_false] at hw
      rcases hw with rfl | rfl | rfl | rfl | rfl | rfl
      · exact hn (i1, (a1, f1)) (by simp) e
      · exact hn (i2, (a2, f2)) (by simp) e
      · exact hn (i3, (a3, f3)) (by simp) e
      · exact hn (i4, (a4, f4)) (by simp) e
      · exact hn (i5, (a5, f5)) (by simp) e
      · exact hn (i6, (a6, f6)) (by simp) e
    · omega
theorem xj_7 {A0 : Nat → Prop} {D : va_G} {cl : List vw_C} {ws : va_W} {H H1 : Heap} {a1 a2 a3 a4 a5 a6 a7 : Nat} {e1 f1 e2 f2 e3 f3 e4 f4 e5 f5 e6 f6 e7 f7 : va_E} (i1 i2 i3 i4 i5 i6 i7 : Nat) (hP : va_P D cl ws H) (hD : va_D A0 ws) (h1 : ws[i1]? = some (a1, e1)) (h2 : ws[i2]? = some (a2, e2)) (h3 : ws[i3]? = some (a3, e3)) (h4 : ws[i4]? = some (a4, e4)) (h5 : ws[i5]? = some (a5, e5)) (h6 : ws[i6]? = some (a6, e6)) (h7 : ws[i7]? = some (a7, e7)) (hk : ∀ q : Nat, q < H.size → ¬ va_A [(a1, e1), (a2, e2), (a3, e3), (a4, e4), (a5, e5), (a6, e6), (a7, e7)] H.size q → H1[q]? = H[q]?) (hP1 : va_P D cl [(a1, f1), (a2, f2), (a3, f3), (a4, f4), (a5, f5), (a6, f6), (a7, f7)] H1) : va_P D cl (((((((ws.set i1 (a1, f1)).set i2 (a2, f2)).set i3 (a3, f3)).set i4 (a4, f4)).set i5 (a5, f5)).set i6 (a6, f6)).set i7 (a7, f7)) H1 ∧ va_D A0 (((((((ws.set i1 (a1, f1)).set i2 (a2, f2)).set i3 (a3, f3)).set i4 (a4, f4)).set i5 (a5, f5)).set i6 (a6, f6)).set i7 (a7, f7)) := by
  refine xj_main [(i1, (a1, f1)), (i2, (a2, f2)), (i3, (a3, f3)), (i4, (a4, f4)), (i5, (a5, f5)), (i6, (a6, f6)), (i7, (a7, f7))] hP hD (fun r hr => ?_) (fun r hr => ?_) (fun q hq hn => hk q hq (fun h => ?_))
  · simp only [List.mem_cons, List.not_mem_nil, or_false] at hr
    rcases hr with rfl | rfl | rfl | rfl | rfl | rfl | rfl
    · exact ⟨_, h1⟩
    · exact ⟨_, h2⟩
    · exact ⟨_, h3⟩
    · exact ⟨_, h4⟩
    · exact ⟨_, h5⟩
    · exact ⟨_, h6⟩
    · exact ⟨_, h7⟩
  · simp only [List.mem_cons, List.not_mem_nil, or_false] at hr
    rcases hr with rfl | rfl | rfl | rfl | rfl | rfl | rfl
    · exact hP1 0 _ rfl
    · exact hP1 1 _ rfl
    · exact hP1 2 _ rfl
    · exact hP1 3 _ rfl
    · exact hP1 4 _ rfl
    · exact hP1 5 _ rfl
    · exact hP1 6 _ rfl
  · rcases xj_A h with ⟨w, hw, e⟩ | h
    · simp only [List.mem_cons, List.not_mem_nil, or_false] at hw
      rcases hw with rfl | rfl | rfl | rfl | rfl | rfl | rfl
      · exact hn (i1, (a1, f1)) (by simp) e
      · exact hn (i2, (a2, f2)) (by simp) e
      · exact hn (i3, (a3, f3)) (by simp) e
      · exact hn (i4, (a4, f4)) (by simp) e
      · exact hn (i5, (a5, f5)) (by simp) e
      · exact hn (i6, (a6, f6)) (by simp) e
      · exact hn (i7, (a7, f7)) (by simp) e
    · omega
theorem xj_8 {A0 : Nat → Prop} {D : va_G} {cl : List vw_C} {ws : va_W} {H H1 : Heap} {a1 a2 a3 a4 a5 a6 a7 a8 : Nat} {e1 f1 e2 f2 e3 f3 e4 f4 e5 f5 e6 f6 e7 f7 e8 f8 : va_E} (i1 i2 i3 i4 i5 i6 i7 i8 : Nat) (hP : va_P D cl ws H) (hD : va_D A0 ws) (h1 : ws[i1]? = some (a1, e1)) (h2 : ws[i2]? = some (a2, e2)) (h3 : ws[i3]? = some (a3, e3)) (h4 : ws[i4]? = some (a4, e4)) (h5 : ws[i5]? = some (a5, e5)) (h6 : ws[i6]? = some (a6, e6)) (h7 : ws[i7]? = some (a7, e7)) (h8 : ws[i8]? = some (a8, e8)) (hk : ∀ q : Nat, q < H.size → ¬ va_A [(a1, e1), (a2, e2), (a3, e3), (a4, e4), (a5, e5), (a6, e6), (a7, e7), (a8, e8)] H.size q → H1[q]? = H[q]?) (hP1 : va_P D cl [(a1, f1), (a2, f2), (a3, f3), (a4, f4), (a5, f5), (a6, f6), (a7, f7), (a8, f8)] H1) : va_P D cl ((((((((ws.set i1 (a1, f1)).set i2 (a2, f2)).set i3 (a3, f3)).set i4 (a4, f4)).set i5 (a5, f5)).set i6 (a6, f6)).set i7 (a7, f7)).set i8 (a8, f8)) H1 ∧ va_D A0 ((((((((ws.set i1 (a1, f1)).set i2 (a2, f2)).set i3 (a3, f3)).set i4 (a4, f4)).set i5 (a5, f5)).set i6 (a6, f6)).set i7 (a7, f7)).set i8 (a8, f8)) := by
  refine xj_main [(i1, (a1, f1)), (i2, (a2, f2)), (i3, (a3, f3)), (i4, (a4, f4)), (i5, (a5, f5)), (i6, (a6, f6)), (i7, (a7, f7)), (i8, (a8, f8))] hP hD (fun r hr => ?_) (fun r hr => ?_) (fun q hq hn => hk q hq (fun h => ?_))
  · simp only [List.mem_cons, List.not_mem_nil, or_false] at hr
    rcases hr with rfl | rfl | rfl | rfl | rfl | rfl | rfl | rfl
    · exact ⟨_, h1⟩
    · exact ⟨_, h2⟩
    · exact ⟨_, h3⟩
    · exact ⟨_, h4⟩
    · exact ⟨_, h5⟩
    · exact ⟨_, h6⟩
    · exact ⟨_, h7⟩
    · exact ⟨_, h8⟩
  · simp only [List.mem_cons, List.not_mem_nil, or_false] at hr
    rcases hr with rfl | rfl | rfl | rfl | rfl | rfl | rfl | rfl
    · exact hP1 0 _ rfl
    · exact hP1 1 _ rfl
    · exact hP1 2 _ rfl
    · exact hP1 3 _ rfl
    · exact hP1 4 _ rfl
    · exact hP1 5 _ rfl
    · exact hP1 6 _ rfl
    · exact hP1 7 _ rfl
  · rcases xj_A h with ⟨w, hw, e⟩ | h
    · simp only [List.mem_cons, List.not_mem_nil, or_false] at hw
      rcases hw with rfl | rfl | rfl | rfl | rfl | rfl | rfl | rfl
      · exact hn (i1, (a1, f1)) (by simp) e
      · exact hn (i2, (a2, f2)) (by simp) e
      · exact hn (i3, (a3, f3)) (by simp) e
      · exact hn (i4, (a4, f4)) (by simp) e
      · exact hn (i5, (a5, f5)) (by simp) e
      · exact hn (i6, (a6, f6)) (by simp) e
      · exact hn (i7, (a7, f7)) (by simp) e
      · exact hn (i8, (a8, f8)) (by simp) e
    · omega
theorem xj_9 {A0 : Nat → Prop} {D : va_G} {cl : List vw_C} {ws : va_W} {H H1 : Heap} {a1 a2 a3 a4 a5 a6 a7 a8 a9 : Nat} {e1 f1 e2 f2 e3 f3 e4 f4 e5 f5 e6 f6 e7 f7 e8 f8 e9 f9 : va_E} (i1 i2 i3 i4 i5 i6 i7 i8 i9 : Nat) (hP : va_P D cl ws H) (hD : va_D A0 ws) (h1 : ws[i1]? = some (a1, e1)) (h2 : ws[i2]? = some (a2, e2)) (h3 : ws[i3]? = some (a3, e3)) (h4 : ws[i4]? = some (a4, e4)) (h5 : ws[i5]? = some (a5, e5)) (h6 : ws[i6]? = some (a6, e6)) (h7 : ws[i7]? = some (a7, e7)) (h8 : ws[i8]? = some (a8, e8)) (h9 : ws[i9]? = some (a9, e9)) (hk : ∀ q : Nat, q < H.size → ¬ va_A [(a1, e1), (a2, e2), (a3, e3), (a4, e4), (a5, e5), (a6, e6), (a7, e7), (a8, e8), (a9, e9)] H.size q → H1[q]? = H[q]?) (hP1 : va_P D cl [(a1, f1), (a2, f2), (a3, f3), (a4, f4), (a5, f5), (a6, f6), (a7, f7), (a8, f8), (a9, f9)] H1) : va_P D cl (((((((((ws.set i1 (a1, f1)).set i2 (a2, f2)).set i3 (a3, f3)).set i4 (a4, f4)).set i5 (a5, f5)).set i6 (a6, f6)).set i7 (a7, f7)).set i8 (a8, f8)).set i9 (a9, f9)) H1 ∧ va_D A0 (((((((((ws.set i1 (a1, f1)).set i2 (a2, f2)).set i3 (a3, f3)).set i4 (a4, f4)).set i5 (a5, f5)).set i6 (a6, f6)).set i7 (a7, f7)).set i8 (a8, f8)).set i9 (a9, f9)) := by
  refine xj_main [(i1, (a1, f1)), (i2, (a2, f2)), (i3, (a3, f3)), (i4, (a4, f4)), (i5, (a5, f5)), (i6, (a6, f6)), (i7, (a7, f7)), (i8, (a8, f8)), (i9, (a9, f9))] hP hD (fun r hr => ?_) (fun r hr => ?_) (fun q hq hn => hk q hq (fun h => ?_))
  · simp only [List.mem_cons, List.not_mem_nil, or_false] at hr
    rcases hr with rfl | rfl | rfl | rfl | rfl | rfl | rfl | rfl | rfl
    · exact ⟨_, h1⟩
    · exact ⟨_, h2⟩
    · exact ⟨_, h3⟩
    · exact ⟨_, h4⟩
    · exact ⟨_, h5⟩
    · exact ⟨_, h6⟩
    · exact ⟨_, h7⟩
    · exact ⟨_, h8⟩
    · exact ⟨_, h9⟩
  · simp only [List.mem_cons, List.not_mem_nil, or_false] at hr
    rcases hr with rfl | rfl | rfl | rfl | rfl | rfl | rfl | rfl | rfl
    · exact hP1 0 _ rfl
    · exact hP1 1 _ rfl
    · exact hP1 2 _ rfl
    · exact hP1 3 _ rfl
    · exact hP1 4 _ rfl
    · exact hP1 5 _ rfl
    · exact hP1 6 _ rfl
    · exact hP1 7 _ rfl
    · exact hP1 8 _ rfl
  · rcases xj_A h with ⟨w, hw, e⟩ | h
    · simp only [List.mem_cons, List.not_mem_nil, or_false] at hw
      rcases hw with rfl | rfl | rfl | rfl | rfl | rfl | rfl | rfl | rfl
      · exact hn (i1, (a1, f1)) (by simp) e
      · exact hn (i2, (a2, f2)) (by simp) e
      · exact hn (i3, (a3, f3)) (by simp) e
      · exact hn (i4, (a4, f4)) (by simp) e
      · exact hn (i5, (a5, f5)) (by simp) e
      · exact hn (i6, (a6, f6)) (by simp) e
      · exact hn (i7, (a7, f7)) (by simp) e
      · exact hn (i8, (a8, f8)) (by simp) e
      · exact hn (i9, (a9, f9)) (by simp) e
    · omega
