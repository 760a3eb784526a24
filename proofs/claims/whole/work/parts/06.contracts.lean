-- CONTRACTS: their starts, and the words of a call (all methods share the tables' words gw_tbl)
def xc_R (av : List Value) (dC : Nat → ClassId) (dI : Nat → Nat → Nat) (ws : va_W) (tys : List (ClassId × FieldType)) : Array Value → State → Prop := fun v U => v = av.toArray ∧ va_P (dC, dI) classes ws U.heap ∧ va_K (dC, dI) classes tys U
theorem xc_R_blind {av : List Value} {dC : Nat → ClassId} {dI : Nat → Nat → Nat} {ws : va_W} {tys : List (ClassId × FieldType)} : FrameBlind (xc_R av dC dI ws tys) := fun a U g mk q => ⟨q.1, q.2.1, va_K.moved (u := U) (U := U.calling g mk a) (Vm.Alike.refl U.vm) q.2.2⟩
def xc_W (av : List Value) (dC : Nat → ClassId) (dI : Nat → Nat → Nat) (ws : va_W) (tys : List (ClassId × FieldType)) (sz : Nat) : Array Value → State → Prop := fun v U => v = av.toArray ∧ U.heap.size = sz ∧ va_P (dC, dI) classes ws U.heap ∧ va_K (dC, dI) classes tys U ∧ va_D (fun _ => True) ws
theorem xc_W_blind {av : List Value} {dC : Nat → ClassId} {dI : Nat → Nat → Nat} {ws : va_W} {tys : List (ClassId × FieldType)} {sz : Nat} : FrameBlind (xc_W av dC dI ws tys sz) := fun a U g mk q => ⟨q.1, q.2.1, q.2.2.1, va_K.moved (u := U) (U := U.calling g mk a) (Vm.Alike.refl U.vm) q.2.2.2.1, q.2.2.2.2⟩
def gw_ok (w : Cond) : Prop := (w.onTables && w.keeps) = true ∨ ∃ ty, w = .arrayClass ty
theorem gw_V {own C : String} {idx n : Nat} {y : MethodName} {b : ByteArray} {r : Option FieldType} (h1 : Cond.methodLink own idx y ∈ gw_tbl) (h2 : Cond.instanceMethod y ∈ gw_tbl) (h3 : Cond.selects C y y ∈ gw_tbl) (h4 : Cond.initialized C ∈ gw_tbl) (h5 : Cond.code y b n r ∈ gw_tbl) : GoodIn gw_tbl (wsV own idx C y (Cond.code y b n r :: gw_tbl)) := by
  intro w hw
  have key : w ∈ gw_tbl := by
    rcases List.mem_append.mp hw with h | h
    · simp only [List.mem_cons, List.not_mem_nil, or_false] at h
      rcases h with rfl | rfl | rfl | rfl
      · exact h1
      · exact h2
      · exact h3
      · exact h4
    · rcases List.mem_cons.mp h with rfl | h
      · exact h5
      · exact h
  exact ⟨key, gw_good w key⟩
theorem gw_S {own : String} {idx n : Nat} {y : MethodName} {b : ByteArray} {r : Option FieldType} (h1 : Cond.methodLink own idx y ∈ gw_tbl) (h2 : Cond.static y ∈ gw_tbl) (h4 : Cond.initialized own ∈ gw_tbl) (h5 : Cond.code y b n r ∈ gw_tbl) : GoodIn gw_tbl (wsS own idx y (Cond.code y b n r :: gw_tbl)) := by
  intro w hw
  have key : w ∈ gw_tbl := by
    rcases List.mem_append.mp hw with h | h
    · simp only [List.mem_cons, List.not_mem_nil, or_false] at h
      rcases h with rfl | rfl | rfl
      · exact h1
      · exact h2
      · exact h4
    · rcases List.mem_cons.mp h with rfl | h
      · exact h5
      · exact h
  exact ⟨key, gw_good w key⟩
theorem gw_I {n : Nat} {y : MethodName} {b : ByteArray} {r : Option FieldType} (h5 : Cond.code y b n r ∈ gw_tbl) : GoodIn gw_tbl (Cond.code y b n r :: gw_tbl) := by
  intro w hw
  have key : w ∈ gw_tbl := by
    rcases List.mem_cons.mp hw with rfl | h
    · exact h5
    · exact h
  exact ⟨key, gw_good w key⟩
