-- WHAT A THROW NEEDS BESIDE THE WORDS, AND A ROW FOR 'throw new X()'
def xt_a : String := "java/lang/IllegalArgumentException"
def xt_i : String := "java/lang/IndexOutOfBoundsException"
def xt_s : String := "java/lang/IllegalStateException"
def xt_ns : List String := ["java/lang/RuntimeException", "java/lang/Exception"]
def xt_N : List Cond := [.castable xt_a xt_a, .castable xt_i xt_i, .castable xt_s xt_s, .declares (Bundle.init0 "java/lang/RuntimeException"), .declares (Bundle.init0 "java/lang/Exception"), .declares (Bundle.init0 Bundle.tN)]
theorem xt_N_tab : ∀ w ∈ xt_N, w.onTables = true := by decide +kernel
theorem xt_N_moved {u U : State} (hvm : u.vm.Alike U.vm) (h : ∀ w ∈ xt_N, va_Nw w u) : ∀ w ∈ xt_N, va_Nw w U := by
  intro w hw
  have h1 := h w hw
  simp only [xt_N, List.mem_cons, List.not_mem_nil, or_false] at hw
  rcases hw with e | e | e | e | e | e <;> subst e
  · exact va_tabs rfl (rfl : (u.setVm U.vm).vm = U.vm) (by rw [Cond.castable_setVm hvm]; exact h1)
  · exact va_tabs rfl (rfl : (u.setVm U.vm).vm = U.vm) (by rw [Cond.castable_setVm hvm]; exact h1)
  · exact va_tabs rfl (rfl : (u.setVm U.vm).vm = U.vm) (by rw [Cond.castable_setVm hvm]; exact h1)
  · exact va_tabs rfl (rfl : (u.setVm U.vm).vm = U.vm) (by rw [Cond.declares_setVm hvm]; exact h1)
  · exact va_tabs rfl (rfl : (u.setVm U.vm).vm = U.vm) (by rw [Cond.declares_setVm hvm]; exact h1)
  · exact va_tabs rfl (rfl : (u.setVm U.vm).vm = U.vm) (by rw [Cond.declares_setVm hvm]; exact h1)
def xt_E (A : Nat → Prop) (U : State) (H : Heap) : Prop := vx_Zq Bundle.tN "UNASSIGNED_STACK" Bundle.steD A U H ∧ vx_Zq Bundle.tN "SUPPRESSED_SENTINEL" Bundle.listD A U H ∧ (∀ w ∈ xt_N, va_Nw w U) ∧ va_Nc xt_i xt_s U
theorem xt_E.moved {A : Nat → Prop} {u U : State} {H : Heap} (hvm : u.vm.Alike U.vm) (h : xt_E A u H) : xt_E A U H := ⟨h.1.moved hvm, h.2.1.moved hvm, xt_N_moved hvm h.2.2.1, h.2.2.2.moved hvm⟩
theorem xt_E.kept {A : Nat → Prop} {U : State} {H H1 : Heap} (h : xt_E A U H) (hq : ∀ a : Nat, a < H.size → ¬ A a → H1[a]? = H[a]?) : xt_E A U H1 := ⟨h.1.kept hq, h.2.1.kept hq, h.2.2⟩
theorem xt_E.narrow {A B : Nat → Prop} {U : State} {H : Heap} (h : xt_E A U H) (hAB : ∀ q, B q → A q) : xt_E B U H := ⟨h.1.narrow hAB, h.2.1.narrow hAB, h.2.2⟩
/-- a changing contract's start, with what a throw needs -/
def xc_X (av : List Value) (dC : Nat → ClassId) (dI : Nat → Nat → Nat) (ws : va_W) (tys : List (ClassId × FieldType)) (sz : Nat) : Array Value → State → Prop := fun v U => xc_W av dC dI ws tys sz v U ∧ xt_E (va_A ws sz) U U.heap
theorem xc_X_blind {av : List Value} {dC : Nat → ClassId} {dI : Nat → Nat → Nat} {ws : va_W} {tys : List (ClassId × FieldType)} {sz : Nat} : FrameBlind (xc_X av dC dI ws tys sz) := fun a U g mk q => ⟨xc_W_blind a U g mk q.1, xt_E.moved (u := U) (U := U.calling g mk a) (Vm.Alike.refl U.vm) q.2⟩
theorem xt_hat {args : Array Value} {s : State} {L : List Cond} (hts : ∀ w ∈ gw_tbl, w.before args s = true) (hN : ∀ w ∈ xt_N, va_Nw w s) (h1 : ∀ w ∈ L.filter goodWord, w ∈ lw_tbl) (h2 : ∀ w ∈ L.filter (fun w => !goodWord w), w ∈ xt_N) : ∀ w ∈ L, w.before args s = true :=
  vx_hat (fun w hw => hts w (List.mem_filter.mpr ⟨h1 w hw, (List.mem_filter.mp hw).2⟩)) h2 (fun w h => va_Nw.use (xt_N_tab w h) (hN w h))
def xt_L (ik ic : Nat) (X : String) : List Cond := Cond.classLink R_Desk ik X :: Cond.initialized X :: vx_at0 R_Desk ic X xt_ns
theorem xt_a1 : ∀ w ∈ (xt_L 57 59 xt_a).filter goodWord, w ∈ lw_tbl := by decide +kernel
theorem xt_a2 : ∀ w ∈ (xt_L 57 59 xt_a).filter (fun w => !goodWord w), w ∈ xt_N := by decide +kernel
theorem xt_a3 : ∀ w ∈ xt_L 57 59 xt_a, vx_ot w = true := by decide +kernel
theorem xt_i1 : ∀ w ∈ (xt_L 60 62 xt_i).filter goodWord, w ∈ lw_tbl := by decide +kernel
theorem xt_i2 : ∀ w ∈ (xt_L 60 62 xt_i).filter (fun w => !goodWord w), w ∈ xt_N := by decide +kernel
theorem xt_i3 : ∀ w ∈ xt_L 60 62 xt_i, vx_ot w = true := by decide +kernel
theorem xt_s1 : ∀ w ∈ (xt_L 74 76 xt_s).filter goodWord, w ∈ lw_tbl := by decide +kernel
theorem xt_s2 : ∀ w ∈ (xt_L 74 76 xt_s).filter (fun w => !goodWord w), w ∈ xt_N := by decide +kernel
theorem xt_s3 : ∀ w ∈ xt_L 74 76 xt_s, vx_ot w = true := by decide +kernel
section XTT
variable {p : Program} {l : Launch} {e : Env} {R : Room} {s : State} {m : MethodId} {args : Array Value} {below : List Frame} {meth : Method} {c : Code} {H : Heap} {locs : List Loc} {ls : Array Slot} {rest : List Value}
/-- 'throw new X()' in a method of the desk: nothing else has changed -/
theorem xt_throw {Qc : Array Value → State → Outcome → State → Prop} {cc : ByteArray} {pc : Nat} (hexec : p.tables.exec = Jvm.exec) (hb : c.code = cc) (hl : l.stackTraces = false) {X : String} {ik ic : Nat} {A : Nat → Prop} {SX : Type} {px : SX → Prop} {BX : String → SX → State → Prop}
    (hown : s.vm.findClass R_Desk = some m.cls) (hX : Bundle.fit X = true) (hts : ∀ w ∈ gw_tbl, w.before args s = true) (h1 : ∀ w ∈ (xt_L ik ic X).filter goodWord, w ∈ lw_tbl) (h2 : ∀ w ∈ (xt_L ik ic X).filter (fun w => !goodWord w), w ∈ xt_N) (h3 : ∀ w ∈ xt_L ik ic X, vx_ot w = true)
    (hE : xt_E A s s.heap) (hS : va_S A s.heap H locs) (hsize : ls.size = c.maxLocals)
    (d0 : decode cc pc = .ok (.new ik, 3)) (d3 : decode cc (pc + 3) = .ok (.dup, 1)) (d4 : decode cc (pc + 4) = .ok (.invokespecial ic, 3)) (d7 : decode cc (pc + 7) = .ok (.athrow, 1))
    (hout : ∀ x ∈ c.exceptionTable.toList, False) (hRf : 5 < R.frames) (hRl : (rest.map fun v => v.category).sum + 81 ≤ R.locals) (hRc : 1 ≤ R.cells) (hRs : 6 ≤ R.slots) (hlocks : meth.locks = false)
    (u : SX) (hu : px u) (hB : ∀ t : State, (∀ q : Nat, q < H.size → t.heap[q]? = H[q]?) → BX X u t) :
    W p l e R s m args below meth c H locs 0 0 (vx_MQ below Qc (vx_X px BX A) args s 1 6 A) (F0 m pc ls rest) := by
  have hall := xt_hat hts hE.2.2.1 h1 h2
  exact vx_throw0 hexec hb hl (names := xt_ns) hown hX (by decide +kernel) (hall _ List.mem_cons_self) (hall _ (List.mem_cons_of_mem _ List.mem_cons_self)) (fun w hw => hall w (List.mem_cons_of_mem _ (List.mem_cons_of_mem _ hw))) h3 hE.1 hE.2.1 hS hsize d0 d3 d4 d7
    (fun x hx => (hout x hx).elim) hRf hRl (by omega) (by omega) hlocks
    (fun t hvm hsz hq => ⟨u, hu, hB t hq, Nat.le_trans hS.1 hsz, fun q z1 z2 => by rw [hq q (Nat.lt_of_lt_of_le z1 hS.1)]; exact hS.2.1 q z1 z2⟩) hS.2.2 (Nat.le_refl _) (Nat.le_refl _)
end XTT
theorem xt_keepP {D : va_G} {cl : List vw_C} {ws : va_W} {H H1 : Heap} (h : va_P D cl ws H) (hq : ∀ q : Nat, q < H.size → H1[q]? = H[q]?) : va_P D cl ws H1 := h.kept (fun _ _ hk => hq _ (vx_lt h hk))
