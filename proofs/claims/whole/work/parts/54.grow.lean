-- NEW ARRAYS OF A KNOWN CLASS, AND A CALL THAT BRINGS NEW CELLS
theorem xn_arrI {args : Array Value} {s : State} (h : (Cond.arrayClass .int).before args s = true) : ∃ cA : ClassId, ArrOfT s cA .int ∧ va_RA s cA .int := by
  obtain ⟨cB, kB, comp, hcB, hkB, hkind⟩ := Cond.arrayClass_spec h
  exact ⟨cB, fun n z => ⟨fun k h => (by cases h), kB, hkB, comp, hkind⟩, hcB⟩
theorem xn_arrJ {args : Array Value} {s : State} (h : (Cond.arrayClass .long).before args s = true) : ∃ cA : ClassId, ArrOfT s cA .long ∧ va_RA s cA .long := by
  obtain ⟨cB, kB, comp, hcB, hkB, hkind⟩ := Cond.arrayClass_spec h
  exact ⟨cB, fun n z => ⟨fun k h => (by cases h), kB, hkB, comp, hkind⟩, hcB⟩
section GRW
variable {p : Program} {l : Launch} {e : Env} {R : Room} {s : State} {m : MethodId} {args : Array Value} {below : List Frame} {meth : Method} {c : Code} {H H0 : Heap} {locs : List Loc} {cells slots : Nat} {Q : State → Prop}
variable {cc : ByteArray} {pc : Nat} {ls : Array Slot} {rest : List Value} {D : va_G} {cl : List vw_C} {tys : List (ClassId × FieldType)} {ws : va_W} {A : Nat → Prop} {cA : ClassId}
theorem xn_newI (hexec : p.tables.exec = Jvm.exec) (hb : c.code = cc) (harr : (Cond.arrayClass .int).before args s = true) (hK : va_K D cl tys s) (hP : va_P D cl ws H) (hD : va_D A ws) (hS : va_S A H0 H locs) (hA : ∀ q, H0.size ≤ q → A q) (t0 : Nat) (ht : tys[t0]? = some (cA, .int))
    {N : Nat} (hN : N < 1000000) (hcells : cells + 1 ≤ R.cells) (hslots : slots + N ≤ R.slots) (hdg : decode cc pc = .ok (.newarray .int, 2))
    (kk : ∀ (q : Nat) (H1 : Heap), va_P D cl (ws ++ [(q, .inl (cA, N, .inl (xn_f (fun _ => 0))))]) H1 → va_D A (ws ++ [(q, .inl (cA, N, .inl (xn_f (fun _ => 0))))]) → va_S A H0 H1 locs →
      W p l e R s m args below meth c H1 locs (cells + 1) (slots + N) Q (F0 m (pc + 2) ls (.ref q :: rest))) : W p l e R s m args below meth c H locs cells slots Q (F0 m pc ls (.int (nI N) :: rest)) := by
  refine va_newa (atype := .int) hexec hb harr (ty := .int) rfl hK hP hD hS hA (N' := N) (a0 := (N, .inl (xn_f (fun _ => 0)))) (fun _ => rfl) (nI_pos (by omega)) (nI_clamp (by omega)) (by show N * 4 ≤ _; omega) hcells hslots hdg (fun q cB H1 hK' hP' hD' hS' => ?_)
  have e1 : va_RA s cB .int := (hK'.2 tys.length (cB, .int) (by rw [List.getElem?_append_right (Nat.le_refl _), Nat.sub_self]; rfl)).2
  have e2 : va_RA s cA .int := (hK.2 t0 _ ht).2
  have e3 : cB = cA := Option.some.inj (Eq.trans (Eq.symm e1) e2)
  subst e3
  exact kk q H1 hP' hD' hS'
theorem xn_newJ (hexec : p.tables.exec = Jvm.exec) (hb : c.code = cc) (harr : (Cond.arrayClass .long).before args s = true) (hK : va_K D cl tys s) (hP : va_P D cl ws H) (hD : va_D A ws) (hS : va_S A H0 H locs) (hA : ∀ q, H0.size ≤ q → A q) (t0 : Nat) (ht : tys[t0]? = some (cA, .long))
    {N : Nat} (hN : N < 1000000) (hcells : cells + 1 ≤ R.cells) (hslots : slots + N ≤ R.slots) (hdg : decode cc pc = .ok (.newarray .long, 2))
    (kk : ∀ (q : Nat) (H1 : Heap), va_P D cl (ws ++ [(q, .inl (cA, N, .inr (.inl (fun _ => 0))))]) H1 → va_D A (ws ++ [(q, .inl (cA, N, .inr (.inl (fun _ => 0))))]) → va_S A H0 H1 locs →
      W p l e R s m args below meth c H1 locs (cells + 1) (slots + N) Q (F0 m (pc + 2) ls (.ref q :: rest))) : W p l e R s m args below meth c H locs cells slots Q (F0 m pc ls (.int (nI N) :: rest)) := by
  refine va_newa (atype := .long) hexec hb harr (ty := .long) rfl hK hP hD hS hA (N' := N) (a0 := (N, .inr (.inl (fun _ => 0)))) (fun _ => rfl) (nI_pos (by omega)) (nI_clamp (by omega)) (by show N * 8 ≤ _; omega) hcells hslots hdg (fun q cB H1 hK' hP' hD' hS' => ?_)
  have e1 : va_RA s cB .long := (hK'.2 tys.length (cB, .long) (by rw [List.getElem?_append_right (Nat.le_refl _), Nat.sub_self]; rfl)).2
  have e2 : va_RA s cA .long := (hK.2 t0 _ ht).2
  have e3 : cB = cA := Option.some.inj (Eq.trans (Eq.symm e1) e2)
  subst e3
  exact kk q H1 hP' hD' hS'
end GRW
/-- behind a call of a constructor: the last cell has become several -/
theorem xg_1 {A0 : Nat → Prop} {D : va_G} {cl : List vw_C} {Y w1 : va_W} {H H1 : Heap} {h : Nat} {e0 : va_E} (hP : va_P D cl (Y ++ [(h, e0)]) H) (hD : va_D A0 (Y ++ [(h, e0)])) (hk : ∀ q : Nat, q < H.size → ¬ va_A [(h, e0)] H.size q → H1[q]? = H[q]?) (hF : ∀ q, va_A [(h, e0)] H.size q → A0 q)
    (hP1 : va_P D cl w1 H1) (hD1 : va_D (va_A [(h, e0)] H.size) w1) : va_P D cl (Y ++ w1) H1 ∧ va_D A0 (Y ++ w1) := by
  have hY : ∀ (k : Nat) (q : Nat × va_E), Y[k]? = some q → (Y ++ [(h, e0)])[k]? = some q := fun k q hq => by rw [List.getElem?_append_left (List.getElem?_eq_some_iff.mp hq).1]; exact hq
  have hlast : (Y ++ [(h, e0)])[Y.length]? = some (h, e0) := by rw [List.getElem?_append_right (Nat.le_refl _), Nat.sub_self]; rfl
  have hne : ∀ (k : Nat) (q : Nat × va_E), Y[k]? = some q → q.1 < H.size ∧ ¬ va_A [(h, e0)] H.size q.1 := by
    intro k q hq
    have h1 : q.1 < H.size := vx_lt hP (hY k q hq)
    refine ⟨h1, fun z => ?_⟩
    rcases z with ⟨j, f, hj⟩ | z
    · have hj0 : j < 1 := (List.getElem?_eq_some_iff.mp hj).1
      rw [show j = 0 by omega] at hj
      have e9 : q.1 = h := (congrArg Prod.fst (Option.some.inj hj)).symm
      have := hD.1 k Y.length q (h, e0) (hY k q hq) hlast e9
      have h3 := (List.getElem?_eq_some_iff.mp hq).1
      omega
    · omega
  refine ⟨va_P.app (va_P.kept (fun k q hq => hP k q (hY k q hq)) (fun k q hq => hk _ (hne k q hq).1 (hne k q hq).2)) hP1, va_D.app ⟨fun i j a b ha hb => hD.1 i j a b (hY i a ha) (hY j b hb), fun k q hq => hD.2 k q (hY k q hq)⟩ (hD1.weaken (fun k q _ z => hF _ z)) (fun i j a b ha hb e9 => ?_)⟩
  have z := hD1.2 j b hb
  rw [← e9] at z
  exact (hne i a ha).2 z
def cwk (k : Nat) (c : Nat → Nat × va_E) : va_W := (List.range (2 * k)).map c
theorem cwk_all (c : Nat → Nat × va_E) : cwk 156 c = cw c := rfl
theorem cwk_0 (c : Nat → Nat × va_E) : cwk 0 c = [] := rfl
theorem cwk_push {cA : ClassId} {hw qw : Nat → Nat} {gg : Nat → Nat → Nat} {ln : Nat → Nat} {sn : Nat → Int32} {k h q : Nat} {L : Nat} {S : Int32} {G : Nat → Nat} :
    cwk k (cf cA hw qw gg ln sn) ++ [(h, .inr (1, [.ref q, .int (nI L), .int S])), (q, .inl (cA, 26, .inl (xn_f G)))] = cwk (k + 1) (cf cA (va_up hw k h) (va_up qw k q) (va_up gg k G) (va_up ln k L) (va_up sn k S)) := by
  unfold cwk
  rw [show 2 * (k + 1) = 2 * k + 1 + 1 by omega, List.range_succ, List.range_succ, List.map_append, List.map_append, List.append_assoc]
  congr 1
  · apply List.map_congr_left
    intro i hi
    have hi := List.mem_range.mp hi
    unfold cf
    rw [va_up_ne _ _ (show i / 2 ≠ k by omega), va_up_ne _ _ (show i / 2 ≠ k by omega), va_up_ne _ _ (show i / 2 ≠ k by omega), va_up_ne _ _ (show i / 2 ≠ k by omega), va_up_ne _ _ (show i / 2 ≠ k by omega)]
  · show _ = [cf _ _ _ _ _ _ (2 * k), cf _ _ _ _ _ _ (2 * k + 1)]
    rw [cf_w, cf_q, va_up_self, va_up_self, va_up_self, va_up_self, va_up_self]
