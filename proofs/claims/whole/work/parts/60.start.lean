/-! THE START: what the statement and the tables say -/
abbrev FLC : List Cond := flatC (Jvm.Cond.and given_1 narrow_1)
theorem eq_int {A : Array Value} {s : State} {t : Term} {z : Int32} (h : (Cond.eq t (.int z)).before A s = true) : t.eval A s none [] s = some (.int z) := by
  cases hv : t.eval A s none [] s with
  | none => simp [Cond.before, Cond.holds, Cond.value, hv] at h
  | some w =>
    have hz : (Term.int z).eval A s none [] s = some (.int z) := rfl
    simp only [Cond.before, Cond.holds, Cond.value, hv, hz] at h
    cases w <;> simp_all
theorem dgr_of {A9 : Array Value} {s : State} {A : Nat → Prop} {nm : String} {f : Nat → Int} (hl : (Cond.laysStatic "java/lang/Integer" nm "[B").before A9 s = true) (hini : (Cond.initialized "java/lang/Integer").before A9 s = true) (h0 : (Cond.arrayOf (.static "java/lang/Integer" nm "[B") .byte).before A9 s = true) (h1 : (Cond.eq (.length (.static "java/lang/Integer" nm "[B")) (.int 100)).before A9 s = true)
    (h2 : ∀ j : Nat, j < 100 → (Cond.eq (.elem (.static "java/lang/Integer" nm "[B") (.int (Int32.ofNat j))) (.int (Int32.ofInt (f j)))).before A9 s = true) (hA : ∀ a : Nat, a < s.heap.size → ¬ A a) : DGR A nm f s := by
  have hlen := eq_int h1
  obtain ⟨a, cell, ht, harr, hsz⟩ := Term.length_spec hlen
  obtain ⟨hcell, hunk, hst, -⟩ := State.arrayAt?_spec harr
  obtain ⟨hof, -⟩ := Cond.arrayOf_spec h0 ht hcell
  have hsz2 : cell.slots.size = 100 := by
    have h9 := hlen
    simp only [Term.eval, Option.bind_eq_bind] at h9
    simp only [Term.eval, Option.bind_eq_bind] at ht
    rw [ht] at h9
    simp only [Option.bind_some, harr] at h9
    by_cases hlt : cell.slots.size < 2 ^ 31
    · rw [if_pos hlt] at h9
      have h8 : (cell.slots.size.toInt32 : Int32) = 100 := by
        have h7 := Option.some.inj h9
        injection h7
      have e : (cell.slots.size.toInt32).toNatClampNeg = cell.slots.size := nI_clamp hlt
      rw [h8] at e
      exact e.symm.trans (by decide)
    · rw [if_neg hlt] at h9
      cases h9
  refine ⟨a, cell, va_Zof hl hini ht hA, hcell, hA a (Array.getElem?_eq_some_iff.mp hcell).1, hof, hunk, hsz2, fun j hj => ?_⟩
  obtain ⟨a', j', cell', t1, t2, t3, -, t5⟩ := Term.elem_spec (eq_int (h2 j hj))
  cases Option.some.inj (ht.symm.trans t1)
  cases harr.symm.trans t3
  have t6 : Int32.ofNat j = j' := by
    have h7 := Option.some.inj (show some (Value.int (Int32.ofNat j)) = some (.int j') from t2)
    injection h7
  rw [← t6, show (Int32.ofNat j).toNatClampNeg = j from nI_clamp (by omega)] at t5
  exact t5
theorem txt_of {own tx : String} {k : Nat} {A : Array Value} {s : State} (h1 : (Cond.stringRef own k tx).before A s = true) (h2 : (Cond.exactly (.string own k) "java/lang/String").before A s = true) : ∃ a, vk_R own k tx a s := by
  obtain ⟨a, _, _, _, ha, _⟩ := Cond.exactly_spec h2
  exact ⟨a, vk_R.of h1 ha⟩
theorem arr_prim {A : Array Value} {s : State} {ty : FieldType} (h : (Cond.arrayClass ty).before A s = true) (hRA : ∀ cA, s.vm.findClass ("[" ++ ty.toString) = some cA → va_RA s cA ty) : ∃ cA, ArrOfT s cA ty ∧ va_RA s cA ty := by
  obtain ⟨cA, kA, comp, h1, h2, h3⟩ := Cond.arrayClass_spec h
  exact ⟨cA, fun n z => ⟨fun k h => (by cases h), kA, h2, comp, h3⟩, hRA cA h1⟩
theorem arr_obj {s : State} {C : String} (h : va_AO C s) : ∃ cA, ArrOfT s cA (.object C) ∧ va_RA s cA (.object C) := by
  obtain ⟨comp, cA, kA, h1, h2, h3, h4, h5⟩ := Cond.arrayOver_spec h
  exact ⟨cA, fun n z => ⟨fun k h => (by cases h), kA, h3, comp, h4⟩, kA, comp, h3, h4, h1, h5⟩
