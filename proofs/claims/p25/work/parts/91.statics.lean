/-! The class's constants at the start -/
theorem s_eqI {args : Array Value} {s : State} {tm : Term} {z : Int32} (h : (Cond.eq tm (.int z)).before args s = true) : tm.eval args s none [] s = some (.int z) := by
  cases hv : tm.eval args s none [] s with
  | none => simp [Cond.before, Cond.holds, Cond.value, hv] at h
  | some w =>
    have hz : (Term.int z).eval args s none [] s = some (.int z) := rfl
    simp only [Cond.before, Cond.holds, Cond.value, hv, hz] at h
    cases w <;> simp_all
theorem zst0 {args : Array Value} {s : State} (hw : ∀ w ∈ lw_tbl, w.before args s = true) (hg : (Jvm.Cond.and given_1 narrow_1).before args s = true) : zSt (fun q => s.heap.size ≤ q) s s.heap := by
  have fs := flat_of_before _ hg
  have hA : ∀ a : Nat, a < s.heap.size → ¬ (fun q : Nat => s.heap.size ≤ q) a := fun a h1 h2 => Nat.not_le.mpr h1 h2
  obtain ⟨t, h1, h2⟩ := va_Tof (args := args) (s := s) (tm := .static "FuseBoards$House" "LEAST_VALUES" "[I") (ty := .int) (N := 3) (f := fun k => .int (zLV k)) (A := fun q => s.heap.size ≤ q) (by omega) (fs _ (by decide +kernel)) (s_eqI (z := 3) (fs _ (by decide +kernel))) (fun j hj => by
    rcases (show j = 0 ∨ j = 1 ∨ j = 2 by omega) with rfl | rfl | rfl
    · exact s_eqI (z := 0) (fs _ (by decide +kernel))
    · exact s_eqI (z := 1) (fs _ (by decide +kernel))
    · exact s_eqI (z := 1) (fs _ (by decide +kernel))) hA
  obtain ⟨u, h3, h4⟩ := va_Tof (args := args) (s := s) (tm := .static "FuseBoards$House" "MOST_VALUES" "[I") (ty := .int) (N := 3) (f := fun k => .int (zMV k)) (A := fun q => s.heap.size ≤ q) (by omega) (fs _ (by decide +kernel)) (s_eqI (z := 3) (fs _ (by decide +kernel))) (fun j hj => by
    rcases (show j = 0 ∨ j = 1 ∨ j = 2 by omega) with rfl | rfl | rfl
    · exact s_eqI (z := 9) (fs _ (by decide +kernel))
    · exact s_eqI (z := 9) (fs _ (by decide +kernel))
    · exact s_eqI (z := 50) (fs _ (by decide +kernel))) hA
  have hi : (Cond.initialized "FuseBoards$House").before args s = true := hw _ (List.mem_filter.mp tw_23).1
  exact ⟨⟨t, va_Zof (hw _ (by decide +kernel)) hi h1 hA, h2⟩, ⟨u, va_Zof (hw _ (by decide +kernel)) hi h3 hA, h4⟩⟩
