/-! What is known of the classes at the start -/
theorem known0 {args : Array Value} {s : State} (hw : ∀ w ∈ lw_tbl, w.before args s = true) : ∃ (D : va_G) (cs : ClassId × ClassId × ClassId), va_K D vwCl (TYs cs) s ∧ zAO s := by
  have hts : ∀ w ∈ lw_tg, w.before args s = true := fun w h => hw w (List.mem_filter.mp h).1
  have hO : zAO s := hw (Cond.arrayOver (.array .int)) (by decide +kernel)
  obtain ⟨c0, i0, k0⟩ := u_known (C := RX0) (T := TX0) (N := 2) (n := 2) hts in_X0 (hts _ tw_333)
  obtain ⟨c1, i1, k1⟩ := u_known (C := RX1) (T := TX1) (N := 7) (n := 7) hts in_X1 (hts _ tw_335)
  obtain ⟨c2, i2, k2⟩ := u_known (C := RX2) (T := TX2) (N := 8) (n := 8) hts in_X2 (hts _ tw_325)
  obtain ⟨aI0, kI, cI, hI1, hI2, hI3⟩ := Cond.arrayClass_spec (hts _ tw_337)
  obtain ⟨aZ0, kZ, cZ, hZ1, hZ2, hZ3⟩ := Cond.arrayClass_spec (hts _ tw_338)
  obtain ⟨cQ, aQ0, kQ, -, -, hQ3, hQ4, hQ5⟩ := zAO_spec hO
  refine ⟨(fun k => if k = 0 then c0 else if k = 1 then c1 else c2, fun k => if k = 0 then i0 else if k = 1 then i1 else i2), (aI0, aZ0, aQ0), ⟨fun k q hq => ?_, fun k q hq => ?_⟩, hO⟩
  · match k, hq with
    | 0, hq => cases hq; exact k0
    | 1, hq => cases hq; exact k1
    | 2, hq => cases hq; exact k2
      | k + 3, hq => simp [vwCl] at hq
  · match k, hq with
    | 0, hq => cases hq; exact ⟨fun n z => ⟨fun k h => (by cases h), kI, hI2, cI, hI3⟩, hI1⟩
    | 1, hq => cases hq; exact ⟨fun n z => ⟨fun k h => (by cases h), kZ, hZ2, cZ, hZ3⟩, hZ1⟩
    | 2, hq => cases hq; exact ⟨fun n z => ⟨fun k h => (by cases h), kQ, hQ3, cQ, hQ4⟩, hQ5⟩
    | k + 3, hq => simp [TYs] at hq
