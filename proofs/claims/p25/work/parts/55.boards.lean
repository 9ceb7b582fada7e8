/-! new int[N][125] -/
theorem i_mna {G : GT} {Q : State → Prop} {cc : ByteArray} {nL k n pc : Nat} {own : String} {ls : List (Nat × Value)} {st : List Value} {ws : va_W} {index N : Nat} {x y : Int32} (C : iC G cc nL own) (hd : decode cc pc = .ok (.multianewarray index 2, 4)) (hw : Cond.classLink own index "[[I" ∈ lw_tg) (ho : zAO (gs G)) (hx : ¬ x < 0 ∧ x.toNatClampNeg = N) (hy : ¬ y < 0 ∧ y.toNatClampNeg = 125) (hN : N ≤ 10) (hk : k + (1 + N) ≤ (gR G).cells) (hs : n + (N + N * 125) ≤ (gR G).slots) (kk : ∀ (q : Nat) (r : Nat → Nat), iJ G Q nL (k + 1 + N) (n + N + N * 125) (pc + 4) ls (.ref q :: st) ((ws ++ [(q, aQ (gk G) N (fun i => if i < N then some (r i) else none))]) ++ ((List.range N).map r).map (fun a => (a, aI (gk G) 125 zz)))) : iJ G Q nL k n pc ls (.int y :: .int x :: st) ws := fun H locs la hP hD hS hl => by
  have h0 : (gs G).vm.findClass (FieldType.array .int).toString = some (gk G).1 := (C.2.1.2 0 ((gk G).1, .int) rfl).2
  have hP' : va_P (gD G) vwCl (ws ++ va_pl [] (fun _ => aI (gk G) 125 zz)) H := by simpa [va_pl] using hP
  have hD' : va_D (gA G) (ws ++ va_pl [] (fun _ => aI (gk G) 125 zz)) := by simpa [va_pl] using hD
  refine va_mna (ty := .int) (cy := (gk G).1) (z := (125, .inl zz)) (N' := N) (K' := 125) C.1.1 C.1.2.1 C.1.2.2.2.1 (C.1.2.2.2.2 _ hw) ho (C.1.2.2.2.2 _ tw_337) h0 C.2.1 hP' hD' hS C.2.2.1 hx.1 hy.1 hx.2 hy.2 (by omega) (show 125 * 4 ≤ 536870912 by omega) (by omega) rfl rfl hk hs (fun c => by
    show ({ cls := c, slots := Array.replicate 125 (.int 0), vm := .none } : Cell) = _
    rw [arrV_new]
    rfl) hd (fun q r cA H1 hr1 hr2 hK1 hP1 hD1 hS1 => ?_)
  have e : cA = (gk G).2.2 := by
    have h1 : (gs G).vm.findClass ("[" ++ (FieldType.array .int).toString) = some cA := (hK1.2 3 (cA, .array .int) rfl).2
    have h2 : (gs G).vm.findClass ("[" ++ (FieldType.array .int).toString) = some (gk G).2.2 := (C.2.1.2 2 ((gk G).2.2, .array .int) rfl).2
    exact Option.some.inj (h1.symm.trans h2)
  subst e
  have ep : va_pl ([] ++ (List.range N).map r) (vr_up (fun _ => aI (gk G) 125 zz) ((List.range N).map r) (.inl ((gk G).1, (125, .inl zz)))) = ((List.range N).map r).map (fun a => (a, aI (gk G) 125 zz)) := by
    unfold va_pl
    rw [List.nil_append]
    apply List.map_congr_left
    intro a ha
    rw [vr_up_in ha]
    rfl
  rw [ep] at hP1 hD1
  exact kk q r H1 locs la hP1 hD1 hS1 hl
