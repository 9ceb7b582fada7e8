/-! The constructor of the class -/
def mk2 : Room := { frames := 2, cells := 20, slots := 1497, locals := 60 }
theorem k_X2 (l : Launch) (D : va_G) (cs : ClassId × ClassId × ClassId) : zI l D cs yX2_init cX2_init mk2 2 [.null, .null, .null, .null, .null, .null, .int 0, .int 0] (fun h w => ∃ ad : Nat → Nat, ad 0 = h ∧ w = FW cs ad st3 zz st3 zz zz zz (fun _ => zz) (fun _ => zz) zz zz) := by
  refine zI_of (by decide +kernel) rfl fun G Q h0 g1 g2 g3 g4 C hin ret => ?_
  subst g1
  subst g2
  subst g3
  refine i_ald 0 C dX2_init_0 rfl ?_
  refine i_obj C dX2_init_1 tw_329 (by rw [g4]; decide) (by rw [g4]; decide) ?_
  refine i_ald 0 C dX2_init_4 rfl ?_
  refine i_new (ci := 0) (fs := [.null, .null]) C dX2_init_5 rfl in_X0 tyX0 tyX0_ok tw_332 tw_333 tw_23 (fun j hj => by rcases (show j = 0 ∨ j = 1 by omega) with rfl | rfl <;> rfl) (by rw [g4]; decide) (by rw [g4]; decide) fun q1 => ?_
  refine i_dup C dX2_init_8 rfl ?_
  refine i_call (wr := [(h0, .inr (2, [.null, .null, .null, .null, .null, .null, .int 0, .int 0]))]) C dX2_init_9 (k_X0 _ _ _) rfl tw_339 tw_23 tw_341 tw_340 (by decide +kernel) (by rw [g4]; decide) (by rw [g4]; decide) (by rw [g4]; decide) (Nat.le_of_ble_eq_true rfl) ?_
  rintro _ ⟨r1, f1, rfl⟩
  refine i_ws (ws2 := [(h0, .inr (2, [.null, .null, .null, .null, .null, .null, .int 0, .int 0])), (q1, .inr (0, [.ref r1, .ref f1])), (r1, aI (gk G) 125 st3), (f1, aI (gk G) 10 zz)]) rfl ?_
  refine i_putF (ws' := [(h0, .inr (2, [.ref q1, .null, .null, .null, .null, .null, .int 0, .int 0])), (q1, .inr (0, [.ref r1, .ref f1])), (r1, aI (gk G) 125 st3), (f1, aI (gk G) 10 zz)]) 0 0 C dX2_init_12 rfl in_X2 tyX2 tyX2_ok nmX2 (by decide) tw_13 rfl hin rfl rfl (by rfl) rfl (by simp) rfl ?_
  refine i_ald 0 C dX2_init_15 rfl ?_
  refine i_new (ci := 0) (fs := [.null, .null]) C dX2_init_16 rfl in_X0 tyX0 tyX0_ok tw_332 tw_333 tw_23 (fun j hj => by rcases (show j = 0 ∨ j = 1 by omega) with rfl | rfl <;> rfl) (by rw [g4]; decide) (by rw [g4]; decide) fun q2 => ?_
  refine i_dup C dX2_init_19 rfl ?_
  refine i_call (wr := [(h0, .inr (2, [.ref q1, .null, .null, .null, .null, .null, .int 0, .int 0])), (q1, .inr (0, [.ref r1, .ref f1])), (r1, aI (gk G) 125 st3), (f1, aI (gk G) 10 zz)]) C dX2_init_20 (k_X0 _ _ _) rfl tw_339 tw_23 tw_341 tw_340 (by decide +kernel) (by rw [g4]; decide) (by rw [g4]; decide) (by rw [g4]; decide) (Nat.le_of_ble_eq_true rfl) ?_
  rintro _ ⟨r2, f2, rfl⟩
  refine i_ws (ws2 := [(h0, .inr (2, [.ref q1, .null, .null, .null, .null, .null, .int 0, .int 0])), (q1, .inr (0, [.ref r1, .ref f1])), (r1, aI (gk G) 125 st3), (f1, aI (gk G) 10 zz), (q2, .inr (0, [.ref r2, .ref f2])), (r2, aI (gk G) 125 st3), (f2, aI (gk G) 10 zz)]) rfl ?_
  refine i_putF (ws' := [(h0, .inr (2, [.ref q1, .ref q2, .null, .null, .null, .null, .int 0, .int 0])), (q1, .inr (0, [.ref r1, .ref f1])), (r1, aI (gk G) 125 st3), (f1, aI (gk G) 10 zz), (q2, .inr (0, [.ref r2, .ref f2])), (r2, aI (gk G) 125 st3), (f2, aI (gk G) 10 zz)]) 0 1 C dX2_init_23 rfl in_X2 tyX2 tyX2_ok nmX2 (by decide) tw_256 rfl hin rfl rfl (by rfl) rfl (by simp) rfl ?_
  refine i_ald 0 C dX2_init_26 rfl ?_
  refine i_new (ci := 1) (fs := [.null, .int 0, .int 0, .int 0, .int 0, .int 0, .int 0]) C dX2_init_27 rfl in_X1 tyX1 tyX1_ok tw_334 tw_335 tw_182 (fun j hj => by rcases (show j = 0 ∨ j = 1 ∨ j = 2 ∨ j = 3 ∨ j = 4 ∨ j = 5 ∨ j = 6 by omega) with rfl | rfl | rfl | rfl | rfl | rfl | rfl <;> rfl) (by rw [g4]; decide) (by rw [g4]; decide) fun q3 => ?_
  refine i_dup C dX2_init_30 rfl ?_
  refine i_call (wr := [(h0, .inr (2, [.ref q1, .ref q2, .null, .null, .null, .null, .int 0, .int 0])), (q1, .inr (0, [.ref r1, .ref f1])), (r1, aI (gk G) 125 st3), (f1, aI (gk G) 10 zz), (q2, .inr (0, [.ref r2, .ref f2])), (r2, aI (gk G) 125 st3), (f2, aI (gk G) 10 zz)]) C dX2_init_31 (k_X1 _ _ _) rfl tw_343 tw_182 tw_345 tw_344 (by decide +kernel) (by rw [g4]; decide) (by rw [g4]; decide) (by rw [g4]; decide) (Nat.le_of_ble_eq_true rfl) ?_
  rintro _ ⟨c3, rfl⟩
  refine i_ws (ws2 := [(h0, .inr (2, [.ref q1, .ref q2, .null, .null, .null, .null, .int 0, .int 0])), (q1, .inr (0, [.ref r1, .ref f1])), (r1, aI (gk G) 125 st3), (f1, aI (gk G) 10 zz), (q2, .inr (0, [.ref r2, .ref f2])), (r2, aI (gk G) 125 st3), (f2, aI (gk G) 10 zz), (q3, .inr (1, [.ref c3, .int 0, .int 0, .int 0, .int 0, .int 0, .int 0])), (c3, aI (gk G) 80 zz)]) rfl ?_
  refine i_putF (ws' := [(h0, .inr (2, [.ref q1, .ref q2, .ref q3, .null, .null, .null, .int 0, .int 0])), (q1, .inr (0, [.ref r1, .ref f1])), (r1, aI (gk G) 125 st3), (f1, aI (gk G) 10 zz), (q2, .inr (0, [.ref r2, .ref f2])), (r2, aI (gk G) 125 st3), (f2, aI (gk G) 10 zz), (q3, .inr (1, [.ref c3, .int 0, .int 0, .int 0, .int 0, .int 0, .int 0])), (c3, aI (gk G) 80 zz)]) 0 2 C dX2_init_34 rfl in_X2 tyX2 tyX2_ok nmX2 (by decide) tw_178 rfl hin rfl rfl (by rfl) rfl (by simp) rfl ?_
  refine i_ald 0 C dX2_init_37 rfl ?_
  refine i_bip (v := 7) C dX2_init_38 (by decide) ?_
  refine i_bip (v := 125) C dX2_init_40 (by decide) ?_
  refine i_mna (N := 7) C dX2_init_42 tw_336 C.2.2.2 (by decide) (by decide) (by omega) (by rw [g4]; decide) (by rw [g4]; decide) fun q4 ra => ?_
  refine i_ws (ws2 := [(h0, .inr (2, [.ref q1, .ref q2, .ref q3, .null, .null, .null, .int 0, .int 0])), (q1, .inr (0, [.ref r1, .ref f1])), (r1, aI (gk G) 125 st3), (f1, aI (gk G) 10 zz), (q2, .inr (0, [.ref r2, .ref f2])), (r2, aI (gk G) 125 st3), (f2, aI (gk G) 10 zz), (q3, .inr (1, [.ref c3, .int 0, .int 0, .int 0, .int 0, .int 0, .int 0])), (c3, aI (gk G) 80 zz), (q4, aQ (gk G) 7 (fun i => if i < 7 then some (ra i) else none)), (ra 0, aI (gk G) 125 zz), (ra 1, aI (gk G) 125 zz), (ra 2, aI (gk G) 125 zz), (ra 3, aI (gk G) 125 zz), (ra 4, aI (gk G) 125 zz), (ra 5, aI (gk G) 125 zz), (ra 6, aI (gk G) 125 zz)]) rfl ?_
  refine i_putF (ws' := [(h0, .inr (2, [.ref q1, .ref q2, .ref q3, .ref q4, .null, .null, .int 0, .int 0])), (q1, .inr (0, [.ref r1, .ref f1])), (r1, aI (gk G) 125 st3), (f1, aI (gk G) 10 zz), (q2, .inr (0, [.ref r2, .ref f2])), (r2, aI (gk G) 125 st3), (f2, aI (gk G) 10 zz), (q3, .inr (1, [.ref c3, .int 0, .int 0, .int 0, .int 0, .int 0, .int 0])), (c3, aI (gk G) 80 zz), (q4, aQ (gk G) 7 (fun i => if i < 7 then some (ra i) else none)), (ra 0, aI (gk G) 125 zz), (ra 1, aI (gk G) 125 zz), (ra 2, aI (gk G) 125 zz), (ra 3, aI (gk G) 125 zz), (ra 4, aI (gk G) 125 zz), (ra 5, aI (gk G) 125 zz), (ra 6, aI (gk G) 125 zz)]) 0 3 C dX2_init_46 rfl in_X2 tyX2 tyX2_ok nmX2 (by decide) tw_18 rfl hin rfl rfl (by rfl) rfl (by simp) rfl ?_
  refine i_ald 0 C dX2_init_49 rfl ?_
  refine i_icn (v := 2) C dX2_init_50 (by decide) ?_
  refine i_bip (v := 125) C dX2_init_51 (by decide) ?_
  refine i_mna (N := 2) C dX2_init_53 tw_336 C.2.2.2 (by decide) (by decide) (by omega) (by rw [g4]; decide) (by rw [g4]; decide) fun q5 rb => ?_
  refine i_ws (ws2 := [(h0, .inr (2, [.ref q1, .ref q2, .ref q3, .ref q4, .null, .null, .int 0, .int 0])), (q1, .inr (0, [.ref r1, .ref f1])), (r1, aI (gk G) 125 st3), (f1, aI (gk G) 10 zz), (q2, .inr (0, [.ref r2, .ref f2])), (r2, aI (gk G) 125 st3), (f2, aI (gk G) 10 zz), (q3, .inr (1, [.ref c3, .int 0, .int 0, .int 0, .int 0, .int 0, .int 0])), (c3, aI (gk G) 80 zz), (q4, aQ (gk G) 7 (fun i => if i < 7 then some (ra i) else none)), (ra 0, aI (gk G) 125 zz), (ra 1, aI (gk G) 125 zz), (ra 2, aI (gk G) 125 zz), (ra 3, aI (gk G) 125 zz), (ra 4, aI (gk G) 125 zz), (ra 5, aI (gk G) 125 zz), (ra 6, aI (gk G) 125 zz), (q5, aQ (gk G) 2 (fun i => if i < 2 then some (rb i) else none)), (rb 0, aI (gk G) 125 zz), (rb 1, aI (gk G) 125 zz)]) rfl ?_
  refine i_putF (ws' := [(h0, .inr (2, [.ref q1, .ref q2, .ref q3, .ref q4, .ref q5, .null, .int 0, .int 0])), (q1, .inr (0, [.ref r1, .ref f1])), (r1, aI (gk G) 125 st3), (f1, aI (gk G) 10 zz), (q2, .inr (0, [.ref r2, .ref f2])), (r2, aI (gk G) 125 st3), (f2, aI (gk G) 10 zz), (q3, .inr (1, [.ref c3, .int 0, .int 0, .int 0, .int 0, .int 0, .int 0])), (c3, aI (gk G) 80 zz), (q4, aQ (gk G) 7 (fun i => if i < 7 then some (ra i) else none)), (ra 0, aI (gk G) 125 zz), (ra 1, aI (gk G) 125 zz), (ra 2, aI (gk G) 125 zz), (ra 3, aI (gk G) 125 zz), (ra 4, aI (gk G) 125 zz), (ra 5, aI (gk G) 125 zz), (ra 6, aI (gk G) 125 zz), (q5, aQ (gk G) 2 (fun i => if i < 2 then some (rb i) else none)), (rb 0, aI (gk G) 125 zz), (rb 1, aI (gk G) 125 zz)]) 0 4 C dX2_init_57 rfl in_X2 tyX2 tyX2_ok nmX2 (by decide) tw_278 rfl hin rfl rfl (by rfl) rfl (by simp) rfl ?_
  refine i_ald 0 C dX2_init_60 rfl ?_
  refine i_icn (v := 2) C dX2_init_61 (by decide) ?_
  refine i_newZ (N := 2) C dX2_init_62 (by decide) (by omega) (by rw [g4]; decide) (by rw [g4]; decide) fun q6 => ?_
  refine i_ws (ws2 := [(h0, .inr (2, [.ref q1, .ref q2, .ref q3, .ref q4, .ref q5, .null, .int 0, .int 0])), (q1, .inr (0, [.ref r1, .ref f1])), (r1, aI (gk G) 125 st3), (f1, aI (gk G) 10 zz), (q2, .inr (0, [.ref r2, .ref f2])), (r2, aI (gk G) 125 st3), (f2, aI (gk G) 10 zz), (q3, .inr (1, [.ref c3, .int 0, .int 0, .int 0, .int 0, .int 0, .int 0])), (c3, aI (gk G) 80 zz), (q4, aQ (gk G) 7 (fun i => if i < 7 then some (ra i) else none)), (ra 0, aI (gk G) 125 zz), (ra 1, aI (gk G) 125 zz), (ra 2, aI (gk G) 125 zz), (ra 3, aI (gk G) 125 zz), (ra 4, aI (gk G) 125 zz), (ra 5, aI (gk G) 125 zz), (ra 6, aI (gk G) 125 zz), (q5, aQ (gk G) 2 (fun i => if i < 2 then some (rb i) else none)), (rb 0, aI (gk G) 125 zz), (rb 1, aI (gk G) 125 zz), (q6, aZ (gk G) 2 zz)]) rfl ?_
  refine i_putF (ws' := [(h0, .inr (2, [.ref q1, .ref q2, .ref q3, .ref q4, .ref q5, .ref q6, .int 0, .int 0])), (q1, .inr (0, [.ref r1, .ref f1])), (r1, aI (gk G) 125 st3), (f1, aI (gk G) 10 zz), (q2, .inr (0, [.ref r2, .ref f2])), (r2, aI (gk G) 125 st3), (f2, aI (gk G) 10 zz), (q3, .inr (1, [.ref c3, .int 0, .int 0, .int 0, .int 0, .int 0, .int 0])), (c3, aI (gk G) 80 zz), (q4, aQ (gk G) 7 (fun i => if i < 7 then some (ra i) else none)), (ra 0, aI (gk G) 125 zz), (ra 1, aI (gk G) 125 zz), (ra 2, aI (gk G) 125 zz), (ra 3, aI (gk G) 125 zz), (ra 4, aI (gk G) 125 zz), (ra 5, aI (gk G) 125 zz), (ra 6, aI (gk G) 125 zz), (q5, aQ (gk G) 2 (fun i => if i < 2 then some (rb i) else none)), (rb 0, aI (gk G) 125 zz), (rb 1, aI (gk G) 125 zz), (q6, aZ (gk G) 2 zz)]) 0 5 C dX2_init_64 rfl in_X2 tyX2 tyX2_ok nmX2 (by decide) tw_279 rfl hin rfl rfl (by rfl) rfl (by simp) rfl ?_
  refine i_ald 0 C dX2_init_67 rfl ?_
  refine i_icn (v := 0) C dX2_init_68 (by decide) ?_
  refine i_put (ws' := [(h0, .inr (2, [.ref q1, .ref q2, .ref q3, .ref q4, .ref q5, .ref q6, .int 0, .int 0])), (q1, .inr (0, [.ref r1, .ref f1])), (r1, aI (gk G) 125 st3), (f1, aI (gk G) 10 zz), (q2, .inr (0, [.ref r2, .ref f2])), (r2, aI (gk G) 125 st3), (f2, aI (gk G) 10 zz), (q3, .inr (1, [.ref c3, .int 0, .int 0, .int 0, .int 0, .int 0, .int 0])), (c3, aI (gk G) 80 zz), (q4, aQ (gk G) 7 (fun i => if i < 7 then some (ra i) else none)), (ra 0, aI (gk G) 125 zz), (ra 1, aI (gk G) 125 zz), (ra 2, aI (gk G) 125 zz), (ra 3, aI (gk G) 125 zz), (ra 4, aI (gk G) 125 zz), (ra 5, aI (gk G) 125 zz), (ra 6, aI (gk G) 125 zz), (q5, aQ (gk G) 2 (fun i => if i < 2 then some (rb i) else none)), (rb 0, aI (gk G) 125 zz), (rb 1, aI (gk G) 125 zz), (q6, aZ (gk G) 2 zz)]) 0 6 C dX2_init_69 rfl in_X2 tyX2 tyX2_ok nmX2 (by decide) tw_19 rfl rfl (by rfl) rfl (by simp) rfl ?_
  refine i_ald 0 C dX2_init_72 rfl ?_
  refine i_icn (v := 0) C dX2_init_73 (by decide) ?_
  refine i_put (ws' := [(h0, .inr (2, [.ref q1, .ref q2, .ref q3, .ref q4, .ref q5, .ref q6, .int 0, .int 0])), (q1, .inr (0, [.ref r1, .ref f1])), (r1, aI (gk G) 125 st3), (f1, aI (gk G) 10 zz), (q2, .inr (0, [.ref r2, .ref f2])), (r2, aI (gk G) 125 st3), (f2, aI (gk G) 10 zz), (q3, .inr (1, [.ref c3, .int 0, .int 0, .int 0, .int 0, .int 0, .int 0])), (c3, aI (gk G) 80 zz), (q4, aQ (gk G) 7 (fun i => if i < 7 then some (ra i) else none)), (ra 0, aI (gk G) 125 zz), (ra 1, aI (gk G) 125 zz), (ra 2, aI (gk G) 125 zz), (ra 3, aI (gk G) 125 zz), (ra 4, aI (gk G) 125 zz), (ra 5, aI (gk G) 125 zz), (ra 6, aI (gk G) 125 zz), (q5, aQ (gk G) 2 (fun i => if i < 2 then some (rb i) else none)), (rb 0, aI (gk G) 125 zz), (rb 1, aI (gk G) 125 zz), (q6, aZ (gk G) 2 zz)]) 0 7 C dX2_init_74 rfl in_X2 tyX2 tyX2_ok nmX2 (by decide) tw_49 rfl rfl (by rfl) rfl (by simp) rfl ?_
  have e7 : (fun i => if i < 7 then some (ra i) else none) = (fun j => if j < 7 then some ((fun j => if j < 10 then [h0, q1, r1, f1, q2, r2, f2, q3, c3, q4].getD j 0 else if j < 17 then ra (j - 10) else if j = 17 then q5 else if j < 20 then rb (j - 18) else q6) (10 + j)) else none) := by
    funext j
    by_cases h : j < 7
    · rw [if_pos h, if_pos h]
      show some (ra j) = some (if 10 + j < 10 then _ else if 10 + j < 17 then ra (10 + j - 10) else _)
      rw [if_neg (by omega), if_pos (by omega), show 10 + j - 10 = j by omega]
    · rw [if_neg h, if_neg h]
  have e2 : (fun i => if i < 2 then some (rb i) else none) = (fun j => if j < 2 then some ((fun j => if j < 10 then [h0, q1, r1, f1, q2, r2, f2, q3, c3, q4].getD j 0 else if j < 17 then ra (j - 10) else if j = 17 then q5 else if j < 20 then rb (j - 18) else q6) (18 + j)) else none) := by
    funext j
    by_cases h : j < 2
    · rw [if_pos h, if_pos h]
      show some (rb j) = some (if 18 + j < 10 then _ else if 18 + j < 17 then _ else if 18 + j = 17 then _ else if 18 + j < 20 then rb (18 + j - 18) else _)
      rw [if_neg (by omega), if_neg (by omega), if_neg (by omega), if_pos (by omega), show 18 + j - 18 = j by omega]
    · rw [if_neg h, if_neg h]
  rw [e7, e2]
  exact ret 77 _ _ dX2_init_77 ⟨fun j => if j < 10 then [h0, q1, r1, f1, q2, r2, f2, q3, c3, q4].getD j 0 else if j < 17 then ra (j - 10) else if j = 17 then q5 else if j < 20 then rb (j - 18) else q6, rfl, rfl⟩
