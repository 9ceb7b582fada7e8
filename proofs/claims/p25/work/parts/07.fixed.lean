theorem kc_m1 : Int32.ofInt (-1) = (-1) := by decide +kernel
theorem kc_0 : Int32.ofInt (0) = 0 := by decide +kernel
theorem kc_1 : Int32.ofInt (1) = 1 := by decide +kernel
theorem kc_2 : Int32.ofInt (2) = 2 := by decide +kernel
theorem kc_3 : Int32.ofInt (3) = 3 := by decide +kernel
theorem kc_4 : Int32.ofInt (4) = 4 := by decide +kernel
theorem kc_5 : Int32.ofInt (5) = 5 := by decide +kernel
theorem kb_m6 : (Int8.ofInt (-6)).toInt32 = (-6) := by decide +kernel
theorem kb_m5 : (Int8.ofInt (-5)).toInt32 = (-5) := by decide +kernel
theorem kb_m4 : (Int8.ofInt (-4)).toInt32 = (-4) := by decide +kernel
theorem kb_m2 : (Int8.ofInt (-2)).toInt32 = (-2) := by decide +kernel
theorem kb_6 : (Int8.ofInt (6)).toInt32 = 6 := by decide +kernel
theorem kb_7 : (Int8.ofInt (7)).toInt32 = 7 := by decide +kernel
theorem kb_8 : (Int8.ofInt (8)).toInt32 = 8 := by decide +kernel
theorem kb_9 : (Int8.ofInt (9)).toInt32 = 9 := by decide +kernel
theorem kb_10 : (Int8.ofInt (10)).toInt32 = 10 := by decide +kernel
theorem kb_11 : (Int8.ofInt (11)).toInt32 = 11 := by decide +kernel
theorem kb_12 : (Int8.ofInt (12)).toInt32 = 12 := by decide +kernel
theorem kb_13 : (Int8.ofInt (13)).toInt32 = 13 := by decide +kernel
theorem kb_14 : (Int8.ofInt (14)).toInt32 = 14 := by decide +kernel
theorem kb_16 : (Int8.ofInt (16)).toInt32 = 16 := by decide +kernel
theorem kb_17 : (Int8.ofInt (17)).toInt32 = 17 := by decide +kernel
theorem kb_19 : (Int8.ofInt (19)).toInt32 = 19 := by decide +kernel
theorem kb_20 : (Int8.ofInt (20)).toInt32 = 20 := by decide +kernel
theorem kb_27 : (Int8.ofInt (27)).toInt32 = 27 := by decide +kernel
theorem kb_37 : (Int8.ofInt (37)).toInt32 = 37 := by decide +kernel
theorem kb_40 : (Int8.ofInt (40)).toInt32 = 40 := by decide +kernel
theorem kb_46 : (Int8.ofInt (46)).toInt32 = 46 := by decide +kernel
theorem kb_47 : (Int8.ofInt (47)).toInt32 = 47 := by decide +kernel
theorem kb_57 : (Int8.ofInt (57)).toInt32 = 57 := by decide +kernel
theorem kb_63 : (Int8.ofInt (63)).toInt32 = 63 := by decide +kernel
theorem kb_67 : (Int8.ofInt (67)).toInt32 = 67 := by decide +kernel
theorem kb_77 : (Int8.ofInt (77)).toInt32 = 77 := by decide +kernel
theorem kb_87 : (Int8.ofInt (87)).toInt32 = 87 := by decide +kernel
theorem kb_97 : (Int8.ofInt (97)).toInt32 = 97 := by decide +kernel
theorem kb_99 : (Int8.ofInt (99)).toInt32 = 99 := by decide +kernel
theorem kb_100 : (Int8.ofInt (100)).toInt32 = 100 := by decide +kernel
theorem kb_111 : (Int8.ofInt (111)).toInt32 = 111 := by decide +kernel
theorem kb_125 : (Int8.ofInt (125)).toInt32 = 125 := by decide +kernel
theorem ks_200 : (Int16.ofInt (200)).toInt32 = 200 := by decide +kernel
theorem ks_500 : (Int16.ofInt (500)).toInt32 = 500 := by decide +kernel
theorem ks_9999 : (Int16.ofInt (9999)).toInt32 = 9999 := by decide +kernel
theorem ix_0_125 : zin 0 125 0 := by refine ⟨?_, ?_⟩ <;> first | decide +kernel | (unfold vp_in; decide +kernel)
theorem ix_1_125 : zin 1 125 1 := by refine ⟨?_, ?_⟩ <;> first | decide +kernel | (unfold vp_in; decide +kernel)
theorem ix_2_125 : zin 2 125 2 := by refine ⟨?_, ?_⟩ <;> first | decide +kernel | (unfold vp_in; decide +kernel)
theorem ix_3_125 : zin 3 125 3 := by refine ⟨?_, ?_⟩ <;> first | decide +kernel | (unfold vp_in; decide +kernel)
theorem ix_4_125 : zin 4 125 4 := by refine ⟨?_, ?_⟩ <;> first | decide +kernel | (unfold vp_in; decide +kernel)
theorem ix_5_125 : zin 5 125 5 := by refine ⟨?_, ?_⟩ <;> first | decide +kernel | (unfold vp_in; decide +kernel)
theorem ix_6_125 : zin 6 125 6 := by refine ⟨?_, ?_⟩ <;> first | decide +kernel | (unfold vp_in; decide +kernel)
theorem ix_7_125 : zin 7 125 7 := by refine ⟨?_, ?_⟩ <;> first | decide +kernel | (unfold vp_in; decide +kernel)
theorem ix_8_125 : zin 8 125 8 := by refine ⟨?_, ?_⟩ <;> first | decide +kernel | (unfold vp_in; decide +kernel)
theorem ix_9_125 : zin 9 125 9 := by refine ⟨?_, ?_⟩ <;> first | decide +kernel | (unfold vp_in; decide +kernel)
theorem ix_97_125 : zin 97 125 97 := by refine ⟨?_, ?_⟩ <;> first | decide +kernel | (unfold vp_in; decide +kernel)
theorem ix_111_125 : zin 111 125 111 := by refine ⟨?_, ?_⟩ <;> first | decide +kernel | (unfold vp_in; decide +kernel)
theorem cp_0 : ¬ (0 : Int32) < 0 ∧ (0 : Int32).toNatClampNeg = 0 := by decide +kernel
theorem cp_7 : ¬ (7 : Int32) < 0 ∧ (7 : Int32).toNatClampNeg = 7 := by decide +kernel
theorem cp_9 : ¬ (9 : Int32) < 0 ∧ (9 : Int32).toNatClampNeg = 9 := by decide +kernel
theorem cp_10 : ¬ (10 : Int32) < 0 ∧ (10 : Int32).toNatClampNeg = 10 := by decide +kernel
theorem cp_125 : ¬ (125 : Int32) < 0 ∧ (125 : Int32).toNatClampNeg = 125 := by decide +kernel
theorem kn_125 : Int32.ofNat 125 = 125 := by decide +kernel
theorem gf_X0_11 {G : GT} {cc : ByteArray} {nL : Nat} {ret : Option FieldType} {d pc a : Nat} {ls : List (Nat × Value)} {st fs : List Value} {ws : va_W} {v : Value} (q0 : Nat) (C : zC G cc nL RX0 ret d) (hd : decode cc pc = .ok (.getfield 11, 3)) (he : ws[q0]? = some (a, .inr (0, fs))) (hv : fs[0]? = some v) (kk : zV G nL (pc + 3) ls (v :: st) ws) : zV G nL pc ls (.ref a :: st) ws := z_get q0 0 C hd (ci := 0) rfl in_X0 (by decide) tw_25 he hv kk
theorem gf_X0_15 {G : GT} {cc : ByteArray} {nL : Nat} {ret : Option FieldType} {d pc a : Nat} {ls : List (Nat × Value)} {st fs : List Value} {ws : va_W} {v : Value} (q0 : Nat) (C : zC G cc nL RX0 ret d) (hd : decode cc pc = .ok (.getfield 15, 3)) (he : ws[q0]? = some (a, .inr (0, fs))) (hv : fs[1]? = some v) (kk : zV G nL (pc + 3) ls (v :: st) ws) : zV G nL pc ls (.ref a :: st) ws := z_get q0 1 C hd (ci := 0) rfl in_X0 (by decide) tw_104 he hv kk
theorem gf_X1_15 {G : GT} {cc : ByteArray} {nL : Nat} {ret : Option FieldType} {d pc a : Nat} {ls : List (Nat × Value)} {st fs : List Value} {ws : va_W} {v : Value} (q0 : Nat) (C : zC G cc nL RX1 ret d) (hd : decode cc pc = .ok (.getfield 15, 3)) (he : ws[q0]? = some (a, .inr (1, fs))) (hv : fs[1]? = some v) (kk : zV G nL (pc + 3) ls (v :: st) ws) : zV G nL pc ls (.ref a :: st) ws := z_get q0 1 C hd (ci := 1) rfl in_X1 (by decide) tw_184 he hv kk
theorem gf_X2_12 {G : GT} {cc : ByteArray} {nL : Nat} {ret : Option FieldType} {d pc a : Nat} {ls : List (Nat × Value)} {st fs : List Value} {ws : va_W} {v : Value} (q0 : Nat) (C : zC G cc nL RX2 ret d) (hd : decode cc pc = .ok (.getfield 12, 3)) (he : ws[q0]? = some (a, .inr (2, fs))) (hv : fs[0]? = some v) (kk : zV G nL (pc + 3) ls (v :: st) ws) : zV G nL pc ls (.ref a :: st) ws := z_get q0 0 C hd (ci := 2) rfl in_X2 (by decide) tw_13 he hv kk
theorem gf_X2_16 {G : GT} {cc : ByteArray} {nL : Nat} {ret : Option FieldType} {d pc a : Nat} {ls : List (Nat × Value)} {st fs : List Value} {ws : va_W} {v : Value} (q0 : Nat) (C : zC G cc nL RX2 ret d) (hd : decode cc pc = .ok (.getfield 16, 3)) (he : ws[q0]? = some (a, .inr (2, fs))) (hv : fs[1]? = some v) (kk : zV G nL (pc + 3) ls (v :: st) ws) : zV G nL pc ls (.ref a :: st) ws := z_get q0 1 C hd (ci := 2) rfl in_X2 (by decide) tw_256 he hv kk
theorem gf_X2_22 {G : GT} {cc : ByteArray} {nL : Nat} {ret : Option FieldType} {d pc a : Nat} {ls : List (Nat × Value)} {st fs : List Value} {ws : va_W} {v : Value} (q0 : Nat) (C : zC G cc nL RX2 ret d) (hd : decode cc pc = .ok (.getfield 22, 3)) (he : ws[q0]? = some (a, .inr (2, fs))) (hv : fs[2]? = some v) (kk : zV G nL (pc + 3) ls (v :: st) ws) : zV G nL pc ls (.ref a :: st) ws := z_get q0 2 C hd (ci := 2) rfl in_X2 (by decide) tw_178 he hv kk
theorem gf_X2_28 {G : GT} {cc : ByteArray} {nL : Nat} {ret : Option FieldType} {d pc a : Nat} {ls : List (Nat × Value)} {st fs : List Value} {ws : va_W} {v : Value} (q0 : Nat) (C : zC G cc nL RX2 ret d) (hd : decode cc pc = .ok (.getfield 28, 3)) (he : ws[q0]? = some (a, .inr (2, fs))) (hv : fs[3]? = some v) (kk : zV G nL (pc + 3) ls (v :: st) ws) : zV G nL pc ls (.ref a :: st) ws := z_get q0 3 C hd (ci := 2) rfl in_X2 (by decide) tw_18 he hv kk
theorem gf_X2_31 {G : GT} {cc : ByteArray} {nL : Nat} {ret : Option FieldType} {d pc a : Nat} {ls : List (Nat × Value)} {st fs : List Value} {ws : va_W} {v : Value} (q0 : Nat) (C : zC G cc nL RX2 ret d) (hd : decode cc pc = .ok (.getfield 31, 3)) (he : ws[q0]? = some (a, .inr (2, fs))) (hv : fs[4]? = some v) (kk : zV G nL (pc + 3) ls (v :: st) ws) : zV G nL pc ls (.ref a :: st) ws := z_get q0 4 C hd (ci := 2) rfl in_X2 (by decide) tw_278 he hv kk
theorem gf_X2_34 {G : GT} {cc : ByteArray} {nL : Nat} {ret : Option FieldType} {d pc a : Nat} {ls : List (Nat × Value)} {st fs : List Value} {ws : va_W} {v : Value} (q0 : Nat) (C : zC G cc nL RX2 ret d) (hd : decode cc pc = .ok (.getfield 34, 3)) (he : ws[q0]? = some (a, .inr (2, fs))) (hv : fs[5]? = some v) (kk : zV G nL (pc + 3) ls (v :: st) ws) : zV G nL pc ls (.ref a :: st) ws := z_get q0 5 C hd (ci := 2) rfl in_X2 (by decide) tw_279 he hv kk
theorem gf_X2_38 {G : GT} {cc : ByteArray} {nL : Nat} {ret : Option FieldType} {d pc a : Nat} {ls : List (Nat × Value)} {st fs : List Value} {ws : va_W} {v : Value} (q0 : Nat) (C : zC G cc nL RX2 ret d) (hd : decode cc pc = .ok (.getfield 38, 3)) (he : ws[q0]? = some (a, .inr (2, fs))) (hv : fs[6]? = some v) (kk : zV G nL (pc + 3) ls (v :: st) ws) : zV G nL pc ls (.ref a :: st) ws := z_get q0 6 C hd (ci := 2) rfl in_X2 (by decide) tw_19 he hv kk
theorem gf_X2_42 {G : GT} {cc : ByteArray} {nL : Nat} {ret : Option FieldType} {d pc a : Nat} {ls : List (Nat × Value)} {st fs : List Value} {ws : va_W} {v : Value} (q0 : Nat) (C : zC G cc nL RX2 ret d) (hd : decode cc pc = .ok (.getfield 42, 3)) (he : ws[q0]? = some (a, .inr (2, fs))) (hv : fs[7]? = some v) (kk : zV G nL (pc + 3) ls (v :: st) ws) : zV G nL pc ls (.ref a :: st) ws := z_get q0 7 C hd (ci := 2) rfl in_X2 (by decide) tw_49 he hv kk
theorem pf_X2_38 {G : GT} {cc : ByteArray} {nL : Nat} {ret : Option FieldType} {d pc a : Nat} {ls : List (Nat × Value)} {st fs : List Value} {ws ws' : va_W} {x : Int32} (q0 : Nat) (C : zC G cc nL RX2 ret d) (hd : decode cc pc = .ok (.putfield 38, 3)) (he : ws[q0]? = some (a, .inr (2, fs))) (hlen : 6 < fs.length) (hw : ws.set q0 (a, .inr (2, fs.set 6 (.int x))) = ws') (kk : zV G nL (pc + 3) ls st ws') : zV G nL pc ls (.int x :: .ref a :: st) ws := z_put q0 6 C hd (ci := 2) rfl in_X2 tyX2 tyX2_ok nmX2 (by decide) tw_19 rfl rfl he hlen hw kk
theorem pf_X2_42 {G : GT} {cc : ByteArray} {nL : Nat} {ret : Option FieldType} {d pc a : Nat} {ls : List (Nat × Value)} {st fs : List Value} {ws ws' : va_W} {x : Int32} (q0 : Nat) (C : zC G cc nL RX2 ret d) (hd : decode cc pc = .ok (.putfield 42, 3)) (he : ws[q0]? = some (a, .inr (2, fs))) (hlen : 7 < fs.length) (hw : ws.set q0 (a, .inr (2, fs.set 7 (.int x))) = ws') (kk : zV G nL (pc + 3) ls st ws') : zV G nL pc ls (.int x :: .ref a :: st) ws := z_put q0 7 C hd (ci := 2) rfl in_X2 tyX2 tyX2_ok nmX2 (by decide) tw_49 rfl rfl he hlen hw kk
theorem w_J7_13 : zWS RJ7 13 yJ7_rangeCheck_23922 cJ7_rangeCheck_23922 3 none 3 := ⟨⟨⟨tw_311, tw_111, tw_313⟩, by decide +kernel, by decide⟩, tw_312⟩
theorem w_L_10 : zWS RL 10 yL_low cL_low 2 (some .int) 2 := ⟨⟨⟨tw_5, tw_7, tw_3⟩, by decide +kernel, by decide⟩, tw_6⟩
theorem w_L_16 : zWI RL 16 yX2_board cX2_board 4 (some .int) 3 := ⟨⟨⟨tw_8, tw_11, tw_12⟩, by decide +kernel, by decide⟩, tw_9, tw_10⟩
theorem w_L_22 : zWI RL 22 yX2_load cX2_load 3 (some .int) 2 := ⟨⟨⟨tw_54, tw_11, tw_57⟩, by decide +kernel, by decide⟩, tw_55, tw_56⟩
theorem w_L_25 : zWI RL 25 yX2_fuse cX2_fuse 4 (some .int) 3 := ⟨⟨⟨tw_62, tw_11, tw_65⟩, by decide +kernel, by decide⟩, tw_63, tw_64⟩
theorem w_L_28 : zWI RL 28 yX2_set cX2_set 3 (some .int) 2 := ⟨⟨⟨tw_70, tw_11, tw_73⟩, by decide +kernel, by decide⟩, tw_71, tw_72⟩
theorem w_L_31 : zWI RL 31 yX2_turn cX2_turn 2 (some .int) 1 := ⟨⟨⟨tw_80, tw_11, tw_83⟩, by decide +kernel, by decide⟩, tw_81, tw_82⟩
theorem w_L_35 : zWI RL 35 yX2_pass cX2_pass 2 (some .int) 1 := ⟨⟨⟨tw_92, tw_11, tw_95⟩, by decide +kernel, by decide⟩, tw_93, tw_94⟩
theorem w_L_38 : zWI RL 38 yX2_count cX2_count 2 (some .int) 1 := ⟨⟨⟨tw_174, tw_11, tw_177⟩, by decide +kernel, by decide⟩, tw_175, tw_176⟩
theorem w_L_41 : zWI RL 41 yX2_of cX2_of 3 (some .int) 2 := ⟨⟨⟨tw_205, tw_11, tw_208⟩, by decide +kernel, by decide⟩, tw_206, tw_207⟩
theorem w_L_44 : zWI RL 44 yX2_fed cX2_fed 2 (some .int) 1 := ⟨⟨⟨tw_218, tw_11, tw_221⟩, by decide +kernel, by decide⟩, tw_219, tw_220⟩
theorem w_L_47 : zWI RL 47 yX2_ofLoad cX2_ofLoad 3 (some .int) 2 := ⟨⟨⟨tw_223, tw_11, tw_226⟩, by decide +kernel, by decide⟩, tw_224, tw_225⟩
theorem w_L_51 : zWI RL 51 yX2_ifOpen cX2_ifOpen 2 (some .int) 1 := ⟨⟨⟨tw_233, tw_11, tw_236⟩, by decide +kernel, by decide⟩, tw_234, tw_235⟩
theorem w_L_54 : zWI RL 54 yX2_blown cX2_blown 2 (some .int) 1 := ⟨⟨⟨tw_238, tw_11, tw_241⟩, by decide +kernel, by decide⟩, tw_239, tw_240⟩
theorem w_L_57 : zWS RL 57 yL_boards cL_boards 11 (some .boolean) 1 := ⟨⟨⟨tw_246, tw_7, tw_232⟩, by decide +kernel, by decide⟩, tw_247⟩
theorem w_L_65 : zWI RL 65 yX2_next cX2_next 2 (some .int) 1 := ⟨⟨⟨tw_252, tw_11, tw_255⟩, by decide +kernel, by decide⟩, tw_253, tw_254⟩
theorem w_L_68 : zWS RL 68 yL_print cL_print 4 (some .long) 1 := ⟨⟨⟨tw_272, tw_7, tw_251⟩, by decide +kernel, by decide⟩, tw_273⟩
theorem w_L_72 : zWI RL 72 yX2_save cX2_save 2 (some .int) 1 := ⟨⟨⟨tw_274, tw_11, tw_277⟩, by decide +kernel, by decide⟩, tw_275, tw_276⟩
theorem w_L_75 : zWI RL 75 yX2_restore cX2_restore 2 (some .int) 1 := ⟨⟨⟨tw_287, tw_11, tw_290⟩, by decide +kernel, by decide⟩, tw_288, tw_289⟩
theorem w_L_78 : zWI RL 78 yX2_test cX2_test 4 (some .int) 3 := ⟨⟨⟨tw_296, tw_11, tw_299⟩, by decide +kernel, by decide⟩, tw_297, tw_298⟩
theorem w_L_81 : zWI RL 81 yX2_unfair cX2_unfair 5 (some .int) 1 := ⟨⟨⟨tw_315, tw_11, tw_318⟩, by decide +kernel, by decide⟩, tw_316, tw_317⟩
theorem w_L_85 : zWS RL 85 yL_hangs cL_hangs 5 (some .boolean) 1 := ⟨⟨⟨tw_353, tw_7, tw_248⟩, by decide +kernel, by decide⟩, tw_354⟩
theorem w_L_88 : zWS RL 88 yL_goes cL_goes 8 (some .boolean) 1 := ⟨⟨⟨tw_355, tw_7, tw_295⟩, by decide +kernel, by decide⟩, tw_356⟩
theorem w_L_91 : zWS RL 91 yL_faults cL_faults 5 (some .boolean) 2 := ⟨⟨⟨tw_357, tw_7, tw_323⟩, by decide +kernel, by decide⟩, tw_358⟩
theorem w_L_99 : zWS RL 99 yL_act cL_act 5 (some .int) 3 := ⟨⟨⟨tw_361, tw_7, tw_172⟩, by decide +kernel, by decide⟩, tw_362⟩
theorem w_L_103 : zWI RL 103 yX2_undo cX2_undo 1 (some .int) 0 := ⟨⟨⟨tw_363, tw_11, tw_366⟩, by decide +kernel, by decide⟩, tw_364, tw_365⟩
theorem w_L_107 : zWS RL 107 yL_tests cL_tests 10 (some .boolean) 3 := ⟨⟨⟨tw_367, tw_7, tw_314⟩, by decide +kernel, by decide⟩, tw_368⟩
theorem w_X0_24 : zWI RX0 24 yX0_isBoard cX0_isBoard 2 (some .boolean) 1 := ⟨⟨⟨tw_34, tw_23, tw_37⟩, by decide +kernel, by decide⟩, tw_35, tw_36⟩
theorem w_X0_34 : zWS RX0 34 yX0_isFuse cX0_isFuse 2 (some .boolean) 2 := ⟨⟨⟨tw_38, tw_23, tw_40⟩, by decide +kernel, by decide⟩, tw_39⟩
theorem w_X0_38 : zWI RX0 38 yX0_putNewFuse cX0_putNewFuse 4 none 3 := ⟨⟨⟨tw_41, tw_23, tw_44⟩, by decide +kernel, by decide⟩, tw_42, tw_43⟩
theorem w_X0_42 : zWI RX0 42 yX0_isLoad cX0_isLoad 2 (some .boolean) 1 := ⟨⟨⟨tw_88, tw_23, tw_91⟩, by decide +kernel, by decide⟩, tw_89, tw_90⟩
theorem w_X0_45 : zWI RX0 45 yX0_tick cX0_tick 3 (some .int) 0 := ⟨⟨⟨tw_100, tw_23, tw_103⟩, by decide +kernel, by decide⟩, tw_101, tw_102⟩
theorem w_X0_49 : zWS RX0 49 yJ6_bitCount_0f7a4 cJ6_bitCount_0f7a4 1 (some .int) 1 := ⟨⟨⟨tw_165, tw_167, tw_168⟩, by decide +kernel, by decide⟩, tw_166⟩
theorem w_X0_55 : zWS RX0 55 yJ7_fill_fda19 cJ7_fill_fda19 5 none 4 := ⟨⟨⟨tw_308, tw_111, tw_310⟩, by decide +kernel, by decide⟩, tw_309⟩
theorem w_X0_61 : zWI RX0 61 yX0_addUpCurrents cX0_addUpCurrents 4 none 0 := ⟨⟨⟨tw_105, tw_23, tw_108⟩, by decide +kernel, by decide⟩, tw_106, tw_107⟩
theorem w_X0_64 : zWI RX0 64 yX0_burnArcs cX0_burnArcs 2 none 0 := ⟨⟨⟨tw_121, tw_23, tw_124⟩, by decide +kernel, by decide⟩, tw_122, tw_123⟩
theorem w_X0_67 : zWI RX0 67 yX0_state cX0_state 2 (some .int) 1 := ⟨⟨⟨tw_125, tw_23, tw_128⟩, by decide +kernel, by decide⟩, tw_126, tw_127⟩
theorem w_X0_70 : zWI RX0 70 yX0_warm cX0_warm 7 none 2 := ⟨⟨⟨tw_129, tw_23, tw_132⟩, by decide +kernel, by decide⟩, tw_130, tw_131⟩
theorem w_X0_74 : zWI RX0 74 yX0_molten cX0_molten 3 (some .int) 0 := ⟨⟨⟨tw_142, tw_23, tw_145⟩, by decide +kernel, by decide⟩, tw_143, tw_144⟩
theorem w_X0_77 : zWI RX0 77 yX0_nearestOf cX0_nearestOf 4 (some .int) 1 := ⟨⟨⟨tw_153, tw_23, tw_156⟩, by decide +kernel, by decide⟩, tw_154, tw_155⟩
theorem w_X0_80 : zWI RX0 80 yX0_blow cX0_blow 2 none 1 := ⟨⟨⟨tw_161, tw_23, tw_164⟩, by decide +kernel, by decide⟩, tw_162, tw_163⟩
theorem w_X0_84 : zWS RX0 84 yJ7_fill_53178 cJ7_fill_53178 4 none 2 := ⟨⟨⟨tw_109, tw_111, tw_112⟩, by decide +kernel, by decide⟩, tw_110⟩
theorem w_X0_87 : zWI RX0 87 yX0_deadBoards cX0_deadBoards 3 (some .int) 0 := ⟨⟨⟨tw_113, tw_23, tw_116⟩, by decide +kernel, by decide⟩, tw_114, tw_115⟩
theorem w_X0_90 : zWI RX0 90 yX0_addFlow cX0_addFlow 3 none 2 := ⟨⟨⟨tw_117, tw_23, tw_120⟩, by decide +kernel, by decide⟩, tw_118, tw_119⟩
theorem w_X0_103 : zWI RX0 103 yX0_creep cX0_creep 2 none 1 := ⟨⟨⟨tw_138, tw_23, tw_141⟩, by decide +kernel, by decide⟩, tw_139, tw_140⟩
theorem w_X0_106 : zWI RX0 106 yX0_meltingHeat cX0_meltingHeat 4 (some .int) 1 := ⟨⟨⟨tw_146, tw_23, tw_149⟩, by decide +kernel, by decide⟩, tw_147, tw_148⟩
theorem w_X0_109 : zWI RX0 109 yX0_fedThrough cX0_fedThrough 4 (some .int) 1 := ⟨⟨⟨tw_157, tw_23, tw_160⟩, by decide +kernel, by decide⟩, tw_158, tw_159⟩
theorem w_X0_112 : zWI RX0 112 yX0_current cX0_current 2 (some .int) 1 := ⟨⟨⟨tw_201, tw_23, tw_204⟩, by decide +kernel, by decide⟩, tw_202, tw_203⟩
theorem w_X0_115 : zWI RX0 115 yX0_boardsAhead cX0_boardsAhead 5 (some .int) 1 := ⟨⟨⟨tw_214, tw_23, tw_217⟩, by decide +kernel, by decide⟩, tw_215, tw_216⟩
theorem w_X0_118 : zWI RX0 118 yX0_allBoards cX0_allBoards 1 (some .int) 0 := ⟨⟨⟨tw_189, tw_23, tw_192⟩, by decide +kernel, by decide⟩, tw_190, tw_191⟩
theorem w_X0_121 : zWI RX0 121 yX0_workingLoadsAt cX0_workingLoadsAt 5 (some .int) 1 := ⟨⟨⟨tw_193, tw_23, tw_196⟩, by decide +kernel, by decide⟩, tw_194, tw_195⟩
theorem w_X0_124 : zWI RX0 124 yX0_burningBoards cX0_burningBoards 3 (some .int) 0 := ⟨⟨⟨tw_197, tw_23, tw_200⟩, by decide +kernel, by decide⟩, tw_198, tw_199⟩
theorem w_X0_127 : zWS RX0 127 yX0_heatFactor cX0_heatFactor 1 (some .int) 1 := ⟨⟨⟨tw_150, tw_23, tw_152⟩, by decide +kernel, by decide⟩, tw_151⟩
theorem w_X2_45 : zWI RX2 45 yX2_noteState cX2_noteState 1 none 0 := ⟨⟨⟨tw_14, tw_11, tw_17⟩, by decide +kernel, by decide⟩, tw_15, tw_16⟩
theorem w_X2_48 : zWI RX2 48 yX0_changeSetting cX0_changeSetting 4 (some .int) 2 := ⟨⟨⟨tw_74, tw_23, tw_77⟩, by decide +kernel, by decide⟩, tw_75, tw_76⟩
theorem w_X2_52 : zWI RX2 52 yX2_keepUnlessError cX2_keepUnlessError 2 (some .int) 1 := ⟨⟨⟨tw_45, tw_11, tw_48⟩, by decide +kernel, by decide⟩, tw_46, tw_47⟩
theorem w_X2_56 : zWI RX2 56 yX0_addBoard cX0_addBoard 5 (some .int) 3 := ⟨⟨⟨tw_30, tw_23, tw_33⟩, by decide +kernel, by decide⟩, tw_31, tw_32⟩
theorem w_X2_60 : zWI RX2 60 yX0_addLoad cX0_addLoad 4 (some .int) 2 := ⟨⟨⟨tw_58, tw_23, tw_61⟩, by decide +kernel, by decide⟩, tw_59, tw_60⟩
theorem w_X2_63 : zWI RX2 63 yX0_switchLoad cX0_switchLoad 2 (some .int) 1 := ⟨⟨⟨tw_84, tw_23, tw_87⟩, by decide +kernel, by decide⟩, tw_85, tw_86⟩
theorem w_X2_66 : zWI RX2 66 yX0_changeFuse cX0_changeFuse 5 (some .int) 3 := ⟨⟨⟨tw_66, tw_23, tw_69⟩, by decide +kernel, by decide⟩, tw_67, tw_68⟩
theorem w_X2_69 : zWI RX2 69 yX0_letPass cX0_letPass 4 (some .int) 1 := ⟨⟨⟨tw_96, tw_23, tw_99⟩, by decide +kernel, by decide⟩, tw_97, tw_98⟩
theorem w_X2_72 : zWI RX2 72 yX0_isBoard cX0_isBoard 2 (some .boolean) 1 := ⟨⟨⟨tw_209, tw_23, tw_37⟩, by decide +kernel, by decide⟩, tw_35, tw_36⟩
theorem w_X2_76 : zWI RX2 76 yX0_aboutBoard cX0_aboutBoard 3 (some .int) 2 := ⟨⟨⟨tw_210, tw_23, tw_213⟩, by decide +kernel, by decide⟩, tw_211, tw_212⟩
theorem w_X2_79 : zWI RX2 79 yX0_isLoad cX0_isLoad 2 (some .boolean) 1 := ⟨⟨⟨tw_227, tw_23, tw_91⟩, by decide +kernel, by decide⟩, tw_89, tw_90⟩
theorem w_X2_82 : zWI RX2 82 yX0_aboutLoad cX0_aboutLoad 3 (some .int) 2 := ⟨⟨⟨tw_228, tw_23, tw_231⟩, by decide +kernel, by decide⟩, tw_229, tw_230⟩
theorem w_X2_85 : zWI RX2 85 yX0_fedThrough cX0_fedThrough 4 (some .int) 1 := ⟨⟨⟨tw_222, tw_23, tw_160⟩, by decide +kernel, by decide⟩, tw_158, tw_159⟩
theorem w_X2_88 : zWI RX2 88 yX0_latestBlown cX0_latestBlown 2 (some .int) 1 := ⟨⟨⟨tw_242, tw_23, tw_245⟩, by decide +kernel, by decide⟩, tw_243, tw_244⟩
theorem w_X2_91 : zWI RX2 91 yX1_length cX1_length 1 (some .int) 0 := ⟨⟨⟨tw_179, tw_182, tw_183⟩, by decide +kernel, by decide⟩, tw_180, tw_181⟩
theorem w_X2_95 : zWI RX2 95 yX0_aboutHouse cX0_aboutHouse 2 (some .int) 1 := ⟨⟨⟨tw_185, tw_23, tw_188⟩, by decide +kernel, by decide⟩, tw_186, tw_187⟩
theorem w_X2_98 : zWS RX2 98 yX2_isTrialQuestion cX2_isTrialQuestion 1 (some .boolean) 1 := ⟨⟨⟨tw_257, tw_11, tw_259⟩, by decide +kernel, by decide⟩, tw_258⟩
theorem w_X2_101 : zWI RX2 101 yX0_copyFrom cX0_copyFrom 2 none 1 := ⟨⟨⟨tw_260, tw_23, tw_263⟩, by decide +kernel, by decide⟩, tw_261, tw_262⟩
theorem w_X2_105 : zWI RX2 105 yX2_firstBlow cX2_firstBlow 4 (some .int) 1 := ⟨⟨⟨tw_264, tw_11, tw_267⟩, by decide +kernel, by decide⟩, tw_265, tw_266⟩
theorem w_X2_108 : zWI RX2 108 yX2_tryFault cX2_tryFault 4 (some .int) 3 := ⟨⟨⟨tw_300, tw_11, tw_303⟩, by decide +kernel, by decide⟩, tw_301, tw_302⟩
theorem w_X2_111 : zWI RX2 111 yX0_boards cX0_boards 1 (some .int) 0 := ⟨⟨⟨tw_283, tw_23, tw_286⟩, by decide +kernel, by decide⟩, tw_284, tw_285⟩
theorem w_X2_114 : zWI RX2 114 yX0_rating cX0_rating 2 (some .int) 1 := ⟨⟨⟨tw_319, tw_23, tw_322⟩, by decide +kernel, by decide⟩, tw_320, tw_321⟩
theorem w_X2_117 : zWI RX2 117 yX0_workingLoadsAt cX0_workingLoadsAt 5 (some .int) 1 := ⟨⟨⟨tw_237, tw_23, tw_196⟩, by decide +kernel, by decide⟩, tw_194, tw_195⟩
theorem w_X2_140 : zWI RX2 140 yX0_readFrom cX0_readFrom 2 none 1 := ⟨⟨⟨tw_291, tw_23, tw_294⟩, by decide +kernel, by decide⟩, tw_292, tw_293⟩
theorem w_X2_144 : zWS RX2 144 yX2_isSlot cX2_isSlot 1 (some .boolean) 1 := ⟨⟨⟨tw_280, tw_11, tw_282⟩, by decide +kernel, by decide⟩, tw_281⟩
theorem w_X2_147 : zWI RX2 147 yX0_writeTo cX0_writeTo 2 none 1 := ⟨⟨⟨tw_20, tw_23, tw_24⟩, by decide +kernel, by decide⟩, tw_21, tw_22⟩
theorem w_X2_155 : zWI RX2 155 yX0_leaveOnlyFault cX0_leaveOnlyFault 3 none 2 := ⟨⟨⟨tw_304, tw_23, tw_307⟩, by decide +kernel, by decide⟩, tw_305, tw_306⟩
theorem w_X2_159 : zWI RX2 159 yX0_tick cX0_tick 3 (some .int) 0 := ⟨⟨⟨tw_268, tw_23, tw_103⟩, by decide +kernel, by decide⟩, tw_101, tw_102⟩
theorem w_X2_162 : zWS RX2 162 yX2_lowest cX2_lowest 2 (some .int) 1 := ⟨⟨⟨tw_269, tw_11, tw_271⟩, by decide +kernel, by decide⟩, tw_270⟩
theorem wm_X0_94 : zWM RX0 94 Lib.Math.min.name Lib.Math.min.code := ⟨tw_134, tw_51, tw_52, tw_53⟩
theorem wm_X0_100 : zWM RX0 100 Lib.Math.max.name Lib.Math.max.code := ⟨tw_135, tw_136, tw_52, tw_137⟩
theorem wm_X2_150 : zWM RX2 150 Lib.Math.min.name Lib.Math.min.code := ⟨tw_50, tw_51, tw_52, tw_53⟩
theorem wc_X0_18 : zWC RX0 18 := ⟨tw_26, tw_27, tw_28, tw_29⟩
theorem w_L_95 : zWS RL 95 yL_cell cL_cell 2 (some .int) 2 := ⟨⟨⟨tw_359, tw_7, tw_0⟩, by decide +kernel, by decide⟩, tw_360⟩
