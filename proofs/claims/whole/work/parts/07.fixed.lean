theorem kc_m1 : Int32.ofInt (-1) = (-1) := by decide +kernel
theorem kc_0 : Int32.ofInt (0) = 0 := by decide +kernel
theorem kc_1 : Int32.ofInt (1) = 1 := by decide +kernel
theorem kc_2 : Int32.ofInt (2) = 2 := by decide +kernel
theorem kc_3 : Int32.ofInt (3) = 3 := by decide +kernel
theorem kc_4 : Int32.ofInt (4) = 4 := by decide +kernel
theorem kc_5 : Int32.ofInt (5) = 5 := by decide +kernel
theorem kb_m6 : (Int8.ofInt (-6)).toInt32 = (-6) := by decide +kernel
theorem kb_m5 : (Int8.ofInt (-5)).toInt32 = (-5) := by decide +kernel
theorem kb_m4 : (Int8.ofInt (-4)).toInt32 = (-4) := by decide +kernel
theorem kb_m3 : (Int8.ofInt (-3)).toInt32 = (-3) := by decide +kernel
theorem kb_m2 : (Int8.ofInt (-2)).toInt32 = (-2) := by decide +kernel
theorem kb_6 : (Int8.ofInt (6)).toInt32 = 6 := by decide +kernel
theorem kb_7 : (Int8.ofInt (7)).toInt32 = 7 := by decide +kernel
theorem kb_8 : (Int8.ofInt (8)).toInt32 = 8 := by decide +kernel
theorem kb_9 : (Int8.ofInt (9)).toInt32 = 9 := by decide +kernel
theorem kb_10 : (Int8.ofInt (10)).toInt32 = 10 := by decide +kernel
theorem kb_12 : (Int8.ofInt (12)).toInt32 = 12 := by decide +kernel
theorem kb_13 : (Int8.ofInt (13)).toInt32 = 13 := by decide +kernel
theorem kb_14 : (Int8.ofInt (14)).toInt32 = 14 := by decide +kernel
theorem kb_16 : (Int8.ofInt (16)).toInt32 = 16 := by decide +kernel
theorem kb_17 : (Int8.ofInt (17)).toInt32 = 17 := by decide +kernel
theorem kb_20 : (Int8.ofInt (20)).toInt32 = 20 := by decide +kernel
theorem kb_27 : (Int8.ofInt (27)).toInt32 = 27 := by decide +kernel
theorem kb_33 : (Int8.ofInt (33)).toInt32 = 33 := by decide +kernel
theorem kb_37 : (Int8.ofInt (37)).toInt32 = 37 := by decide +kernel
theorem kb_40 : (Int8.ofInt (40)).toInt32 = 40 := by decide +kernel
theorem kb_46 : (Int8.ofInt (46)).toInt32 = 46 := by decide +kernel
theorem kb_47 : (Int8.ofInt (47)).toInt32 = 47 := by decide +kernel
theorem kb_48 : (Int8.ofInt (48)).toInt32 = 48 := by decide +kernel
theorem kb_57 : (Int8.ofInt (57)).toInt32 = 57 := by decide +kernel
theorem kb_59 : (Int8.ofInt (59)).toInt32 = 59 := by decide +kernel
theorem kb_61 : (Int8.ofInt (61)).toInt32 = 61 := by decide +kernel
theorem kb_63 : (Int8.ofInt (63)).toInt32 = 63 := by decide +kernel
theorem kb_67 : (Int8.ofInt (67)).toInt32 = 67 := by decide +kernel
theorem kb_77 : (Int8.ofInt (77)).toInt32 = 77 := by decide +kernel
theorem kb_80 : (Int8.ofInt (80)).toInt32 = 80 := by decide +kernel
theorem kb_87 : (Int8.ofInt (87)).toInt32 = 87 := by decide +kernel
theorem kb_97 : (Int8.ofInt (97)).toInt32 = 97 := by decide +kernel
theorem kb_99 : (Int8.ofInt (99)).toInt32 = 99 := by decide +kernel
theorem kb_100 : (Int8.ofInt (100)).toInt32 = 100 := by decide +kernel
theorem kb_106 : (Int8.ofInt (106)).toInt32 = 106 := by decide +kernel
theorem kb_111 : (Int8.ofInt (111)).toInt32 = 111 := by decide +kernel
theorem kb_113 : (Int8.ofInt (113)).toInt32 = 113 := by decide +kernel
theorem kb_115 : (Int8.ofInt (115)).toInt32 = 115 := by decide +kernel
theorem kb_125 : (Int8.ofInt (125)).toInt32 = 125 := by decide +kernel
theorem kb_126 : (Int8.ofInt (126)).toInt32 = 126 := by decide +kernel
theorem ks_148 : (Int16.ofInt (148)).toInt32 = 148 := by decide +kernel
theorem ks_200 : (Int16.ofInt (200)).toInt32 = 200 := by decide +kernel
theorem ks_255 : (Int16.ofInt (255)).toInt32 = 255 := by decide +kernel
theorem ks_1332 : (Int16.ofInt (1332)).toInt32 = 1332 := by decide +kernel
theorem ks_9999 : (Int16.ofInt (9999)).toInt32 = 9999 := by decide +kernel
theorem kl_0 : Int64.ofNat ((0 : Fin 2) : Nat) = 0 := by decide +kernel
theorem kl_1 : Int64.ofNat ((1 : Fin 2) : Nat) = 1 := by decide +kernel
theorem ix_0_125 : zin 0 125 0 := by refine ⟨?_, ?_⟩ <;> first | decide +kernel | (unfold vp_in; decide +kernel)
theorem ix_1_125 : zin 1 125 1 := by refine ⟨?_, ?_⟩ <;> first | decide +kernel | (unfold vp_in; decide +kernel)
theorem ix_2_125 : zin 2 125 2 := by refine ⟨?_, ?_⟩ <;> first | decide +kernel | (unfold vp_in; decide +kernel)
theorem ix_3_125 : zin 3 125 3 := by refine ⟨?_, ?_⟩ <;> first | decide +kernel | (unfold vp_in; decide +kernel)
theorem ix_3_1480 : zin 3 1480 3 := by refine ⟨?_, ?_⟩ <;> first | decide +kernel | (unfold vp_in; decide +kernel)
theorem ix_4_125 : zin 4 125 4 := by refine ⟨?_, ?_⟩ <;> first | decide +kernel | (unfold vp_in; decide +kernel)
theorem ix_4_1480 : zin 4 1480 4 := by refine ⟨?_, ?_⟩ <;> first | decide +kernel | (unfold vp_in; decide +kernel)
theorem ix_5_125 : zin 5 125 5 := by refine ⟨?_, ?_⟩ <;> first | decide +kernel | (unfold vp_in; decide +kernel)
theorem ix_5_1480 : zin 5 1480 5 := by refine ⟨?_, ?_⟩ <;> first | decide +kernel | (unfold vp_in; decide +kernel)
theorem ix_6_125 : zin 6 125 6 := by refine ⟨?_, ?_⟩ <;> first | decide +kernel | (unfold vp_in; decide +kernel)
theorem ix_6_1480 : zin 6 1480 6 := by refine ⟨?_, ?_⟩ <;> first | decide +kernel | (unfold vp_in; decide +kernel)
theorem ix_7_125 : zin 7 125 7 := by refine ⟨?_, ?_⟩ <;> first | decide +kernel | (unfold vp_in; decide +kernel)
theorem ix_7_1480 : zin 7 1480 7 := by refine ⟨?_, ?_⟩ <;> first | decide +kernel | (unfold vp_in; decide +kernel)
theorem ix_8_125 : zin 8 125 8 := by refine ⟨?_, ?_⟩ <;> first | decide +kernel | (unfold vp_in; decide +kernel)
theorem ix_9_125 : zin 9 125 9 := by refine ⟨?_, ?_⟩ <;> first | decide +kernel | (unfold vp_in; decide +kernel)
theorem ix_97_125 : zin 97 125 97 := by refine ⟨?_, ?_⟩ <;> first | decide +kernel | (unfold vp_in; decide +kernel)
theorem ix_111_125 : zin 111 125 111 := by refine ⟨?_, ?_⟩ <;> first | decide +kernel | (unfold vp_in; decide +kernel)
theorem cp_0 : ¬ (0 : Int32) < 0 ∧ (0 : Int32).toNatClampNeg = 0 := by decide +kernel
theorem cp_7 : ¬ (7 : Int32) < 0 ∧ (7 : Int32).toNatClampNeg = 7 := by decide +kernel
theorem cp_9 : ¬ (9 : Int32) < 0 ∧ (9 : Int32).toNatClampNeg = 9 := by decide +kernel
theorem cp_10 : ¬ (10 : Int32) < 0 ∧ (10 : Int32).toNatClampNeg = 10 := by decide +kernel
theorem cp_125 : ¬ (125 : Int32) < 0 ∧ (125 : Int32).toNatClampNeg = 125 := by decide +kernel
theorem kn_125 : Int32.ofNat 125 = 125 := by decide +kernel
theorem gf_X0_11 {G : GT} {cc : ByteArray} {nL : Nat} {ret : Option FieldType} {d pc a : Nat} {ls : List (Nat × Value)} {st fs : List Value} {ws : va_W} {v : Value} (q0 : Nat) (C : zC G cc nL RX0 ret d) (hd : decode cc pc = .ok (.getfield 11, 3)) (he : ws[q0]? = some (a, .inr (0, fs))) (hv : fs[0]? = some v) (kk : zV G nL (pc + 3) ls (v :: st) ws) : zV G nL pc ls (.ref a :: st) ws := z_get q0 0 C hd (ci := 0) rfl in_X0 (by decide) tw_34 he hv kk
theorem gf_X0_15 {G : GT} {cc : ByteArray} {nL : Nat} {ret : Option FieldType} {d pc a : Nat} {ls : List (Nat × Value)} {st fs : List Value} {ws : va_W} {v : Value} (q0 : Nat) (C : zC G cc nL RX0 ret d) (hd : decode cc pc = .ok (.getfield 15, 3)) (he : ws[q0]? = some (a, .inr (0, fs))) (hv : fs[1]? = some v) (kk : zV G nL (pc + 3) ls (v :: st) ws) : zV G nL pc ls (.ref a :: st) ws := z_get q0 1 C hd (ci := 0) rfl in_X0 (by decide) tw_35 he hv kk
theorem gf_X1_11 {G : GT} {cc : ByteArray} {nL : Nat} {ret : Option FieldType} {d pc a : Nat} {ls : List (Nat × Value)} {st fs : List Value} {ws : va_W} {v : Value} (q0 : Nat) (C : zC G cc nL RX1 ret d) (hd : decode cc pc = .ok (.getfield 11, 3)) (he : ws[q0]? = some (a, .inr (1, fs))) (hv : fs[0]? = some v) (kk : zV G nL (pc + 3) ls (v :: st) ws) : zV G nL pc ls (.ref a :: st) ws := z_get q0 0 C hd (ci := 1) rfl in_X1 (by decide) tw_40 he hv kk
theorem gf_X1_15 {G : GT} {cc : ByteArray} {nL : Nat} {ret : Option FieldType} {d pc a : Nat} {ls : List (Nat × Value)} {st fs : List Value} {ws : va_W} {v : Value} (q0 : Nat) (C : zC G cc nL RX1 ret d) (hd : decode cc pc = .ok (.getfield 15, 3)) (he : ws[q0]? = some (a, .inr (1, fs))) (hv : fs[1]? = some v) (kk : zV G nL (pc + 3) ls (v :: st) ws) : zV G nL pc ls (.ref a :: st) ws := z_get q0 1 C hd (ci := 1) rfl in_X1 (by decide) tw_41 he hv kk
theorem gf_X1_19 {G : GT} {cc : ByteArray} {nL : Nat} {ret : Option FieldType} {d pc a : Nat} {ls : List (Nat × Value)} {st fs : List Value} {ws : va_W} {v : Value} (q0 : Nat) (C : zC G cc nL RX1 ret d) (hd : decode cc pc = .ok (.getfield 19, 3)) (he : ws[q0]? = some (a, .inr (1, fs))) (hv : fs[2]? = some v) (kk : zV G nL (pc + 3) ls (v :: st) ws) : zV G nL pc ls (.ref a :: st) ws := z_get q0 2 C hd (ci := 1) rfl in_X1 (by decide) tw_42 he hv kk
theorem gf_X1_22 {G : GT} {cc : ByteArray} {nL : Nat} {ret : Option FieldType} {d pc a : Nat} {ls : List (Nat × Value)} {st fs : List Value} {ws : va_W} {v : Value} (q0 : Nat) (C : zC G cc nL RX1 ret d) (hd : decode cc pc = .ok (.getfield 22, 3)) (he : ws[q0]? = some (a, .inr (1, fs))) (hv : fs[3]? = some v) (kk : zV G nL (pc + 3) ls (v :: st) ws) : zV G nL pc ls (.ref a :: st) ws := z_get q0 3 C hd (ci := 1) rfl in_X1 (by decide) tw_43 he hv kk
theorem gf_X1_25 {G : GT} {cc : ByteArray} {nL : Nat} {ret : Option FieldType} {d pc a : Nat} {ls : List (Nat × Value)} {st fs : List Value} {ws : va_W} {v : Value} (q0 : Nat) (C : zC G cc nL RX1 ret d) (hd : decode cc pc = .ok (.getfield 25, 3)) (he : ws[q0]? = some (a, .inr (1, fs))) (hv : fs[4]? = some v) (kk : zV G nL (pc + 3) ls (v :: st) ws) : zV G nL pc ls (.ref a :: st) ws := z_get q0 4 C hd (ci := 1) rfl in_X1 (by decide) tw_44 he hv kk
theorem gf_X1_28 {G : GT} {cc : ByteArray} {nL : Nat} {ret : Option FieldType} {d pc a : Nat} {ls : List (Nat × Value)} {st fs : List Value} {ws : va_W} {v : Value} (q0 : Nat) (C : zC G cc nL RX1 ret d) (hd : decode cc pc = .ok (.getfield 28, 3)) (he : ws[q0]? = some (a, .inr (1, fs))) (hv : fs[5]? = some v) (kk : zV G nL (pc + 3) ls (v :: st) ws) : zV G nL pc ls (.ref a :: st) ws := z_get q0 5 C hd (ci := 1) rfl in_X1 (by decide) tw_45 he hv kk
theorem gf_X1_31 {G : GT} {cc : ByteArray} {nL : Nat} {ret : Option FieldType} {d pc a : Nat} {ls : List (Nat × Value)} {st fs : List Value} {ws : va_W} {v : Value} (q0 : Nat) (C : zC G cc nL RX1 ret d) (hd : decode cc pc = .ok (.getfield 31, 3)) (he : ws[q0]? = some (a, .inr (1, fs))) (hv : fs[6]? = some v) (kk : zV G nL (pc + 3) ls (v :: st) ws) : zV G nL pc ls (.ref a :: st) ws := z_get q0 6 C hd (ci := 1) rfl in_X1 (by decide) tw_46 he hv kk
theorem gf_X2_12 {G : GT} {cc : ByteArray} {nL : Nat} {ret : Option FieldType} {d pc a : Nat} {ls : List (Nat × Value)} {st fs : List Value} {ws : va_W} {v : Value} (q0 : Nat) (C : zC G cc nL RX2 ret d) (hd : decode cc pc = .ok (.getfield 12, 3)) (he : ws[q0]? = some (a, .inr (2, fs))) (hv : fs[0]? = some v) (kk : zV G nL (pc + 3) ls (v :: st) ws) : zV G nL pc ls (.ref a :: st) ws := z_get q0 0 C hd (ci := 2) rfl in_X2 (by decide) tw_16 he hv kk
theorem gf_X2_16 {G : GT} {cc : ByteArray} {nL : Nat} {ret : Option FieldType} {d pc a : Nat} {ls : List (Nat × Value)} {st fs : List Value} {ws : va_W} {v : Value} (q0 : Nat) (C : zC G cc nL RX2 ret d) (hd : decode cc pc = .ok (.getfield 16, 3)) (he : ws[q0]? = some (a, .inr (2, fs))) (hv : fs[1]? = some v) (kk : zV G nL (pc + 3) ls (v :: st) ws) : zV G nL pc ls (.ref a :: st) ws := z_get q0 1 C hd (ci := 2) rfl in_X2 (by decide) tw_17 he hv kk
theorem gf_X2_22 {G : GT} {cc : ByteArray} {nL : Nat} {ret : Option FieldType} {d pc a : Nat} {ls : List (Nat × Value)} {st fs : List Value} {ws : va_W} {v : Value} (q0 : Nat) (C : zC G cc nL RX2 ret d) (hd : decode cc pc = .ok (.getfield 22, 3)) (he : ws[q0]? = some (a, .inr (2, fs))) (hv : fs[2]? = some v) (kk : zV G nL (pc + 3) ls (v :: st) ws) : zV G nL pc ls (.ref a :: st) ws := z_get q0 2 C hd (ci := 2) rfl in_X2 (by decide) tw_21 he hv kk
theorem gf_X2_28 {G : GT} {cc : ByteArray} {nL : Nat} {ret : Option FieldType} {d pc a : Nat} {ls : List (Nat × Value)} {st fs : List Value} {ws : va_W} {v : Value} (q0 : Nat) (C : zC G cc nL RX2 ret d) (hd : decode cc pc = .ok (.getfield 28, 3)) (he : ws[q0]? = some (a, .inr (2, fs))) (hv : fs[3]? = some v) (kk : zV G nL (pc + 3) ls (v :: st) ws) : zV G nL pc ls (.ref a :: st) ws := z_get q0 3 C hd (ci := 2) rfl in_X2 (by decide) tw_24 he hv kk
theorem gf_X2_31 {G : GT} {cc : ByteArray} {nL : Nat} {ret : Option FieldType} {d pc a : Nat} {ls : List (Nat × Value)} {st fs : List Value} {ws : va_W} {v : Value} (q0 : Nat) (C : zC G cc nL RX2 ret d) (hd : decode cc pc = .ok (.getfield 31, 3)) (he : ws[q0]? = some (a, .inr (2, fs))) (hv : fs[4]? = some v) (kk : zV G nL (pc + 3) ls (v :: st) ws) : zV G nL pc ls (.ref a :: st) ws := z_get q0 4 C hd (ci := 2) rfl in_X2 (by decide) tw_25 he hv kk
theorem gf_X2_34 {G : GT} {cc : ByteArray} {nL : Nat} {ret : Option FieldType} {d pc a : Nat} {ls : List (Nat × Value)} {st fs : List Value} {ws : va_W} {v : Value} (q0 : Nat) (C : zC G cc nL RX2 ret d) (hd : decode cc pc = .ok (.getfield 34, 3)) (he : ws[q0]? = some (a, .inr (2, fs))) (hv : fs[5]? = some v) (kk : zV G nL (pc + 3) ls (v :: st) ws) : zV G nL pc ls (.ref a :: st) ws := z_get q0 5 C hd (ci := 2) rfl in_X2 (by decide) tw_27 he hv kk
theorem gf_X2_38 {G : GT} {cc : ByteArray} {nL : Nat} {ret : Option FieldType} {d pc a : Nat} {ls : List (Nat × Value)} {st fs : List Value} {ws : va_W} {v : Value} (q0 : Nat) (C : zC G cc nL RX2 ret d) (hd : decode cc pc = .ok (.getfield 38, 3)) (he : ws[q0]? = some (a, .inr (2, fs))) (hv : fs[6]? = some v) (kk : zV G nL (pc + 3) ls (v :: st) ws) : zV G nL pc ls (.ref a :: st) ws := z_get q0 6 C hd (ci := 2) rfl in_X2 (by decide) tw_28 he hv kk
theorem gf_X2_42 {G : GT} {cc : ByteArray} {nL : Nat} {ret : Option FieldType} {d pc a : Nat} {ls : List (Nat × Value)} {st fs : List Value} {ws : va_W} {v : Value} (q0 : Nat) (C : zC G cc nL RX2 ret d) (hd : decode cc pc = .ok (.getfield 42, 3)) (he : ws[q0]? = some (a, .inr (2, fs))) (hv : fs[7]? = some v) (kk : zV G nL (pc + 3) ls (v :: st) ws) : zV G nL pc ls (.ref a :: st) ws := z_get q0 7 C hd (ci := 2) rfl in_X2 (by decide) tw_29 he hv kk
theorem gf_X3_7 {G : GT} {cc : ByteArray} {nL : Nat} {ret : Option FieldType} {d pc a : Nat} {ls : List (Nat × Value)} {st fs : List Value} {ws : va_W} {v : Value} (q0 : Nat) (C : zC G cc nL RX3 ret d) (hd : decode cc pc = .ok (.getfield 7, 3)) (he : ws[q0]? = some (a, .inr (3, fs))) (hv : fs[0]? = some v) (kk : zV G nL (pc + 3) ls (v :: st) ws) : zV G nL pc ls (.ref a :: st) ws := z_get q0 0 C hd (ci := 3) rfl in_X3 (by decide) tw_51 he hv kk
theorem gf_X3_13 {G : GT} {cc : ByteArray} {nL : Nat} {ret : Option FieldType} {d pc a : Nat} {ls : List (Nat × Value)} {st fs : List Value} {ws : va_W} {v : Value} (q0 : Nat) (C : zC G cc nL RX3 ret d) (hd : decode cc pc = .ok (.getfield 13, 3)) (he : ws[q0]? = some (a, .inr (3, fs))) (hv : fs[2]? = some v) (kk : zV G nL (pc + 3) ls (v :: st) ws) : zV G nL pc ls (.ref a :: st) ws := z_get q0 2 C hd (ci := 3) rfl in_X3 (by decide) tw_52 he hv kk
theorem gf_X3_17 {G : GT} {cc : ByteArray} {nL : Nat} {ret : Option FieldType} {d pc a : Nat} {ls : List (Nat × Value)} {st fs : List Value} {ws : va_W} {v : Value} (q0 : Nat) (C : zC G cc nL RX3 ret d) (hd : decode cc pc = .ok (.getfield 17, 3)) (he : ws[q0]? = some (a, .inr (3, fs))) (hv : fs[3]? = some v) (kk : zV G nL (pc + 3) ls (v :: st) ws) : zV G nL pc ls (.ref a :: st) ws := z_get q0 3 C hd (ci := 3) rfl in_X3 (by decide) tw_53 he hv kk
theorem gf_X3_20 {G : GT} {cc : ByteArray} {nL : Nat} {ret : Option FieldType} {d pc a : Nat} {ls : List (Nat × Value)} {st fs : List Value} {ws : va_W} {v : Value} (q0 : Nat) (C : zC G cc nL RX3 ret d) (hd : decode cc pc = .ok (.getfield 20, 3)) (he : ws[q0]? = some (a, .inr (3, fs))) (hv : fs[5]? = some v) (kk : zV G nL (pc + 3) ls (v :: st) ws) : zV G nL pc ls (.ref a :: st) ws := z_get q0 5 C hd (ci := 3) rfl in_X3 (by decide) tw_54 he hv kk
theorem gf_X3_24 {G : GT} {cc : ByteArray} {nL : Nat} {ret : Option FieldType} {d pc a : Nat} {ls : List (Nat × Value)} {st fs : List Value} {ws : va_W} {v : Value} (q0 : Nat) (C : zC G cc nL RX3 ret d) (hd : decode cc pc = .ok (.getfield 24, 3)) (he : ws[q0]? = some (a, .inr (3, fs))) (hv : fs[7]? = some v) (kk : zV G nL (pc + 3) ls (v :: st) ws) : zV G nL pc ls (.ref a :: st) ws := z_get q0 7 C hd (ci := 3) rfl in_X3 (by decide) tw_55 he hv kk
theorem gf_X3_27 {G : GT} {cc : ByteArray} {nL : Nat} {ret : Option FieldType} {d pc a : Nat} {ls : List (Nat × Value)} {st fs : List Value} {ws : va_W} {v : Value} (q0 : Nat) (C : zC G cc nL RX3 ret d) (hd : decode cc pc = .ok (.getfield 27, 3)) (he : ws[q0]? = some (a, .inr (3, fs))) (hv : fs[8]? = some v) (kk : zV G nL (pc + 3) ls (v :: st) ws) : zV G nL pc ls (.ref a :: st) ws := z_get q0 8 C hd (ci := 3) rfl in_X3 (by decide) tw_56 he hv kk
theorem gf_X3_30 {G : GT} {cc : ByteArray} {nL : Nat} {ret : Option FieldType} {d pc a : Nat} {ls : List (Nat × Value)} {st fs : List Value} {ws : va_W} {v : Value} (q0 : Nat) (C : zC G cc nL RX3 ret d) (hd : decode cc pc = .ok (.getfield 30, 3)) (he : ws[q0]? = some (a, .inr (3, fs))) (hv : fs[1]? = some v) (kk : zV G nL (pc + 3) ls (v :: st) ws) : zV G nL pc ls (.ref a :: st) ws := z_get q0 1 C hd (ci := 3) rfl in_X3 (by decide) tw_103 he hv kk
theorem gf_X3_52 {G : GT} {cc : ByteArray} {nL : Nat} {ret : Option FieldType} {d pc a : Nat} {ls : List (Nat × Value)} {st fs : List Value} {ws : va_W} {v : Value} (q0 : Nat) (C : zC G cc nL RX3 ret d) (hd : decode cc pc = .ok (.getfield 52, 3)) (he : ws[q0]? = some (a, .inr (3, fs))) (hv : fs[6]? = some v) (kk : zV G nL (pc + 3) ls (v :: st) ws) : zV G nL pc ls (.ref a :: st) ws := z_get q0 6 C hd (ci := 3) rfl in_X3 (by decide) tw_327 he hv kk
theorem gf_X3_165 {G : GT} {cc : ByteArray} {nL : Nat} {ret : Option FieldType} {d pc a : Nat} {ls : List (Nat × Value)} {st fs : List Value} {ws : va_W} {v : Value} (q0 : Nat) (C : zC G cc nL RX3 ret d) (hd : decode cc pc = .ok (.getfield 165, 3)) (he : ws[q0]? = some (a, .inr (3, fs))) (hv : fs[4]? = some v) (kk : zV G nL (pc + 3) ls (v :: st) ws) : zV G nL pc ls (.ref a :: st) ws := z_get q0 4 C hd (ci := 3) rfl in_X3 (by decide) tw_454 he hv kk
theorem gf_X3_191 {G : GT} {cc : ByteArray} {nL : Nat} {ret : Option FieldType} {d pc a : Nat} {ls : List (Nat × Value)} {st fs : List Value} {ws : va_W} {v : Value} (q0 : Nat) (C : zC G cc nL RX3 ret d) (hd : decode cc pc = .ok (.getfield 191, 3)) (he : ws[q0]? = some (a, .inr (3, fs))) (hv : fs[9]? = some v) (kk : zV G nL (pc + 3) ls (v :: st) ws) : zV G nL pc ls (.ref a :: st) ws := z_get q0 9 C hd (ci := 3) rfl in_X3 (by decide) tw_630 he hv kk
theorem gf_X3_203 {G : GT} {cc : ByteArray} {nL : Nat} {ret : Option FieldType} {d pc a : Nat} {ls : List (Nat × Value)} {st fs : List Value} {ws : va_W} {v : Value} (q0 : Nat) (C : zC G cc nL RX3 ret d) (hd : decode cc pc = .ok (.getfield 203, 3)) (he : ws[q0]? = some (a, .inr (3, fs))) (hv : fs[13]? = some v) (kk : zV G nL (pc + 3) ls (v :: st) ws) : zV G nL pc ls (.ref a :: st) ws := z_get q0 13 C hd (ci := 3) rfl in_X3 (by decide) tw_662 he hv kk
theorem gf_X3_206 {G : GT} {cc : ByteArray} {nL : Nat} {ret : Option FieldType} {d pc a : Nat} {ls : List (Nat × Value)} {st fs : List Value} {ws : va_W} {v : Value} (q0 : Nat) (C : zC G cc nL RX3 ret d) (hd : decode cc pc = .ok (.getfield 206, 3)) (he : ws[q0]? = some (a, .inr (3, fs))) (hv : fs[11]? = some v) (kk : zV G nL (pc + 3) ls (v :: st) ws) : zV G nL pc ls (.ref a :: st) ws := z_get q0 11 C hd (ci := 3) rfl in_X3 (by decide) tw_641 he hv kk
theorem gf_X3_212 {G : GT} {cc : ByteArray} {nL : Nat} {ret : Option FieldType} {d pc a : Nat} {ls : List (Nat × Value)} {st fs : List Value} {ws : va_W} {v : Value} (q0 : Nat) (C : zC G cc nL RX3 ret d) (hd : decode cc pc = .ok (.getfield 212, 3)) (he : ws[q0]? = some (a, .inr (3, fs))) (hv : fs[12]? = some v) (kk : zV G nL (pc + 3) ls (v :: st) ws) : zV G nL pc ls (.ref a :: st) ws := z_get q0 12 C hd (ci := 3) rfl in_X3 (by decide) tw_636 he hv kk
theorem gf_X3_219 {G : GT} {cc : ByteArray} {nL : Nat} {ret : Option FieldType} {d pc a : Nat} {ls : List (Nat × Value)} {st fs : List Value} {ws : va_W} {v : Value} (q0 : Nat) (C : zC G cc nL RX3 ret d) (hd : decode cc pc = .ok (.getfield 219, 3)) (he : ws[q0]? = some (a, .inr (3, fs))) (hv : fs[10]? = some v) (kk : zV G nL (pc + 3) ls (v :: st) ws) : zV G nL pc ls (.ref a :: st) ws := z_get q0 10 C hd (ci := 3) rfl in_X3 (by decide) tw_635 he hv kk
theorem pf_X1_15 {G : GT} {cc : ByteArray} {nL : Nat} {ret : Option FieldType} {d pc a : Nat} {ls : List (Nat × Value)} {st fs : List Value} {ws ws' : va_W} {x : Int32} (q0 : Nat) (C : zC G cc nL RX1 ret d) (hd : decode cc pc = .ok (.putfield 15, 3)) (he : ws[q0]? = some (a, .inr (1, fs))) (hlen : 1 < fs.length) (hw : ws.set q0 (a, .inr (1, fs.set 1 (.int x))) = ws') (kk : zV G nL (pc + 3) ls st ws') : zV G nL pc ls (.int x :: .ref a :: st) ws := z_put q0 1 C hd (ci := 1) rfl in_X1 tyX1 tyX1_ok nmX1 (by decide) tw_41 rfl rfl he hlen hw kk
theorem pf_X1_19 {G : GT} {cc : ByteArray} {nL : Nat} {ret : Option FieldType} {d pc a : Nat} {ls : List (Nat × Value)} {st fs : List Value} {ws ws' : va_W} {x : Int32} (q0 : Nat) (C : zC G cc nL RX1 ret d) (hd : decode cc pc = .ok (.putfield 19, 3)) (he : ws[q0]? = some (a, .inr (1, fs))) (hlen : 2 < fs.length) (hw : ws.set q0 (a, .inr (1, fs.set 2 (.int x))) = ws') (kk : zV G nL (pc + 3) ls st ws') : zV G nL pc ls (.int x :: .ref a :: st) ws := z_put q0 2 C hd (ci := 1) rfl in_X1 tyX1 tyX1_ok nmX1 (by decide) tw_42 rfl rfl he hlen hw kk
theorem pf_X1_22 {G : GT} {cc : ByteArray} {nL : Nat} {ret : Option FieldType} {d pc a : Nat} {ls : List (Nat × Value)} {st fs : List Value} {ws ws' : va_W} {x : Int32} (q0 : Nat) (C : zC G cc nL RX1 ret d) (hd : decode cc pc = .ok (.putfield 22, 3)) (he : ws[q0]? = some (a, .inr (1, fs))) (hlen : 3 < fs.length) (hw : ws.set q0 (a, .inr (1, fs.set 3 (.int x))) = ws') (kk : zV G nL (pc + 3) ls st ws') : zV G nL pc ls (.int x :: .ref a :: st) ws := z_put q0 3 C hd (ci := 1) rfl in_X1 tyX1 tyX1_ok nmX1 (by decide) tw_43 rfl rfl he hlen hw kk
theorem pf_X1_25 {G : GT} {cc : ByteArray} {nL : Nat} {ret : Option FieldType} {d pc a : Nat} {ls : List (Nat × Value)} {st fs : List Value} {ws ws' : va_W} {x : Int32} (q0 : Nat) (C : zC G cc nL RX1 ret d) (hd : decode cc pc = .ok (.putfield 25, 3)) (he : ws[q0]? = some (a, .inr (1, fs))) (hlen : 4 < fs.length) (hw : ws.set q0 (a, .inr (1, fs.set 4 (.int x))) = ws') (kk : zV G nL (pc + 3) ls st ws') : zV G nL pc ls (.int x :: .ref a :: st) ws := z_put q0 4 C hd (ci := 1) rfl in_X1 tyX1 tyX1_ok nmX1 (by decide) tw_44 rfl rfl he hlen hw kk
theorem pf_X1_28 {G : GT} {cc : ByteArray} {nL : Nat} {ret : Option FieldType} {d pc a : Nat} {ls : List (Nat × Value)} {st fs : List Value} {ws ws' : va_W} {x : Int32} (q0 : Nat) (C : zC G cc nL RX1 ret d) (hd : decode cc pc = .ok (.putfield 28, 3)) (he : ws[q0]? = some (a, .inr (1, fs))) (hlen : 5 < fs.length) (hw : ws.set q0 (a, .inr (1, fs.set 5 (.int x))) = ws') (kk : zV G nL (pc + 3) ls st ws') : zV G nL pc ls (.int x :: .ref a :: st) ws := z_put q0 5 C hd (ci := 1) rfl in_X1 tyX1 tyX1_ok nmX1 (by decide) tw_45 rfl rfl he hlen hw kk
theorem pf_X1_31 {G : GT} {cc : ByteArray} {nL : Nat} {ret : Option FieldType} {d pc a : Nat} {ls : List (Nat × Value)} {st fs : List Value} {ws ws' : va_W} {x : Int32} (q0 : Nat) (C : zC G cc nL RX1 ret d) (hd : decode cc pc = .ok (.putfield 31, 3)) (he : ws[q0]? = some (a, .inr (1, fs))) (hlen : 6 < fs.length) (hw : ws.set q0 (a, .inr (1, fs.set 6 (.int x))) = ws') (kk : zV G nL (pc + 3) ls st ws') : zV G nL pc ls (.int x :: .ref a :: st) ws := z_put q0 6 C hd (ci := 1) rfl in_X1 tyX1 tyX1_ok nmX1 (by decide) tw_46 rfl rfl he hlen hw kk
theorem pf_X2_38 {G : GT} {cc : ByteArray} {nL : Nat} {ret : Option FieldType} {d pc a : Nat} {ls : List (Nat × Value)} {st fs : List Value} {ws ws' : va_W} {x : Int32} (q0 : Nat) (C : zC G cc nL RX2 ret d) (hd : decode cc pc = .ok (.putfield 38, 3)) (he : ws[q0]? = some (a, .inr (2, fs))) (hlen : 6 < fs.length) (hw : ws.set q0 (a, .inr (2, fs.set 6 (.int x))) = ws') (kk : zV G nL (pc + 3) ls st ws') : zV G nL pc ls (.int x :: .ref a :: st) ws := z_put q0 6 C hd (ci := 2) rfl in_X2 tyX2 tyX2_ok nmX2 (by decide) tw_28 rfl rfl he hlen hw kk
theorem pf_X2_42 {G : GT} {cc : ByteArray} {nL : Nat} {ret : Option FieldType} {d pc a : Nat} {ls : List (Nat × Value)} {st fs : List Value} {ws ws' : va_W} {x : Int32} (q0 : Nat) (C : zC G cc nL RX2 ret d) (hd : decode cc pc = .ok (.putfield 42, 3)) (he : ws[q0]? = some (a, .inr (2, fs))) (hlen : 7 < fs.length) (hw : ws.set q0 (a, .inr (2, fs.set 7 (.int x))) = ws') (kk : zV G nL (pc + 3) ls st ws') : zV G nL pc ls (.int x :: .ref a :: st) ws := z_put q0 7 C hd (ci := 2) rfl in_X2 tyX2 tyX2_ok nmX2 (by decide) tw_29 rfl rfl he hlen hw kk
theorem pf_X3_20 {G : GT} {cc : ByteArray} {nL : Nat} {ret : Option FieldType} {d pc a : Nat} {ls : List (Nat × Value)} {st fs : List Value} {ws ws' : va_W} {x : Int32} (q0 : Nat) (C : zC G cc nL RX3 ret d) (hd : decode cc pc = .ok (.putfield 20, 3)) (he : ws[q0]? = some (a, .inr (3, fs))) (hlen : 5 < fs.length) (hw : ws.set q0 (a, .inr (3, fs.set 5 (.int x))) = ws') (kk : zV G nL (pc + 3) ls st ws') : zV G nL pc ls (.int x :: .ref a :: st) ws := z_put q0 5 C hd (ci := 3) rfl in_X3 tyX3 tyX3_ok nmX3 (by decide) tw_54 rfl rfl he hlen hw kk
theorem pf_X3_30 {G : GT} {cc : ByteArray} {nL : Nat} {ret : Option FieldType} {d pc a : Nat} {ls : List (Nat × Value)} {st fs : List Value} {ws ws' : va_W} {x : Int32} (q0 : Nat) (C : zC G cc nL RX3 ret d) (hd : decode cc pc = .ok (.putfield 30, 3)) (he : ws[q0]? = some (a, .inr (3, fs))) (hlen : 1 < fs.length) (hw : ws.set q0 (a, .inr (3, fs.set 1 (.int x))) = ws') (kk : zV G nL (pc + 3) ls st ws') : zV G nL pc ls (.int x :: .ref a :: st) ws := z_put q0 1 C hd (ci := 3) rfl in_X3 tyX3 tyX3_ok nmX3 (by decide) tw_103 rfl rfl he hlen hw kk
theorem pf_X3_52 {G : GT} {cc : ByteArray} {nL : Nat} {ret : Option FieldType} {d pc a : Nat} {ls : List (Nat × Value)} {st fs : List Value} {ws ws' : va_W} {x : Int32} (q0 : Nat) (C : zC G cc nL RX3 ret d) (hd : decode cc pc = .ok (.putfield 52, 3)) (he : ws[q0]? = some (a, .inr (3, fs))) (hlen : 6 < fs.length) (hw : ws.set q0 (a, .inr (3, fs.set 6 (.int x))) = ws') (kk : zV G nL (pc + 3) ls st ws') : zV G nL pc ls (.int x :: .ref a :: st) ws := z_put q0 6 C hd (ci := 3) rfl in_X3 tyX3 tyX3_ok nmX3 (by decide) tw_327 rfl rfl he hlen hw kk
theorem pf_X3_165 {G : GT} {cc : ByteArray} {nL : Nat} {ret : Option FieldType} {d pc a : Nat} {ls : List (Nat × Value)} {st fs : List Value} {ws ws' : va_W} {x : Int32} (q0 : Nat) (C : zC G cc nL RX3 ret d) (hd : decode cc pc = .ok (.putfield 165, 3)) (he : ws[q0]? = some (a, .inr (3, fs))) (hlen : 4 < fs.length) (hw : ws.set q0 (a, .inr (3, fs.set 4 (.int x))) = ws') (kk : zV G nL (pc + 3) ls st ws') : zV G nL pc ls (.int x :: .ref a :: st) ws := z_put q0 4 C hd (ci := 3) rfl in_X3 tyX3 tyX3_ok nmX3 (by decide) tw_454 rfl rfl he hlen hw kk
theorem pf_X3_191 {G : GT} {cc : ByteArray} {nL : Nat} {ret : Option FieldType} {d pc a : Nat} {ls : List (Nat × Value)} {st fs : List Value} {ws ws' : va_W} {x : Int32} (q0 : Nat) (C : zC G cc nL RX3 ret d) (hd : decode cc pc = .ok (.putfield 191, 3)) (he : ws[q0]? = some (a, .inr (3, fs))) (hlen : 9 < fs.length) (hw : ws.set q0 (a, .inr (3, fs.set 9 (.int x))) = ws') (kk : zV G nL (pc + 3) ls st ws') : zV G nL pc ls (.int x :: .ref a :: st) ws := z_put q0 9 C hd (ci := 3) rfl in_X3 tyX3 tyX3_ok nmX3 (by decide) tw_630 rfl rfl he hlen hw kk
theorem pf_X3_203 {G : GT} {cc : ByteArray} {nL : Nat} {ret : Option FieldType} {d pc a : Nat} {ls : List (Nat × Value)} {st fs : List Value} {ws ws' : va_W} {x : Int32} (q0 : Nat) (C : zC G cc nL RX3 ret d) (hd : decode cc pc = .ok (.putfield 203, 3)) (he : ws[q0]? = some (a, .inr (3, fs))) (hlen : 13 < fs.length) (hw : ws.set q0 (a, .inr (3, fs.set 13 (.int x))) = ws') (kk : zV G nL (pc + 3) ls st ws') : zV G nL pc ls (.int x :: .ref a :: st) ws := z_put q0 13 C hd (ci := 3) rfl in_X3 tyX3 tyX3_ok nmX3 (by decide) tw_662 rfl rfl he hlen hw kk
theorem pf_X3_206 {G : GT} {cc : ByteArray} {nL : Nat} {ret : Option FieldType} {d pc a : Nat} {ls : List (Nat × Value)} {st fs : List Value} {ws ws' : va_W} {x : Int32} (q0 : Nat) (C : zC G cc nL RX3 ret d) (hd : decode cc pc = .ok (.putfield 206, 3)) (he : ws[q0]? = some (a, .inr (3, fs))) (hlen : 11 < fs.length) (hw : ws.set q0 (a, .inr (3, fs.set 11 (.int x))) = ws') (kk : zV G nL (pc + 3) ls st ws') : zV G nL pc ls (.int x :: .ref a :: st) ws := z_put q0 11 C hd (ci := 3) rfl in_X3 tyX3 tyX3_ok nmX3 (by decide) tw_641 rfl rfl he hlen hw kk
theorem pf_X3_212 {G : GT} {cc : ByteArray} {nL : Nat} {ret : Option FieldType} {d pc a : Nat} {ls : List (Nat × Value)} {st fs : List Value} {ws ws' : va_W} {x : Int32} (q0 : Nat) (C : zC G cc nL RX3 ret d) (hd : decode cc pc = .ok (.putfield 212, 3)) (he : ws[q0]? = some (a, .inr (3, fs))) (hlen : 12 < fs.length) (hw : ws.set q0 (a, .inr (3, fs.set 12 (.int x))) = ws') (kk : zV G nL (pc + 3) ls st ws') : zV G nL pc ls (.int x :: .ref a :: st) ws := z_put q0 12 C hd (ci := 3) rfl in_X3 tyX3 tyX3_ok nmX3 (by decide) tw_636 rfl rfl he hlen hw kk
theorem pf_X3_219 {G : GT} {cc : ByteArray} {nL : Nat} {ret : Option FieldType} {d pc a : Nat} {ls : List (Nat × Value)} {st fs : List Value} {ws ws' : va_W} {x : Int32} (q0 : Nat) (C : zC G cc nL RX3 ret d) (hd : decode cc pc = .ok (.putfield 219, 3)) (he : ws[q0]? = some (a, .inr (3, fs))) (hlen : 10 < fs.length) (hw : ws.set q0 (a, .inr (3, fs.set 10 (.int x))) = ws') (kk : zV G nL (pc + 3) ls st ws') : zV G nL pc ls (.int x :: .ref a :: st) ws := z_put q0 10 C hd (ci := 3) rfl in_X3 tyX3 tyX3_ok nmX3 (by decide) tw_635 rfl rfl he hlen hw kk
theorem w_J7_13 : zWS RJ7 13 yJ7_rangeCheck_23922 cJ7_rangeCheck_23922 3 none 3 := ⟨⟨⟨tw_508, tw_245, tw_510⟩, by decide +kernel, by decide⟩, tw_509⟩
theorem w_X0_24 : zWI RX0 24 yX0_isBoard cX0_isBoard 2 (some .boolean) 1 := ⟨⟨⟨tw_116, tw_15, tw_119⟩, by decide +kernel, by decide⟩, tw_117, tw_118⟩
theorem w_X0_34 : zWS RX0 34 yX0_isFuse cX0_isFuse 2 (some .boolean) 2 := ⟨⟨⟨tw_120, tw_15, tw_122⟩, by decide +kernel, by decide⟩, tw_121⟩
theorem w_X0_38 : zWI RX0 38 yX0_putNewFuse cX0_putNewFuse 4 none 3 := ⟨⟨⟨tw_123, tw_15, tw_126⟩, by decide +kernel, by decide⟩, tw_124, tw_125⟩
theorem w_X0_42 : zWI RX0 42 yX0_isLoad cX0_isLoad 2 (some .boolean) 1 := ⟨⟨⟨tw_187, tw_15, tw_190⟩, by decide +kernel, by decide⟩, tw_188, tw_189⟩
theorem w_X0_45 : zWI RX0 45 yX0_tick cX0_tick 3 (some .int) 0 := ⟨⟨⟨tw_235, tw_15, tw_238⟩, by decide +kernel, by decide⟩, tw_236, tw_237⟩
theorem w_X0_49 : zWS RX0 49 yJ6_bitCount_0f7a4 cJ6_bitCount_0f7a4 1 (some .int) 1 := ⟨⟨⟨tw_299, tw_301, tw_302⟩, by decide +kernel, by decide⟩, tw_300⟩
theorem w_X0_55 : zWS RX0 55 yJ7_fill_fda19 cJ7_fill_fda19 5 none 4 := ⟨⟨⟨tw_505, tw_245, tw_507⟩, by decide +kernel, by decide⟩, tw_506⟩
theorem w_X0_61 : zWI RX0 61 yX0_addUpCurrents cX0_addUpCurrents 4 none 0 := ⟨⟨⟨tw_239, tw_15, tw_242⟩, by decide +kernel, by decide⟩, tw_240, tw_241⟩
theorem w_X0_64 : zWI RX0 64 yX0_burnArcs cX0_burnArcs 2 none 0 := ⟨⟨⟨tw_255, tw_15, tw_258⟩, by decide +kernel, by decide⟩, tw_256, tw_257⟩
theorem w_X0_67 : zWI RX0 67 yX0_state cX0_state 2 (some .int) 1 := ⟨⟨⟨tw_259, tw_15, tw_262⟩, by decide +kernel, by decide⟩, tw_260, tw_261⟩
theorem w_X0_70 : zWI RX0 70 yX0_warm cX0_warm 7 none 2 := ⟨⟨⟨tw_263, tw_15, tw_266⟩, by decide +kernel, by decide⟩, tw_264, tw_265⟩
theorem w_X0_74 : zWI RX0 74 yX0_molten cX0_molten 3 (some .int) 0 := ⟨⟨⟨tw_276, tw_15, tw_279⟩, by decide +kernel, by decide⟩, tw_277, tw_278⟩
theorem w_X0_77 : zWI RX0 77 yX0_nearestOf cX0_nearestOf 4 (some .int) 1 := ⟨⟨⟨tw_287, tw_15, tw_290⟩, by decide +kernel, by decide⟩, tw_288, tw_289⟩
theorem w_X0_80 : zWI RX0 80 yX0_blow cX0_blow 2 none 1 := ⟨⟨⟨tw_295, tw_15, tw_298⟩, by decide +kernel, by decide⟩, tw_296, tw_297⟩
theorem w_X0_84 : zWS RX0 84 yJ7_fill_53178 cJ7_fill_53178 4 none 2 := ⟨⟨⟨tw_243, tw_245, tw_246⟩, by decide +kernel, by decide⟩, tw_244⟩
theorem w_X0_87 : zWI RX0 87 yX0_deadBoards cX0_deadBoards 3 (some .int) 0 := ⟨⟨⟨tw_247, tw_15, tw_250⟩, by decide +kernel, by decide⟩, tw_248, tw_249⟩
theorem w_X0_90 : zWI RX0 90 yX0_addFlow cX0_addFlow 3 none 2 := ⟨⟨⟨tw_251, tw_15, tw_254⟩, by decide +kernel, by decide⟩, tw_252, tw_253⟩
theorem w_X0_103 : zWI RX0 103 yX0_creep cX0_creep 2 none 1 := ⟨⟨⟨tw_272, tw_15, tw_275⟩, by decide +kernel, by decide⟩, tw_273, tw_274⟩
theorem w_X0_106 : zWI RX0 106 yX0_meltingHeat cX0_meltingHeat 4 (some .int) 1 := ⟨⟨⟨tw_280, tw_15, tw_283⟩, by decide +kernel, by decide⟩, tw_281, tw_282⟩
theorem w_X0_109 : zWI RX0 109 yX0_fedThrough cX0_fedThrough 4 (some .int) 1 := ⟨⟨⟨tw_291, tw_15, tw_294⟩, by decide +kernel, by decide⟩, tw_292, tw_293⟩
theorem w_X0_112 : zWI RX0 112 yX0_current cX0_current 2 (some .int) 1 := ⟨⟨⟨tw_372, tw_15, tw_375⟩, by decide +kernel, by decide⟩, tw_373, tw_374⟩
theorem w_X0_115 : zWI RX0 115 yX0_boardsAhead cX0_boardsAhead 5 (some .int) 1 := ⟨⟨⟨tw_376, tw_15, tw_379⟩, by decide +kernel, by decide⟩, tw_377, tw_378⟩
theorem w_X0_118 : zWI RX0 118 yX0_allBoards cX0_allBoards 1 (some .int) 0 := ⟨⟨⟨tw_397, tw_15, tw_400⟩, by decide +kernel, by decide⟩, tw_398, tw_399⟩
theorem w_X0_121 : zWI RX0 121 yX0_workingLoadsAt cX0_workingLoadsAt 5 (some .int) 1 := ⟨⟨⟨tw_401, tw_15, tw_404⟩, by decide +kernel, by decide⟩, tw_402, tw_403⟩
theorem w_X0_124 : zWI RX0 124 yX0_burningBoards cX0_burningBoards 3 (some .int) 0 := ⟨⟨⟨tw_446, tw_15, tw_449⟩, by decide +kernel, by decide⟩, tw_447, tw_448⟩
theorem w_X0_127 : zWS RX0 127 yX0_heatFactor cX0_heatFactor 1 (some .int) 1 := ⟨⟨⟨tw_284, tw_15, tw_286⟩, by decide +kernel, by decide⟩, tw_285⟩
theorem w_X1_34 : zWS RX1 34 yX1_countCharacters cX1_countCharacters 4 (some .int) 1 := ⟨⟨⟨tw_554, tw_20, tw_556⟩, by decide +kernel, by decide⟩, tw_555⟩
theorem w_X1_38 : zWS RX1 38 yX1_codeIn cX1_codeIn 3 (some .int) 2 := ⟨⟨⟨tw_557, tw_20, tw_559⟩, by decide +kernel, by decide⟩, tw_558⟩
theorem w_X1_42 : zWI RX1 42 yX1_readFirstOrder cX1_readFirstOrder 1 (some .boolean) 0 := ⟨⟨⟨tw_590, tw_20, tw_593⟩, by decide +kernel, by decide⟩, tw_591, tw_592⟩
theorem w_X1_46 : zWI RX1 46 yX1_readNextOrder cX1_readNextOrder 1 (some .boolean) 0 := ⟨⟨⟨tw_622, tw_20, tw_625⟩, by decide +kernel, by decide⟩, tw_623, tw_624⟩
theorem w_X1_49 : zWI RX1 49 yX1_readOrder cX1_readOrder 1 (some .boolean) 0 := ⟨⟨⟨tw_594, tw_20, tw_597⟩, by decide +kernel, by decide⟩, tw_595, tw_596⟩
theorem w_X1_52 : zWI RX1 52 yX1_skip cX1_skip 2 (some .boolean) 1 := ⟨⟨⟨tw_602, tw_20, tw_605⟩, by decide +kernel, by decide⟩, tw_603, tw_604⟩
theorem w_X1_56 : zWI RX1 56 yX1_codeHere cX1_codeHere 1 (some .int) 0 := ⟨⟨⟨tw_598, tw_20, tw_601⟩, by decide +kernel, by decide⟩, tw_599, tw_600⟩
theorem w_X1_60 : zWI RX1 60 yX1_readDigit cX1_readDigit 1 (some .boolean) 0 := ⟨⟨⟨tw_606, tw_20, tw_609⟩, by decide +kernel, by decide⟩, tw_607, tw_608⟩
theorem w_X1_63 : zWI RX1 63 yX1_readNumber cX1_readNumber 2 (some .boolean) 0 := ⟨⟨⟨tw_614, tw_20, tw_617⟩, by decide +kernel, by decide⟩, tw_615, tw_616⟩
theorem w_X1_66 : zWI RX1 66 yX1_readKind cX1_readKind 1 (some .boolean) 0 := ⟨⟨⟨tw_618, tw_20, tw_621⟩, by decide +kernel, by decide⟩, tw_619, tw_620⟩
theorem w_X1_69 : zWI RX1 69 yX1_isDigitHere cX1_isDigitHere 1 (some .boolean) 0 := ⟨⟨⟨tw_610, tw_20, tw_613⟩, by decide +kernel, by decide⟩, tw_611, tw_612⟩
theorem w_X2_45 : zWI RX2 45 yX2_noteState cX2_noteState 1 none 0 := ⟨⟨⟨tw_61, tw_2, tw_64⟩, by decide +kernel, by decide⟩, tw_62, tw_63⟩
theorem w_X2_48 : zWI RX2 48 yX0_changeSetting cX0_changeSetting 4 (some .int) 2 := ⟨⟨⟨tw_73, tw_15, tw_76⟩, by decide +kernel, by decide⟩, tw_74, tw_75⟩
theorem w_X2_52 : zWI RX2 52 yX2_keepUnlessError cX2_keepUnlessError 2 (some .int) 1 := ⟨⟨⟨tw_79, tw_2, tw_82⟩, by decide +kernel, by decide⟩, tw_80, tw_81⟩
theorem w_X2_56 : zWI RX2 56 yX0_addBoard cX0_addBoard 5 (some .int) 3 := ⟨⟨⟨tw_112, tw_15, tw_115⟩, by decide +kernel, by decide⟩, tw_113, tw_114⟩
theorem w_X2_60 : zWI RX2 60 yX0_addLoad cX0_addLoad 4 (some .int) 2 := ⟨⟨⟨tw_159, tw_15, tw_162⟩, by decide +kernel, by decide⟩, tw_160, tw_161⟩
theorem w_X2_63 : zWI RX2 63 yX0_switchLoad cX0_switchLoad 2 (some .int) 1 := ⟨⟨⟨tw_183, tw_15, tw_186⟩, by decide +kernel, by decide⟩, tw_184, tw_185⟩
theorem w_X2_66 : zWI RX2 66 yX0_changeFuse cX0_changeFuse 5 (some .int) 3 := ⟨⟨⟨tw_211, tw_15, tw_214⟩, by decide +kernel, by decide⟩, tw_212, tw_213⟩
theorem w_X2_69 : zWI RX2 69 yX0_letPass cX0_letPass 4 (some .int) 1 := ⟨⟨⟨tw_231, tw_15, tw_234⟩, by decide +kernel, by decide⟩, tw_232, tw_233⟩
theorem w_X2_72 : zWI RX2 72 yX0_isBoard cX0_isBoard 2 (some .boolean) 1 := ⟨⟨⟨tw_367, tw_15, tw_119⟩, by decide +kernel, by decide⟩, tw_117, tw_118⟩
theorem w_X2_76 : zWI RX2 76 yX0_aboutBoard cX0_aboutBoard 3 (some .int) 2 := ⟨⟨⟨tw_368, tw_15, tw_371⟩, by decide +kernel, by decide⟩, tw_369, tw_370⟩
theorem w_X2_79 : zWI RX2 79 yX0_isLoad cX0_isLoad 2 (some .boolean) 1 := ⟨⟨⟨tw_392, tw_15, tw_190⟩, by decide +kernel, by decide⟩, tw_188, tw_189⟩
theorem w_X2_82 : zWI RX2 82 yX0_aboutLoad cX0_aboutLoad 3 (some .int) 2 := ⟨⟨⟨tw_393, tw_15, tw_396⟩, by decide +kernel, by decide⟩, tw_394, tw_395⟩
theorem w_X2_85 : zWI RX2 85 yX0_fedThrough cX0_fedThrough 4 (some .int) 1 := ⟨⟨⟨tw_417, tw_15, tw_294⟩, by decide +kernel, by decide⟩, tw_292, tw_293⟩
theorem w_X2_88 : zWI RX2 88 yX0_latestBlown cX0_latestBlown 2 (some .int) 1 := ⟨⟨⟨tw_426, tw_15, tw_429⟩, by decide +kernel, by decide⟩, tw_427, tw_428⟩
theorem w_X2_91 : zWI RX2 91 yX1_length cX1_length 1 (some .int) 0 := ⟨⟨⟨tw_438, tw_20, tw_441⟩, by decide +kernel, by decide⟩, tw_439, tw_440⟩
theorem w_X2_95 : zWI RX2 95 yX0_aboutHouse cX0_aboutHouse 2 (some .int) 1 := ⟨⟨⟨tw_442, tw_15, tw_445⟩, by decide +kernel, by decide⟩, tw_443, tw_444⟩
theorem w_X2_98 : zWS RX2 98 yX2_isTrialQuestion cX2_isTrialQuestion 1 (some .boolean) 1 := ⟨⟨⟨tw_467, tw_2, tw_469⟩, by decide +kernel, by decide⟩, tw_468⟩
theorem w_X2_101 : zWI RX2 101 yX0_copyFrom cX0_copyFrom 2 none 1 := ⟨⟨⟨tw_470, tw_15, tw_473⟩, by decide +kernel, by decide⟩, tw_471, tw_472⟩
theorem w_X2_105 : zWI RX2 105 yX2_firstBlow cX2_firstBlow 4 (some .int) 1 := ⟨⟨⟨tw_474, tw_2, tw_477⟩, by decide +kernel, by decide⟩, tw_475, tw_476⟩
theorem w_X2_108 : zWI RX2 108 yX2_tryFault cX2_tryFault 4 (some .int) 3 := ⟨⟨⟨tw_497, tw_2, tw_500⟩, by decide +kernel, by decide⟩, tw_498, tw_499⟩
theorem w_X2_111 : zWI RX2 111 yX0_boards cX0_boards 1 (some .int) 0 := ⟨⟨⟨tw_524, tw_15, tw_527⟩, by decide +kernel, by decide⟩, tw_525, tw_526⟩
theorem w_X2_114 : zWI RX2 114 yX0_rating cX0_rating 2 (some .int) 1 := ⟨⟨⟨tw_528, tw_15, tw_531⟩, by decide +kernel, by decide⟩, tw_529, tw_530⟩
theorem w_X2_117 : zWI RX2 117 yX0_workingLoadsAt cX0_workingLoadsAt 5 (some .int) 1 := ⟨⟨⟨tw_541, tw_15, tw_404⟩, by decide +kernel, by decide⟩, tw_402, tw_403⟩
theorem w_X2_120 : zWI RX2 120 yX1_append cX1_append 5 (some .int) 1 := ⟨⟨⟨tw_550, tw_20, tw_553⟩, by decide +kernel, by decide⟩, tw_551, tw_552⟩
theorem w_X2_124 : zWI RX2 124 yX1_clear cX1_clear 2 (some .int) 0 := ⟨⟨⟨tw_574, tw_20, tw_577⟩, by decide +kernel, by decide⟩, tw_575, tw_576⟩
theorem w_X2_127 : zWI RX2 127 yX1_findFault cX1_findFault 3 (some .int) 0 := ⟨⟨⟨tw_586, tw_20, tw_589⟩, by decide +kernel, by decide⟩, tw_587, tw_588⟩
theorem w_X2_130 : zWI RX2 130 yX1_readFirstOrder cX1_readFirstOrder 1 (some .boolean) 0 := ⟨⟨⟨tw_671, tw_20, tw_593⟩, by decide +kernel, by decide⟩, tw_591, tw_592⟩
theorem w_X2_134 : zWI RX2 134 yX2_obeyOrder cX2_obeyOrder 1 (some .int) 0 := ⟨⟨⟨tw_672, tw_2, tw_675⟩, by decide +kernel, by decide⟩, tw_673, tw_674⟩
theorem w_X2_137 : zWI RX2 137 yX1_readNextOrder cX1_readNextOrder 1 (some .boolean) 0 := ⟨⟨⟨tw_692, tw_20, tw_625⟩, by decide +kernel, by decide⟩, tw_623, tw_624⟩
theorem w_X2_140 : zWI RX2 140 yX0_readFrom cX0_readFrom 2 none 1 := ⟨⟨⟨tw_710, tw_15, tw_713⟩, by decide +kernel, by decide⟩, tw_711, tw_712⟩
theorem w_X2_144 : zWS RX2 144 yX2_isSlot cX2_isSlot 1 (some .boolean) 1 := ⟨⟨⟨tw_722, tw_2, tw_724⟩, by decide +kernel, by decide⟩, tw_723⟩
theorem w_X2_147 : zWI RX2 147 yX0_writeTo cX0_writeTo 2 none 1 := ⟨⟨⟨tw_65, tw_15, tw_68⟩, by decide +kernel, by decide⟩, tw_66, tw_67⟩
theorem w_X2_155 : zWI RX2 155 yX0_leaveOnlyFault cX0_leaveOnlyFault 3 none 2 := ⟨⟨⟨tw_501, tw_15, tw_504⟩, by decide +kernel, by decide⟩, tw_502, tw_503⟩
theorem w_X2_159 : zWI RX2 159 yX0_tick cX0_tick 3 (some .int) 0 := ⟨⟨⟨tw_478, tw_15, tw_238⟩, by decide +kernel, by decide⟩, tw_236, tw_237⟩
theorem w_X2_162 : zWS RX2 162 yX2_lowest cX2_lowest 2 (some .int) 1 := ⟨⟨⟨tw_479, tw_2, tw_481⟩, by decide +kernel, by decide⟩, tw_480⟩
theorem w_X2_165 : zWI RX2 165 yX1_letter cX1_letter 1 (some .int) 0 := ⟨⟨⟨tw_676, tw_20, tw_679⟩, by decide +kernel, by decide⟩, tw_677, tw_678⟩
theorem w_X2_168 : zWI RX2 168 yX1_digit cX1_digit 1 (some .int) 0 := ⟨⟨⟨tw_680, tw_20, tw_683⟩, by decide +kernel, by decide⟩, tw_681, tw_682⟩
theorem w_X2_171 : zWI RX2 171 yX1_number cX1_number 1 (some .int) 0 := ⟨⟨⟨tw_684, tw_20, tw_687⟩, by decide +kernel, by decide⟩, tw_685, tw_686⟩
theorem w_X2_174 : zWI RX2 174 yX1_kind cX1_kind 1 (some .int) 0 := ⟨⟨⟨tw_688, tw_20, tw_691⟩, by decide +kernel, by decide⟩, tw_689, tw_690⟩
theorem w_X3_33 : zWI RX3 33 yX3_copies cX3_copies 4 none 2 := ⟨⟨⟨tw_104, tw_5, tw_107⟩, by decide +kernel, by decide⟩, tw_105, tw_106⟩
theorem w_X3_37 : zWS RX3 37 yX3_boardAt cX3_boardAt 2 (some .int) 2 := ⟨⟨⟨tw_148, tw_5, tw_150⟩, by decide +kernel, by decide⟩, tw_149⟩
theorem w_X3_41 : zWS RX3 41 yX3_loadAt cX3_loadAt 2 (some .int) 2 := ⟨⟨⟨tw_176, tw_5, tw_178⟩, by decide +kernel, by decide⟩, tw_177⟩
theorem w_X3_44 : zWI RX3 44 yX3_isFed cX3_isFed 6 (some .boolean) 3 := ⟨⟨⟨tw_328, tw_5, tw_331⟩, by decide +kernel, by decide⟩, tw_329, tw_330⟩
theorem w_X3_48 : zWI RX3 48 yX3_isDead cX3_isDead 5 (some .boolean) 2 := ⟨⟨⟨tw_332, tw_5, tw_335⟩, by decide +kernel, by decide⟩, tw_333, tw_334⟩
theorem w_X3_56 : zWS RX3 56 yX3_flag cX3_flag 1 (some .int) 1 := ⟨⟨⟨tw_357, tw_5, tw_359⟩, by decide +kernel, by decide⟩, tw_358⟩
theorem w_X3_60 : zWI RX3 60 yX3_current cX3_current 6 (some .int) 2 := ⟨⟨⟨tw_323, tw_5, tw_326⟩, by decide +kernel, by decide⟩, tw_324, tw_325⟩
theorem w_X3_63 : zWI RX3 63 yX3_burns cX3_burns 4 none 2 := ⟨⟨⟨tw_336, tw_5, tw_339⟩, by decide +kernel, by decide⟩, tw_337, tw_338⟩
theorem w_X3_66 : zWI RX3 66 yX3_heats cX3_heats 7 none 2 := ⟨⟨⟨tw_340, tw_5, tw_343⟩, by decide +kernel, by decide⟩, tw_341, tw_342⟩
theorem w_X3_69 : zWI RX3 69 yX3_meltingHeat cX3_meltingHeat 6 (some .int) 2 := ⟨⟨⟨tw_345, tw_5, tw_348⟩, by decide +kernel, by decide⟩, tw_346, tw_347⟩
theorem w_X3_72 : zWI RX3 72 yX3_isNearest cX3_isNearest 5 (some .boolean) 2 := ⟨⟨⟨tw_349, tw_5, tw_352⟩, by decide +kernel, by decide⟩, tw_350, tw_351⟩
theorem w_X3_75 : zWI RX3 75 yX3_blows cX3_blows 5 none 2 := ⟨⟨⟨tw_353, tw_5, tw_356⟩, by decide +kernel, by decide⟩, tw_354, tw_355⟩
theorem w_X3_78 : zWI RX3 78 yX3_tick cX3_tick 5 (some .int) 1 := ⟨⟨⟨tw_319, tw_5, tw_322⟩, by decide +kernel, by decide⟩, tw_320, tw_321⟩
theorem w_X3_82 : zWS RX3 82 yX3_ones cX3_ones 3 (some .int) 1 := ⟨⟨⟨tw_360, tw_5, tw_362⟩, by decide +kernel, by decide⟩, tw_361⟩
theorem w_X3_85 : zWS RX3 85 yX3_in cX3_in 6 (some .boolean) 3 := ⟨⟨⟨tw_96, tw_5, tw_98⟩, by decide +kernel, by decide⟩, tw_97⟩
theorem w_X3_93 : zWI RX3 93 yX3_isBoard cX3_isBoard 2 (some .boolean) 1 := ⟨⟨⟨tw_135, tw_5, tw_138⟩, by decide +kernel, by decide⟩, tw_136, tw_137⟩
theorem w_X3_97 : zWS RX3 97 yX3_isFuse cX3_isFuse 2 (some .boolean) 2 := ⟨⟨⟨tw_139, tw_5, tw_141⟩, by decide +kernel, by decide⟩, tw_140⟩
theorem w_X3_102 : zWI RX3 102 yX3_isLoad cX3_isLoad 2 (some .boolean) 1 := ⟨⟨⟨tw_199, tw_5, tw_202⟩, by decide +kernel, by decide⟩, tw_200, tw_201⟩
theorem w_X3_107 : zWI RX3 107 yX3_puts cX3_puts 6 none 3 := ⟨⟨⟨tw_151, tw_5, tw_154⟩, by decide +kernel, by decide⟩, tw_152, tw_153⟩
theorem w_X3_115 : zWS RX3 115 yX3_isValue cX3_isValue 2 (some .boolean) 2 := ⟨⟨⟨tw_91, tw_5, tw_93⟩, by decide +kernel, by decide⟩, tw_92⟩
theorem w_X3_118 : zWI RX3 118 yX3_changes cX3_changes 2 none 0 := ⟨⟨⟨tw_99, tw_5, tw_102⟩, by decide +kernel, by decide⟩, tw_100, tw_101⟩
theorem w_X3_121 : zWI RX3 121 yX3_boardError cX3_boardError 4 (some .int) 3 := ⟨⟨⟨tw_131, tw_5, tw_134⟩, by decide +kernel, by decide⟩, tw_132, tw_133⟩
theorem w_X3_125 : zWI RX3 125 yX3_builds cX3_builds 5 (some .int) 3 := ⟨⟨⟨tw_144, tw_5, tw_147⟩, by decide +kernel, by decide⟩, tw_145, tw_146⟩
theorem w_X3_128 : zWI RX3 128 yX3_loadError cX3_loadError 3 (some .int) 2 := ⟨⟨⟨tw_167, tw_5, tw_170⟩, by decide +kernel, by decide⟩, tw_168, tw_169⟩
theorem w_X3_131 : zWI RX3 131 yX3_connects cX3_connects 4 (some .int) 2 := ⟨⟨⟨tw_172, tw_5, tw_175⟩, by decide +kernel, by decide⟩, tw_173, tw_174⟩
theorem w_X3_134 : zWI RX3 134 yX3_turnError cX3_turnError 2 (some .int) 1 := ⟨⟨⟨tw_195, tw_5, tw_198⟩, by decide +kernel, by decide⟩, tw_196, tw_197⟩
theorem w_X3_137 : zWI RX3 137 yX3_turns cX3_turns 2 (some .int) 1 := ⟨⟨⟨tw_203, tw_5, tw_206⟩, by decide +kernel, by decide⟩, tw_204, tw_205⟩
theorem w_X3_140 : zWI RX3 140 yX3_fuseError cX3_fuseError 4 (some .int) 3 := ⟨⟨⟨tw_219, tw_5, tw_222⟩, by decide +kernel, by decide⟩, tw_220, tw_221⟩
theorem w_X3_143 : zWI RX3 143 yX3_fuses cX3_fuses 5 (some .int) 3 := ⟨⟨⟨tw_223, tw_5, tw_226⟩, by decide +kernel, by decide⟩, tw_224, tw_225⟩
theorem w_X3_146 : zWI RX3 146 yX3_passError cX3_passError 2 (some .int) 1 := ⟨⟨⟨tw_310, tw_5, tw_313⟩, by decide +kernel, by decide⟩, tw_311, tw_312⟩
theorem w_X3_149 : zWI RX3 149 yX3_ticks cX3_ticks 5 (some .int) 2 := ⟨⟨⟨tw_315, tw_5, tw_318⟩, by decide +kernel, by decide⟩, tw_316, tw_317⟩
theorem w_X3_152 : zWI RX3 152 yX3_depth cX3_depth 4 (some .int) 1 := ⟨⟨⟨tw_384, tw_5, tw_387⟩, by decide +kernel, by decide⟩, tw_385, tw_386⟩
theorem w_X3_155 : zWI RX3 155 yX3_works cX3_works 2 (some .boolean) 1 := ⟨⟨⟨tw_409, tw_5, tw_412⟩, by decide +kernel, by decide⟩, tw_410, tw_411⟩
theorem w_X3_158 : zWI RX3 158 yX3_boards cX3_boards 5 (some .int) 1 := ⟨⟨⟨tw_455, tw_5, tw_458⟩, by decide +kernel, by decide⟩, tw_456, tw_457⟩
theorem w_X3_161 : zWI RX3 161 yX3_working cX3_working 3 (some .int) 0 := ⟨⟨⟨tw_459, tw_5, tw_462⟩, by decide +kernel, by decide⟩, tw_460, tw_461⟩
theorem w_X3_168 : zWS RX3 168 yX3_lowest cX3_lowest 2 (some .int) 1 := ⟨⟨⟨tw_490, tw_5, tw_492⟩, by decide +kernel, by decide⟩, tw_491⟩
theorem w_X3_171 : zWI RX3 171 yX3_first cX3_first 4 (some .int) 1 := ⟨⟨⟨tw_486, tw_5, tw_489⟩, by decide +kernel, by decide⟩, tw_487, tw_488⟩
theorem w_X3_176 : zWI RX3 176 yX3_tests cX3_tests 6 (some .int) 3 := ⟨⟨⟨tw_516, tw_5, tw_519⟩, by decide +kernel, by decide⟩, tw_517, tw_518⟩
theorem w_X3_187 : zWS RX3 187 yX3_charactersOf cX3_charactersOf 5 (some .int) 1 := ⟨⟨⟨tw_565, tw_5, tw_567⟩, by decide +kernel, by decide⟩, tw_566⟩
theorem w_X3_194 : zWI RX3 194 yX3_isHere cX3_isHere 3 (some .boolean) 2 := ⟨⟨⟨tw_646, tw_5, tw_649⟩, by decide +kernel, by decide⟩, tw_647, tw_648⟩
theorem w_X3_197 : zWI RX3 197 yX3_digit cX3_digit 2 (some .int) 0 := ⟨⟨⟨tw_642, tw_5, tw_645⟩, by decide +kernel, by decide⟩, tw_643, tw_644⟩
theorem w_X3_200 : zWI RX3 200 yX3_takes cX3_takes 3 (some .boolean) 1 := ⟨⟨⟨tw_650, tw_5, tw_653⟩, by decide +kernel, by decide⟩, tw_651, tw_652⟩
theorem w_X3_209 : zWI RX3 209 yX3_number cX3_number 2 (some .int) 0 := ⟨⟨⟨tw_654, tw_5, tw_657⟩, by decide +kernel, by decide⟩, tw_655, tw_656⟩
theorem w_X3_215 : zWI RX3 215 yX3_readsKind cX3_readsKind 1 (some .boolean) 0 := ⟨⟨⟨tw_658, tw_5, tw_661⟩, by decide +kernel, by decide⟩, tw_659, tw_660⟩
theorem w_X3_222 : zWI RX3 222 yX3_readsFuse cX3_readsFuse 1 (some .boolean) 0 := ⟨⟨⟨tw_637, tw_5, tw_640⟩, by decide +kernel, by decide⟩, tw_638, tw_639⟩
theorem w_X3_225 : zWI RX3 225 yX3_readsLoad cX3_readsLoad 1 (some .boolean) 0 := ⟨⟨⟨tw_663, tw_5, tw_666⟩, by decide +kernel, by decide⟩, tw_664, tw_665⟩
theorem w_X3_228 : zWI RX3 228 yX3_readsOrder cX3_readsOrder 1 (some .boolean) 0 := ⟨⟨⟨tw_631, tw_5, tw_634⟩, by decide +kernel, by decide⟩, tw_632, tw_633⟩
theorem w_X3_231 : zWI RX3 231 yX3_fault cX3_fault 2 (some .int) 0 := ⟨⟨⟨tw_697, tw_5, tw_629⟩, by decide +kernel, by decide⟩, tw_627, tw_628⟩
theorem w_X3_234 : zWI RX3 234 yX3_orderError cX3_orderError 1 (some .int) 0 := ⟨⟨⟨tw_698, tw_5, tw_701⟩, by decide +kernel, by decide⟩, tw_699, tw_700⟩
theorem w_X3_237 : zWI RX3 237 yX3_does cX3_does 1 (some .int) 0 := ⟨⟨⟨tw_702, tw_5, tw_705⟩, by decide +kernel, by decide⟩, tw_703, tw_704⟩
theorem w_X3_240 : zWS RX3 240 yX3_isSlot cX3_isSlot 1 (some .boolean) 1 := ⟨⟨⟨tw_729, tw_5, tw_731⟩, by decide +kernel, by decide⟩, tw_730⟩
theorem wm_X0_94 : zWM RX0 94 Lib.Math.min.name Lib.Math.min.code := ⟨tw_268, tw_84, tw_85, tw_86⟩
theorem wm_X0_100 : zWM RX0 100 Lib.Math.max.name Lib.Math.max.code := ⟨tw_269, tw_270, tw_85, tw_271⟩
theorem wm_X2_150 : zWM RX2 150 Lib.Math.min.name Lib.Math.min.code := ⟨tw_83, tw_84, tw_85, tw_86⟩
theorem wc_X0_18 : zWC RX0 18 := ⟨tw_69, tw_70, tw_71, tw_72⟩
