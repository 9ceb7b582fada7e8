/-! The law's first walk -/
theorem i_ast {G : GT} {Q : State → Prop} {cc : ByteArray} {nL k n pc : Nat} {own : String} {ls ls' : List (Nat × Value)} {st : List Value} {ws : va_W} {m : Fin 4} {a : Nat} (C : iC G cc nL own) (hd : decode cc pc = .ok (.astore_n m, 1)) (hm : (m : Nat) < nL) (hl' : ((m : Nat), Value.ref a) :: ls.filter (fun q => !(q.1 == (m : Nat)) && !(q.1 + 1 == (m : Nat) && q.2.category == 2)) = ls') (kk : iJ G Q nL k n (pc + 1) ls' st ws) : iJ G Q nL k n pc ls (.ref a :: st) ws := fun H locs la hP hD hS hl => lv_astore_n C.1.1 C.1.2.1 hd rfl hl hm hl' (fun la' h' => kk H locs la' hP hD hS h')
theorem i_ist {G : GT} {Q : State → Prop} {cc : ByteArray} {nL k n pc : Nat} {own : String} {ls ls' : List (Nat × Value)} {st : List Value} {ws : va_W} {m : Fin 4} {x : Int32} (C : iC G cc nL own) (hd : decode cc pc = .ok (.istore_n m, 1)) (hm : (m : Nat) < nL) (hl' : ((m : Nat), Value.int x) :: ls.filter (fun q => !(q.1 == (m : Nat)) && !(q.1 + 1 == (m : Nat) && q.2.category == 2)) = ls') (kk : iJ G Q nL k n (pc + 1) ls' st ws) : iJ G Q nL k n pc ls (.int x :: st) ws := fun H locs la hP hD hS hl => lv_istore_n C.1.1 C.1.2.1 hd rfl hl hm hl' (fun la' h' => kk H locs la' hP hD hS h')
theorem start_J {G : GT} {b L : Nat} {xs : Nat → Int32} (hR : gR G = room_1) (ha : ga G = #[Value.ref b]) (C : LC G b L xs) (hO : zAO (gs G)) : iJ G (lw_Z (gb G) #[Value.ref b] (gs G)) 4 0 0 0 [(0, .ref b)] [] [] := by
  have I : iC G cL_law 4 RL := ⟨⟨C.hx, C.hb, C.hml, C.own, by rw [ha]; exact C.wd⟩, C.K, C.A, hO⟩
  refine i_new (ci := 2) (fs := [.null, .null, .null, .null, .null, .null, .int 0, .int 0]) I dL_law_0 rfl in_X2 tyX2 tyX2_ok tw_0 tw_1 tw_2 (fun j hj => by rcases (show j = 0 ∨ j = 1 ∨ j = 2 ∨ j = 3 ∨ j = 4 ∨ j = 5 ∨ j = 6 ∨ j = 7 by omega) with rfl | rfl | rfl | rfl | rfl | rfl | rfl | rfl <;> rfl) (by rw [hR]; simp [room_1]) (by rw [hR]; simp [room_1]) fun q => ?_
  refine i_dup I dL_law_3 rfl ?_
  refine i_call (wr := []) I dL_law_4 (k_X2 _ _ _) rfl tw_7 tw_2 tw_9 tw_8 (by decide +kernel) (by rw [hR]; simp [room_1, mk2]) (by rw [hR]; simp [room_1, mk2]) (by rw [hR]; simp [room_1, mk2]) (by simp [Value.category]) ?_
  rintro _ ⟨ad, rfl, rfl⟩
  refine i_ast (ls' := [(1, .ref (ad 0)), (0, .ref b)]) I dL_law_7 (by decide) rfl ?_
  refine i_new (ci := 3) (fs := [.null, .int 0, .null, .null, .int 0, .int 0, .int 0, .null, .null, .int 0, .int 0, .int 0, .int 0, .int 0]) I dL_law_8 rfl in_X3 tyX3 tyX3_ok tw_3 tw_4 tw_5 (fun j hj => by rcases (show j = 0 ∨ j = 1 ∨ j = 2 ∨ j = 3 ∨ j = 4 ∨ j = 5 ∨ j = 6 ∨ j = 7 ∨ j = 8 ∨ j = 9 ∨ j = 10 ∨ j = 11 ∨ j = 12 ∨ j = 13 by omega) with rfl | rfl | rfl | rfl | rfl | rfl | rfl | rfl | rfl | rfl | rfl | rfl | rfl | rfl <;> rfl) (by rw [hR]; simp [room_1, mk2]) (by rw [hR]; simp [room_1, mk2]) fun q => ?_
  refine i_dup I dL_law_11 rfl ?_
  refine i_call I dL_law_12 (k_X3 _ _ _) rfl tw_47 tw_5 tw_49 tw_48 (by decide +kernel) (by rw [hR]; simp [room_1, mk3]) (by rw [hR]; simp [room_1, mk2, mk3]) (by rw [hR]; simp [room_1, mk2, mk3]) (by simp [Value.category]) ?_
  rintro _ ⟨am, rfl, rfl⟩
  refine i_ast (ls' := [(2, .ref (am 0)), (1, .ref (ad 0)), (0, .ref b)]) I dL_law_15 (by decide) rfl ?_
  refine i_icn (v := nI 0) I dL_law_16 (by decide) ?_
  refine i_ist (ls' := [(3, .int (nI 0)), (2, .ref (am 0)), (1, .ref (ad 0)), (0, .ref b)]) I dL_law_17 (by decide) rfl ?_
  intro H locs la hP hD hS hl
  rw [hR, ha]
  exact W.widen (by simp [mk2, mk3]) (by simp [mk2, mk3]) (law_loop C (L + 1) 0 (Nat.zero_le _) (by omega) _ _ _ _ _ _ _ _ _ _ _ _ _ _ _ _ rel0 H locs la hP hD hS hl)
