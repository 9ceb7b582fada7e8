/-! The law's first walk -/
theorem i_ast {G : GT} {Q : State → Prop} {cc : ByteArray} {nL k n pc : Nat} {own : String} {ls ls' : List (Nat × Value)} {st : List Value} {ws : va_W} {m : Fin 4} {a : Nat} (C : iC G cc nL own) (hd : decode cc pc = .ok (.astore_n m, 1)) (hm : (m : Nat) < nL) (hl' : ((m : Nat), Value.ref a) :: ls.filter (fun q => !(q.1 == (m : Nat)) && !(q.1 + 1 == (m : Nat) && q.2.category == 2)) = ls') (kk : iJ G Q nL k n (pc + 1) ls' st ws) : iJ G Q nL k n pc ls (.ref a :: st) ws := fun H locs la hP hD hS hl => lv_astore_n C.1.1 C.1.2.1 hd rfl hl hm hl' (fun la' h' => kk H locs la' hP hD hS h')
theorem st3_z {j : Nat} (h : 3 ≤ j) : st3 j = 0 := by
  unfold st3
  rw [upd_ne (by omega), upd_ne (by omega), upd_ne (by omega)]
  rfl
theorem inv0 : INV st3 0 0 0 0 (fun _ => 0) (fun _ => 0) (fun _ => 0) := by
  refine INV.mk ⟨by omega, rfl, fun k _ hk => absurd hk (by omega), fun k _ hk => absurd hk (by omega), fun k _ => ?_⟩ ⟨by omega, rfl, fun i hi => absurd hi (by omega)⟩ (fun i _ => ?_) (by show 0 ≤ 9999; omega) rfl ⟨1, by omega, rfl⟩ ⟨2, by omega, by omega, rfl⟩ (fun k hk => absurd hk (by omega)) (fun k hk => absurd hk (by omega)) (fun k hk => absurd hk (by omega)) (fun k hk => absurd hk (by omega)) ⟨fun _ => 0, by show 0 ≤ 0; omega, rfl, fun k hk => absurd hk (by omega), fun k hk => absurd hk (by omega), fun r _ hr => absurd hr (by show ¬ r < 0; omega)⟩ (fun k _ _ => st3_z (by omega)) (fun j hj => st3_z (by omega)) ⟨10, by omega, rfl⟩
  · rw [st3_z (by omega)]; exact bt_0 _
  · rw [st3_z (by omega)]; exact bt_0 _
theorem start_J {G : GT} {b L : Nat} {xs : zA} (hR : gR G = room_1) (ha : ga G = #[Value.ref b]) (hN : gN G = (600000, 7302250)) (hZ : gZ G = lw_Z (gb G) #[Value.ref b] (gs G)) (C : zC G cL_law 10 RL (some .boolean) 10) (X : lX G b L xs) (hfr : ∀ q : Nat, gA G q → (gs G).heap.size ≤ q) (hL : L < 2 ^ 31) (hO : zAO (gs G)) : iJ G (gZ G) 10 0 0 0 [(0, .ref b)] [] [] := by
  have I : iC G cL_law 10 RL := ⟨C.1, C.2.1, C.2.2.2.2.2.1, hO⟩
  refine i_new (ci := 2) (fs := [.null, .null, .null, .null, .null, .null, .int 0, .int 0]) I dL_law_0 rfl in_X2 tyX2 tyX2_ok tw_324 tw_325 tw_11 (fun j hj => by rcases (show j = 0 ∨ j = 1 ∨ j = 2 ∨ j = 3 ∨ j = 4 ∨ j = 5 ∨ j = 6 ∨ j = 7 by omega) with rfl | rfl | rfl | rfl | rfl | rfl | rfl | rfl <;> rfl) (by rw [hR]; simp [room_1]) (by rw [hR]; simp [room_1]) fun q => ?_
  refine i_dup I dL_law_3 rfl ?_
  refine i_call (wr := []) I dL_law_4 (k_X2 _ _ _) rfl tw_326 tw_11 tw_328 tw_327 (by decide +kernel) (by rw [hR]; simp [room_1, mk2]) (by rw [hR]; simp [room_1, mk2]) (by rw [hR]; simp [room_1, mk2]) (by simp [Value.category]) ?_
  rintro _ ⟨ad, rfl, rfl⟩
  refine i_ast (ls' := [(1, .ref (ad 0)), (0, .ref b)]) I dL_law_7 (by decide) rfl ?_
  obtain ⟨y, ey⟩ := lw_8 (L := L) (xs := xs) (row := st3) (pf := zz) (nf := zz) (tr := st3) (tf := zz) (sv := zz) (ff := zz) (hi := fun _ => zz) (sl := fun _ => zz) hL (sp := 0) (u := 0) ⟨0, 0, 0, 0, fun _ => 0, fun _ => 0, fun _ => 0, Nat.le_refl _, Nat.le_refl _, inv0, fun i hi => absurd hi (by omega)⟩ ⟨rfl, rfl, by omega, by omega⟩ (fun j hj => st3_z (by omega))
  obtain ⟨y1, y2, y3, y4, y5, y6, y7, y8⟩ := y
  have key := tb_L_law_8 (G := G) ad b L xs zz zz C (⟨X, rfl, hR, ha, hN, hZ, hfr⟩ : lF G b L xs 1) st3 zz st3 zz (fun _ => zz) (fun _ => zz) zz zz ey
  intro H locs la hP hD hS hl
  have k2 := key H locs la hP hD hS (lv_sub hl [1, 0] rfl)
  rw [hN] at k2
  exact W.widen (by simp [mk2]) (by simp [mk2]) k2
