set_option maxHeartbeats 400000 in
set_option maxRecDepth 100000 in
theorem tb_L_law_421 {G : GT} (ad : Nat → Nat) (b : Nat) (L : Nat) (xs : zA) (co : zA) (pf : zA) {v : Int32} {nr' : zA} {nf' : zA} {tr' : zA} {tf' : zA} {hi' : Nat → zA} {sl' : Nat → zA} {sv' : zA} {ff' : zA} (C : zC G cL_law 10 RL (some .boolean) 10) (F : lF G b L xs v) : ∀ (l2 : Int32) (nr : zA) (nf : zA) (tr : zA) (tf : zA) (hi : Nat → zA) (sl : Nat → zA) (sv : zA) (ff : zA), B_L_law_421 L xs l2 nr nf tr tf pf hi sl sv ff = some (v, nr', nf', tr', tf', hi', sl', sv', ff') → zV G 10 421 [(1, .ref (ad 0)), (2, .int l2)] [] (FW (gk G) ad nr nf tr tf co pf hi sl sv ff) := by
  intro l2 nr nf tr tf hi sl sv ff hf
  unfold B_L_law_421 at hf
  refine z_iload_n 1 C dL_law_421 rfl ?_
  refine z_if_eq (tgt := 436) C dL_law_422 rfl (fun hc => ?_) (fun hc => ?_)
  · have hf := ifp hc hf
    refine z_iconst (v := 0) C dL_law_436 kc_0 ?_
    cases hf
    exact y_zret C dL_law_437 rfl F
  have hf := ifn hc hf
  refine z_aload_n 0 C dL_law_425 rfl ?_
  obtain ⟨v1, nf2, e3, hf⟩ := b2_e hf
  refine z_callSs (st := []) C dL_law_426 w_L_85 (c_L_hangs ad nr nf tr tf co pf hi sl sv ff e3) (by decide) (FWf _ _ _ _ _ _ _ _ _ _ _ _ _ _ _ _ _ _ _ _ _ _) rfl rfl (Nat.le_of_ble_eq_true rfl) ?_
  refine z_if_eq (tgt := 436) C dL_law_429 rfl (fun hc => ?_) (fun hc => ?_)
  · have hf := ifp hc hf
    refine z_iconst (v := 0) C dL_law_436 kc_0 ?_
    cases hf
    exact y_zret C dL_law_437 rfl F
  have hf := ifn hc hf
  refine z_iconst (v := 1) C dL_law_432 kc_1 ?_
  refine z_goto (tgt := 437) C dL_law_433 rfl ?_
  cases hf
  exact y_zret C dL_law_437 rfl F
set_option maxHeartbeats 400000 in
set_option maxRecDepth 100000 in
theorem tb_L_law_375 {G : GT} (ad : Nat → Nat) (b : Nat) (L : Nat) (xs : zA) (co : zA) (pf : zA) {v : Int32} {nr' : zA} {nf' : zA} {tr' : zA} {tf' : zA} {hi' : Nat → zA} {sl' : Nat → zA} {sv' : zA} {ff' : zA} (C : zC G cL_law 10 RL (some .boolean) 10) (F : lF G b L xs v) (K : Int32 → Int32 → zA → zA → zA → zA → zA → (Nat → zA) → (Nat → zA) → zA → zA → Option (Int32 × zA × zA × zA × zA × (Nat → zA) × (Nat → zA) × zA × zA)) (hK : ∀ (l2 : Int32) (l3 : Int32) (nr : zA) (nf : zA) (tr : zA) (tf : zA) (hi : Nat → zA) (sl : Nat → zA) (sv : zA) (ff : zA), K l2 l3 nr nf tr tf pf hi sl sv ff = some (v, nr', nf', tr', tf', hi', sl', sv', ff') → zV G 10 38 [(0, .ref b), (1, .ref (ad 0)), (2, .int l2), (3, .int l3)] [] (FW (gk G) ad nr nf tr tf co pf hi sl sv ff)) : ∀ (s0 : Int32) (s1 : Int32) (s2 : Int32) (s3 : Int32) (l3 : Int32) (l4 : Int32) (nr : zA) (nf : zA) (tr : zA) (tf : zA) (hi : Nat → zA) (sl : Nat → zA) (sv : zA) (ff : zA), B_L_law_375 L xs K s0 s1 s2 s3 l3 l4 nr nf tr tf pf hi sl sv ff = some (v, nr', nf', tr', tf', hi', sl', sv', ff') → zV G 10 375 [(0, .ref b), (1, .ref (ad 0)), (3, .int l3), (4, .int l4)] [.int s0, .int s1, .int s2, .int s3, .ref (ad 0)] (FW (gk G) ad nr nf tr tf co pf hi sl sv ff) := by
  intro s0 s1 s2 s3 l3 l4 nr nf tr tf hi sl sv ff hf
  unfold B_L_law_375 at hf
  obtain ⟨v1, e2, hf⟩ := b1_e hf
  refine z_callS (st := [.int s2, .int s3, .ref (ad 0)]) (ws2 := (FW (gk G) ad nr nf tr tf co pf hi sl sv ff)) [] C dL_law_375 w_L_10 (c_L_low s1 s0 e2) (by decide) rfl rfl rfl  rfl rfl (Nat.le_of_ble_eq_true rfl) rfl ?_
  refine z_iadd C dL_law_378 ?_
  obtain ⟨v3, nf4, tr5, tf6, e7, hf⟩ := b4_e hf
  refine z_callSs (st := []) C dL_law_379 w_L_107 (c_L_tests ad s3 (s2 + v1) nr nf tr tf co pf hi sl sv ff e7) (by decide) (FWf _ _ _ _ _ _ _ _ _ _ _ _ _ _ _ _ _ _ _ _ _ _) rfl rfl (Nat.le_of_ble_eq_true rfl) ?_
  refine z_if_eq (tgt := 413) C dL_law_382 rfl (fun hc => ?_) (fun hc => ?_)
  · have hf := ifp hc hf
    refine z_iconst (v := 0) C dL_law_413 kc_0 ?_
    refine z_istore_n (ls' := [(2, _), (0, _), (1, _), (3, _), (4, _)]) C dL_law_414 (by decide) rfl ?_
    obtain ⟨x8, e9, hf⟩ := nm_g hf
    refine z_iinc (ls' := [(3, _), (2, _), (0, _), (1, _), (4, _)]) 3 C dL_law_415 rfl kc_1 e9 (by decide) rfl ?_
    refine z_goto (tgt := 38) C dL_law_418 rfl ?_
    refine z_sub (ls' := [(0, .ref b), (1, .ref (ad 0)), (2, .int 0), (3, .int x8)]) [2, 3, 1, 0] rfl ?_
    exact hK _ _ _ _ _ _ _ _ _ _ hf
  have hf := ifn hc hf
  refine z_iload_n 2 C dL_law_385 rfl ?_
  refine z_iconst (v := 5) C dL_law_386 kc_5 ?_
  refine z_irem C dL_law_387 (by decide) ?_
  refine z_if_gt (tgt := 409) C dL_law_388 rfl (fun hc => ?_) (fun hc => ?_)
  · have hf := ifp hc hf
    refine z_iconst (v := 1) C dL_law_409 kc_1 ?_
    refine z_goto (tgt := 414) C dL_law_410 rfl ?_
    refine z_istore_n (ls' := [(2, _), (0, _), (1, _), (3, _), (4, _)]) C dL_law_414 (by decide) rfl ?_
    obtain ⟨x10, e11, hf⟩ := nm_g hf
    refine z_iinc (ls' := [(3, _), (2, _), (0, _), (1, _), (4, _)]) 3 C dL_law_415 rfl kc_1 e11 (by decide) rfl ?_
    refine z_goto (tgt := 38) C dL_law_418 rfl ?_
    refine z_sub (ls' := [(0, .ref b), (1, .ref (ad 0)), (2, .int 1), (3, .int x10)]) [2, 3, 1, 0] rfl ?_
    exact hK _ _ _ _ _ _ _ _ _ _ hf
  have hf := ifn hc hf
  refine z_aload_n 1 C dL_law_391 rfl ?_
  refine z_iconst (v := 2) C dL_law_392 kc_2 ?_
  refine z_iload 3 C dL_law_393 rfl ?_
  refine z_iconst (v := 4) C dL_law_395 kc_4 ?_
  refine z_ishr C dL_law_396 ?_
  refine z_bipush (v := 19) C dL_law_397 kb_19 ?_
  obtain ⟨v12, e13, hf⟩ := b1_e hf
  refine z_callS (st := [.int 2, .ref (ad 0)]) (ws2 := (FW (gk G) ad nr nf4 tr5 tf6 co pf hi sl sv ff)) [] C dL_law_399 w_L_10 (c_L_low (l4 >>> (4 &&& 31)) 19 e13) (by decide) rfl rfl rfl  rfl rfl (Nat.le_of_ble_eq_true rfl) rfl ?_
  refine z_iadd C dL_law_402 ?_
  obtain ⟨v14, nf15, tr16, tf17, e18, hf⟩ := b4_e hf
  refine z_callSs (st := []) C dL_law_403 w_L_91 (c_L_faults ad (2 + v12) nr nf4 tr5 tf6 co pf hi sl sv ff e18) (by decide) (FWf _ _ _ _ _ _ _ _ _ _ _ _ _ _ _ _ _ _ _ _ _ _) rfl rfl (Nat.le_of_ble_eq_true rfl) ?_
  refine z_if_eq (tgt := 413) C dL_law_406 rfl (fun hc => ?_) (fun hc => ?_)
  · have hf := ifp hc hf
    refine z_iconst (v := 0) C dL_law_413 kc_0 ?_
    refine z_istore_n (ls' := [(2, _), (0, _), (1, _), (3, _), (4, _)]) C dL_law_414 (by decide) rfl ?_
    obtain ⟨x19, e20, hf⟩ := nm_g hf
    refine z_iinc (ls' := [(3, _), (2, _), (0, _), (1, _), (4, _)]) 3 C dL_law_415 rfl kc_1 e20 (by decide) rfl ?_
    refine z_goto (tgt := 38) C dL_law_418 rfl ?_
    refine z_sub (ls' := [(0, .ref b), (1, .ref (ad 0)), (2, .int 0), (3, .int x19)]) [2, 3, 1, 0] rfl ?_
    exact hK _ _ _ _ _ _ _ _ _ _ hf
  have hf := ifn hc hf
  refine z_iconst (v := 1) C dL_law_409 kc_1 ?_
  refine z_goto (tgt := 414) C dL_law_410 rfl ?_
  refine z_istore_n (ls' := [(2, _), (0, _), (1, _), (3, _), (4, _)]) C dL_law_414 (by decide) rfl ?_
  obtain ⟨x21, e22, hf⟩ := nm_g hf
  refine z_iinc (ls' := [(3, _), (2, _), (0, _), (1, _), (4, _)]) 3 C dL_law_415 rfl kc_1 e22 (by decide) rfl ?_
  refine z_goto (tgt := 38) C dL_law_418 rfl ?_
  refine z_sub (ls' := [(0, .ref b), (1, .ref (ad 0)), (2, .int 1), (3, .int x21)]) [2, 3, 1, 0] rfl ?_
  exact hK _ _ _ _ _ _ _ _ _ _ hf
set_option maxHeartbeats 400000 in
set_option maxRecDepth 100000 in
theorem tb_L_law_339 {G : GT} (ad : Nat → Nat) (b : Nat) (L : Nat) (xs : zA) (co : zA) (pf : zA) {v : Int32} {nr' : zA} {nf' : zA} {tr' : zA} {tf' : zA} {hi' : Nat → zA} {sl' : Nat → zA} {sv' : zA} {ff' : zA} (C : zC G cL_law 10 RL (some .boolean) 10) (F : lF G b L xs v) (K : Int32 → Int32 → zA → zA → zA → zA → zA → (Nat → zA) → (Nat → zA) → zA → zA → Option (Int32 × zA × zA × zA × zA × (Nat → zA) × (Nat → zA) × zA × zA)) (hK : ∀ (l2 : Int32) (l3 : Int32) (nr : zA) (nf : zA) (tr : zA) (tf : zA) (hi : Nat → zA) (sl : Nat → zA) (sv : zA) (ff : zA), K l2 l3 nr nf tr tf pf hi sl sv ff = some (v, nr', nf', tr', tf', hi', sl', sv', ff') → zV G 10 38 [(0, .ref b), (1, .ref (ad 0)), (2, .int l2), (3, .int l3)] [] (FW (gk G) ad nr nf tr tf co pf hi sl sv ff)) : ∀ (l3 : Int32) (l4 : Int32) (l5 : Int32) (nr : zA) (nf : zA) (tr : zA) (tf : zA) (hi : Nat → zA) (sl : Nat → zA) (sv : zA) (ff : zA), B_L_law_339 L xs K l3 l4 l5 nr nf tr tf pf hi sl sv ff = some (v, nr', nf', tr', tf', hi', sl', sv', ff') → zV G 10 339 [(0, .ref b), (1, .ref (ad 0)), (3, .int l3), (4, .int l4), (5, .int l5)] [] (FW (gk G) ad nr nf tr tf co pf hi sl sv ff) := by
  intro l3 l4 l5 nr nf tr tf hi sl sv ff hf
  unfold B_L_law_339 at hf
  refine z_aload_n 1 C dL_law_339 rfl ?_
  refine z_iload 3 C dL_law_340 rfl ?_
  refine z_bipush (v := 6) C dL_law_342 kb_6 ?_
  refine z_ishr C dL_law_344 ?_
  refine z_bipush (v := 6) C dL_law_345 kb_6 ?_
  obtain ⟨v1, e2, hf⟩ := b1_e hf
  refine z_callS (st := [.ref (ad 0)]) (ws2 := (FW (gk G) ad nr nf tr tf co pf hi sl sv ff)) [] C dL_law_347 w_L_10 (c_L_low (l4 >>> (6 &&& 31)) 6 e2) (by decide) rfl rfl rfl  rfl rfl (Nat.le_of_ble_eq_true rfl) rfl ?_
  refine z_iconst (v := 1) C dL_law_350 kc_1 ?_
  refine z_iload 4 C dL_law_351 rfl ?_
  refine z_iconst (v := 3) C dL_law_353 kc_3 ?_
  refine z_ishr C dL_law_354 ?_
  refine z_iload 4 C dL_law_355 rfl ?_
  refine z_bipush (v := 9) C dL_law_357 kb_9 ?_
  refine z_ishr C dL_law_359 ?_
  refine z_iconst (v := 3) C dL_law_360 kc_3 ?_
  obtain ⟨v3, e4, hf⟩ := b1_e hf
  refine z_callS (st := [.int (l5 >>> (3 &&& 31)), .int 1, .int v1, .ref (ad 0)]) (ws2 := (FW (gk G) ad nr nf tr tf co pf hi sl sv ff)) [] C dL_law_361 w_L_10 (c_L_low (l5 >>> (9 &&& 31)) 3 e4) (by decide) rfl rfl rfl  rfl rfl (Nat.le_of_ble_eq_true rfl) rfl ?_
  refine z_if_ne (tgt := 373) C dL_law_364 rfl (fun hc => ?_) (fun hc => ?_)
  · have hf := ifn hc hf
    refine z_bipush (v := 20) C dL_law_373 kb_20 ?_
    refine z_sub (ls' := [(0, .ref b), (1, .ref (ad 0)), (3, .int l3), (4, .int l4)]) [0, 1, 2, 3] rfl ?_
    exact tb_L_law_375 ad b L xs co pf C F K hK _ _ _ _ _ _ _ _ _ _ _ _ _ _ hf
  have hf := ifp hc hf
  refine z_sipush (v := 500) C dL_law_367 ks_500 ?_
  refine z_goto (tgt := 375) C dL_law_370 rfl ?_
  refine z_sub (ls' := [(0, .ref b), (1, .ref (ad 0)), (3, .int l3), (4, .int l4)]) [0, 1, 2, 3] rfl ?_
  exact tb_L_law_375 ad b L xs co pf C F K hK _ _ _ _ _ _ _ _ _ _ _ _ _ _ hf
set_option maxHeartbeats 400000 in
set_option maxRecDepth 100000 in
theorem tb_L_law_315 {G : GT} (ad : Nat → Nat) (b : Nat) (L : Nat) (xs : zA) (co : zA) (pf : zA) {v : Int32} {nr' : zA} {nf' : zA} {tr' : zA} {tf' : zA} {hi' : Nat → zA} {sl' : Nat → zA} {sv' : zA} {ff' : zA} (C : zC G cL_law 10 RL (some .boolean) 10) (F : lF G b L xs v) (K : Int32 → Int32 → zA → zA → zA → zA → zA → (Nat → zA) → (Nat → zA) → zA → zA → Option (Int32 × zA × zA × zA × zA × (Nat → zA) × (Nat → zA) × zA × zA)) (hK : ∀ (l2 : Int32) (l3 : Int32) (nr : zA) (nf : zA) (tr : zA) (tf : zA) (hi : Nat → zA) (sl : Nat → zA) (sv : zA) (ff : zA), K l2 l3 nr nf tr tf pf hi sl sv ff = some (v, nr', nf', tr', tf', hi', sl', sv', ff') → zV G 10 38 [(0, .ref b), (1, .ref (ad 0)), (2, .int l2), (3, .int l3)] [] (FW (gk G) ad nr nf tr tf co pf hi sl sv ff)) : ∀ (l2 : Int32) (l3 : Int32) (l4 : Int32) (l5 : Int32) (nr : zA) (nf : zA) (tr : zA) (tf : zA) (hi : Nat → zA) (sl : Nat → zA) (sv : zA) (ff : zA), B_L_law_315 L xs K l2 l3 l4 l5 nr nf tr tf pf hi sl sv ff = some (v, nr', nf', tr', tf', hi', sl', sv', ff') → zV G 10 315 [(0, .ref b), (1, .ref (ad 0)), (2, .int l2), (3, .int l3), (4, .int l4), (5, .int l5)] [] (FW (gk G) ad nr nf tr tf co pf hi sl sv ff) := by
  intro l2 l3 l4 l5 nr nf tr tf hi sl sv ff hf
  unfold B_L_law_315 at hf
  refine z_iload_n 2 C dL_law_315 rfl ?_
  refine z_if_eq (tgt := 413) C dL_law_316 rfl (fun hc => ?_) (fun hc => ?_)
  · have hf := ifp hc hf
    refine z_iconst (v := 0) C dL_law_413 kc_0 ?_
    refine z_istore_n (ls' := [(2, _), (0, _), (1, _), (3, _), (4, _), (5, _)]) C dL_law_414 (by decide) rfl ?_
    obtain ⟨x1, e2, hf⟩ := nm_g hf
    refine z_iinc (ls' := [(3, _), (2, _), (0, _), (1, _), (4, _), (5, _)]) 3 C dL_law_415 rfl kc_1 e2 (by decide) rfl ?_
    refine z_goto (tgt := 38) C dL_law_418 rfl ?_
    refine z_sub (ls' := [(0, .ref b), (1, .ref (ad 0)), (2, .int 0), (3, .int x1)]) [2, 3, 1, 0] rfl ?_
    exact hK _ _ _ _ _ _ _ _ _ _ hf
  have hf := ifn hc hf
  refine z_aload_n 1 C dL_law_319 rfl ?_
  obtain ⟨v3, nf4, e5, hf⟩ := b2_e hf
  refine z_callSs (st := []) C dL_law_320 w_L_85 (c_L_hangs ad nr nf tr tf co pf hi sl sv ff e5) (by decide) (FWf _ _ _ _ _ _ _ _ _ _ _ _ _ _ _ _ _ _ _ _ _ _) rfl rfl (Nat.le_of_ble_eq_true rfl) ?_
  refine z_if_eq (tgt := 413) C dL_law_323 rfl (fun hc => ?_) (fun hc => ?_)
  · have hf := ifp hc hf
    refine z_iconst (v := 0) C dL_law_413 kc_0 ?_
    refine z_istore_n (ls' := [(2, _), (0, _), (1, _), (3, _), (4, _), (5, _)]) C dL_law_414 (by decide) rfl ?_
    obtain ⟨x6, e7, hf⟩ := nm_g hf
    refine z_iinc (ls' := [(3, _), (2, _), (0, _), (1, _), (4, _), (5, _)]) 3 C dL_law_415 rfl kc_1 e7 (by decide) rfl ?_
    refine z_goto (tgt := 38) C dL_law_418 rfl ?_
    refine z_sub (ls' := [(0, .ref b), (1, .ref (ad 0)), (2, .int 0), (3, .int x6)]) [2, 3, 1, 0] rfl ?_
    exact hK _ _ _ _ _ _ _ _ _ _ hf
  have hf := ifn hc hf
  refine z_iload_n 3 C dL_law_326 rfl ?_
  refine z_iconst (v := 3) C dL_law_327 kc_3 ?_
  refine z_irem C dL_law_328 (by decide) ?_
  refine z_if_gt (tgt := 339) C dL_law_329 rfl (fun hc => ?_) (fun hc => ?_)
  · have hf := ifp hc hf
    refine z_sub (ls' := [(0, .ref b), (1, .ref (ad 0)), (3, .int l3), (4, .int l4), (5, .int l5)]) [0, 1, 3, 4, 5] rfl ?_
    exact tb_L_law_339 ad b L xs co pf C F K hK _ _ _ _ _ _ _ _ _ _ _ hf
  have hf := ifn hc hf
  refine z_aload_n 1 C dL_law_332 rfl ?_
  obtain ⟨v8, nr9, nf10, tr11, tf12, hi13, sl14, sv15, ff16, e17, hf⟩ := b9_e hf
  refine z_callSs (st := []) C dL_law_333 w_L_88 (c_L_goes ad nr nf4 tr tf co pf hi sl sv ff e17) (by decide) (FWf _ _ _ _ _ _ _ _ _ _ _ _ _ _ _ _ _ _ _ _ _ _) rfl rfl (Nat.le_of_ble_eq_true rfl) ?_
  refine z_if_eq (tgt := 413) C dL_law_336 rfl (fun hc => ?_) (fun hc => ?_)
  · have hf := ifp hc hf
    refine z_iconst (v := 0) C dL_law_413 kc_0 ?_
    refine z_istore_n (ls' := [(2, _), (0, _), (1, _), (3, _), (4, _), (5, _)]) C dL_law_414 (by decide) rfl ?_
    obtain ⟨x18, e19, hf⟩ := nm_g hf
    refine z_iinc (ls' := [(3, _), (2, _), (0, _), (1, _), (4, _), (5, _)]) 3 C dL_law_415 rfl kc_1 e19 (by decide) rfl ?_
    refine z_goto (tgt := 38) C dL_law_418 rfl ?_
    refine z_sub (ls' := [(0, .ref b), (1, .ref (ad 0)), (2, .int 0), (3, .int x18)]) [2, 3, 1, 0] rfl ?_
    exact hK _ _ _ _ _ _ _ _ _ _ hf
  have hf := ifn hc hf
  refine z_sub (ls' := [(0, .ref b), (1, .ref (ad 0)), (3, .int l3), (4, .int l4), (5, .int l5)]) [0, 1, 3, 4, 5] rfl ?_
  exact tb_L_law_339 ad b L xs co pf C F K hK _ _ _ _ _ _ _ _ _ _ _ hf
set_option maxHeartbeats 400000 in
set_option maxRecDepth 100000 in
theorem tb_L_law_314 {G : GT} (ad : Nat → Nat) (b : Nat) (L : Nat) (xs : zA) (co : zA) (pf : zA) {v : Int32} {nr' : zA} {nf' : zA} {tr' : zA} {tf' : zA} {hi' : Nat → zA} {sl' : Nat → zA} {sv' : zA} {ff' : zA} (C : zC G cL_law 10 RL (some .boolean) 10) (F : lF G b L xs v) (K : Int32 → Int32 → zA → zA → zA → zA → zA → (Nat → zA) → (Nat → zA) → zA → zA → Option (Int32 × zA × zA × zA × zA × (Nat → zA) × (Nat → zA) × zA × zA)) (hK : ∀ (l2 : Int32) (l3 : Int32) (nr : zA) (nf : zA) (tr : zA) (tf : zA) (hi : Nat → zA) (sl : Nat → zA) (sv : zA) (ff : zA), K l2 l3 nr nf tr tf pf hi sl sv ff = some (v, nr', nf', tr', tf', hi', sl', sv', ff') → zV G 10 38 [(0, .ref b), (1, .ref (ad 0)), (2, .int l2), (3, .int l3)] [] (FW (gk G) ad nr nf tr tf co pf hi sl sv ff)) : ∀ (s0 : Int32) (l3 : Int32) (l4 : Int32) (l5 : Int32) (nr : zA) (nf : zA) (tr : zA) (tf : zA) (hi : Nat → zA) (sl : Nat → zA) (sv : zA) (ff : zA), B_L_law_314 L xs K s0 l3 l4 l5 nr nf tr tf pf hi sl sv ff = some (v, nr', nf', tr', tf', hi', sl', sv', ff') → zV G 10 314 [(0, .ref b), (1, .ref (ad 0)), (3, .int l3), (4, .int l4), (5, .int l5)] [.int s0] (FW (gk G) ad nr nf tr tf co pf hi sl sv ff) := by
  intro s0 l3 l4 l5 nr nf tr tf hi sl sv ff hf
  unfold B_L_law_314 at hf
  refine z_istore_n (ls' := [(2, _), (0, _), (1, _), (3, _), (4, _), (5, _)]) C dL_law_314 (by decide) rfl ?_
  refine z_sub (ls' := [(0, .ref b), (1, .ref (ad 0)), (2, .int s0), (3, .int l3), (4, .int l4), (5, .int l5)]) [1, 2, 0, 3, 4, 5] rfl ?_
  exact tb_L_law_315 ad b L xs co pf C F K hK _ _ _ _ _ _ _ _ _ _ _ _ hf
set_option maxHeartbeats 400000 in
set_option maxRecDepth 100000 in
theorem tb_L_law_313 {G : GT} (ad : Nat → Nat) (b : Nat) (L : Nat) (xs : zA) (co : zA) (pf : zA) {v : Int32} {nr' : zA} {nf' : zA} {tr' : zA} {tf' : zA} {hi' : Nat → zA} {sl' : Nat → zA} {sv' : zA} {ff' : zA} (C : zC G cL_law 10 RL (some .boolean) 10) (F : lF G b L xs v) (K : Int32 → Int32 → zA → zA → zA → zA → zA → (Nat → zA) → (Nat → zA) → zA → zA → Option (Int32 × zA × zA × zA × zA × (Nat → zA) × (Nat → zA) × zA × zA)) (hK : ∀ (l2 : Int32) (l3 : Int32) (nr : zA) (nf : zA) (tr : zA) (tf : zA) (hi : Nat → zA) (sl : Nat → zA) (sv : zA) (ff : zA), K l2 l3 nr nf tr tf pf hi sl sv ff = some (v, nr', nf', tr', tf', hi', sl', sv', ff') → zV G 10 38 [(0, .ref b), (1, .ref (ad 0)), (2, .int l2), (3, .int l3)] [] (FW (gk G) ad nr nf tr tf co pf hi sl sv ff)) : ∀ (l3 : Int32) (l4 : Int32) (l5 : Int32) (nr : zA) (nf : zA) (tr : zA) (tf : zA) (hi : Nat → zA) (sl : Nat → zA) (sv : zA) (ff : zA), B_L_law_313 L xs K l3 l4 l5 nr nf tr tf pf hi sl sv ff = some (v, nr', nf', tr', tf', hi', sl', sv', ff') → zV G 10 313 [(0, .ref b), (1, .ref (ad 0)), (3, .int l3), (4, .int l4), (5, .int l5)] [] (FW (gk G) ad nr nf tr tf co pf hi sl sv ff) := by
  intro l3 l4 l5 nr nf tr tf hi sl sv ff hf
  unfold B_L_law_313 at hf
  refine z_iconst (v := 0) C dL_law_313 kc_0 ?_
  exact tb_L_law_314 ad b L xs co pf C F K hK _ _ _ _ _ _ _ _ _ _ _ _ hf
set_option maxHeartbeats 400000 in
set_option maxRecDepth 100000 in
theorem tb_L_law_283 {G : GT} (ad : Nat → Nat) (b : Nat) (L : Nat) (xs : zA) (co : zA) (pf : zA) {v : Int32} {nr' : zA} {nf' : zA} {tr' : zA} {tf' : zA} {hi' : Nat → zA} {sl' : Nat → zA} {sv' : zA} {ff' : zA} (C : zC G cL_law 10 RL (some .boolean) 10) (F : lF G b L xs v) (K : Int32 → Int32 → zA → zA → zA → zA → zA → (Nat → zA) → (Nat → zA) → zA → zA → Option (Int32 × zA × zA × zA × zA × (Nat → zA) × (Nat → zA) × zA × zA)) (hK : ∀ (l2 : Int32) (l3 : Int32) (nr : zA) (nf : zA) (tr : zA) (tf : zA) (hi : Nat → zA) (sl : Nat → zA) (sv : zA) (ff : zA), K l2 l3 nr nf tr tf pf hi sl sv ff = some (v, nr', nf', tr', tf', hi', sl', sv', ff') → zV G 10 38 [(0, .ref b), (1, .ref (ad 0)), (2, .int l2), (3, .int l3)] [] (FW (gk G) ad nr nf tr tf co pf hi sl sv ff)) : ∀ (s0 : Int32) (s1 : Int32) (l3 : Int32) (l4 : Int32) (l5 : Int32) (l7 : Int64) (l9 : Int32) (nr : zA) (nf : zA) (tr : zA) (tf : zA) (hi : Nat → zA) (sl : Nat → zA) (sv : zA) (ff : zA), B_L_law_283 L xs K s0 s1 l3 l4 l5 l7 l9 nr nf tr tf pf hi sl sv ff = some (v, nr', nf', tr', tf', hi', sl', sv', ff') → zV G 10 283 [(0, .ref b), (1, .ref (ad 0)), (3, .int l3), (4, .int l4), (5, .int l5), (7, .long l7), (9, .int l9)] [.int s0, .int s1] (FW (gk G) ad nr nf tr tf co pf hi sl sv ff) := by
  intro s0 s1 l3 l4 l5 l7 l9 nr nf tr tf hi sl sv ff hf
  unfold B_L_law_283 at hf
  refine z_icmp_ne (tgt := 313) C dL_law_283 rfl (fun hc => ?_) (fun hc => ?_)
  · have hf := ifn hc hf
    refine z_sub (ls' := [(0, .ref b), (1, .ref (ad 0)), (3, .int l3), (4, .int l4), (5, .int l5)]) [0, 1, 2, 3, 4] rfl ?_
    exact tb_L_law_313 ad b L xs co pf C F K hK _ _ _ _ _ _ _ _ _ _ _ hf
  have hf := ifp hc hf
  refine z_aload_n 1 C dL_law_286 rfl ?_
  obtain ⟨v1, nf2, e3, hf⟩ := b2_e hf
  refine z_callSsl (st := []) C dL_law_287 w_L_68 (c_L_print ad nr nf tr tf co pf hi sl sv ff e3) (by decide) (FWf _ _ _ _ _ _ _ _ _ _ _ _ _ _ _ _ _ _ _ _ _ _) rfl rfl (Nat.le_of_ble_eq_true rfl) ?_
  refine z_lload 5 C dL_law_290 rfl ?_
  refine z_lcmp C dL_law_292 ?_
  refine z_if_ne (tgt := 313) C dL_law_293 rfl (fun hc => ?_) (fun hc => ?_)
  · have hf := ifn hc hf
    refine z_sub (ls' := [(0, .ref b), (1, .ref (ad 0)), (3, .int l3), (4, .int l4), (5, .int l5)]) [0, 1, 2, 3, 4] rfl ?_
    exact tb_L_law_313 ad b L xs co pf C F K hK _ _ _ _ _ _ _ _ _ _ _ hf
  have hf := ifp hc hf
  refine z_aload_n 1 C dL_law_296 rfl ?_
  refine z_iload 3 C dL_law_297 rfl ?_
  refine z_iload 4 C dL_law_299 rfl ?_
  obtain ⟨v4, nr5, nf6, hi7, ff8, e9, hf⟩ := b5_e hf
  refine z_callSs (st := []) C dL_law_301 w_L_99 (c_L_act ad l4 l5 nr nf2 tr tf co pf hi sl sv ff e9) (by decide) (FWf _ _ _ _ _ _ _ _ _ _ _ _ _ _ _ _ _ _ _ _ _ _) rfl rfl (Nat.le_of_ble_eq_true rfl) ?_
  refine z_iload 6 C dL_law_304 rfl ?_
  refine z_icmp_ne (tgt := 313) C dL_law_306 rfl (fun hc => ?_) (fun hc => ?_)
  · have hf := ifn hc hf
    refine z_sub (ls' := [(0, .ref b), (1, .ref (ad 0)), (3, .int l3), (4, .int l4), (5, .int l5)]) [0, 1, 2, 3, 4] rfl ?_
    exact tb_L_law_313 ad b L xs co pf C F K hK _ _ _ _ _ _ _ _ _ _ _ hf
  have hf := ifp hc hf
  refine z_iconst (v := 1) C dL_law_309 kc_1 ?_
  refine z_goto (tgt := 314) C dL_law_310 rfl ?_
  refine z_sub (ls' := [(0, .ref b), (1, .ref (ad 0)), (3, .int l3), (4, .int l4), (5, .int l5)]) [0, 1, 2, 3, 4] rfl ?_
  exact tb_L_law_314 ad b L xs co pf C F K hK _ _ _ _ _ _ _ _ _ _ _ _ hf
set_option maxHeartbeats 400000 in
set_option maxRecDepth 100000 in
theorem tb_L_law_244 {G : GT} (ad : Nat → Nat) (b : Nat) (L : Nat) (xs : zA) (co : zA) (pf : zA) {v : Int32} {nr' : zA} {nf' : zA} {tr' : zA} {tf' : zA} {hi' : Nat → zA} {sl' : Nat → zA} {sv' : zA} {ff' : zA} (C : zC G cL_law 10 RL (some .boolean) 10) (F : lF G b L xs v) (K : Int32 → Int32 → zA → zA → zA → zA → zA → (Nat → zA) → (Nat → zA) → zA → zA → Option (Int32 × zA × zA × zA × zA × (Nat → zA) × (Nat → zA) × zA × zA)) (hK : ∀ (l2 : Int32) (l3 : Int32) (nr : zA) (nf : zA) (tr : zA) (tf : zA) (hi : Nat → zA) (sl : Nat → zA) (sv : zA) (ff : zA), K l2 l3 nr nf tr tf pf hi sl sv ff = some (v, nr', nf', tr', tf', hi', sl', sv', ff') → zV G 10 38 [(0, .ref b), (1, .ref (ad 0)), (2, .int l2), (3, .int l3)] [] (FW (gk G) ad nr nf tr tf co pf hi sl sv ff)) : ∀ (s0 : Int32) (l3 : Int32) (l4 : Int32) (l5 : Int32) (l6 : Int32) (l7 : Int64) (l9 : Int32) (nr : zA) (nf : zA) (tr : zA) (tf : zA) (hi : Nat → zA) (sl : Nat → zA) (sv : zA) (ff : zA), B_L_law_244 L xs K s0 l3 l4 l5 l6 l7 l9 nr nf tr tf pf hi sl sv ff = some (v, nr', nf', tr', tf', hi', sl', sv', ff') → zV G 10 244 [(0, .ref b), (1, .ref (ad 0)), (3, .int l3), (4, .int l4), (5, .int l5), (6, .int l6), (7, .long l7), (9, .int l9)] [.int s0] (FW (gk G) ad nr nf tr tf co pf hi sl sv ff) := by
  intro s0 l3 l4 l5 l6 l7 l9 nr nf tr tf hi sl sv ff hf
  unfold B_L_law_244 at hf
  refine z_istore_n (ls' := [(2, _), (0, _), (1, _), (3, _), (4, _), (5, _), (6, _), (7, _), (9, _)]) C dL_law_244 (by decide) rfl ?_
  refine z_iload_n 0 C dL_law_245 rfl ?_
  refine z_if_eq (tgt := 315) C dL_law_246 rfl (fun hc => ?_) (fun hc => ?_)
  · have hf := ifp hc hf
    refine z_sub (ls' := [(0, .ref b), (1, .ref (ad 0)), (2, .int s0), (3, .int l3), (4, .int l4), (5, .int l5)]) [1, 2, 0, 3, 4, 5] rfl ?_
    exact tb_L_law_315 ad b L xs co pf C F K hK _ _ _ _ _ _ _ _ _ _ _ _ hf
  have hf := ifn hc hf
  refine z_iload_n 3 C dL_law_249 rfl ?_
  refine z_bipush (v := 7) C dL_law_250 kb_7 ?_
  refine z_icmp_le (tgt := 315) C dL_law_252 rfl (fun hc => ?_) (fun hc => ?_)
  · have hf := ifp hc hf
    refine z_sub (ls' := [(0, .ref b), (1, .ref (ad 0)), (2, .int s0), (3, .int l3), (4, .int l4), (5, .int l5)]) [1, 2, 0, 3, 4, 5] rfl ?_
    exact tb_L_law_315 ad b L xs co pf C F K hK _ _ _ _ _ _ _ _ _ _ _ _ hf
  have hf := ifn hc hf
  refine z_iload 5 C dL_law_255 rfl ?_
  refine z_iconst (v := 5) C dL_law_257 kc_5 ?_
  refine z_ishr C dL_law_258 ?_
  refine z_iconst (v := 4) C dL_law_259 kc_4 ?_
  obtain ⟨v1, e2, hf⟩ := b1_e hf
  refine z_callS (st := []) (ws2 := (FW (gk G) ad nr nf tr tf co pf hi sl sv ff)) [] C dL_law_260 w_L_10 (c_L_low (l5 >>> (5 &&& 31)) 4 e2) (by decide) rfl rfl rfl  rfl rfl (Nat.le_of_ble_eq_true rfl) rfl ?_
  refine z_if_ne (tgt := 315) C dL_law_263 rfl (fun hc => ?_) (fun hc => ?_)
  · have hf := ifn hc hf
    refine z_sub (ls' := [(0, .ref b), (1, .ref (ad 0)), (2, .int s0), (3, .int l3), (4, .int l4), (5, .int l5)]) [1, 2, 0, 3, 4, 5] rfl ?_
    exact tb_L_law_315 ad b L xs co pf C F K hK _ _ _ _ _ _ _ _ _ _ _ _ hf
  have hf := ifp hc hf
  refine z_aload_n 2 C dL_law_266 rfl ?_
  obtain ⟨v3, nr4, ff5, e6, hf⟩ := b3_e hf
  refine z_callVs (st := []) C dL_law_267 w_L_103 (c_X2_undo ad nr nf tr tf co pf hi sl sv ff e6) (by decide) (FWf _ _ _ _ _ _ _ _ _ _ _ _ _ _ _ _ _ _ _ _ _ _) rfl rfl rfl rfl (Nat.le_of_ble_eq_true rfl) ?_
  refine z_iload 6 C dL_law_270 rfl ?_
  refine z_bipush (v := 6) C dL_law_272 kb_6 ?_
  refine z_icmp_ge (tgt := 282) C dL_law_274 rfl (fun hc => ?_) (fun hc => ?_)
  · have hf := ifp hc hf
    refine z_iconst (v := 5) C dL_law_282 kc_5 ?_
    refine z_sub (ls' := [(0, .ref b), (1, .ref (ad 0)), (3, .int l3), (4, .int l4), (5, .int l5), (7, .long l7), (9, .int l9)]) [1, 2, 3, 4, 5, 7, 8] rfl ?_
    exact tb_L_law_283 ad b L xs co pf C F K hK _ _ _ _ _ _ _ _ _ _ _ _ _ _ _ hf
  have hf := ifn hc hf
  refine z_iload 6 C dL_law_277 rfl ?_
  refine z_goto (tgt := 283) C dL_law_279 rfl ?_
  refine z_sub (ls' := [(0, .ref b), (1, .ref (ad 0)), (3, .int l3), (4, .int l4), (5, .int l5), (7, .long l7), (9, .int l9)]) [1, 2, 3, 4, 5, 7, 8] rfl ?_
  exact tb_L_law_283 ad b L xs co pf C F K hK _ _ _ _ _ _ _ _ _ _ _ _ _ _ _ hf
set_option maxHeartbeats 400000 in
set_option maxRecDepth 100000 in
theorem tb_L_law_236 {G : GT} (ad : Nat → Nat) (b : Nat) (L : Nat) (xs : zA) (co : zA) (pf : zA) {v : Int32} {nr' : zA} {nf' : zA} {tr' : zA} {tf' : zA} {hi' : Nat → zA} {sl' : Nat → zA} {sv' : zA} {ff' : zA} (C : zC G cL_law 10 RL (some .boolean) 10) (F : lF G b L xs v) (K : Int32 → Int32 → zA → zA → zA → zA → zA → (Nat → zA) → (Nat → zA) → zA → zA → Option (Int32 × zA × zA × zA × zA × (Nat → zA) × (Nat → zA) × zA × zA)) (hK : ∀ (l2 : Int32) (l3 : Int32) (nr : zA) (nf : zA) (tr : zA) (tf : zA) (hi : Nat → zA) (sl : Nat → zA) (sv : zA) (ff : zA), K l2 l3 nr nf tr tf pf hi sl sv ff = some (v, nr', nf', tr', tf', hi', sl', sv', ff') → zV G 10 38 [(0, .ref b), (1, .ref (ad 0)), (2, .int l2), (3, .int l3)] [] (FW (gk G) ad nr nf tr tf co pf hi sl sv ff)) : ∀ (s0 : Int32) (s1 : Int32) (l3 : Int32) (l4 : Int32) (l5 : Int32) (l6 : Int32) (l7 : Int64) (l9 : Int32) (nr : zA) (nf : zA) (tr : zA) (tf : zA) (hi : Nat → zA) (sl : Nat → zA) (sv : zA) (ff : zA), B_L_law_236 L xs K s0 s1 l3 l4 l5 l6 l7 l9 nr nf tr tf pf hi sl sv ff = some (v, nr', nf', tr', tf', hi', sl', sv', ff') → zV G 10 236 [(0, .ref b), (1, .ref (ad 0)), (3, .int l3), (4, .int l4), (5, .int l5), (6, .int l6), (7, .long l7), (9, .int l9)] [.int s0, .int s1] (FW (gk G) ad nr nf tr tf co pf hi sl sv ff) := by
  intro s0 s1 l3 l4 l5 l6 l7 l9 nr nf tr tf hi sl sv ff hf
  unfold B_L_law_236 at hf
  refine z_icmp_ne (tgt := 243) C dL_law_236 rfl (fun hc => ?_) (fun hc => ?_)
  · have hf := ifn hc hf
    refine z_iconst (v := 0) C dL_law_243 kc_0 ?_
    exact tb_L_law_244 ad b L xs co pf C F K hK _ _ _ _ _ _ _ _ _ _ _ _ _ _ _ hf
  have hf := ifp hc hf
  refine z_iconst (v := 1) C dL_law_239 kc_1 ?_
  refine z_goto (tgt := 244) C dL_law_240 rfl ?_
  exact tb_L_law_244 ad b L xs co pf C F K hK _ _ _ _ _ _ _ _ _ _ _ _ _ _ _ hf
set_option maxHeartbeats 400000 in
set_option maxRecDepth 100000 in
theorem tb_L_law_210 {G : GT} (ad : Nat → Nat) (b : Nat) (L : Nat) (xs : zA) (co : zA) (pf : zA) {v : Int32} {nr' : zA} {nf' : zA} {tr' : zA} {tf' : zA} {hi' : Nat → zA} {sl' : Nat → zA} {sv' : zA} {ff' : zA} (C : zC G cL_law 10 RL (some .boolean) 10) (F : lF G b L xs v) (K : Int32 → Int32 → zA → zA → zA → zA → zA → (Nat → zA) → (Nat → zA) → zA → zA → Option (Int32 × zA × zA × zA × zA × (Nat → zA) × (Nat → zA) × zA × zA)) (hK : ∀ (l2 : Int32) (l3 : Int32) (nr : zA) (nf : zA) (tr : zA) (tf : zA) (hi : Nat → zA) (sl : Nat → zA) (sv : zA) (ff : zA), K l2 l3 nr nf tr tf pf hi sl sv ff = some (v, nr', nf', tr', tf', hi', sl', sv', ff') → zV G 10 38 [(0, .ref b), (1, .ref (ad 0)), (2, .int l2), (3, .int l3)] [] (FW (gk G) ad nr nf tr tf co pf hi sl sv ff)) : ∀ (s0 : Int32) (l3 : Int32) (l4 : Int32) (l5 : Int32) (nr : zA) (nf : zA) (tr : zA) (tf : zA) (hi : Nat → zA) (sl : Nat → zA) (sv : zA) (ff : zA), B_L_law_210 L xs K s0 l3 l4 l5 nr nf tr tf pf hi sl sv ff = some (v, nr', nf', tr', tf', hi', sl', sv', ff') → zV G 10 210 [(0, .ref b), (1, .ref (ad 0)), (3, .int l3), (4, .int l4), (5, .int l5)] [.int s0] (FW (gk G) ad nr nf tr tf co pf hi sl sv ff) := by
  intro s0 l3 l4 l5 nr nf tr tf hi sl sv ff hf
  unfold B_L_law_210 at hf
  refine z_istore_n (ls' := [(2, _), (0, _), (1, _), (3, _), (4, _), (5, _)]) C dL_law_210 (by decide) rfl ?_
  refine z_goto (tgt := 315) C dL_law_211 rfl ?_
  refine z_sub (ls' := [(0, .ref b), (1, .ref (ad 0)), (2, .int s0), (3, .int l3), (4, .int l4), (5, .int l5)]) [1, 2, 0, 3, 4, 5] rfl ?_
  exact tb_L_law_315 ad b L xs co pf C F K hK _ _ _ _ _ _ _ _ _ _ _ _ hf
set_option maxHeartbeats 400000 in
set_option maxRecDepth 100000 in
theorem tb_L_law_209 {G : GT} (ad : Nat → Nat) (b : Nat) (L : Nat) (xs : zA) (co : zA) (pf : zA) {v : Int32} {nr' : zA} {nf' : zA} {tr' : zA} {tf' : zA} {hi' : Nat → zA} {sl' : Nat → zA} {sv' : zA} {ff' : zA} (C : zC G cL_law 10 RL (some .boolean) 10) (F : lF G b L xs v) (K : Int32 → Int32 → zA → zA → zA → zA → zA → (Nat → zA) → (Nat → zA) → zA → zA → Option (Int32 × zA × zA × zA × zA × (Nat → zA) × (Nat → zA) × zA × zA)) (hK : ∀ (l2 : Int32) (l3 : Int32) (nr : zA) (nf : zA) (tr : zA) (tf : zA) (hi : Nat → zA) (sl : Nat → zA) (sv : zA) (ff : zA), K l2 l3 nr nf tr tf pf hi sl sv ff = some (v, nr', nf', tr', tf', hi', sl', sv', ff') → zV G 10 38 [(0, .ref b), (1, .ref (ad 0)), (2, .int l2), (3, .int l3)] [] (FW (gk G) ad nr nf tr tf co pf hi sl sv ff)) : ∀ (l3 : Int32) (l4 : Int32) (l5 : Int32) (nr : zA) (nf : zA) (tr : zA) (tf : zA) (hi : Nat → zA) (sl : Nat → zA) (sv : zA) (ff : zA), B_L_law_209 L xs K l3 l4 l5 nr nf tr tf pf hi sl sv ff = some (v, nr', nf', tr', tf', hi', sl', sv', ff') → zV G 10 209 [(0, .ref b), (1, .ref (ad 0)), (3, .int l3), (4, .int l4), (5, .int l5)] [] (FW (gk G) ad nr nf tr tf co pf hi sl sv ff) := by
  intro l3 l4 l5 nr nf tr tf hi sl sv ff hf
  unfold B_L_law_209 at hf
  refine z_iconst (v := 0) C dL_law_209 kc_0 ?_
  exact tb_L_law_210 ad b L xs co pf C F K hK _ _ _ _ _ _ _ _ _ _ _ _ hf
set_option maxHeartbeats 400000 in
set_option maxRecDepth 100000 in
theorem tb_L_law_177 {G : GT} (ad : Nat → Nat) (b : Nat) (L : Nat) (xs : zA) (co : zA) (pf : zA) {v : Int32} {nr' : zA} {nf' : zA} {tr' : zA} {tf' : zA} {hi' : Nat → zA} {sl' : Nat → zA} {sv' : zA} {ff' : zA} (C : zC G cL_law 10 RL (some .boolean) 10) (F : lF G b L xs v) (K : Int32 → Int32 → zA → zA → zA → zA → zA → (Nat → zA) → (Nat → zA) → zA → zA → Option (Int32 × zA × zA × zA × zA × (Nat → zA) × (Nat → zA) × zA × zA)) (hK : ∀ (l2 : Int32) (l3 : Int32) (nr : zA) (nf : zA) (tr : zA) (tf : zA) (hi : Nat → zA) (sl : Nat → zA) (sv : zA) (ff : zA), K l2 l3 nr nf tr tf pf hi sl sv ff = some (v, nr', nf', tr', tf', hi', sl', sv', ff') → zV G 10 38 [(0, .ref b), (1, .ref (ad 0)), (2, .int l2), (3, .int l3)] [] (FW (gk G) ad nr nf tr tf co pf hi sl sv ff)) : ∀ (s0 : Int32) (l3 : Int32) (l4 : Int32) (l5 : Int32) (l6 : Int32) (l7 : Int64) (nr : zA) (nf : zA) (tr : zA) (tf : zA) (hi : Nat → zA) (sl : Nat → zA) (sv : zA) (ff : zA), B_L_law_177 L xs K s0 l3 l4 l5 l6 l7 nr nf tr tf pf hi sl sv ff = some (v, nr', nf', tr', tf', hi', sl', sv', ff') → zV G 10 177 [(0, .ref b), (1, .ref (ad 0)), (3, .int l3), (4, .int l4), (5, .int l5), (6, .int l6), (7, .long l7)] [.int s0] (FW (gk G) ad nr nf tr tf co pf hi sl sv ff) := by
  intro s0 l3 l4 l5 l6 l7 nr nf tr tf hi sl sv ff hf
  unfold B_L_law_177 at hf
  refine z_istore (ls' := [(9, _), (0, _), (1, _), (3, _), (4, _), (5, _), (6, _), (7, _)]) C dL_law_177 (by decide) rfl ?_
  refine z_iload 0 C dL_law_179 rfl ?_
  refine z_if_ge (tgt := 214) C dL_law_181 rfl (fun hc => ?_) (fun hc => ?_)
  · have hf := ifp hc hf
    refine z_aload_n 2 C dL_law_214 rfl ?_
    refine z_bipush (v := 13) C dL_law_215 kb_13 ?_
    obtain ⟨v1, nf2, e3, hf⟩ := b2_e hf
    refine z_callVs (st := []) C dL_law_217 w_L_38 (c_X2_count ad 13 nr nf tr tf co pf hi sl sv ff e3) (by decide) (FWf _ _ _ _ _ _ _ _ _ _ _ _ _ _ _ _ _ _ _ _ _ _) rfl rfl rfl rfl (Nat.le_of_ble_eq_true rfl) ?_
    refine z_iload 6 C dL_law_220 rfl ?_
    refine z_bipush (v := 6) C dL_law_222 kb_6 ?_
    refine z_icmp_ge (tgt := 234) C dL_law_224 rfl (fun hc => ?_) (fun hc => ?_)
    · have hf := ifp hc hf
      refine z_bipush (v := 6) C dL_law_234 kb_6 ?_
      refine z_sub (ls' := [(0, .ref b), (1, .ref (ad 0)), (3, .int l3), (4, .int l4), (5, .int l5), (6, .int l6), (7, .long l7), (9, .int s0)]) [1, 2, 3, 4, 5, 6, 7, 0] rfl ?_
      exact tb_L_law_236 ad b L xs co pf C F K hK _ _ _ _ _ _ _ _ _ _ _ _ _ _ _ _ hf
    have hf := ifn hc hf
    refine z_iload 6 C dL_law_227 rfl ?_
    refine z_iconst (v := 1) C dL_law_229 kc_1 ?_
    refine z_iadd C dL_law_230 ?_
    refine z_goto (tgt := 236) C dL_law_231 rfl ?_
    refine z_sub (ls' := [(0, .ref b), (1, .ref (ad 0)), (3, .int l3), (4, .int l4), (5, .int l5), (6, .int l6), (7, .long l7), (9, .int s0)]) [1, 2, 3, 4, 5, 6, 7, 0] rfl ?_
    exact tb_L_law_236 ad b L xs co pf C F K hK _ _ _ _ _ _ _ _ _ _ _ _ _ _ _ _ hf
  have hf := ifn hc hf
  refine z_aload_n 2 C dL_law_184 rfl ?_
  refine z_bipush (v := 13) C dL_law_185 kb_13 ?_
  obtain ⟨v4, nf5, e6, hf⟩ := b2_e hf
  refine z_callVs (st := []) C dL_law_187 w_L_38 (c_X2_count ad 13 nr nf tr tf co pf hi sl sv ff e6) (by decide) (FWf _ _ _ _ _ _ _ _ _ _ _ _ _ _ _ _ _ _ _ _ _ _) rfl rfl rfl rfl (Nat.le_of_ble_eq_true rfl) ?_
  refine z_iload 6 C dL_law_190 rfl ?_
  refine z_icmp_ne (tgt := 209) C dL_law_192 rfl (fun hc => ?_) (fun hc => ?_)
  · have hf := ifn hc hf
    refine z_sub (ls' := [(0, .ref b), (1, .ref (ad 0)), (3, .int l3), (4, .int l4), (5, .int l5)]) [1, 2, 3, 4, 5] rfl ?_
    exact tb_L_law_209 ad b L xs co pf C F K hK _ _ _ _ _ _ _ _ _ _ _ hf
  have hf := ifp hc hf
  refine z_aload_n 2 C dL_law_195 rfl ?_
  obtain ⟨v7, nf8, e9, hf⟩ := b2_e hf
  refine z_callSsl (st := []) C dL_law_196 w_L_68 (c_L_print ad nr nf5 tr tf co pf hi sl sv ff e9) (by decide) (FWf _ _ _ _ _ _ _ _ _ _ _ _ _ _ _ _ _ _ _ _ _ _) rfl rfl (Nat.le_of_ble_eq_true rfl) ?_
  refine z_lload 7 C dL_law_199 rfl ?_
  refine z_lcmp C dL_law_201 ?_
  refine z_if_ne (tgt := 209) C dL_law_202 rfl (fun hc => ?_) (fun hc => ?_)
  · have hf := ifn hc hf
    refine z_sub (ls' := [(0, .ref b), (1, .ref (ad 0)), (3, .int l3), (4, .int l4), (5, .int l5)]) [1, 2, 3, 4, 5] rfl ?_
    exact tb_L_law_209 ad b L xs co pf C F K hK _ _ _ _ _ _ _ _ _ _ _ hf
  have hf := ifp hc hf
  refine z_iconst (v := 1) C dL_law_205 kc_1 ?_
  refine z_goto (tgt := 210) C dL_law_206 rfl ?_
  refine z_sub (ls' := [(0, .ref b), (1, .ref (ad 0)), (3, .int l3), (4, .int l4), (5, .int l5)]) [1, 2, 3, 4, 5] rfl ?_
  exact tb_L_law_210 ad b L xs co pf C F K hK _ _ _ _ _ _ _ _ _ _ _ _ hf
set_option maxHeartbeats 400000 in
set_option maxRecDepth 100000 in
theorem tb_L_law_117 {G : GT} (ad : Nat → Nat) (b : Nat) (L : Nat) (xs : zA) (co : zA) (pf : zA) {v : Int32} {nr' : zA} {nf' : zA} {tr' : zA} {tf' : zA} {hi' : Nat → zA} {sl' : Nat → zA} {sv' : zA} {ff' : zA} (C : zC G cL_law 10 RL (some .boolean) 10) (F : lF G b L xs v) (K : Int32 → Int32 → zA → zA → zA → zA → zA → (Nat → zA) → (Nat → zA) → zA → zA → Option (Int32 × zA × zA × zA × zA × (Nat → zA) × (Nat → zA) × zA × zA)) (hK : ∀ (l2 : Int32) (l3 : Int32) (nr : zA) (nf : zA) (tr : zA) (tf : zA) (hi : Nat → zA) (sl : Nat → zA) (sv : zA) (ff : zA), K l2 l3 nr nf tr tf pf hi sl sv ff = some (v, nr', nf', tr', tf', hi', sl', sv', ff') → zV G 10 38 [(0, .ref b), (1, .ref (ad 0)), (2, .int l2), (3, .int l3)] [] (FW (gk G) ad nr nf tr tf co pf hi sl sv ff)) : ∀ (s0 : Int32) (s1 : Int32) (l3 : Int32) (l4 : Int32) (l5 : Int32) (l6 : Int32) (l7 : Int64) (nr : zA) (nf : zA) (tr : zA) (tf : zA) (hi : Nat → zA) (sl : Nat → zA) (sv : zA) (ff : zA), B_L_law_117 L xs K s0 s1 l3 l4 l5 l6 l7 nr nf tr tf pf hi sl sv ff = some (v, nr', nf', tr', tf', hi', sl', sv', ff') → zV G 10 117 [(0, .ref b), (1, .ref (ad 0)), (3, .int l3), (4, .int l4), (5, .int l5), (6, .int l6), (7, .long l7)] [.int s0, .int s1, .ref (ad 0)] (FW (gk G) ad nr nf tr tf co pf hi sl sv ff) := by
  intro s0 s1 l3 l4 l5 l6 l7 nr nf tr tf hi sl sv ff hf
  unfold B_L_law_117 at hf
  refine z_isub C dL_law_117 ?_
  refine z_iconst (v := 1) C dL_law_118 kc_1 ?_
  refine z_iload 4 C dL_law_119 rfl ?_
  refine z_bipush (v := 9) C dL_law_121 kb_9 ?_
  obtain ⟨v1, e2, hf⟩ := b1_e hf
  refine z_callS (st := [.int 1, .int (s1 - s0), .ref (ad 0)]) (ws2 := (FW (gk G) ad nr nf tr tf co pf hi sl sv ff)) [] C dL_law_123 w_L_10 (c_L_low l5 9 e2) (by decide) rfl rfl rfl  rfl rfl (Nat.le_of_ble_eq_true rfl) rfl ?_
  refine z_iadd C dL_law_126 ?_
  refine z_iload 4 C dL_law_127 rfl ?_
  refine z_iconst (v := 4) C dL_law_129 kc_4 ?_
  refine z_ishr C dL_law_130 ?_
  refine z_iconst (v := 3) C dL_law_131 kc_3 ?_
  obtain ⟨v3, e4, hf⟩ := b1_e hf
  refine z_callS (st := [.int (1 + v1), .int (s1 - s0), .ref (ad 0)]) (ws2 := (FW (gk G) ad nr nf tr tf co pf hi sl sv ff)) [] C dL_law_132 w_L_10 (c_L_low (l5 >>> (4 &&& 31)) 3 e4) (by decide) rfl rfl rfl  rfl rfl (Nat.le_of_ble_eq_true rfl) rfl ?_
  obtain ⟨v5, nr6, hi7, ff8, e9, hf⟩ := b4_e hf
  refine z_callVs (st := []) C dL_law_135 w_L_16 (c_X2_board ad (s1 - s0) (1 + v1) v3 nr nf tr tf co pf hi sl sv ff e9) (by decide) (FWf _ _ _ _ _ _ _ _ _ _ _ _ _ _ _ _ _ _ _ _ _ _) rfl rfl rfl rfl (Nat.le_of_ble_eq_true rfl) ?_
  refine z_goto (tgt := 177) C dL_law_138 rfl ?_
  exact tb_L_law_177 ad b L xs co pf C F K hK _ _ _ _ _ _ _ _ _ _ _ _ _ _ hf
set_option maxHeartbeats 400000 in
set_option maxRecDepth 100000 in
theorem tb_L_law_116 {G : GT} (ad : Nat → Nat) (b : Nat) (L : Nat) (xs : zA) (co : zA) (pf : zA) {v : Int32} {nr' : zA} {nf' : zA} {tr' : zA} {tf' : zA} {hi' : Nat → zA} {sl' : Nat → zA} {sv' : zA} {ff' : zA} (C : zC G cL_law 10 RL (some .boolean) 10) (F : lF G b L xs v) (K : Int32 → Int32 → zA → zA → zA → zA → zA → (Nat → zA) → (Nat → zA) → zA → zA → Option (Int32 × zA × zA × zA × zA × (Nat → zA) × (Nat → zA) × zA × zA)) (hK : ∀ (l2 : Int32) (l3 : Int32) (nr : zA) (nf : zA) (tr : zA) (tf : zA) (hi : Nat → zA) (sl : Nat → zA) (sv : zA) (ff : zA), K l2 l3 nr nf tr tf pf hi sl sv ff = some (v, nr', nf', tr', tf', hi', sl', sv', ff') → zV G 10 38 [(0, .ref b), (1, .ref (ad 0)), (2, .int l2), (3, .int l3)] [] (FW (gk G) ad nr nf tr tf co pf hi sl sv ff)) : ∀ (s0 : Int32) (l3 : Int32) (l4 : Int32) (l5 : Int32) (l6 : Int32) (l7 : Int64) (nr : zA) (nf : zA) (tr : zA) (tf : zA) (hi : Nat → zA) (sl : Nat → zA) (sv : zA) (ff : zA), B_L_law_116 L xs K s0 l3 l4 l5 l6 l7 nr nf tr tf pf hi sl sv ff = some (v, nr', nf', tr', tf', hi', sl', sv', ff') → zV G 10 116 [(0, .ref b), (1, .ref (ad 0)), (3, .int l3), (4, .int l4), (5, .int l5), (6, .int l6), (7, .long l7)] [.int s0, .ref (ad 0)] (FW (gk G) ad nr nf tr tf co pf hi sl sv ff) := by
  intro s0 l3 l4 l5 l6 l7 nr nf tr tf hi sl sv ff hf
  unfold B_L_law_116 at hf
  refine z_iconst (v := 0) C dL_law_116 kc_0 ?_
  exact tb_L_law_117 ad b L xs co pf C F K hK _ _ _ _ _ _ _ _ _ _ _ _ _ _ _ hf
set_option maxHeartbeats 400000 in
set_option maxRecDepth 100000 in
theorem tb_L_law_38 {G : GT} (ad : Nat → Nat) (b : Nat) (L : Nat) (xs : zA) (co : zA) (pf : zA) {v : Int32} {nr' : zA} {nf' : zA} {tr' : zA} {tf' : zA} {hi' : Nat → zA} {sl' : Nat → zA} {sv' : zA} {ff' : zA} (C : zC G cL_law 10 RL (some .boolean) 10) (F : lF G b L xs v) : ∀ (n : Nat) (l2 : Int32) (l3 : Int32) (nr : zA) (nf : zA) (tr : zA) (tf : zA) (hi : Nat → zA) (sl : Nat → zA) (sv : zA) (ff : zA), B_L_law_38 L xs n l2 l3 nr nf tr tf pf hi sl sv ff = some (v, nr', nf', tr', tf', hi', sl', sv', ff') → zV G 10 38 [(0, .ref b), (1, .ref (ad 0)), (2, .int l2), (3, .int l3)] [] (FW (gk G) ad nr nf tr tf co pf hi sl sv ff) := by
  intro n
  induction n with
  | zero => intro _ _ _ _ _ _ _ _ _ _ hf; rw [B_L_law_38] at hf; cases hf
  | succ n ih =>
    intro l2 l3 nr nf tr tf hi sl sv ff hf
    rw [B_L_law_38] at hf
    refine z_iload_n 3 C dL_law_38 rfl ?_
    refine z_bipush (v := 46) C dL_law_39 kb_46 ?_
    refine z_icmp_ge (tgt := 421) C dL_law_41 rfl (fun hc => ?_) (fun hc => ?_)
    · have hf := ifp hc hf
      refine z_sub (ls' := [(1, .ref (ad 0)), (2, .int l2)]) [1, 2] rfl ?_
      exact tb_L_law_421 ad b L xs co pf C F _ _ _ _ _ _ _ _ _ hf
    have hf := ifn hc hf
    refine z_iload_n 2 C dL_law_44 rfl ?_
    refine z_if_eq (tgt := 421) C dL_law_45 rfl (fun hc => ?_) (fun hc => ?_)
    · have hf := ifp hc hf
      refine z_sub (ls' := [(1, .ref (ad 0)), (2, .int l2)]) [1, 2] rfl ?_
      exact tb_L_law_421 ad b L xs co pf C F _ _ _ _ _ _ _ _ _ hf
    have hf := ifn hc hf
    refine z_aload_n 0 C dL_law_48 rfl ?_
    refine z_iconst (v := 2) C dL_law_49 kc_2 ?_
    refine z_iload_n 3 C dL_law_50 rfl ?_
    refine z_imul C dL_law_51 ?_
    obtain ⟨v1, e2, hf⟩ := b1_e hf
    refine z_callX (st := []) C F.1 dL_law_52 w_L_95 e2 rfl (Nat.le_of_ble_eq_true rfl) ?_
    refine z_istore (ls' := [(4, _), (0, _), (1, _), (2, _), (3, _)]) C dL_law_55 (by decide) rfl ?_
    refine z_aload_n 1 C dL_law_57 rfl ?_
    refine z_iconst (v := 2) C dL_law_58 kc_2 ?_
    refine z_iload_n 4 C dL_law_59 rfl ?_
    refine z_imul C dL_law_60 ?_
    refine z_iconst (v := 1) C dL_law_61 kc_1 ?_
    refine z_iadd C dL_law_62 ?_
    obtain ⟨v3, e4, hf⟩ := b1_e hf
    refine z_callX (st := []) C F.1 dL_law_63 w_L_95 e4 rfl (Nat.le_of_ble_eq_true rfl) ?_
    refine z_istore (ls' := [(5, _), (4, _), (0, _), (1, _), (2, _), (3, _)]) C dL_law_66 (by decide) rfl ?_
    refine z_aload_n 3 C dL_law_68 rfl ?_
    refine z_bipush (v := 13) C dL_law_69 kb_13 ?_
    obtain ⟨v5, nf6, e7, hf⟩ := b2_e hf
    refine z_callVs (st := []) C dL_law_71 w_L_38 (c_X2_count ad 13 nr nf tr tf co pf hi sl sv ff e7) (by decide) (FWf _ _ _ _ _ _ _ _ _ _ _ _ _ _ _ _ _ _ _ _ _ _) rfl rfl rfl rfl (Nat.le_of_ble_eq_true rfl) ?_
    refine z_istore (ls' := [(6, _), (5, _), (4, _), (0, _), (1, _), (2, _), (3, _)]) C dL_law_74 (by decide) rfl ?_
    refine z_aload_n 4 C dL_law_76 rfl ?_
    obtain ⟨v8, nf9, e10, hf⟩ := b2_e hf
    refine z_callSsl (st := []) C dL_law_77 w_L_68 (c_L_print ad nr nf6 tr tf co pf hi sl sv ff e10) (by decide) (FWf _ _ _ _ _ _ _ _ _ _ _ _ _ _ _ _ _ _ _ _ _ _) rfl rfl (Nat.le_of_ble_eq_true rfl) ?_
    refine z_lstore (ls' := [(7, _), (6, _), (5, _), (4, _), (0, _), (1, _), (2, _), (3, _)]) C dL_law_80 (by decide) rfl ?_
    refine z_iload_n 7 C dL_law_82 rfl ?_
    refine z_iconst (v := 4) C dL_law_83 kc_4 ?_
    refine z_icmp_ge (tgt := 141) C dL_law_84 rfl (fun hc => ?_) (fun hc => ?_)
    · have hf := ifp hc hf
      refine z_iload_n 7 C dL_law_141 rfl ?_
      refine z_bipush (v := 8) C dL_law_142 kb_8 ?_
      refine z_icmp_ge (tgt := 169) C dL_law_144 rfl (fun hc => ?_) (fun hc => ?_)
      · have hf := ifp hc hf
        refine z_aload_n 5 C dL_law_169 rfl ?_
        refine z_iload 3 C dL_law_170 rfl ?_
        refine z_iload 2 C dL_law_172 rfl ?_
        obtain ⟨v11, nr12, nf13, hi14, ff15, e16, hf⟩ := b5_e hf
        refine z_callSs (st := []) C dL_law_174 w_L_99 (c_L_act ad v1 v3 nr nf9 tr tf co pf hi sl sv ff e16) (by decide) (FWf _ _ _ _ _ _ _ _ _ _ _ _ _ _ _ _ _ _ _ _ _ _) rfl rfl (Nat.le_of_ble_eq_true rfl) ?_
        refine z_sub (ls' := [(0, .ref b), (1, .ref (ad 0)), (3, .int l3), (4, .int v1), (5, .int v3), (6, .int v5), (7, .long v8)]) [4, 5, 7, 3, 2, 1, 0] rfl ?_
        exact tb_L_law_177 ad b L xs co pf C F _ ih _ _ _ _ _ _ _ _ _ _ _ _ _ _ hf
      have hf := ifn hc hf
      refine z_aload_n 5 C dL_law_147 rfl ?_
      refine z_iload 3 C dL_law_148 rfl ?_
      refine z_iconst (v := 4) C dL_law_150 kc_4 ?_
      obtain ⟨v17, e18, hf⟩ := b1_e hf
      refine z_callS (st := [.ref (ad 0)]) (ws2 := (FW (gk G) ad nr nf9 tr tf co pf hi sl sv ff)) [] C dL_law_151 w_L_10 (c_L_low v1 4 e18) (by decide) rfl rfl rfl  rfl rfl (Nat.le_of_ble_eq_true rfl) rfl ?_
      refine z_iconst (v := 1) C dL_law_154 kc_1 ?_
      refine z_iload 2 C dL_law_155 rfl ?_
      refine z_bipush (v := 14) C dL_law_157 kb_14 ?_
      obtain ⟨v19, e20, hf⟩ := b1_e hf
      refine z_callS (st := [.int 1, .int v17, .ref (ad 0)]) (ws2 := (FW (gk G) ad nr nf9 tr tf co pf hi sl sv ff)) [] C dL_law_159 w_L_10 (c_L_low v3 14 e20) (by decide) rfl rfl rfl  rfl rfl (Nat.le_of_ble_eq_true rfl) rfl ?_
      refine z_iadd C dL_law_162 ?_
      obtain ⟨v21, nr22, hi23, ff24, e25, hf⟩ := b4_e hf
      refine z_callVs (st := []) C dL_law_163 w_L_22 (c_X2_load ad v17 (1 + v19) nr nf9 tr tf co pf hi sl sv ff e25) (by decide) (FWf _ _ _ _ _ _ _ _ _ _ _ _ _ _ _ _ _ _ _ _ _ _) rfl rfl rfl rfl (Nat.le_of_ble_eq_true rfl) ?_
      refine z_goto (tgt := 177) C dL_law_166 rfl ?_
      refine z_sub (ls' := [(0, .ref b), (1, .ref (ad 0)), (3, .int l3), (4, .int v1), (5, .int v3), (6, .int v5), (7, .long v8)]) [4, 5, 7, 3, 2, 1, 0] rfl ?_
      exact tb_L_law_177 ad b L xs co pf C F _ ih _ _ _ _ _ _ _ _ _ _ _ _ _ _ hf
    have hf := ifn hc hf
    refine z_aload_n 5 C dL_law_87 rfl ?_
    refine z_iload 3 C dL_law_88 rfl ?_
    refine z_iload_n 7 C dL_law_90 rfl ?_
    refine z_iconst (v := 1) C dL_law_91 kc_1 ?_
    refine z_iadd C dL_law_92 ?_
    obtain ⟨v26, e27, hf⟩ := b1_e hf
    refine z_callS (st := [.ref (ad 0)]) (ws2 := (FW (gk G) ad nr nf9 tr tf co pf hi sl sv ff)) [] C dL_law_93 w_L_10 (c_L_low v1 (l3 + 1) e27) (by decide) rfl rfl rfl  rfl rfl (Nat.le_of_ble_eq_true rfl) rfl ?_
    refine z_iload_n 7 C dL_law_96 rfl ?_
    refine z_if_le (tgt := 116) C dL_law_97 rfl (fun hc => ?_) (fun hc => ?_)
    · have hf := ifp hc hf
      refine z_sub (ls' := [(0, .ref b), (1, .ref (ad 0)), (3, .int l3), (4, .int v1), (5, .int v3), (6, .int v5), (7, .long v8)]) [4, 5, 7, 3, 2, 1, 0] rfl ?_
      exact tb_L_law_116 ad b L xs co pf C F _ ih _ _ _ _ _ _ _ _ _ _ _ _ _ _ hf
    have hf := ifn hc hf
    refine z_iload 3 C dL_law_100 rfl ?_
    refine z_iload_n 7 C dL_law_102 rfl ?_
    refine z_iconst (v := 1) C dL_law_103 kc_1 ?_
    refine z_iadd C dL_law_104 ?_
    obtain ⟨v28, e29, hf⟩ := b1_e hf
    refine z_callS (st := [.int v26, .ref (ad 0)]) (ws2 := (FW (gk G) ad nr nf9 tr tf co pf hi sl sv ff)) [] C dL_law_105 w_L_10 (c_L_low v1 (l3 + 1) e29) (by decide) rfl rfl rfl  rfl rfl (Nat.le_of_ble_eq_true rfl) rfl ?_
    refine z_iload_n 7 C dL_law_108 rfl ?_
    refine z_icmp_ne (tgt := 116) C dL_law_109 rfl (fun hc => ?_) (fun hc => ?_)
    · have hf := ifn hc hf
      refine z_sub (ls' := [(0, .ref b), (1, .ref (ad 0)), (3, .int l3), (4, .int v1), (5, .int v3), (6, .int v5), (7, .long v8)]) [4, 5, 7, 3, 2, 1, 0] rfl ?_
      exact tb_L_law_116 ad b L xs co pf C F _ ih _ _ _ _ _ _ _ _ _ _ _ _ _ _ hf
    have hf := ifp hc hf
    refine z_iconst (v := 1) C dL_law_112 kc_1 ?_
    refine z_goto (tgt := 117) C dL_law_113 rfl ?_
    refine z_sub (ls' := [(0, .ref b), (1, .ref (ad 0)), (3, .int l3), (4, .int v1), (5, .int v3), (6, .int v5), (7, .long v8)]) [4, 5, 7, 3, 2, 1, 0] rfl ?_
    exact tb_L_law_117 ad b L xs co pf C F _ ih _ _ _ _ _ _ _ _ _ _ _ _ _ _ _ hf
set_option maxHeartbeats 400000 in
set_option maxRecDepth 100000 in
theorem tb_L_law_8 {G : GT} (ad : Nat → Nat) (b : Nat) (L : Nat) (xs : zA) (co : zA) (pf : zA) {v : Int32} {nr' : zA} {nf' : zA} {tr' : zA} {tf' : zA} {hi' : Nat → zA} {sl' : Nat → zA} {sv' : zA} {ff' : zA} (C : zC G cL_law 10 RL (some .boolean) 10) (F : lF G b L xs v) : ∀ (nr : zA) (nf : zA) (tr : zA) (tf : zA) (hi : Nat → zA) (sl : Nat → zA) (sv : zA) (ff : zA), B_L_law_8 L xs nr nf tr tf pf hi sl sv ff = some (v, nr', nf', tr', tf', hi', sl', sv', ff') → zV G 10 8 [(0, .ref b), (1, .ref (ad 0))] [] (FW (gk G) ad nr nf tr tf co pf hi sl sv ff) := by
  intro nr nf tr tf hi sl sv ff hf
  unfold B_L_law_8 at hf
  refine z_aload_n 1 C dL_law_8 rfl ?_
  obtain ⟨v1, nf2, e3, hf⟩ := b2_e hf
  refine z_callSs (st := []) C dL_law_9 w_L_85 (c_L_hangs ad nr nf tr tf co pf hi sl sv ff e3) (by decide) (FWf _ _ _ _ _ _ _ _ _ _ _ _ _ _ _ _ _ _ _ _ _ _) rfl rfl (Nat.le_of_ble_eq_true rfl) ?_
  refine z_if_eq (tgt := 34) C dL_law_12 rfl (fun hc => ?_) (fun hc => ?_)
  · have hf := ifp hc hf
    refine z_iconst (v := 0) C dL_law_34 kc_0 ?_
    refine z_istore_n (ls' := [(2, _), (0, _), (1, _)]) C dL_law_35 (by decide) rfl ?_
    refine z_iconst (v := 0) C dL_law_36 kc_0 ?_
    refine z_istore_n (ls' := [(3, _), (2, _), (0, _), (1, _)]) C dL_law_37 (by decide) rfl ?_
    refine z_sub (ls' := [(0, .ref b), (1, .ref (ad 0)), (2, .int 0), (3, .int 0)]) [2, 3, 1, 0] rfl ?_
    exact tb_L_law_38 ad b L xs co pf C F _ _ _ _ _ _ _ _ _ _ _ hf
  have hf := ifn hc hf
  refine z_aload_n 1 C dL_law_15 rfl ?_
  obtain ⟨v4, nr5, nf6, tr7, tf8, hi9, sl10, sv11, ff12, e13, hf⟩ := b9_e hf
  refine z_callSs (st := []) C dL_law_16 w_L_88 (c_L_goes ad nr nf2 tr tf co pf hi sl sv ff e13) (by decide) (FWf _ _ _ _ _ _ _ _ _ _ _ _ _ _ _ _ _ _ _ _ _ _) rfl rfl (Nat.le_of_ble_eq_true rfl) ?_
  refine z_if_eq (tgt := 34) C dL_law_19 rfl (fun hc => ?_) (fun hc => ?_)
  · have hf := ifp hc hf
    refine z_iconst (v := 0) C dL_law_34 kc_0 ?_
    refine z_istore_n (ls' := [(2, _), (0, _), (1, _)]) C dL_law_35 (by decide) rfl ?_
    refine z_iconst (v := 0) C dL_law_36 kc_0 ?_
    refine z_istore_n (ls' := [(3, _), (2, _), (0, _), (1, _)]) C dL_law_37 (by decide) rfl ?_
    refine z_sub (ls' := [(0, .ref b), (1, .ref (ad 0)), (2, .int 0), (3, .int 0)]) [2, 3, 1, 0] rfl ?_
    exact tb_L_law_38 ad b L xs co pf C F _ _ _ _ _ _ _ _ _ _ _ hf
  have hf := ifn hc hf
  refine z_aload_n 1 C dL_law_22 rfl ?_
  refine z_iconst (v := 2) C dL_law_23 kc_2 ?_
  obtain ⟨v14, nf15, tr16, tf17, e18, hf⟩ := b4_e hf
  refine z_callSs (st := []) C dL_law_24 w_L_91 (c_L_faults ad 2 nr5 nf6 tr7 tf8 co pf hi9 sl10 sv11 ff12 e18) (by decide) (FWf _ _ _ _ _ _ _ _ _ _ _ _ _ _ _ _ _ _ _ _ _ _) rfl rfl (Nat.le_of_ble_eq_true rfl) ?_
  refine z_if_eq (tgt := 34) C dL_law_27 rfl (fun hc => ?_) (fun hc => ?_)
  · have hf := ifp hc hf
    refine z_iconst (v := 0) C dL_law_34 kc_0 ?_
    refine z_istore_n (ls' := [(2, _), (0, _), (1, _)]) C dL_law_35 (by decide) rfl ?_
    refine z_iconst (v := 0) C dL_law_36 kc_0 ?_
    refine z_istore_n (ls' := [(3, _), (2, _), (0, _), (1, _)]) C dL_law_37 (by decide) rfl ?_
    refine z_sub (ls' := [(0, .ref b), (1, .ref (ad 0)), (2, .int 0), (3, .int 0)]) [2, 3, 1, 0] rfl ?_
    exact tb_L_law_38 ad b L xs co pf C F _ _ _ _ _ _ _ _ _ _ _ hf
  have hf := ifn hc hf
  refine z_iconst (v := 1) C dL_law_30 kc_1 ?_
  refine z_goto (tgt := 35) C dL_law_31 rfl ?_
  refine z_istore_n (ls' := [(2, _), (0, _), (1, _)]) C dL_law_35 (by decide) rfl ?_
  refine z_iconst (v := 0) C dL_law_36 kc_0 ?_
  refine z_istore_n (ls' := [(3, _), (2, _), (0, _), (1, _)]) C dL_law_37 (by decide) rfl ?_
  refine z_sub (ls' := [(0, .ref b), (1, .ref (ad 0)), (2, .int 1), (3, .int 0)]) [2, 3, 1, 0] rfl ?_
  exact tb_L_law_38 ad b L xs co pf C F _ _ _ _ _ _ _ _ _ _ _ hf
