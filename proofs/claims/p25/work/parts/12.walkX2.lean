set_option maxHeartbeats 400000 in
set_option maxRecDepth 100000 in
theorem c_X1_length {l : Launch} {D : va_G} {cs : ClassId × ClassId × ClassId} (h : Nat) (q : Nat)  (codes : zA) (pf : zA) {v : Int32}  (e : f_X1_length pf = some v) : zM l D cs yX1_length cX1_length 1 (some .int) 0 [.ref h] (PW cs h q codes pf) v (PW cs h q codes pf) := by
  refine zM_of (show plainName RX1 = true by decide +kernel) (Nat.le_of_ble_eq_true rfl) ?_
  rintro G rfl rfl rfl C F
  have hf := e
  clear e
  unfold f_X1_length at hf
  show zV G 1 0 [(0, .ref h)] [] (PW (gk G) h q codes pf)
  refine z_aload_n 0 C dX1_length_0 rfl ?_
  refine gf_X1_15 0 C dX1_length_1 rfl rfl ?_
  cases hf
  exact z_iret C dX1_length_4 F
set_option maxHeartbeats 400000 in
set_option maxRecDepth 100000 in
theorem c_X2_noteState {l : Launch} {D : va_G} {cs : ClassId × ClassId × ClassId} (ad : Nat → Nat)  (nr : zA) (nf : zA) (tr : zA) (tf : zA) (co : zA) (pf : zA) (hi : Nat → zA) (sl : Nat → zA) (sv : zA) (ff : zA) {hi' : Nat → zA} (e : f_X2_noteState nr hi ff = some hi') : zMv l D cs yX2_noteState cX2_noteState 1 none 2 [.ref (ad 0)] (FW cs ad nr nf tr tf co pf hi sl sv ff) (FW cs ad nr nf tr tf co pf hi' sl sv ff) := by
  refine zMv_of (show plainName RX2 = true by decide +kernel) (Nat.le_of_ble_eq_true rfl) ?_
  rintro G rfl rfl rfl C F
  have hf := e
  clear e
  unfold f_X2_noteState at hf
  show zV G 1 0 [(0, .ref (ad 0))] [] (FW (gk G) ad nr nf tr tf co pf hi sl sv ff)
  refine z_aload_n 0 C dX2_noteState_0 rfl ?_
  refine gf_X2_12 0 C dX2_noteState_1 rfl rfl ?_
  refine z_aload_n 0 C dX2_noteState_4 rfl ?_
  refine gf_X2_28 0 C dX2_noteState_5 rfl rfl ?_
  refine z_aload_n 0 C dX2_noteState_8 rfl ?_
  refine gf_X2_38 0 C dX2_noteState_9 rfl rfl ?_
  obtain ⟨k1, h2, hf⟩ := gd_e hf
  refine z_aald 9 C dX2_noteState_12 h2 rfl ?_
  rcases zlt7 (zin_lt h2) with rfl | rfl | rfl | rfl | rfl | rfl | rfl
  · refine z_st (st' := [.ref (ad 10), .ref (ad 1)]) rfl ?_
    obtain ⟨hi3, e4, hf⟩ := b1_e hf
    refine z_callVv (st := []) (ws2 := (FW (gk G) ad nr nf tr tf co pf (va_up hi 0 hi3) sl sv ff)) [1, 2, 3, 10] C dX2_noteState_13 w_X2_147 (c_X0_writeTo (ad 1) (ad 2) (ad 3) (ad 10) nr nf (hi 0) e4) (by decide) rfl rfl rfl rfl rfl rfl rfl (Nat.le_of_ble_eq_true rfl) rfl ?_
    cases hf
    exact z_vret C dX2_noteState_16 F
  · refine z_st (st' := [.ref (ad 11), .ref (ad 1)]) rfl ?_
    obtain ⟨hi3, e4, hf⟩ := b1_e hf
    refine z_callVv (st := []) (ws2 := (FW (gk G) ad nr nf tr tf co pf (va_up hi 1 hi3) sl sv ff)) [1, 2, 3, 11] C dX2_noteState_13 w_X2_147 (c_X0_writeTo (ad 1) (ad 2) (ad 3) (ad 11) nr nf (hi 1) e4) (by decide) rfl rfl rfl rfl rfl rfl rfl (Nat.le_of_ble_eq_true rfl) rfl ?_
    cases hf
    exact z_vret C dX2_noteState_16 F
  · refine z_st (st' := [.ref (ad 12), .ref (ad 1)]) rfl ?_
    obtain ⟨hi3, e4, hf⟩ := b1_e hf
    refine z_callVv (st := []) (ws2 := (FW (gk G) ad nr nf tr tf co pf (va_up hi 2 hi3) sl sv ff)) [1, 2, 3, 12] C dX2_noteState_13 w_X2_147 (c_X0_writeTo (ad 1) (ad 2) (ad 3) (ad 12) nr nf (hi 2) e4) (by decide) rfl rfl rfl rfl rfl rfl rfl (Nat.le_of_ble_eq_true rfl) rfl ?_
    cases hf
    exact z_vret C dX2_noteState_16 F
  · refine z_st (st' := [.ref (ad 13), .ref (ad 1)]) rfl ?_
    obtain ⟨hi3, e4, hf⟩ := b1_e hf
    refine z_callVv (st := []) (ws2 := (FW (gk G) ad nr nf tr tf co pf (va_up hi 3 hi3) sl sv ff)) [1, 2, 3, 13] C dX2_noteState_13 w_X2_147 (c_X0_writeTo (ad 1) (ad 2) (ad 3) (ad 13) nr nf (hi 3) e4) (by decide) rfl rfl rfl rfl rfl rfl rfl (Nat.le_of_ble_eq_true rfl) rfl ?_
    cases hf
    exact z_vret C dX2_noteState_16 F
  · refine z_st (st' := [.ref (ad 14), .ref (ad 1)]) rfl ?_
    obtain ⟨hi3, e4, hf⟩ := b1_e hf
    refine z_callVv (st := []) (ws2 := (FW (gk G) ad nr nf tr tf co pf (va_up hi 4 hi3) sl sv ff)) [1, 2, 3, 14] C dX2_noteState_13 w_X2_147 (c_X0_writeTo (ad 1) (ad 2) (ad 3) (ad 14) nr nf (hi 4) e4) (by decide) rfl rfl rfl rfl rfl rfl rfl (Nat.le_of_ble_eq_true rfl) rfl ?_
    cases hf
    exact z_vret C dX2_noteState_16 F
  · refine z_st (st' := [.ref (ad 15), .ref (ad 1)]) rfl ?_
    obtain ⟨hi3, e4, hf⟩ := b1_e hf
    refine z_callVv (st := []) (ws2 := (FW (gk G) ad nr nf tr tf co pf (va_up hi 5 hi3) sl sv ff)) [1, 2, 3, 15] C dX2_noteState_13 w_X2_147 (c_X0_writeTo (ad 1) (ad 2) (ad 3) (ad 15) nr nf (hi 5) e4) (by decide) rfl rfl rfl rfl rfl rfl rfl (Nat.le_of_ble_eq_true rfl) rfl ?_
    cases hf
    exact z_vret C dX2_noteState_16 F
  · refine z_st (st' := [.ref (ad 16), .ref (ad 1)]) rfl ?_
    obtain ⟨hi3, e4, hf⟩ := b1_e hf
    refine z_callVv (st := []) (ws2 := (FW (gk G) ad nr nf tr tf co pf (va_up hi 6 hi3) sl sv ff)) [1, 2, 3, 16] C dX2_noteState_13 w_X2_147 (c_X0_writeTo (ad 1) (ad 2) (ad 3) (ad 16) nr nf (hi 6) e4) (by decide) rfl rfl rfl rfl rfl rfl rfl (Nat.le_of_ble_eq_true rfl) rfl ?_
    cases hf
    exact z_vret C dX2_noteState_16 F
set_option maxHeartbeats 400000 in
set_option maxRecDepth 100000 in
theorem c_X2_keepUnlessError {l : Launch} {D : va_G} {cs : ClassId × ClassId × ClassId} (ad : Nat → Nat) (a1 : Int32) (nr : zA) (nf : zA) (tr : zA) (tf : zA) (co : zA) (pf : zA) (hi : Nat → zA) (sl : Nat → zA) (sv : zA) (ff : zA) {v : Int32} {ff' : zA} (e : f_X2_keepUnlessError a1 ff = some (v, ff')) : zM l D cs yX2_keepUnlessError cX2_keepUnlessError 2 (some .int) 1 [.ref (ad 0), .int a1] (FW cs ad nr nf tr tf co pf hi sl sv ff) v (FW cs ad nr nf tr tf co pf hi sl sv ff') := by
  refine zM_of (show plainName RX2 = true by decide +kernel) (Nat.le_of_ble_eq_true rfl) ?_
  rintro G rfl rfl rfl C F
  have hf := e
  clear e
  unfold f_X2_keepUnlessError at hf
  show zV G 2 0 [(0, .ref (ad 0)), (1, .int a1)] [] (FW (gk G) ad nr nf tr tf co pf hi sl sv ff)
  refine z_iload_n 1 C dX2_keepUnlessError_0 rfl ?_
  refine z_if_ge (tgt := 6) C dX2_keepUnlessError_1 rfl (fun hc => ?_) (fun hc => ?_)
  · have hf := ifp hc hf
    refine z_aload_n 0 C dX2_keepUnlessError_6 rfl ?_
    refine z_aload_n 0 C dX2_keepUnlessError_7 rfl ?_
    refine gf_X2_38 0 C dX2_keepUnlessError_8 rfl rfl ?_
    refine z_iconst (v := 1) C dX2_keepUnlessError_11 kc_1 ?_
    refine z_iadd C dX2_keepUnlessError_12 ?_
    refine z_bipush (v := 7) C dX2_keepUnlessError_13 kb_7 ?_
    refine z_irem C dX2_keepUnlessError_15 (by decide) ?_
    obtain ⟨ff1, e2, hf⟩ := nm_g hf
    refine pf_X2_38 (ws' := (FW (gk G) ad nr nf tr tf co pf hi sl sv ff1)) 0 C dX2_keepUnlessError_16 rfl (Nat.le_of_ble_eq_true rfl) (by subst e2; rfl) ?_
    refine z_aload_n 0 C dX2_keepUnlessError_19 rfl ?_
    refine z_bipush (v := 6) C dX2_keepUnlessError_20 kb_6 ?_
    refine z_aload_n 0 C dX2_keepUnlessError_22 rfl ?_
    refine gf_X2_42 0 C dX2_keepUnlessError_23 rfl rfl ?_
    refine z_iconst (v := 1) C dX2_keepUnlessError_26 kc_1 ?_
    refine z_iadd C dX2_keepUnlessError_27 ?_
    refine z_mmin C dX2_keepUnlessError_28 wm_X2_150 (by decide) (Nat.le_of_ble_eq_true rfl) ?_
    obtain ⟨ff3, e4, hf⟩ := nm_g hf
    refine pf_X2_42 (ws' := (FW (gk G) ad nr nf tr tf co pf hi sl sv ff3)) 0 C dX2_keepUnlessError_31 rfl (Nat.le_of_ble_eq_true rfl) (by subst e4; rfl) ?_
    refine z_iload_n 1 C dX2_keepUnlessError_34 rfl ?_
    cases hf
    exact z_iret C dX2_keepUnlessError_35 F
  have hf := ifn hc hf
  refine z_iload_n 1 C dX2_keepUnlessError_4 rfl ?_
  cases hf
  exact z_iret C dX2_keepUnlessError_5 F
set_option maxHeartbeats 400000 in
set_option maxRecDepth 100000 in
theorem c_X2_set {l : Launch} {D : va_G} {cs : ClassId × ClassId × ClassId} (ad : Nat → Nat) (a1 : Int32) (a2 : Int32) (nr : zA) (nf : zA) (tr : zA) (tf : zA) (co : zA) (pf : zA) (hi : Nat → zA) (sl : Nat → zA) (sv : zA) (ff : zA) {v : Int32} {nr' : zA} {hi' : Nat → zA} {ff' : zA} (e : f_X2_set a1 a2 nr hi ff = some (v, nr', hi', ff')) : zM l D cs yX2_set cX2_set 3 (some .int) 3 [.ref (ad 0), .int a1, .int a2] (FW cs ad nr nf tr tf co pf hi sl sv ff) v (FW cs ad nr' nf tr tf co pf hi' sl sv ff') := by
  refine zM_of (show plainName RX2 = true by decide +kernel) (Nat.le_of_ble_eq_true rfl) ?_
  rintro G rfl rfl rfl C F
  have hf := e
  clear e
  unfold f_X2_set at hf
  show zV G 3 0 [(0, .ref (ad 0)), (1, .int a1), (2, .int a2)] [] (FW (gk G) ad nr nf tr tf co pf hi sl sv ff)
  refine z_aload_n 0 C dX2_set_0 rfl ?_
  obtain ⟨hi1, e2, hf⟩ := b1_e hf
  refine z_callVvs (st := []) C dX2_set_1 w_X2_45 (c_X2_noteState ad nr nf tr tf co pf hi sl sv ff e2) (by decide) (FWf _ _ _ _ _ _ _ _ _ _ _ _ _ _ _ _ _ _ _ _ _ _) rfl rfl rfl rfl (Nat.le_of_ble_eq_true rfl) ?_
  refine z_aload_n 0 C dX2_set_4 rfl ?_
  refine z_aload_n 0 C dX2_set_5 rfl ?_
  refine gf_X2_12 0 C dX2_set_6 rfl rfl ?_
  refine z_iload_n 1 C dX2_set_9 rfl ?_
  refine z_iload_n 2 C dX2_set_10 rfl ?_
  obtain ⟨v3, nr4, e5, hf⟩ := b2_e hf
  refine z_callV (st := [.ref (ad 0)]) (ws2 := (FW (gk G) ad nr4 nf tr tf co pf hi1 sl sv ff)) [1, 2, 3] C dX2_set_11 w_X2_48 (c_X0_changeSetting (ad 1) (ad 2) (ad 3) a1 a2 nr nf e5) (by decide) rfl rfl rfl rfl rfl rfl rfl (Nat.le_of_ble_eq_true rfl) rfl ?_
  obtain ⟨v6, ff7, e8, hf⟩ := b2_e hf
  refine z_callVs (st := []) C dX2_set_14 w_X2_52 (c_X2_keepUnlessError ad v3 nr4 nf tr tf co pf hi1 sl sv ff e8) (by decide) (FWf _ _ _ _ _ _ _ _ _ _ _ _ _ _ _ _ _ _ _ _ _ _) rfl rfl rfl rfl (Nat.le_of_ble_eq_true rfl) ?_
  cases hf
  exact z_iret C dX2_set_17 F
set_option maxHeartbeats 400000 in
set_option maxRecDepth 100000 in
theorem c_X2_board {l : Launch} {D : va_G} {cs : ClassId × ClassId × ClassId} (ad : Nat → Nat) (a1 : Int32) (a2 : Int32) (a3 : Int32) (nr : zA) (nf : zA) (tr : zA) (tf : zA) (co : zA) (pf : zA) (hi : Nat → zA) (sl : Nat → zA) (sv : zA) (ff : zA) {v : Int32} {nr' : zA} {hi' : Nat → zA} {ff' : zA} (e : f_X2_board a1 a2 a3 nr hi ff = some (v, nr', hi', ff')) : zM l D cs yX2_board cX2_board 4 (some .int) 3 [.ref (ad 0), .int a1, .int a2, .int a3] (FW cs ad nr nf tr tf co pf hi sl sv ff) v (FW cs ad nr' nf tr tf co pf hi' sl sv ff') := by
  refine zM_of (show plainName RX2 = true by decide +kernel) (Nat.le_of_ble_eq_true rfl) ?_
  rintro G rfl rfl rfl C F
  have hf := e
  clear e
  unfold f_X2_board at hf
  show zV G 4 0 [(0, .ref (ad 0)), (1, .int a1), (2, .int a2), (3, .int a3)] [] (FW (gk G) ad nr nf tr tf co pf hi sl sv ff)
  refine z_aload_n 0 C dX2_board_0 rfl ?_
  obtain ⟨hi1, e2, hf⟩ := b1_e hf
  refine z_callVvs (st := []) C dX2_board_1 w_X2_45 (c_X2_noteState ad nr nf tr tf co pf hi sl sv ff e2) (by decide) (FWf _ _ _ _ _ _ _ _ _ _ _ _ _ _ _ _ _ _ _ _ _ _) rfl rfl rfl rfl (Nat.le_of_ble_eq_true rfl) ?_
  refine z_aload_n 0 C dX2_board_4 rfl ?_
  refine z_aload_n 0 C dX2_board_5 rfl ?_
  refine gf_X2_12 0 C dX2_board_6 rfl rfl ?_
  refine z_iload_n 1 C dX2_board_9 rfl ?_
  refine z_iload_n 2 C dX2_board_10 rfl ?_
  refine z_iload_n 3 C dX2_board_11 rfl ?_
  obtain ⟨v3, nr4, e5, hf⟩ := b2_e hf
  refine z_callV (st := [.ref (ad 0)]) (ws2 := (FW (gk G) ad nr4 nf tr tf co pf hi1 sl sv ff)) [1, 2, 3] C dX2_board_12 w_X2_56 (c_X0_addBoard (ad 1) (ad 2) (ad 3) a1 a2 a3 nr nf e5) (by decide) rfl rfl rfl rfl rfl rfl rfl (Nat.le_of_ble_eq_true rfl) rfl ?_
  obtain ⟨v6, ff7, e8, hf⟩ := b2_e hf
  refine z_callVs (st := []) C dX2_board_15 w_X2_52 (c_X2_keepUnlessError ad v3 nr4 nf tr tf co pf hi1 sl sv ff e8) (by decide) (FWf _ _ _ _ _ _ _ _ _ _ _ _ _ _ _ _ _ _ _ _ _ _) rfl rfl rfl rfl (Nat.le_of_ble_eq_true rfl) ?_
  cases hf
  exact z_iret C dX2_board_18 F
set_option maxHeartbeats 400000 in
set_option maxRecDepth 100000 in
theorem c_X2_load {l : Launch} {D : va_G} {cs : ClassId × ClassId × ClassId} (ad : Nat → Nat) (a1 : Int32) (a2 : Int32) (nr : zA) (nf : zA) (tr : zA) (tf : zA) (co : zA) (pf : zA) (hi : Nat → zA) (sl : Nat → zA) (sv : zA) (ff : zA) {v : Int32} {nr' : zA} {hi' : Nat → zA} {ff' : zA} (e : f_X2_load a1 a2 nr hi ff = some (v, nr', hi', ff')) : zM l D cs yX2_load cX2_load 3 (some .int) 3 [.ref (ad 0), .int a1, .int a2] (FW cs ad nr nf tr tf co pf hi sl sv ff) v (FW cs ad nr' nf tr tf co pf hi' sl sv ff') := by
  refine zM_of (show plainName RX2 = true by decide +kernel) (Nat.le_of_ble_eq_true rfl) ?_
  rintro G rfl rfl rfl C F
  have hf := e
  clear e
  unfold f_X2_load at hf
  show zV G 3 0 [(0, .ref (ad 0)), (1, .int a1), (2, .int a2)] [] (FW (gk G) ad nr nf tr tf co pf hi sl sv ff)
  refine z_aload_n 0 C dX2_load_0 rfl ?_
  obtain ⟨hi1, e2, hf⟩ := b1_e hf
  refine z_callVvs (st := []) C dX2_load_1 w_X2_45 (c_X2_noteState ad nr nf tr tf co pf hi sl sv ff e2) (by decide) (FWf _ _ _ _ _ _ _ _ _ _ _ _ _ _ _ _ _ _ _ _ _ _) rfl rfl rfl rfl (Nat.le_of_ble_eq_true rfl) ?_
  refine z_aload_n 0 C dX2_load_4 rfl ?_
  refine z_aload_n 0 C dX2_load_5 rfl ?_
  refine gf_X2_12 0 C dX2_load_6 rfl rfl ?_
  refine z_iload_n 1 C dX2_load_9 rfl ?_
  refine z_iload_n 2 C dX2_load_10 rfl ?_
  obtain ⟨v3, nr4, e5, hf⟩ := b2_e hf
  refine z_callV (st := [.ref (ad 0)]) (ws2 := (FW (gk G) ad nr4 nf tr tf co pf hi1 sl sv ff)) [1, 2, 3] C dX2_load_11 w_X2_60 (c_X0_addLoad (ad 1) (ad 2) (ad 3) a1 a2 nr nf e5) (by decide) rfl rfl rfl rfl rfl rfl rfl (Nat.le_of_ble_eq_true rfl) rfl ?_
  obtain ⟨v6, ff7, e8, hf⟩ := b2_e hf
  refine z_callVs (st := []) C dX2_load_14 w_X2_52 (c_X2_keepUnlessError ad v3 nr4 nf tr tf co pf hi1 sl sv ff e8) (by decide) (FWf _ _ _ _ _ _ _ _ _ _ _ _ _ _ _ _ _ _ _ _ _ _) rfl rfl rfl rfl (Nat.le_of_ble_eq_true rfl) ?_
  cases hf
  exact z_iret C dX2_load_17 F
set_option maxHeartbeats 400000 in
set_option maxRecDepth 100000 in
theorem c_X2_turn {l : Launch} {D : va_G} {cs : ClassId × ClassId × ClassId} (ad : Nat → Nat) (a1 : Int32) (nr : zA) (nf : zA) (tr : zA) (tf : zA) (co : zA) (pf : zA) (hi : Nat → zA) (sl : Nat → zA) (sv : zA) (ff : zA) {v : Int32} {nr' : zA} {hi' : Nat → zA} {ff' : zA} (e : f_X2_turn a1 nr hi ff = some (v, nr', hi', ff')) : zM l D cs yX2_turn cX2_turn 2 (some .int) 3 [.ref (ad 0), .int a1] (FW cs ad nr nf tr tf co pf hi sl sv ff) v (FW cs ad nr' nf tr tf co pf hi' sl sv ff') := by
  refine zM_of (show plainName RX2 = true by decide +kernel) (Nat.le_of_ble_eq_true rfl) ?_
  rintro G rfl rfl rfl C F
  have hf := e
  clear e
  unfold f_X2_turn at hf
  show zV G 2 0 [(0, .ref (ad 0)), (1, .int a1)] [] (FW (gk G) ad nr nf tr tf co pf hi sl sv ff)
  refine z_aload_n 0 C dX2_turn_0 rfl ?_
  obtain ⟨hi1, e2, hf⟩ := b1_e hf
  refine z_callVvs (st := []) C dX2_turn_1 w_X2_45 (c_X2_noteState ad nr nf tr tf co pf hi sl sv ff e2) (by decide) (FWf _ _ _ _ _ _ _ _ _ _ _ _ _ _ _ _ _ _ _ _ _ _) rfl rfl rfl rfl (Nat.le_of_ble_eq_true rfl) ?_
  refine z_aload_n 0 C dX2_turn_4 rfl ?_
  refine z_aload_n 0 C dX2_turn_5 rfl ?_
  refine gf_X2_12 0 C dX2_turn_6 rfl rfl ?_
  refine z_iload_n 1 C dX2_turn_9 rfl ?_
  obtain ⟨v3, nr4, e5, hf⟩ := b2_e hf
  refine z_callV (st := [.ref (ad 0)]) (ws2 := (FW (gk G) ad nr4 nf tr tf co pf hi1 sl sv ff)) [1, 2, 3] C dX2_turn_10 w_X2_63 (c_X0_switchLoad (ad 1) (ad 2) (ad 3) a1 nr nf e5) (by decide) rfl rfl rfl rfl rfl rfl rfl (Nat.le_of_ble_eq_true rfl) rfl ?_
  obtain ⟨v6, ff7, e8, hf⟩ := b2_e hf
  refine z_callVs (st := []) C dX2_turn_13 w_X2_52 (c_X2_keepUnlessError ad v3 nr4 nf tr tf co pf hi1 sl sv ff e8) (by decide) (FWf _ _ _ _ _ _ _ _ _ _ _ _ _ _ _ _ _ _ _ _ _ _) rfl rfl rfl rfl (Nat.le_of_ble_eq_true rfl) ?_
  cases hf
  exact z_iret C dX2_turn_16 F
set_option maxHeartbeats 400000 in
set_option maxRecDepth 100000 in
theorem c_X2_fuse {l : Launch} {D : va_G} {cs : ClassId × ClassId × ClassId} (ad : Nat → Nat) (a1 : Int32) (a2 : Int32) (a3 : Int32) (nr : zA) (nf : zA) (tr : zA) (tf : zA) (co : zA) (pf : zA) (hi : Nat → zA) (sl : Nat → zA) (sv : zA) (ff : zA) {v : Int32} {nr' : zA} {hi' : Nat → zA} {ff' : zA} (e : f_X2_fuse a1 a2 a3 nr hi ff = some (v, nr', hi', ff')) : zM l D cs yX2_fuse cX2_fuse 4 (some .int) 3 [.ref (ad 0), .int a1, .int a2, .int a3] (FW cs ad nr nf tr tf co pf hi sl sv ff) v (FW cs ad nr' nf tr tf co pf hi' sl sv ff') := by
  refine zM_of (show plainName RX2 = true by decide +kernel) (Nat.le_of_ble_eq_true rfl) ?_
  rintro G rfl rfl rfl C F
  have hf := e
  clear e
  unfold f_X2_fuse at hf
  show zV G 4 0 [(0, .ref (ad 0)), (1, .int a1), (2, .int a2), (3, .int a3)] [] (FW (gk G) ad nr nf tr tf co pf hi sl sv ff)
  refine z_aload_n 0 C dX2_fuse_0 rfl ?_
  obtain ⟨hi1, e2, hf⟩ := b1_e hf
  refine z_callVvs (st := []) C dX2_fuse_1 w_X2_45 (c_X2_noteState ad nr nf tr tf co pf hi sl sv ff e2) (by decide) (FWf _ _ _ _ _ _ _ _ _ _ _ _ _ _ _ _ _ _ _ _ _ _) rfl rfl rfl rfl (Nat.le_of_ble_eq_true rfl) ?_
  refine z_aload_n 0 C dX2_fuse_4 rfl ?_
  refine z_aload_n 0 C dX2_fuse_5 rfl ?_
  refine gf_X2_12 0 C dX2_fuse_6 rfl rfl ?_
  refine z_iload_n 1 C dX2_fuse_9 rfl ?_
  refine z_iload_n 2 C dX2_fuse_10 rfl ?_
  refine z_iload_n 3 C dX2_fuse_11 rfl ?_
  obtain ⟨v3, nr4, e5, hf⟩ := b2_e hf
  refine z_callV (st := [.ref (ad 0)]) (ws2 := (FW (gk G) ad nr4 nf tr tf co pf hi1 sl sv ff)) [1, 2, 3] C dX2_fuse_12 w_X2_66 (c_X0_changeFuse (ad 1) (ad 2) (ad 3) a1 a2 a3 nr nf e5) (by decide) rfl rfl rfl rfl rfl rfl rfl (Nat.le_of_ble_eq_true rfl) rfl ?_
  obtain ⟨v6, ff7, e8, hf⟩ := b2_e hf
  refine z_callVs (st := []) C dX2_fuse_15 w_X2_52 (c_X2_keepUnlessError ad v3 nr4 nf tr tf co pf hi1 sl sv ff e8) (by decide) (FWf _ _ _ _ _ _ _ _ _ _ _ _ _ _ _ _ _ _ _ _ _ _) rfl rfl rfl rfl (Nat.le_of_ble_eq_true rfl) ?_
  cases hf
  exact z_iret C dX2_fuse_18 F
set_option maxHeartbeats 400000 in
set_option maxRecDepth 100000 in
theorem c_X2_pass {l : Launch} {D : va_G} {cs : ClassId × ClassId × ClassId} (ad : Nat → Nat) (a1 : Int32) (nr : zA) (nf : zA) (tr : zA) (tf : zA) (co : zA) (pf : zA) (hi : Nat → zA) (sl : Nat → zA) (sv : zA) (ff : zA) {v : Int32} {nr' : zA} {nf' : zA} {hi' : Nat → zA} {ff' : zA} (e : f_X2_pass a1 nr nf hi ff = some (v, nr', nf', hi', ff')) : zM l D cs yX2_pass cX2_pass 2 (some .int) 5 [.ref (ad 0), .int a1] (FW cs ad nr nf tr tf co pf hi sl sv ff) v (FW cs ad nr' nf' tr tf co pf hi' sl sv ff') := by
  refine zM_of (show plainName RX2 = true by decide +kernel) (Nat.le_of_ble_eq_true rfl) ?_
  rintro G rfl rfl rfl C F
  have hf := e
  clear e
  unfold f_X2_pass at hf
  show zV G 2 0 [(0, .ref (ad 0)), (1, .int a1)] [] (FW (gk G) ad nr nf tr tf co pf hi sl sv ff)
  refine z_aload_n 0 C dX2_pass_0 rfl ?_
  obtain ⟨hi1, e2, hf⟩ := b1_e hf
  refine z_callVvs (st := []) C dX2_pass_1 w_X2_45 (c_X2_noteState ad nr nf tr tf co pf hi sl sv ff e2) (by decide) (FWf _ _ _ _ _ _ _ _ _ _ _ _ _ _ _ _ _ _ _ _ _ _) rfl rfl rfl rfl (Nat.le_of_ble_eq_true rfl) ?_
  refine z_aload_n 0 C dX2_pass_4 rfl ?_
  refine z_aload_n 0 C dX2_pass_5 rfl ?_
  refine gf_X2_12 0 C dX2_pass_6 rfl rfl ?_
  refine z_iload_n 1 C dX2_pass_9 rfl ?_
  obtain ⟨v3, nr4, nf5, e6, hf⟩ := b3_e hf
  refine z_callV (st := [.ref (ad 0)]) (ws2 := (FW (gk G) ad nr4 nf5 tr tf co pf hi1 sl sv ff)) [1, 2, 3] C dX2_pass_10 w_X2_69 (c_X0_letPass (ad 1) (ad 2) (ad 3) a1 nr nf e6) (by decide) rfl rfl rfl rfl rfl rfl rfl (Nat.le_of_ble_eq_true rfl) rfl ?_
  obtain ⟨v7, ff8, e9, hf⟩ := b2_e hf
  refine z_callVs (st := []) C dX2_pass_13 w_X2_52 (c_X2_keepUnlessError ad v3 nr4 nf5 tr tf co pf hi1 sl sv ff e9) (by decide) (FWf _ _ _ _ _ _ _ _ _ _ _ _ _ _ _ _ _ _ _ _ _ _) rfl rfl rfl rfl (Nat.le_of_ble_eq_true rfl) ?_
  cases hf
  exact z_iret C dX2_pass_16 F
set_option maxHeartbeats 400000 in
set_option maxRecDepth 100000 in
theorem c_X2_of {l : Launch} {D : va_G} {cs : ClassId × ClassId × ClassId} (ad : Nat → Nat) (a1 : Int32) (a2 : Int32) (nr : zA) (nf : zA) (tr : zA) (tf : zA) (co : zA) (pf : zA) (hi : Nat → zA) (sl : Nat → zA) (sv : zA) (ff : zA) {v : Int32} {nf' : zA} (e : f_X2_of a1 a2 nr nf = some (v, nf')) : zM l D cs yX2_of cX2_of 3 (some .int) 4 [.ref (ad 0), .int a1, .int a2] (FW cs ad nr nf tr tf co pf hi sl sv ff) v (FW cs ad nr nf' tr tf co pf hi sl sv ff) := by
  refine zM_of (show plainName RX2 = true by decide +kernel) (Nat.le_of_ble_eq_true rfl) ?_
  rintro G rfl rfl rfl C F
  have hf := e
  clear e
  unfold f_X2_of at hf
  show zV G 3 0 [(0, .ref (ad 0)), (1, .int a1), (2, .int a2)] [] (FW (gk G) ad nr nf tr tf co pf hi sl sv ff)
  refine z_aload_n 0 C dX2_of_0 rfl ?_
  refine gf_X2_12 0 C dX2_of_1 rfl rfl ?_
  refine z_iload_n 1 C dX2_of_4 rfl ?_
  obtain ⟨v1, e2, hf⟩ := b1_e hf
  refine z_callV (st := []) (ws2 := (FW (gk G) ad nr nf tr tf co pf hi sl sv ff)) [1, 2, 3] C dX2_of_5 w_X2_72 (c_X0_isBoard (ad 1) (ad 2) (ad 3) a1 nr nf e2) (by decide) rfl rfl rfl rfl rfl rfl rfl (Nat.le_of_ble_eq_true rfl) rfl ?_
  refine z_if_ne (tgt := 13) C dX2_of_8 rfl (fun hc => ?_) (fun hc => ?_)
  · have hf := ifn hc hf
    refine z_aload_n 0 C dX2_of_13 rfl ?_
    refine gf_X2_12 0 C dX2_of_14 rfl rfl ?_
    refine z_iload_n 1 C dX2_of_17 rfl ?_
    refine z_iload_n 2 C dX2_of_18 rfl ?_
    obtain ⟨v3, nf4, e5, hf⟩ := b2_e hf
    refine z_callV (st := []) (ws2 := (FW (gk G) ad nr nf4 tr tf co pf hi sl sv ff)) [1, 2, 3] C dX2_of_19 w_X2_76 (c_X0_aboutBoard (ad 1) (ad 2) (ad 3) a1 a2 nr nf e5) (by decide) rfl rfl rfl rfl rfl rfl rfl (Nat.le_of_ble_eq_true rfl) rfl ?_
    cases hf
    exact z_iret C dX2_of_22 F
  have hf := ifp hc hf
  refine z_iconst (v := -1) C dX2_of_11 kc_m1 ?_
  cases hf
  exact z_iret C dX2_of_12 F
set_option maxHeartbeats 400000 in
set_option maxRecDepth 100000 in
theorem c_X2_ofLoad {l : Launch} {D : va_G} {cs : ClassId × ClassId × ClassId} (ad : Nat → Nat) (a1 : Int32) (a2 : Int32) (nr : zA) (nf : zA) (tr : zA) (tf : zA) (co : zA) (pf : zA) (hi : Nat → zA) (sl : Nat → zA) (sv : zA) (ff : zA) {v : Int32}  (e : f_X2_ofLoad a1 a2 nr = some v) : zM l D cs yX2_ofLoad cX2_ofLoad 3 (some .int) 3 [.ref (ad 0), .int a1, .int a2] (FW cs ad nr nf tr tf co pf hi sl sv ff) v (FW cs ad nr nf tr tf co pf hi sl sv ff) := by
  refine zM_of (show plainName RX2 = true by decide +kernel) (Nat.le_of_ble_eq_true rfl) ?_
  rintro G rfl rfl rfl C F
  have hf := e
  clear e
  unfold f_X2_ofLoad at hf
  show zV G 3 0 [(0, .ref (ad 0)), (1, .int a1), (2, .int a2)] [] (FW (gk G) ad nr nf tr tf co pf hi sl sv ff)
  refine z_aload_n 0 C dX2_ofLoad_0 rfl ?_
  refine gf_X2_12 0 C dX2_ofLoad_1 rfl rfl ?_
  refine z_iload_n 1 C dX2_ofLoad_4 rfl ?_
  obtain ⟨v1, e2, hf⟩ := b1_e hf
  refine z_callV (st := []) (ws2 := (FW (gk G) ad nr nf tr tf co pf hi sl sv ff)) [1, 2, 3] C dX2_ofLoad_5 w_X2_79 (c_X0_isLoad (ad 1) (ad 2) (ad 3) a1 nr nf e2) (by decide) rfl rfl rfl rfl rfl rfl rfl (Nat.le_of_ble_eq_true rfl) rfl ?_
  refine z_if_ne (tgt := 13) C dX2_ofLoad_8 rfl (fun hc => ?_) (fun hc => ?_)
  · have hf := ifn hc hf
    refine z_aload_n 0 C dX2_ofLoad_13 rfl ?_
    refine gf_X2_12 0 C dX2_ofLoad_14 rfl rfl ?_
    refine z_iload_n 1 C dX2_ofLoad_17 rfl ?_
    refine z_iload_n 2 C dX2_ofLoad_18 rfl ?_
    obtain ⟨v3, e4, hf⟩ := b1_e hf
    refine z_callV (st := []) (ws2 := (FW (gk G) ad nr nf tr tf co pf hi sl sv ff)) [1, 2, 3] C dX2_ofLoad_19 w_X2_82 (c_X0_aboutLoad (ad 1) (ad 2) (ad 3) a1 a2 nr nf e4) (by decide) rfl rfl rfl rfl rfl rfl rfl (Nat.le_of_ble_eq_true rfl) rfl ?_
    cases hf
    exact z_iret C dX2_ofLoad_22 F
  have hf := ifp hc hf
  refine z_iconst (v := -1) C dX2_ofLoad_11 kc_m1 ?_
  cases hf
  exact z_iret C dX2_ofLoad_12 F
set_option maxHeartbeats 400000 in
set_option maxRecDepth 100000 in
theorem c_X2_fed {l : Launch} {D : va_G} {cs : ClassId × ClassId × ClassId} (ad : Nat → Nat) (a1 : Int32) (nr : zA) (nf : zA) (tr : zA) (tf : zA) (co : zA) (pf : zA) (hi : Nat → zA) (sl : Nat → zA) (sv : zA) (ff : zA) {v : Int32}  (e : f_X2_fed a1 nr = some v) : zM l D cs yX2_fed cX2_fed 2 (some .int) 2 [.ref (ad 0), .int a1] (FW cs ad nr nf tr tf co pf hi sl sv ff) v (FW cs ad nr nf tr tf co pf hi sl sv ff) := by
  refine zM_of (show plainName RX2 = true by decide +kernel) (Nat.le_of_ble_eq_true rfl) ?_
  rintro G rfl rfl rfl C F
  have hf := e
  clear e
  unfold f_X2_fed at hf
  show zV G 2 0 [(0, .ref (ad 0)), (1, .int a1)] [] (FW (gk G) ad nr nf tr tf co pf hi sl sv ff)
  refine z_aload_n 0 C dX2_fed_0 rfl ?_
  refine gf_X2_12 0 C dX2_fed_1 rfl rfl ?_
  refine z_iload_n 1 C dX2_fed_4 rfl ?_
  obtain ⟨v1, e2, hf⟩ := b1_e hf
  refine z_callV (st := []) (ws2 := (FW (gk G) ad nr nf tr tf co pf hi sl sv ff)) [1, 2, 3] C dX2_fed_5 w_X2_72 (c_X0_isBoard (ad 1) (ad 2) (ad 3) a1 nr nf e2) (by decide) rfl rfl rfl rfl rfl rfl rfl (Nat.le_of_ble_eq_true rfl) rfl ?_
  refine z_if_ne (tgt := 13) C dX2_fed_8 rfl (fun hc => ?_) (fun hc => ?_)
  · have hf := ifn hc hf
    refine z_aload_n 0 C dX2_fed_13 rfl ?_
    refine gf_X2_12 0 C dX2_fed_14 rfl rfl ?_
    refine z_iload_n 1 C dX2_fed_17 rfl ?_
    obtain ⟨v3, e4, hf⟩ := b1_e hf
    refine z_callV (st := []) (ws2 := (FW (gk G) ad nr nf tr tf co pf hi sl sv ff)) [1, 2, 3] C dX2_fed_18 w_X2_85 (c_X0_fedThrough (ad 1) (ad 2) (ad 3) a1 nr nf e4) (by decide) rfl rfl rfl rfl rfl rfl rfl (Nat.le_of_ble_eq_true rfl) rfl ?_
    cases hf
    exact z_iret C dX2_fed_21 F
  have hf := ifp hc hf
  refine z_iconst (v := -1) C dX2_fed_11 kc_m1 ?_
  cases hf
  exact z_iret C dX2_fed_12 F
set_option maxHeartbeats 400000 in
set_option maxRecDepth 100000 in
theorem c_X2_blown {l : Launch} {D : va_G} {cs : ClassId × ClassId × ClassId} (ad : Nat → Nat) (a1 : Int32) (nr : zA) (nf : zA) (tr : zA) (tf : zA) (co : zA) (pf : zA) (hi : Nat → zA) (sl : Nat → zA) (sv : zA) (ff : zA) {v : Int32}  (e : f_X2_blown a1 nr = some v) : zM l D cs yX2_blown cX2_blown 2 (some .int) 1 [.ref (ad 0), .int a1] (FW cs ad nr nf tr tf co pf hi sl sv ff) v (FW cs ad nr nf tr tf co pf hi sl sv ff) := by
  refine zM_of (show plainName RX2 = true by decide +kernel) (Nat.le_of_ble_eq_true rfl) ?_
  rintro G rfl rfl rfl C F
  have hf := e
  clear e
  unfold f_X2_blown at hf
  show zV G 2 0 [(0, .ref (ad 0)), (1, .int a1)] [] (FW (gk G) ad nr nf tr tf co pf hi sl sv ff)
  refine z_aload_n 0 C dX2_blown_0 rfl ?_
  refine gf_X2_12 0 C dX2_blown_1 rfl rfl ?_
  refine z_iload_n 1 C dX2_blown_4 rfl ?_
  obtain ⟨v1, e2, hf⟩ := b1_e hf
  refine z_callV (st := []) (ws2 := (FW (gk G) ad nr nf tr tf co pf hi sl sv ff)) [1, 2, 3] C dX2_blown_5 w_X2_88 (c_X0_latestBlown (ad 1) (ad 2) (ad 3) a1 nr nf e2) (by decide) rfl rfl rfl rfl rfl rfl rfl (Nat.le_of_ble_eq_true rfl) rfl ?_
  cases hf
  exact z_iret C dX2_blown_8 F
set_option maxHeartbeats 400000 in
set_option maxRecDepth 100000 in
theorem c_X2_count {l : Launch} {D : va_G} {cs : ClassId × ClassId × ClassId} (ad : Nat → Nat) (a1 : Int32) (nr : zA) (nf : zA) (tr : zA) (tf : zA) (co : zA) (pf : zA) (hi : Nat → zA) (sl : Nat → zA) (sv : zA) (ff : zA) {v : Int32} {nf' : zA} (e : f_X2_count a1 nr nf pf ff = some (v, nf')) : zM l D cs yX2_count cX2_count 2 (some .int) 4 [.ref (ad 0), .int a1] (FW cs ad nr nf tr tf co pf hi sl sv ff) v (FW cs ad nr nf' tr tf co pf hi sl sv ff) := by
  refine zM_of (show plainName RX2 = true by decide +kernel) (Nat.le_of_ble_eq_true rfl) ?_
  rintro G rfl rfl rfl C F
  have hf := e
  clear e
  unfold f_X2_count at hf
  show zV G 2 0 [(0, .ref (ad 0)), (1, .int a1)] [] (FW (gk G) ad nr nf tr tf co pf hi sl sv ff)
  refine z_iload_n 1 C dX2_count_0 rfl ?_
  refine z_bipush (v := 12) C dX2_count_1 kb_12 ?_
  refine z_icmp_ne (tgt := 14) C dX2_count_3 rfl (fun hc => ?_) (fun hc => ?_)
  · have hf := ifn hc hf
    refine z_iload_n 1 C dX2_count_14 rfl ?_
    refine z_bipush (v := 13) C dX2_count_15 kb_13 ?_
    refine z_icmp_ne (tgt := 25) C dX2_count_17 rfl (fun hc => ?_) (fun hc => ?_)
    · have hf := ifn hc hf
      refine z_aload_n 0 C dX2_count_25 rfl ?_
      refine gf_X2_12 0 C dX2_count_26 rfl rfl ?_
      refine z_iload_n 1 C dX2_count_29 rfl ?_
      obtain ⟨v1, nf2, e3, hf⟩ := b2_e hf
      refine z_callV (st := []) (ws2 := (FW (gk G) ad nr nf2 tr tf co pf hi sl sv ff)) [1, 2, 3] C dX2_count_30 w_X2_95 (c_X0_aboutHouse (ad 1) (ad 2) (ad 3) a1 nr nf e3) (by decide) rfl rfl rfl rfl rfl rfl rfl (Nat.le_of_ble_eq_true rfl) rfl ?_
      cases hf
      exact z_iret C dX2_count_33 F
    have hf := ifp hc hf
    refine z_aload_n 0 C dX2_count_20 rfl ?_
    refine gf_X2_42 0 C dX2_count_21 rfl rfl ?_
    cases hf
    exact z_iret C dX2_count_24 F
  have hf := ifp hc hf
  refine z_aload_n 0 C dX2_count_6 rfl ?_
  refine gf_X2_22 0 C dX2_count_7 rfl rfl ?_
  obtain ⟨v4, e5, hf⟩ := b1_e hf
  refine z_callV (st := []) (ws2 := (FW (gk G) ad nr nf tr tf co pf hi sl sv ff)) [7, 8] C dX2_count_10 w_X2_91 (c_X1_length (ad 7) (ad 8) co pf e5) (by decide) rfl rfl rfl rfl rfl rfl rfl (Nat.le_of_ble_eq_true rfl) rfl ?_
  cases hf
  exact z_iret C dX2_count_13 F
set_option maxHeartbeats 400000 in
set_option maxRecDepth 100000 in
theorem c_X2_isTrialQuestion {l : Launch} {D : va_G} {cs : ClassId × ClassId × ClassId}  (a0 : Int32)  {v : Int32}  (e : f_X2_isTrialQuestion a0 = some v) : zM l D cs yX2_isTrialQuestion cX2_isTrialQuestion 1 (some .boolean) 0 [.int a0] ([] : va_W) v ([] : va_W) := by
  refine zM_of (show plainName RX2 = true by decide +kernel) (Nat.le_of_ble_eq_true rfl) ?_
  rintro G rfl rfl rfl C F
  have hf := e
  clear e
  unfold f_X2_isTrialQuestion at hf
  show zV G 1 0 [(0, .int a0)] [] ([] : va_W)
  refine z_iload_n 0 C dX2_isTrialQuestion_0 rfl ?_
  refine z_if_eq (tgt := 9) C dX2_isTrialQuestion_1 rfl (fun hc => ?_) (fun hc => ?_)
  · have hf := ifp hc hf
    refine z_iconst (v := 1) C dX2_isTrialQuestion_9 kc_1 ?_
    refine z_goto (tgt := 14) C dX2_isTrialQuestion_10 rfl ?_
    cases hf
    exact z_zret C dX2_isTrialQuestion_14 rfl F
  have hf := ifn hc hf
  refine z_iload_n 0 C dX2_isTrialQuestion_4 rfl ?_
  refine z_iconst (v := 1) C dX2_isTrialQuestion_5 kc_1 ?_
  refine z_icmp_ne (tgt := 13) C dX2_isTrialQuestion_6 rfl (fun hc => ?_) (fun hc => ?_)
  · have hf := ifn hc hf
    refine z_iconst (v := 0) C dX2_isTrialQuestion_13 kc_0 ?_
    cases hf
    exact z_zret C dX2_isTrialQuestion_14 rfl F
  have hf := ifp hc hf
  refine z_iconst (v := 1) C dX2_isTrialQuestion_9 kc_1 ?_
  refine z_goto (tgt := 14) C dX2_isTrialQuestion_10 rfl ?_
  cases hf
  exact z_zret C dX2_isTrialQuestion_14 rfl F
set_option maxHeartbeats 400000 in
set_option maxRecDepth 100000 in
theorem tb_X2_lowest_2 {G : GT}   {v : Int32}  (C : zC G cX2_lowest 2 RX2 (some .int) 0) (F : zF G (some (.int v)) ([] : va_W)) : ∀ (n : Nat) (l0 : Int32) (l1 : Int32), B_X2_lowest_2 n l0 l1 = some v → zV G 2 2 [(0, .int l0), (1, .int l1)] [] ([] : va_W) := by
  intro n
  induction n with
  | zero => intro _ _ hf; rw [B_X2_lowest_2] at hf; cases hf
  | succ n ih =>
    intro l0 l1 hf
    rw [B_X2_lowest_2] at hf
    refine z_iload_n 1 C dX2_lowest_2 rfl ?_
    refine z_bipush (v := 9) C dX2_lowest_3 kb_9 ?_
    refine z_icmp_ge (tgt := 22) C dX2_lowest_5 rfl (fun hc => ?_) (fun hc => ?_)
    · have hf := ifp hc hf
      refine z_iload_n 1 C dX2_lowest_22 rfl ?_
      cases hf
      exact z_iret C dX2_lowest_23 F
    have hf := ifn hc hf
    refine z_iload_n 0 C dX2_lowest_8 rfl ?_
    refine z_iload_n 1 C dX2_lowest_9 rfl ?_
    refine z_ishr C dX2_lowest_10 ?_
    refine z_iconst (v := 1) C dX2_lowest_11 kc_1 ?_
    refine z_iand C dX2_lowest_12 ?_
    refine z_if_ne (tgt := 22) C dX2_lowest_13 rfl (fun hc => ?_) (fun hc => ?_)
    · have hf := ifn hc hf
      refine z_iload_n 1 C dX2_lowest_22 rfl ?_
      cases hf
      exact z_iret C dX2_lowest_23 F
    have hf := ifp hc hf
    obtain ⟨x1, e2, hf⟩ := nm_g hf
    refine z_iinc (ls' := [(1, _), (0, _)]) 1 C dX2_lowest_16 rfl kc_1 e2 (by decide) rfl ?_
    refine z_goto (tgt := 2) C dX2_lowest_19 rfl ?_
    refine z_sub (ls' := [(0, .int l0), (1, .int x1)]) [1, 0] rfl ?_
    exact ih _ _ hf
set_option maxHeartbeats 400000 in
set_option maxRecDepth 100000 in
theorem c_X2_lowest {l : Launch} {D : va_G} {cs : ClassId × ClassId × ClassId}  (a0 : Int32)  {v : Int32}  (e : f_X2_lowest a0 = some v) : zM l D cs yX2_lowest cX2_lowest 2 (some .int) 0 [.int a0] ([] : va_W) v ([] : va_W) := by
  refine zM_of (show plainName RX2 = true by decide +kernel) (Nat.le_of_ble_eq_true rfl) ?_
  rintro G rfl rfl rfl C F
  have hf := e
  clear e
  unfold f_X2_lowest at hf
  show zV G 2 0 [(0, .int a0)] [] ([] : va_W)
  refine z_iconst (v := 0) C dX2_lowest_0 kc_0 ?_
  refine z_istore_n (ls' := [(1, _), (0, _)]) C dX2_lowest_1 (by decide) rfl ?_
  refine z_sub (ls' := [(0, .int a0), (1, .int 0)]) [1, 0] rfl ?_
  exact tb_X2_lowest_2  C F _ _ _ hf
set_option maxHeartbeats 400000 in
set_option maxRecDepth 100000 in
theorem tb_X2_firstBlow_2 {G : GT} (ad : Nat → Nat) (nr : zA) (nf : zA) (co : zA) (pf : zA) (hi : Nat → zA) (sl : Nat → zA) (sv : zA) (ff : zA) {v : Int32} {tr' : zA} {tf' : zA} (C : zC G cX2_firstBlow 4 RX2 (some .int) 4) (F : zF G (some (.int v)) (FW (gk G) ad nr nf tr' tf' co pf hi sl sv ff)) : ∀ (n : Nat) (l1 : Int32) (l2 : Int32) (tr : zA) (tf : zA), B_X2_firstBlow_2 n l1 l2 tr tf = some (v, tr', tf') → zV G 4 2 [(0, .ref (ad 0)), (1, .int l1), (2, .int l2)] [] (FW (gk G) ad nr nf tr tf co pf hi sl sv ff) := by
  intro n
  induction n with
  | zero => intro _ _ _ _ hf; rw [B_X2_firstBlow_2] at hf; cases hf
  | succ n ih =>
    intro l1 l2 tr tf hf
    rw [B_X2_firstBlow_2] at hf
    refine z_iload_n 2 C dX2_firstBlow_2 rfl ?_
    refine z_sipush (v := 200) C dX2_firstBlow_3 ks_200 ?_
    refine z_icmp_gt (tgt := 40) C dX2_firstBlow_6 rfl (fun hc => ?_) (fun hc => ?_)
    · have hf := ifp hc hf
      refine z_bipush (v := -6) C dX2_firstBlow_40 kb_m6 ?_
      cases hf
      exact z_iret C dX2_firstBlow_42 F
    have hf := ifn hc hf
    refine z_aload_n 0 C dX2_firstBlow_9 rfl ?_
    refine gf_X2_16 0 C dX2_firstBlow_10 rfl rfl ?_
    obtain ⟨v1, tr2, tf3, e4, hf⟩ := b3_e hf
    refine z_callV (st := []) (ws2 := (FW (gk G) ad nr nf tr2 tf3 co pf hi sl sv ff)) [4, 5, 6] C dX2_firstBlow_13 w_X2_159 (c_X0_tick (ad 4) (ad 5) (ad 6) tr tf e4) (by decide) rfl rfl rfl rfl rfl rfl rfl (Nat.le_of_ble_eq_true rfl) rfl ?_
    refine z_istore_n (ls' := [(3, _), (0, _), (1, _), (2, _)]) C dX2_firstBlow_16 (by decide) rfl ?_
    refine z_iload_n 0 C dX2_firstBlow_17 rfl ?_
    refine z_if_eq (tgt := 34) C dX2_firstBlow_18 rfl (fun hc => ?_) (fun hc => ?_)
    · have hf := ifp hc hf
      obtain ⟨x5, e6, hf⟩ := nm_g hf
      refine z_iinc (ls' := [(2, _), (3, _), (0, _), (1, _)]) 3 C dX2_firstBlow_34 rfl kc_1 e6 (by decide) rfl ?_
      refine z_goto (tgt := 2) C dX2_firstBlow_37 rfl ?_
      refine z_sub (ls' := [(0, .ref (ad 0)), (1, .int l1), (2, .int x5)]) [2, 3, 0] rfl ?_
      exact ih _ _ _ _ hf
    have hf := ifn hc hf
    refine z_iload_n 2 C dX2_firstBlow_21 rfl ?_
    refine z_if_ne (tgt := 29) C dX2_firstBlow_22 rfl (fun hc => ?_) (fun hc => ?_)
    · have hf := ifn hc hf
      refine z_iload_n 0 C dX2_firstBlow_29 rfl ?_
      obtain ⟨v7, e8, hf⟩ := b1_e hf
      refine z_callS (st := []) (ws2 := (FW (gk G) ad nr nf tr2 tf3 co pf hi sl sv ff)) [] C dX2_firstBlow_30 w_X2_162 (c_X2_lowest v1 e8) (by decide) rfl rfl rfl  rfl rfl (Nat.le_of_ble_eq_true rfl) rfl ?_
      cases hf
      exact z_iret C dX2_firstBlow_33 F
    have hf := ifp hc hf
    refine z_iload_n 3 C dX2_firstBlow_25 rfl ?_
    refine z_goto (tgt := 33) C dX2_firstBlow_26 rfl ?_
    cases hf
    exact z_iret C dX2_firstBlow_33 F
set_option maxHeartbeats 400000 in
set_option maxRecDepth 100000 in
theorem c_X2_firstBlow {l : Launch} {D : va_G} {cs : ClassId × ClassId × ClassId} (ad : Nat → Nat) (a1 : Int32) (nr : zA) (nf : zA) (tr : zA) (tf : zA) (co : zA) (pf : zA) (hi : Nat → zA) (sl : Nat → zA) (sv : zA) (ff : zA) {v : Int32} {tr' : zA} {tf' : zA} (e : f_X2_firstBlow a1 tr tf = some (v, tr', tf')) : zM l D cs yX2_firstBlow cX2_firstBlow 4 (some .int) 4 [.ref (ad 0), .int a1] (FW cs ad nr nf tr tf co pf hi sl sv ff) v (FW cs ad nr nf tr' tf' co pf hi sl sv ff) := by
  refine zM_of (show plainName RX2 = true by decide +kernel) (Nat.le_of_ble_eq_true rfl) ?_
  rintro G rfl rfl rfl C F
  have hf := e
  clear e
  unfold f_X2_firstBlow at hf
  show zV G 4 0 [(0, .ref (ad 0)), (1, .int a1)] [] (FW (gk G) ad nr nf tr tf co pf hi sl sv ff)
  refine z_iconst (v := 1) C dX2_firstBlow_0 kc_1 ?_
  refine z_istore_n (ls' := [(2, _), (0, _), (1, _)]) C dX2_firstBlow_1 (by decide) rfl ?_
  refine z_sub (ls' := [(0, .ref (ad 0)), (1, .int a1), (2, .int 1)]) [1, 2, 0] rfl ?_
  exact tb_X2_firstBlow_2 ad nr nf co pf hi sl sv ff C F _ _ _ _ _ hf
set_option maxHeartbeats 400000 in
set_option maxRecDepth 100000 in
theorem c_X2_next {l : Launch} {D : va_G} {cs : ClassId × ClassId × ClassId} (ad : Nat → Nat) (a1 : Int32) (nr : zA) (nf : zA) (tr : zA) (tf : zA) (co : zA) (pf : zA) (hi : Nat → zA) (sl : Nat → zA) (sv : zA) (ff : zA) {v : Int32} {tr' : zA} {tf' : zA} (e : f_X2_next a1 nr tr tf = some (v, tr', tf')) : zM l D cs yX2_next cX2_next 2 (some .int) 5 [.ref (ad 0), .int a1] (FW cs ad nr nf tr tf co pf hi sl sv ff) v (FW cs ad nr nf tr' tf' co pf hi sl sv ff) := by
  refine zM_of (show plainName RX2 = true by decide +kernel) (Nat.le_of_ble_eq_true rfl) ?_
  rintro G rfl rfl rfl C F
  have hf := e
  clear e
  unfold f_X2_next at hf
  show zV G 2 0 [(0, .ref (ad 0)), (1, .int a1)] [] (FW (gk G) ad nr nf tr tf co pf hi sl sv ff)
  refine z_iload_n 1 C dX2_next_0 rfl ?_
  obtain ⟨v1, e2, hf⟩ := b1_e hf
  refine z_callS (st := []) (ws2 := (FW (gk G) ad nr nf tr tf co pf hi sl sv ff)) [] C dX2_next_1 w_X2_98 (c_X2_isTrialQuestion a1 e2) (by decide) rfl rfl rfl  rfl rfl (Nat.le_of_ble_eq_true rfl) rfl ?_
  refine z_if_ne (tgt := 10) C dX2_next_4 rfl (fun hc => ?_) (fun hc => ?_)
  · have hf := ifn hc hf
    refine z_aload_n 0 C dX2_next_10 rfl ?_
    refine gf_X2_16 0 C dX2_next_11 rfl rfl ?_
    refine z_aload_n 0 C dX2_next_14 rfl ?_
    refine gf_X2_12 0 C dX2_next_15 rfl rfl ?_
    obtain ⟨tr3, e4, hf⟩ := b1_e hf
    refine z_callVv (st := []) (ws2 := (FW (gk G) ad nr nf tr3 tf co pf hi sl sv ff)) [4, 5, 6, 1, 2, 3] C dX2_next_18 w_X2_101 (c_X0_copyFrom (ad 4) (ad 5) (ad 6) (ad 1) (ad 2) (ad 3) tr tf nr nf e4) (by decide) rfl rfl rfl rfl rfl rfl rfl (Nat.le_of_ble_eq_true rfl) rfl ?_
    refine z_aload_n 0 C dX2_next_21 rfl ?_
    refine z_iload_n 1 C dX2_next_22 rfl ?_
    obtain ⟨v5, tr6, tf7, e8, hf⟩ := b3_e hf
    refine z_callVs (st := []) C dX2_next_23 w_X2_105 (c_X2_firstBlow ad a1 nr nf tr3 tf co pf hi sl sv ff e8) (by decide) (FWf _ _ _ _ _ _ _ _ _ _ _ _ _ _ _ _ _ _ _ _ _ _) rfl rfl rfl rfl (Nat.le_of_ble_eq_true rfl) ?_
    cases hf
    exact z_iret C dX2_next_26 F
  have hf := ifp hc hf
  refine z_bipush (v := -2) C dX2_next_7 kb_m2 ?_
  cases hf
  exact z_iret C dX2_next_9 F
set_option maxHeartbeats 400000 in
set_option maxRecDepth 100000 in
theorem c_X2_tryFault {l : Launch} {D : va_G} {cs : ClassId × ClassId × ClassId} (ad : Nat → Nat) (a1 : Int32) (a2 : Int32) (a3 : Int32) (nr : zA) (nf : zA) (tr : zA) (tf : zA) (co : zA) (pf : zA) (hi : Nat → zA) (sl : Nat → zA) (sv : zA) (ff : zA) {v : Int32} {tr' : zA} {tf' : zA} (e : f_X2_tryFault a1 a2 a3 nr tr tf = some (v, tr', tf')) : zM l D cs yX2_tryFault cX2_tryFault 4 (some .int) 5 [.ref (ad 0), .int a1, .int a2, .int a3] (FW cs ad nr nf tr tf co pf hi sl sv ff) v (FW cs ad nr nf tr' tf' co pf hi sl sv ff) := by
  refine zM_of (show plainName RX2 = true by decide +kernel) (Nat.le_of_ble_eq_true rfl) ?_
  rintro G rfl rfl rfl C F
  have hf := e
  clear e
  unfold f_X2_tryFault at hf
  show zV G 4 0 [(0, .ref (ad 0)), (1, .int a1), (2, .int a2), (3, .int a3)] [] (FW (gk G) ad nr nf tr tf co pf hi sl sv ff)
  refine z_aload_n 0 C dX2_tryFault_0 rfl ?_
  refine gf_X2_16 0 C dX2_tryFault_1 rfl rfl ?_
  refine z_aload_n 0 C dX2_tryFault_4 rfl ?_
  refine gf_X2_12 0 C dX2_tryFault_5 rfl rfl ?_
  obtain ⟨tr1, e2, hf⟩ := b1_e hf
  refine z_callVv (st := []) (ws2 := (FW (gk G) ad nr nf tr1 tf co pf hi sl sv ff)) [4, 5, 6, 1, 2, 3] C dX2_tryFault_8 w_X2_101 (c_X0_copyFrom (ad 4) (ad 5) (ad 6) (ad 1) (ad 2) (ad 3) tr tf nr nf e2) (by decide) rfl rfl rfl rfl rfl rfl rfl (Nat.le_of_ble_eq_true rfl) rfl ?_
  refine z_aload_n 0 C dX2_tryFault_11 rfl ?_
  refine gf_X2_16 0 C dX2_tryFault_12 rfl rfl ?_
  refine z_iload_n 1 C dX2_tryFault_15 rfl ?_
  refine z_iload_n 2 C dX2_tryFault_16 rfl ?_
  obtain ⟨tr3, e4, hf⟩ := b1_e hf
  refine z_callVv (st := []) (ws2 := (FW (gk G) ad nr nf tr3 tf co pf hi sl sv ff)) [4, 5, 6] C dX2_tryFault_17 w_X2_155 (c_X0_leaveOnlyFault (ad 4) (ad 5) (ad 6) a1 a2 tr1 tf e4) (by decide) rfl rfl rfl rfl rfl rfl rfl (Nat.le_of_ble_eq_true rfl) rfl ?_
  refine z_aload_n 0 C dX2_tryFault_20 rfl ?_
  refine z_iload_n 3 C dX2_tryFault_21 rfl ?_
  obtain ⟨v5, tr6, tf7, e8, hf⟩ := b3_e hf
  refine z_callVs (st := []) C dX2_tryFault_22 w_X2_105 (c_X2_firstBlow ad a3 nr nf tr3 tf co pf hi sl sv ff e8) (by decide) (FWf _ _ _ _ _ _ _ _ _ _ _ _ _ _ _ _ _ _ _ _ _ _) rfl rfl rfl rfl (Nat.le_of_ble_eq_true rfl) ?_
  cases hf
  exact z_iret C dX2_tryFault_25 F
set_option maxHeartbeats 400000 in
set_option maxRecDepth 100000 in
theorem c_X2_test {l : Launch} {D : va_G} {cs : ClassId × ClassId × ClassId} (ad : Nat → Nat) (a1 : Int32) (a2 : Int32) (a3 : Int32) (nr : zA) (nf : zA) (tr : zA) (tf : zA) (co : zA) (pf : zA) (hi : Nat → zA) (sl : Nat → zA) (sv : zA) (ff : zA) {v : Int32} {tr' : zA} {tf' : zA} (e : f_X2_test a1 a2 a3 nr tr tf = some (v, tr', tf')) : zM l D cs yX2_test cX2_test 4 (some .int) 6 [.ref (ad 0), .int a1, .int a2, .int a3] (FW cs ad nr nf tr tf co pf hi sl sv ff) v (FW cs ad nr nf tr' tf' co pf hi sl sv ff) := by
  refine zM_of (show plainName RX2 = true by decide +kernel) (Nat.le_of_ble_eq_true rfl) ?_
  rintro G rfl rfl rfl C F
  have hf := e
  clear e
  unfold f_X2_test at hf
  show zV G 4 0 [(0, .ref (ad 0)), (1, .int a1), (2, .int a2), (3, .int a3)] [] (FW (gk G) ad nr nf tr tf co pf hi sl sv ff)
  refine z_aload_n 0 C dX2_test_0 rfl ?_
  refine gf_X2_12 0 C dX2_test_1 rfl rfl ?_
  refine z_iload_n 1 C dX2_test_4 rfl ?_
  obtain ⟨v1, e2, hf⟩ := b1_e hf
  refine z_callV (st := []) (ws2 := (FW (gk G) ad nr nf tr tf co pf hi sl sv ff)) [1, 2, 3] C dX2_test_5 w_X2_72 (c_X0_isBoard (ad 1) (ad 2) (ad 3) a1 nr nf e2) (by decide) rfl rfl rfl rfl rfl rfl rfl (Nat.le_of_ble_eq_true rfl) rfl ?_
  refine z_if_ne (tgt := 13) C dX2_test_8 rfl (fun hc => ?_) (fun hc => ?_)
  · have hf := ifn hc hf
    refine z_iload_n 2 C dX2_test_13 rfl ?_
    refine z_iconst (v := 1) C dX2_test_14 kc_1 ?_
    refine z_icmp_lt (tgt := 32) C dX2_test_15 rfl (fun hc => ?_) (fun hc => ?_)
    · have hf := ifp hc hf
      refine z_bipush (v := -2) C dX2_test_32 kb_m2 ?_
      cases hf
      exact z_iret C dX2_test_34 F
    have hf := ifn hc hf
    refine z_iload_n 2 C dX2_test_18 rfl ?_
    refine z_sipush (v := 9999) C dX2_test_19 ks_9999 ?_
    refine z_icmp_gt (tgt := 32) C dX2_test_22 rfl (fun hc => ?_) (fun hc => ?_)
    · have hf := ifp hc hf
      refine z_bipush (v := -2) C dX2_test_32 kb_m2 ?_
      cases hf
      exact z_iret C dX2_test_34 F
    have hf := ifn hc hf
    refine z_iload_n 3 C dX2_test_25 rfl ?_
    obtain ⟨v3, e4, hf⟩ := b1_e hf
    refine z_callS (st := []) (ws2 := (FW (gk G) ad nr nf tr tf co pf hi sl sv ff)) [] C dX2_test_26 w_X2_98 (c_X2_isTrialQuestion a3 e4) (by decide) rfl rfl rfl  rfl rfl (Nat.le_of_ble_eq_true rfl) rfl ?_
    refine z_if_ne (tgt := 35) C dX2_test_29 rfl (fun hc => ?_) (fun hc => ?_)
    · have hf := ifn hc hf
      refine z_aload_n 0 C dX2_test_35 rfl ?_
      refine z_iload_n 1 C dX2_test_36 rfl ?_
      refine z_iload_n 2 C dX2_test_37 rfl ?_
      refine z_iload_n 3 C dX2_test_38 rfl ?_
      obtain ⟨v5, tr6, tf7, e8, hf⟩ := b3_e hf
      refine z_callVs (st := []) C dX2_test_39 w_X2_108 (c_X2_tryFault ad a1 a2 a3 nr nf tr tf co pf hi sl sv ff e8) (by decide) (FWf _ _ _ _ _ _ _ _ _ _ _ _ _ _ _ _ _ _ _ _ _ _) rfl rfl rfl rfl (Nat.le_of_ble_eq_true rfl) ?_
      cases hf
      exact z_iret C dX2_test_42 F
    have hf := ifp hc hf
    refine z_bipush (v := -2) C dX2_test_32 kb_m2 ?_
    cases hf
    exact z_iret C dX2_test_34 F
  have hf := ifp hc hf
  refine z_iconst (v := -1) C dX2_test_11 kc_m1 ?_
  cases hf
  exact z_iret C dX2_test_12 F
set_option maxHeartbeats 400000 in
set_option maxRecDepth 100000 in
theorem tb_X2_unfair_18 {G : GT} (ad : Nat → Nat) (nr : zA) (nf : zA) (co : zA) (pf : zA) (hi : Nat → zA) (sl : Nat → zA) (sv : zA) (ff : zA) {v : Int32} {tr' : zA} {tf' : zA} (C : zC G cX2_unfair 5 RX2 (some .int) 6) (F : zF G (some (.int v)) (FW (gk G) ad nr nf tr' tf' co pf hi sl sv ff)) : ∀ (n : Nat) (l1 : Int32) (l2 : Int32) (l3 : Int32) (tr : zA) (tf : zA), B_X2_unfair_18 n l1 l2 l3 nr tr tf = some (v, tr', tf') → zV G 5 18 [(0, .ref (ad 0)), (1, .int l1), (2, .int l2), (3, .int l3)] [] (FW (gk G) ad nr nf tr tf co pf hi sl sv ff) := by
  intro n
  induction n with
  | zero => intro _ _ _ _ _ hf; rw [B_X2_unfair_18] at hf; cases hf
  | succ n ih =>
    intro l1 l2 l3 tr tf hf
    rw [B_X2_unfair_18] at hf
    refine z_iload_n 3 C dX2_unfair_18 rfl ?_
    refine z_aload_n 0 C dX2_unfair_19 rfl ?_
    refine gf_X2_12 0 C dX2_unfair_20 rfl rfl ?_
    obtain ⟨v1, e2, hf⟩ := b1_e hf
    refine z_callV (st := [.int l3]) (ws2 := (FW (gk G) ad nr nf tr tf co pf hi sl sv ff)) [1, 2, 3] C dX2_unfair_23 w_X2_111 (c_X0_boards (ad 1) (ad 2) (ad 3) nr nf e2) (by decide) rfl rfl rfl rfl rfl rfl rfl (Nat.le_of_ble_eq_true rfl) rfl ?_
    refine z_icmp_ge (tgt := 72) C dX2_unfair_26 rfl (fun hc => ?_) (fun hc => ?_)
    · have hf := ifp hc hf
      refine z_iload_n 2 C dX2_unfair_72 rfl ?_
      cases hf
      exact z_iret C dX2_unfair_73 F
    have hf := ifn hc hf
    refine z_aload_n 0 C dX2_unfair_29 rfl ?_
    refine z_iload_n 3 C dX2_unfair_30 rfl ?_
    refine z_iload_n 1 C dX2_unfair_31 rfl ?_
    refine z_aload_n 0 C dX2_unfair_32 rfl ?_
    refine gf_X2_12 0 C dX2_unfair_33 rfl rfl ?_
    refine z_iload_n 3 C dX2_unfair_36 rfl ?_
    obtain ⟨v3, e4, hf⟩ := b1_e hf
    refine z_callV (st := [.int l1, .int l3, .ref (ad 0)]) (ws2 := (FW (gk G) ad nr nf tr tf co pf hi sl sv ff)) [1, 2, 3] C dX2_unfair_37 w_X2_114 (c_X0_rating (ad 1) (ad 2) (ad 3) l3 nr nf e4) (by decide) rfl rfl rfl rfl rfl rfl rfl (Nat.le_of_ble_eq_true rfl) rfl ?_
    refine z_imul C dX2_unfair_40 ?_
    refine z_iconst (v := 1) C dX2_unfair_41 kc_1 ?_
    obtain ⟨v5, tr6, tf7, e8, hf⟩ := b3_e hf
    refine z_callVs (st := []) C dX2_unfair_42 w_X2_108 (c_X2_tryFault ad l3 (l1 * v3) 1 nr nf tr tf co pf hi sl sv ff e8) (by decide) (FWf _ _ _ _ _ _ _ _ _ _ _ _ _ _ _ _ _ _ _ _ _ _) rfl rfl rfl rfl (Nat.le_of_ble_eq_true rfl) ?_
    refine z_istore (ls' := [(4, _), (0, _), (1, _), (2, _), (3, _)]) C dX2_unfair_45 (by decide) rfl ?_
    refine z_iload 0 C dX2_unfair_47 rfl ?_
    refine z_bipush (v := -6) C dX2_unfair_49 kb_m6 ?_
    refine z_icmp_eq (tgt := 66) C dX2_unfair_51 rfl (fun hc => ?_) (fun hc => ?_)
    · have hf := ifp hc hf
      obtain ⟨x9, e10, hf⟩ := nm_g hf
      refine z_iinc (ls' := [(3, _), (4, _), (0, _), (1, _), (2, _)]) 4 C dX2_unfair_66 rfl kc_1 e10 (by decide) rfl ?_
      refine z_goto (tgt := 18) C dX2_unfair_69 rfl ?_
      refine z_sub (ls' := [(0, .ref (ad 0)), (1, .int l1), (2, .int l2), (3, .int x9)]) [2, 3, 4, 0] rfl ?_
      exact ih _ _ _ _ _ hf
    have hf := ifn hc hf
    refine z_iload 0 C dX2_unfair_54 rfl ?_
    refine z_iload_n 4 C dX2_unfair_56 rfl ?_
    refine z_icmp_eq (tgt := 66) C dX2_unfair_57 rfl (fun hc => ?_) (fun hc => ?_)
    · have hf := ifp hc hf
      obtain ⟨x11, e12, hf⟩ := nm_g hf
      refine z_iinc (ls' := [(3, _), (4, _), (0, _), (1, _), (2, _)]) 4 C dX2_unfair_66 rfl kc_1 e12 (by decide) rfl ?_
      refine z_goto (tgt := 18) C dX2_unfair_69 rfl ?_
      refine z_sub (ls' := [(0, .ref (ad 0)), (1, .int l1), (2, .int l2), (3, .int x11)]) [2, 3, 4, 0] rfl ?_
      exact ih _ _ _ _ _ hf
    have hf := ifn hc hf
    refine z_iload_n 3 C dX2_unfair_60 rfl ?_
    refine z_iconst (v := 1) C dX2_unfair_61 kc_1 ?_
    refine z_iload_n 4 C dX2_unfair_62 rfl ?_
    refine z_ishl C dX2_unfair_63 ?_
    refine z_ior C dX2_unfair_64 ?_
    obtain ⟨x13, e14, hf⟩ := nm_g hf
    refine z_top e14 ?_
    refine z_istore_n (ls' := [(2, _), (4, _), (0, _), (1, _), (3, _)]) C dX2_unfair_65 (by decide) rfl ?_
    obtain ⟨x15, e16, hf⟩ := nm_g hf
    refine z_iinc (ls' := [(3, _), (2, _), (4, _), (0, _), (1, _)]) 4 C dX2_unfair_66 rfl kc_1 e16 (by decide) rfl ?_
    refine z_goto (tgt := 18) C dX2_unfair_69 rfl ?_
    refine z_sub (ls' := [(0, .ref (ad 0)), (1, .int l1), (2, .int x13), (3, .int x15)]) [3, 4, 1, 0] rfl ?_
    exact ih _ _ _ _ _ hf
set_option maxHeartbeats 400000 in
set_option maxRecDepth 100000 in
theorem c_X2_unfair {l : Launch} {D : va_G} {cs : ClassId × ClassId × ClassId} (ad : Nat → Nat) (a1 : Int32) (nr : zA) (nf : zA) (tr : zA) (tf : zA) (co : zA) (pf : zA) (hi : Nat → zA) (sl : Nat → zA) (sv : zA) (ff : zA) {v : Int32} {tr' : zA} {tf' : zA} (e : f_X2_unfair a1 nr tr tf = some (v, tr', tf')) : zM l D cs yX2_unfair cX2_unfair 5 (some .int) 6 [.ref (ad 0), .int a1] (FW cs ad nr nf tr tf co pf hi sl sv ff) v (FW cs ad nr nf tr' tf' co pf hi sl sv ff) := by
  refine zM_of (show plainName RX2 = true by decide +kernel) (Nat.le_of_ble_eq_true rfl) ?_
  rintro G rfl rfl rfl C F
  have hf := e
  clear e
  unfold f_X2_unfair at hf
  show zV G 5 0 [(0, .ref (ad 0)), (1, .int a1)] [] (FW (gk G) ad nr nf tr tf co pf hi sl sv ff)
  refine z_iload_n 1 C dX2_unfair_0 rfl ?_
  refine z_iconst (v := 2) C dX2_unfair_1 kc_2 ?_
  refine z_icmp_lt (tgt := 11) C dX2_unfair_2 rfl (fun hc => ?_) (fun hc => ?_)
  · have hf := ifp hc hf
    refine z_bipush (v := -2) C dX2_unfair_11 kb_m2 ?_
    cases hf
    exact z_iret C dX2_unfair_13 F
  have hf := ifn hc hf
  refine z_iload_n 1 C dX2_unfair_5 rfl ?_
  refine z_bipush (v := 20) C dX2_unfair_6 kb_20 ?_
  refine z_icmp_le (tgt := 14) C dX2_unfair_8 rfl (fun hc => ?_) (fun hc => ?_)
  · have hf := ifp hc hf
    refine z_iconst (v := 0) C dX2_unfair_14 kc_0 ?_
    refine z_istore_n (ls' := [(2, _), (0, _), (1, _)]) C dX2_unfair_15 (by decide) rfl ?_
    refine z_iconst (v := 0) C dX2_unfair_16 kc_0 ?_
    refine z_istore_n (ls' := [(3, _), (2, _), (0, _), (1, _)]) C dX2_unfair_17 (by decide) rfl ?_
    refine z_sub (ls' := [(0, .ref (ad 0)), (1, .int a1), (2, .int 0), (3, .int 0)]) [2, 3, 1, 0] rfl ?_
    exact tb_X2_unfair_18 ad nr nf co pf hi sl sv ff C F _ _ _ _ _ _ hf
  have hf := ifn hc hf
  refine z_bipush (v := -2) C dX2_unfair_11 kb_m2 ?_
  cases hf
  exact z_iret C dX2_unfair_13 F
set_option maxHeartbeats 400000 in
set_option maxRecDepth 100000 in
theorem c_X2_ifOpen {l : Launch} {D : va_G} {cs : ClassId × ClassId × ClassId} (ad : Nat → Nat) (a1 : Int32) (nr : zA) (nf : zA) (tr : zA) (tf : zA) (co : zA) (pf : zA) (hi : Nat → zA) (sl : Nat → zA) (sv : zA) (ff : zA) {v : Int32}  (e : f_X2_ifOpen a1 nr = some v) : zM l D cs yX2_ifOpen cX2_ifOpen 2 (some .int) 2 [.ref (ad 0), .int a1] (FW cs ad nr nf tr tf co pf hi sl sv ff) v (FW cs ad nr nf tr tf co pf hi sl sv ff) := by
  refine zM_of (show plainName RX2 = true by decide +kernel) (Nat.le_of_ble_eq_true rfl) ?_
  rintro G rfl rfl rfl C F
  have hf := e
  clear e
  unfold f_X2_ifOpen at hf
  show zV G 2 0 [(0, .ref (ad 0)), (1, .int a1)] [] (FW (gk G) ad nr nf tr tf co pf hi sl sv ff)
  refine z_aload_n 0 C dX2_ifOpen_0 rfl ?_
  refine gf_X2_12 0 C dX2_ifOpen_1 rfl rfl ?_
  refine z_iload_n 1 C dX2_ifOpen_4 rfl ?_
  obtain ⟨v1, e2, hf⟩ := b1_e hf
  refine z_callV (st := []) (ws2 := (FW (gk G) ad nr nf tr tf co pf hi sl sv ff)) [1, 2, 3] C dX2_ifOpen_5 w_X2_72 (c_X0_isBoard (ad 1) (ad 2) (ad 3) a1 nr nf e2) (by decide) rfl rfl rfl rfl rfl rfl rfl (Nat.le_of_ble_eq_true rfl) rfl ?_
  refine z_if_ne (tgt := 13) C dX2_ifOpen_8 rfl (fun hc => ?_) (fun hc => ?_)
  · have hf := ifn hc hf
    refine z_aload_n 0 C dX2_ifOpen_13 rfl ?_
    refine gf_X2_12 0 C dX2_ifOpen_14 rfl rfl ?_
    refine z_aload_n 0 C dX2_ifOpen_17 rfl ?_
    refine gf_X2_12 0 C dX2_ifOpen_18 rfl rfl ?_
    refine z_iload_n 1 C dX2_ifOpen_21 rfl ?_
    obtain ⟨v3, e4, hf⟩ := b1_e hf
    refine z_callV (st := [.ref (ad 1)]) (ws2 := (FW (gk G) ad nr nf tr tf co pf hi sl sv ff)) [1, 2, 3] C dX2_ifOpen_22 w_X2_85 (c_X0_fedThrough (ad 1) (ad 2) (ad 3) a1 nr nf e4) (by decide) rfl rfl rfl rfl rfl rfl rfl (Nat.le_of_ble_eq_true rfl) rfl ?_
    obtain ⟨v5, e6, hf⟩ := b1_e hf
    refine z_callV (st := []) (ws2 := (FW (gk G) ad nr nf tr tf co pf hi sl sv ff)) [1, 2, 3] C dX2_ifOpen_25 w_X2_117 (c_X0_workingLoadsAt (ad 1) (ad 2) (ad 3) v3 nr nf e6) (by decide) rfl rfl rfl rfl rfl rfl rfl (Nat.le_of_ble_eq_true rfl) rfl ?_
    cases hf
    exact z_iret C dX2_ifOpen_28 F
  have hf := ifp hc hf
  refine z_iconst (v := -1) C dX2_ifOpen_11 kc_m1 ?_
  cases hf
  exact z_iret C dX2_ifOpen_12 F
set_option maxHeartbeats 400000 in
set_option maxRecDepth 100000 in
theorem c_X2_undo {l : Launch} {D : va_G} {cs : ClassId × ClassId × ClassId} (ad : Nat → Nat)  (nr : zA) (nf : zA) (tr : zA) (tf : zA) (co : zA) (pf : zA) (hi : Nat → zA) (sl : Nat → zA) (sv : zA) (ff : zA) {v : Int32} {nr' : zA} {ff' : zA} (e : f_X2_undo nr hi ff = some (v, nr', ff')) : zM l D cs yX2_undo cX2_undo 1 (some .int) 2 [.ref (ad 0)] (FW cs ad nr nf tr tf co pf hi sl sv ff) v (FW cs ad nr' nf tr tf co pf hi sl sv ff') := by
  refine zM_of (show plainName RX2 = true by decide +kernel) (Nat.le_of_ble_eq_true rfl) ?_
  rintro G rfl rfl rfl C F
  have hf := e
  clear e
  unfold f_X2_undo at hf
  show zV G 1 0 [(0, .ref (ad 0))] [] (FW (gk G) ad nr nf tr tf co pf hi sl sv ff)
  refine z_aload_n 0 C dX2_undo_0 rfl ?_
  refine gf_X2_42 0 C dX2_undo_1 rfl rfl ?_
  refine z_if_ne (tgt := 10) C dX2_undo_4 rfl (fun hc => ?_) (fun hc => ?_)
  · have hf := ifn hc hf
    refine z_aload_n 0 C dX2_undo_10 rfl ?_
    refine z_dup C dX2_undo_11 rfl ?_
    refine gf_X2_42 0 C dX2_undo_12 rfl rfl ?_
    refine z_iconst (v := 1) C dX2_undo_15 kc_1 ?_
    refine z_isub C dX2_undo_16 ?_
    obtain ⟨ff1, e2, hf⟩ := nm_g hf
    refine pf_X2_42 (ws' := (FW (gk G) ad nr nf tr tf co pf hi sl sv ff1)) 0 C dX2_undo_17 rfl (Nat.le_of_ble_eq_true rfl) (by subst e2; rfl) ?_
    refine z_aload_n 0 C dX2_undo_20 rfl ?_
    refine z_aload_n 0 C dX2_undo_21 rfl ?_
    refine gf_X2_38 0 C dX2_undo_22 rfl rfl ?_
    refine z_bipush (v := 7) C dX2_undo_25 kb_7 ?_
    refine z_iadd C dX2_undo_27 ?_
    refine z_iconst (v := 1) C dX2_undo_28 kc_1 ?_
    refine z_isub C dX2_undo_29 ?_
    refine z_bipush (v := 7) C dX2_undo_30 kb_7 ?_
    refine z_irem C dX2_undo_32 (by decide) ?_
    obtain ⟨ff3, e4, hf⟩ := nm_g hf
    refine pf_X2_38 (ws' := (FW (gk G) ad nr nf tr tf co pf hi sl sv ff3)) 0 C dX2_undo_33 rfl (Nat.le_of_ble_eq_true rfl) (by subst e4; rfl) ?_
    refine z_aload_n 0 C dX2_undo_36 rfl ?_
    refine gf_X2_12 0 C dX2_undo_37 rfl rfl ?_
    refine z_aload_n 0 C dX2_undo_40 rfl ?_
    refine gf_X2_28 0 C dX2_undo_41 rfl rfl ?_
    refine z_aload_n 0 C dX2_undo_44 rfl ?_
    refine gf_X2_38 0 C dX2_undo_45 rfl rfl ?_
    obtain ⟨k5, h6, hf⟩ := gd_e hf
    refine z_aald 9 C dX2_undo_48 h6 rfl ?_
    rcases zlt7 (zin_lt h6) with rfl | rfl | rfl | rfl | rfl | rfl | rfl
    · refine z_st (st' := [.ref (ad 10), .ref (ad 1)]) rfl ?_
      obtain ⟨nr7, e8, hf⟩ := b1_e hf
      refine z_callVv (st := []) (ws2 := (FW (gk G) ad nr7 nf tr tf co pf hi sl sv ff3)) [1, 2, 3, 10] C dX2_undo_49 w_X2_140 (c_X0_readFrom (ad 1) (ad 2) (ad 3) (ad 10) nr nf (hi 0) e8) (by decide) rfl rfl rfl rfl rfl rfl rfl (Nat.le_of_ble_eq_true rfl) rfl ?_
      refine z_aload_n 0 C dX2_undo_52 rfl ?_
      refine gf_X2_42 0 C dX2_undo_53 rfl rfl ?_
      cases hf
      exact z_iret C dX2_undo_56 F
    · refine z_st (st' := [.ref (ad 11), .ref (ad 1)]) rfl ?_
      obtain ⟨nr7, e8, hf⟩ := b1_e hf
      refine z_callVv (st := []) (ws2 := (FW (gk G) ad nr7 nf tr tf co pf hi sl sv ff3)) [1, 2, 3, 11] C dX2_undo_49 w_X2_140 (c_X0_readFrom (ad 1) (ad 2) (ad 3) (ad 11) nr nf (hi 1) e8) (by decide) rfl rfl rfl rfl rfl rfl rfl (Nat.le_of_ble_eq_true rfl) rfl ?_
      refine z_aload_n 0 C dX2_undo_52 rfl ?_
      refine gf_X2_42 0 C dX2_undo_53 rfl rfl ?_
      cases hf
      exact z_iret C dX2_undo_56 F
    · refine z_st (st' := [.ref (ad 12), .ref (ad 1)]) rfl ?_
      obtain ⟨nr7, e8, hf⟩ := b1_e hf
      refine z_callVv (st := []) (ws2 := (FW (gk G) ad nr7 nf tr tf co pf hi sl sv ff3)) [1, 2, 3, 12] C dX2_undo_49 w_X2_140 (c_X0_readFrom (ad 1) (ad 2) (ad 3) (ad 12) nr nf (hi 2) e8) (by decide) rfl rfl rfl rfl rfl rfl rfl (Nat.le_of_ble_eq_true rfl) rfl ?_
      refine z_aload_n 0 C dX2_undo_52 rfl ?_
      refine gf_X2_42 0 C dX2_undo_53 rfl rfl ?_
      cases hf
      exact z_iret C dX2_undo_56 F
    · refine z_st (st' := [.ref (ad 13), .ref (ad 1)]) rfl ?_
      obtain ⟨nr7, e8, hf⟩ := b1_e hf
      refine z_callVv (st := []) (ws2 := (FW (gk G) ad nr7 nf tr tf co pf hi sl sv ff3)) [1, 2, 3, 13] C dX2_undo_49 w_X2_140 (c_X0_readFrom (ad 1) (ad 2) (ad 3) (ad 13) nr nf (hi 3) e8) (by decide) rfl rfl rfl rfl rfl rfl rfl (Nat.le_of_ble_eq_true rfl) rfl ?_
      refine z_aload_n 0 C dX2_undo_52 rfl ?_
      refine gf_X2_42 0 C dX2_undo_53 rfl rfl ?_
      cases hf
      exact z_iret C dX2_undo_56 F
    · refine z_st (st' := [.ref (ad 14), .ref (ad 1)]) rfl ?_
      obtain ⟨nr7, e8, hf⟩ := b1_e hf
      refine z_callVv (st := []) (ws2 := (FW (gk G) ad nr7 nf tr tf co pf hi sl sv ff3)) [1, 2, 3, 14] C dX2_undo_49 w_X2_140 (c_X0_readFrom (ad 1) (ad 2) (ad 3) (ad 14) nr nf (hi 4) e8) (by decide) rfl rfl rfl rfl rfl rfl rfl (Nat.le_of_ble_eq_true rfl) rfl ?_
      refine z_aload_n 0 C dX2_undo_52 rfl ?_
      refine gf_X2_42 0 C dX2_undo_53 rfl rfl ?_
      cases hf
      exact z_iret C dX2_undo_56 F
    · refine z_st (st' := [.ref (ad 15), .ref (ad 1)]) rfl ?_
      obtain ⟨nr7, e8, hf⟩ := b1_e hf
      refine z_callVv (st := []) (ws2 := (FW (gk G) ad nr7 nf tr tf co pf hi sl sv ff3)) [1, 2, 3, 15] C dX2_undo_49 w_X2_140 (c_X0_readFrom (ad 1) (ad 2) (ad 3) (ad 15) nr nf (hi 5) e8) (by decide) rfl rfl rfl rfl rfl rfl rfl (Nat.le_of_ble_eq_true rfl) rfl ?_
      refine z_aload_n 0 C dX2_undo_52 rfl ?_
      refine gf_X2_42 0 C dX2_undo_53 rfl rfl ?_
      cases hf
      exact z_iret C dX2_undo_56 F
    · refine z_st (st' := [.ref (ad 16), .ref (ad 1)]) rfl ?_
      obtain ⟨nr7, e8, hf⟩ := b1_e hf
      refine z_callVv (st := []) (ws2 := (FW (gk G) ad nr7 nf tr tf co pf hi sl sv ff3)) [1, 2, 3, 16] C dX2_undo_49 w_X2_140 (c_X0_readFrom (ad 1) (ad 2) (ad 3) (ad 16) nr nf (hi 6) e8) (by decide) rfl rfl rfl rfl rfl rfl rfl (Nat.le_of_ble_eq_true rfl) rfl ?_
      refine z_aload_n 0 C dX2_undo_52 rfl ?_
      refine gf_X2_42 0 C dX2_undo_53 rfl rfl ?_
      cases hf
      exact z_iret C dX2_undo_56 F
  have hf := ifp hc hf
  refine z_bipush (v := -5) C dX2_undo_7 kb_m5 ?_
  cases hf
  exact z_iret C dX2_undo_9 F
set_option maxHeartbeats 400000 in
set_option maxRecDepth 100000 in
theorem c_X2_isSlot {l : Launch} {D : va_G} {cs : ClassId × ClassId × ClassId}  (a0 : Int32)  {v : Int32}  (e : f_X2_isSlot a0 = some v) : zM l D cs yX2_isSlot cX2_isSlot 1 (some .boolean) 0 [.int a0] ([] : va_W) v ([] : va_W) := by
  refine zM_of (show plainName RX2 = true by decide +kernel) (Nat.le_of_ble_eq_true rfl) ?_
  rintro G rfl rfl rfl C F
  have hf := e
  clear e
  unfold f_X2_isSlot at hf
  show zV G 1 0 [(0, .int a0)] [] ([] : va_W)
  refine z_iload_n 0 C dX2_isSlot_0 rfl ?_
  refine z_if_lt (tgt := 13) C dX2_isSlot_1 rfl (fun hc => ?_) (fun hc => ?_)
  · have hf := ifp hc hf
    refine z_iconst (v := 0) C dX2_isSlot_13 kc_0 ?_
    cases hf
    exact z_zret C dX2_isSlot_14 rfl F
  have hf := ifn hc hf
  refine z_iload_n 0 C dX2_isSlot_4 rfl ?_
  refine z_iconst (v := 2) C dX2_isSlot_5 kc_2 ?_
  refine z_icmp_ge (tgt := 13) C dX2_isSlot_6 rfl (fun hc => ?_) (fun hc => ?_)
  · have hf := ifp hc hf
    refine z_iconst (v := 0) C dX2_isSlot_13 kc_0 ?_
    cases hf
    exact z_zret C dX2_isSlot_14 rfl F
  have hf := ifn hc hf
  refine z_iconst (v := 1) C dX2_isSlot_9 kc_1 ?_
  refine z_goto (tgt := 14) C dX2_isSlot_10 rfl ?_
  cases hf
  exact z_zret C dX2_isSlot_14 rfl F
set_option maxHeartbeats 400000 in
set_option maxRecDepth 100000 in
theorem c_X2_save {l : Launch} {D : va_G} {cs : ClassId × ClassId × ClassId} (ad : Nat → Nat) (a1 : Int32) (nr : zA) (nf : zA) (tr : zA) (tf : zA) (co : zA) (pf : zA) (hi : Nat → zA) (sl : Nat → zA) (sv : zA) (ff : zA) {v : Int32} {sl' : Nat → zA} {sv' : zA} (e : f_X2_save a1 nr sl sv = some (v, sl', sv')) : zM l D cs yX2_save cX2_save 2 (some .int) 2 [.ref (ad 0), .int a1] (FW cs ad nr nf tr tf co pf hi sl sv ff) v (FW cs ad nr nf tr tf co pf hi sl' sv' ff) := by
  refine zM_of (show plainName RX2 = true by decide +kernel) (Nat.le_of_ble_eq_true rfl) ?_
  rintro G rfl rfl rfl C F
  have hf := e
  clear e
  unfold f_X2_save at hf
  show zV G 2 0 [(0, .ref (ad 0)), (1, .int a1)] [] (FW (gk G) ad nr nf tr tf co pf hi sl sv ff)
  refine z_iload_n 1 C dX2_save_0 rfl ?_
  obtain ⟨v1, e2, hf⟩ := b1_e hf
  refine z_callS (st := []) (ws2 := (FW (gk G) ad nr nf tr tf co pf hi sl sv ff)) [] C dX2_save_1 w_X2_144 (c_X2_isSlot a1 e2) (by decide) rfl rfl rfl  rfl rfl (Nat.le_of_ble_eq_true rfl) rfl ?_
  refine z_if_ne (tgt := 10) C dX2_save_4 rfl (fun hc => ?_) (fun hc => ?_)
  · have hf := ifn hc hf
    refine z_aload_n 0 C dX2_save_10 rfl ?_
    refine gf_X2_12 0 C dX2_save_11 rfl rfl ?_
    refine z_aload_n 0 C dX2_save_14 rfl ?_
    refine gf_X2_31 0 C dX2_save_15 rfl rfl ?_
    refine z_iload_n 1 C dX2_save_18 rfl ?_
    obtain ⟨k3, h4, hf⟩ := gd_e hf
    refine z_aald 17 C dX2_save_19 h4 rfl ?_
    rcases zlt2 (zin_lt h4) with rfl | rfl
    · refine z_st (st' := [.ref (ad 18), .ref (ad 1)]) rfl ?_
      obtain ⟨sl5, e6, hf⟩ := b1_e hf
      refine z_callVv (st := []) (ws2 := (FW (gk G) ad nr nf tr tf co pf hi (va_up sl 0 sl5) sv ff)) [1, 2, 3, 18] C dX2_save_20 w_X2_147 (c_X0_writeTo (ad 1) (ad 2) (ad 3) (ad 18) nr nf (sl 0) e6) (by decide) rfl rfl rfl rfl rfl rfl rfl (Nat.le_of_ble_eq_true rfl) rfl ?_
      refine z_aload_n 0 C dX2_save_23 rfl ?_
      refine gf_X2_34 0 C dX2_save_24 rfl rfl ?_
      refine z_iload_n 1 C dX2_save_27 rfl ?_
      refine z_iconst (v := 1) C dX2_save_28 kc_1 ?_
      obtain ⟨sv7, e8, hf⟩ := nm_g hf
      refine z_zast (ws' := (FW (gk G) ad nr nf tr tf co pf hi (va_up sl 0 sl5) sv7 ff)) 20 C dX2_save_29 h4 rfl e8 rfl ?_
      refine z_aload_n 0 C dX2_save_30 rfl ?_
      refine gf_X2_12 0 C dX2_save_31 rfl rfl ?_
      obtain ⟨v9, e10, hf⟩ := b1_e hf
      refine z_callV (st := []) (ws2 := (FW (gk G) ad nr nf tr tf co pf hi (va_up sl 0 sl5) sv7 ff)) [1, 2, 3] C dX2_save_34 w_X2_111 (c_X0_boards (ad 1) (ad 2) (ad 3) nr nf e10) (by decide) rfl rfl rfl rfl rfl rfl rfl (Nat.le_of_ble_eq_true rfl) rfl ?_
      cases hf
      exact z_iret C dX2_save_37 F
    · refine z_st (st' := [.ref (ad 19), .ref (ad 1)]) rfl ?_
      obtain ⟨sl5, e6, hf⟩ := b1_e hf
      refine z_callVv (st := []) (ws2 := (FW (gk G) ad nr nf tr tf co pf hi (va_up sl 1 sl5) sv ff)) [1, 2, 3, 19] C dX2_save_20 w_X2_147 (c_X0_writeTo (ad 1) (ad 2) (ad 3) (ad 19) nr nf (sl 1) e6) (by decide) rfl rfl rfl rfl rfl rfl rfl (Nat.le_of_ble_eq_true rfl) rfl ?_
      refine z_aload_n 0 C dX2_save_23 rfl ?_
      refine gf_X2_34 0 C dX2_save_24 rfl rfl ?_
      refine z_iload_n 1 C dX2_save_27 rfl ?_
      refine z_iconst (v := 1) C dX2_save_28 kc_1 ?_
      obtain ⟨sv7, e8, hf⟩ := nm_g hf
      refine z_zast (ws' := (FW (gk G) ad nr nf tr tf co pf hi (va_up sl 1 sl5) sv7 ff)) 20 C dX2_save_29 h4 rfl e8 rfl ?_
      refine z_aload_n 0 C dX2_save_30 rfl ?_
      refine gf_X2_12 0 C dX2_save_31 rfl rfl ?_
      obtain ⟨v9, e10, hf⟩ := b1_e hf
      refine z_callV (st := []) (ws2 := (FW (gk G) ad nr nf tr tf co pf hi (va_up sl 1 sl5) sv7 ff)) [1, 2, 3] C dX2_save_34 w_X2_111 (c_X0_boards (ad 1) (ad 2) (ad 3) nr nf e10) (by decide) rfl rfl rfl rfl rfl rfl rfl (Nat.le_of_ble_eq_true rfl) rfl ?_
      cases hf
      exact z_iret C dX2_save_37 F
  have hf := ifp hc hf
  refine z_bipush (v := -2) C dX2_save_7 kb_m2 ?_
  cases hf
  exact z_iret C dX2_save_9 F
set_option maxHeartbeats 400000 in
set_option maxRecDepth 100000 in
theorem c_X2_restore {l : Launch} {D : va_G} {cs : ClassId × ClassId × ClassId} (ad : Nat → Nat) (a1 : Int32) (nr : zA) (nf : zA) (tr : zA) (tf : zA) (co : zA) (pf : zA) (hi : Nat → zA) (sl : Nat → zA) (sv : zA) (ff : zA) {v : Int32} {nr' : zA} {hi' : Nat → zA} {ff' : zA} (e : f_X2_restore a1 nr hi sl sv ff = some (v, nr', hi', ff')) : zM l D cs yX2_restore cX2_restore 2 (some .int) 3 [.ref (ad 0), .int a1] (FW cs ad nr nf tr tf co pf hi sl sv ff) v (FW cs ad nr' nf tr tf co pf hi' sl sv ff') := by
  refine zM_of (show plainName RX2 = true by decide +kernel) (Nat.le_of_ble_eq_true rfl) ?_
  rintro G rfl rfl rfl C F
  have hf := e
  clear e
  unfold f_X2_restore at hf
  show zV G 2 0 [(0, .ref (ad 0)), (1, .int a1)] [] (FW (gk G) ad nr nf tr tf co pf hi sl sv ff)
  refine z_iload_n 1 C dX2_restore_0 rfl ?_
  obtain ⟨v1, e2, hf⟩ := b1_e hf
  refine z_callS (st := []) (ws2 := (FW (gk G) ad nr nf tr tf co pf hi sl sv ff)) [] C dX2_restore_1 w_X2_144 (c_X2_isSlot a1 e2) (by decide) rfl rfl rfl  rfl rfl (Nat.le_of_ble_eq_true rfl) rfl ?_
  refine z_if_ne (tgt := 10) C dX2_restore_4 rfl (fun hc => ?_) (fun hc => ?_)
  · have hf := ifn hc hf
    refine z_aload_n 0 C dX2_restore_10 rfl ?_
    refine gf_X2_34 0 C dX2_restore_11 rfl rfl ?_
    refine z_iload_n 1 C dX2_restore_14 rfl ?_
    obtain ⟨k3, h4, hf⟩ := gd_e hf
    refine z_zald 20 C dX2_restore_15 h4 rfl ?_
    refine z_if_ne (tgt := 22) C dX2_restore_16 rfl (fun hc => ?_) (fun hc => ?_)
    · have hf := ifn hc hf
      refine z_aload_n 0 C dX2_restore_22 rfl ?_
      obtain ⟨hi5, e6, hf⟩ := b1_e hf
      refine z_callVvs (st := []) C dX2_restore_23 w_X2_45 (c_X2_noteState ad nr nf tr tf co pf hi sl sv ff e6) (by decide) (FWf _ _ _ _ _ _ _ _ _ _ _ _ _ _ _ _ _ _ _ _ _ _) rfl rfl rfl rfl (Nat.le_of_ble_eq_true rfl) ?_
      refine z_aload_n 0 C dX2_restore_26 rfl ?_
      refine gf_X2_12 0 C dX2_restore_27 rfl rfl ?_
      refine z_aload_n 0 C dX2_restore_30 rfl ?_
      refine gf_X2_31 0 C dX2_restore_31 rfl rfl ?_
      refine z_iload_n 1 C dX2_restore_34 rfl ?_
      refine z_aald 17 C dX2_restore_35 h4 rfl ?_
      rcases zlt2 (zin_lt h4) with rfl | rfl
      · refine z_st (st' := [.ref (ad 18), .ref (ad 1)]) rfl ?_
        obtain ⟨nr7, e8, hf⟩ := b1_e hf
        refine z_callVv (st := []) (ws2 := (FW (gk G) ad nr7 nf tr tf co pf hi5 sl sv ff)) [1, 2, 3, 18] C dX2_restore_36 w_X2_140 (c_X0_readFrom (ad 1) (ad 2) (ad 3) (ad 18) nr nf (sl 0) e8) (by decide) rfl rfl rfl rfl rfl rfl rfl (Nat.le_of_ble_eq_true rfl) rfl ?_
        refine z_aload_n 0 C dX2_restore_39 rfl ?_
        refine z_aload_n 0 C dX2_restore_40 rfl ?_
        refine gf_X2_12 0 C dX2_restore_41 rfl rfl ?_
        obtain ⟨v9, e10, hf⟩ := b1_e hf
        refine z_callV (st := [.ref (ad 0)]) (ws2 := (FW (gk G) ad nr7 nf tr tf co pf hi5 sl sv ff)) [1, 2, 3] C dX2_restore_44 w_X2_111 (c_X0_boards (ad 1) (ad 2) (ad 3) nr7 nf e10) (by decide) rfl rfl rfl rfl rfl rfl rfl (Nat.le_of_ble_eq_true rfl) rfl ?_
        obtain ⟨v11, ff12, e13, hf⟩ := b2_e hf
        refine z_callVs (st := []) C dX2_restore_47 w_X2_52 (c_X2_keepUnlessError ad v9 nr7 nf tr tf co pf hi5 sl sv ff e13) (by decide) (FWf _ _ _ _ _ _ _ _ _ _ _ _ _ _ _ _ _ _ _ _ _ _) rfl rfl rfl rfl (Nat.le_of_ble_eq_true rfl) ?_
        cases hf
        exact z_iret C dX2_restore_50 F
      · refine z_st (st' := [.ref (ad 19), .ref (ad 1)]) rfl ?_
        obtain ⟨nr7, e8, hf⟩ := b1_e hf
        refine z_callVv (st := []) (ws2 := (FW (gk G) ad nr7 nf tr tf co pf hi5 sl sv ff)) [1, 2, 3, 19] C dX2_restore_36 w_X2_140 (c_X0_readFrom (ad 1) (ad 2) (ad 3) (ad 19) nr nf (sl 1) e8) (by decide) rfl rfl rfl rfl rfl rfl rfl (Nat.le_of_ble_eq_true rfl) rfl ?_
        refine z_aload_n 0 C dX2_restore_39 rfl ?_
        refine z_aload_n 0 C dX2_restore_40 rfl ?_
        refine gf_X2_12 0 C dX2_restore_41 rfl rfl ?_
        obtain ⟨v9, e10, hf⟩ := b1_e hf
        refine z_callV (st := [.ref (ad 0)]) (ws2 := (FW (gk G) ad nr7 nf tr tf co pf hi5 sl sv ff)) [1, 2, 3] C dX2_restore_44 w_X2_111 (c_X0_boards (ad 1) (ad 2) (ad 3) nr7 nf e10) (by decide) rfl rfl rfl rfl rfl rfl rfl (Nat.le_of_ble_eq_true rfl) rfl ?_
        obtain ⟨v11, ff12, e13, hf⟩ := b2_e hf
        refine z_callVs (st := []) C dX2_restore_47 w_X2_52 (c_X2_keepUnlessError ad v9 nr7 nf tr tf co pf hi5 sl sv ff e13) (by decide) (FWf _ _ _ _ _ _ _ _ _ _ _ _ _ _ _ _ _ _ _ _ _ _) rfl rfl rfl rfl (Nat.le_of_ble_eq_true rfl) ?_
        cases hf
        exact z_iret C dX2_restore_50 F
    have hf := ifp hc hf
    refine z_bipush (v := -5) C dX2_restore_19 kb_m5 ?_
    cases hf
    exact z_iret C dX2_restore_21 F
  have hf := ifp hc hf
  refine z_bipush (v := -2) C dX2_restore_7 kb_m2 ?_
  cases hf
  exact z_iret C dX2_restore_9 F
