set_option maxHeartbeats 400000 in
set_option maxRecDepth 100000 in
theorem c_X0_copyFrom {l : Launch} {D : va_G} {cs : ClassId × ClassId × ClassId} (h : Nat) (r : Nat) (fl : Nat) (h2 : Nat) (r2 : Nat) (fl2 : Nat)  (row : zA) (flow : zA) (row2 : zA) (flow2 : zA) {row' : zA} (e : f_X0_copyFrom row row2 = some row') : zMv l D cs yX0_copyFrom cX0_copyFrom 2 none 1 [.ref h, .ref h2] (HW cs h r fl row flow ++ HW cs h2 r2 fl2 row2 flow2) (HW cs h r fl row' flow ++ HW cs h2 r2 fl2 row2 flow2) := by
  refine zMv_of (show plainName RX0 = true by decide +kernel) (Nat.le_of_ble_eq_true rfl) ?_
  rintro G rfl rfl rfl C F
  have hf := e
  clear e
  unfold f_X0_copyFrom at hf
  show zV G 2 0 [(0, .ref h), (1, .ref h2)] [] (HW (gk G) h r fl row flow ++ HW (gk G) h2 r2 fl2 row2 flow2)
  refine z_aload_n 1 C dX0_copyFrom_0 rfl ?_
  refine gf_X0_11 3 C dX0_copyFrom_1 rfl rfl ?_
  refine z_iconst (v := 0) C dX0_copyFrom_4 kc_0 ?_
  refine z_aload_n 0 C dX0_copyFrom_5 rfl ?_
  refine gf_X0_11 0 C dX0_copyFrom_6 rfl rfl ?_
  refine z_iconst (v := 0) C dX0_copyFrom_9 kc_0 ?_
  refine z_bipush (v := 125) C dX0_copyFrom_10 kb_125 ?_
  obtain ⟨row1, e2, hf⟩ := nm_g hf
  refine z_copy (ws2 := (HW (gk G) h r fl row1 flow ++ HW (gk G) h2 r2 fl2 row2 flow2)) 4 1 C dX0_copyFrom_12 wc_X0_18 (by decide) (Nat.le_of_ble_eq_true rfl) rfl rfl cp_0 cp_0 cp_125 (by decide) (by decide) e2 rfl ?_
  cases hf
  exact z_vret C dX0_copyFrom_15 F
set_option maxHeartbeats 400000 in
set_option maxRecDepth 100000 in
theorem c_X0_readFrom {l : Launch} {D : va_G} {cs : ClassId × ClassId × ClassId} (h : Nat) (r : Nat) (fl : Nat) (kp : Nat)  (row : zA) (flow : zA) (kept : zA) {row' : zA} (e : f_X0_readFrom row kept = some row') : zMv l D cs yX0_readFrom cX0_readFrom 2 none 1 [.ref h, .ref kp] (HW cs h r fl row flow ++ [(kp, aI cs 125 kept)]) (HW cs h r fl row' flow ++ [(kp, aI cs 125 kept)]) := by
  refine zMv_of (show plainName RX0 = true by decide +kernel) (Nat.le_of_ble_eq_true rfl) ?_
  rintro G rfl rfl rfl C F
  have hf := e
  clear e
  unfold f_X0_readFrom at hf
  show zV G 2 0 [(0, .ref h), (1, .ref kp)] [] (HW (gk G) h r fl row flow ++ [(kp, aI (gk G) 125 kept)])
  refine z_aload_n 1 C dX0_readFrom_0 rfl ?_
  refine z_alen (v := 125) 3 C dX0_readFrom_1 rfl kn_125 ?_
  refine z_bipush (v := 125) C dX0_readFrom_2 kb_125 ?_
  refine z_icmp_lt (tgt := 19) C dX0_readFrom_4 rfl (fun hc => ?_) (fun hc => ?_)
  · rw [if_pos hc] at hf
    cases hf
    exact z_vret C dX0_readFrom_19 F
  rw [if_neg hc] at hf
  refine z_aload_n 1 C dX0_readFrom_7 rfl ?_
  refine z_iconst (v := 0) C dX0_readFrom_8 kc_0 ?_
  refine z_aload_n 0 C dX0_readFrom_9 rfl ?_
  refine gf_X0_11 0 C dX0_readFrom_10 rfl rfl ?_
  refine z_iconst (v := 0) C dX0_readFrom_13 kc_0 ?_
  refine z_bipush (v := 125) C dX0_readFrom_14 kb_125 ?_
  obtain ⟨row1, e2, hf⟩ := nm_g hf
  refine z_copy (ws2 := (HW (gk G) h r fl row1 flow ++ [(kp, aI (gk G) 125 kept)])) 3 1 C dX0_readFrom_16 wc_X0_18 (by decide) (Nat.le_of_ble_eq_true rfl) rfl rfl cp_0 cp_0 cp_125 (by decide) (by decide) e2 rfl ?_
  cases hf
  exact z_vret C dX0_readFrom_19 F
set_option maxHeartbeats 400000 in
set_option maxRecDepth 100000 in
theorem c_X0_writeTo {l : Launch} {D : va_G} {cs : ClassId × ClassId × ClassId} (h : Nat) (r : Nat) (fl : Nat) (kp : Nat)  (row : zA) (flow : zA) (kept : zA) {kept' : zA} (e : f_X0_writeTo row kept = some kept') : zMv l D cs yX0_writeTo cX0_writeTo 2 none 1 [.ref h, .ref kp] (HW cs h r fl row flow ++ [(kp, aI cs 125 kept)]) (HW cs h r fl row flow ++ [(kp, aI cs 125 kept')]) := by
  refine zMv_of (show plainName RX0 = true by decide +kernel) (Nat.le_of_ble_eq_true rfl) ?_
  rintro G rfl rfl rfl C F
  have hf := e
  clear e
  unfold f_X0_writeTo at hf
  show zV G 2 0 [(0, .ref h), (1, .ref kp)] [] (HW (gk G) h r fl row flow ++ [(kp, aI (gk G) 125 kept)])
  refine z_aload_n 1 C dX0_writeTo_0 rfl ?_
  refine z_alen (v := 125) 3 C dX0_writeTo_1 rfl kn_125 ?_
  refine z_bipush (v := 125) C dX0_writeTo_2 kb_125 ?_
  refine z_icmp_lt (tgt := 19) C dX0_writeTo_4 rfl (fun hc => ?_) (fun hc => ?_)
  · rw [if_pos hc] at hf
    cases hf
    exact z_vret C dX0_writeTo_19 F
  rw [if_neg hc] at hf
  refine z_aload_n 0 C dX0_writeTo_7 rfl ?_
  refine gf_X0_11 0 C dX0_writeTo_8 rfl rfl ?_
  refine z_iconst (v := 0) C dX0_writeTo_11 kc_0 ?_
  refine z_aload_n 1 C dX0_writeTo_12 rfl ?_
  refine z_iconst (v := 0) C dX0_writeTo_13 kc_0 ?_
  refine z_bipush (v := 125) C dX0_writeTo_14 kb_125 ?_
  obtain ⟨kept1, e2, hf⟩ := nm_g hf
  refine z_copy (ws2 := (HW (gk G) h r fl row flow ++ [(kp, aI (gk G) 125 kept1)])) 1 3 C dX0_writeTo_16 wc_X0_18 (by decide) (Nat.le_of_ble_eq_true rfl) rfl rfl cp_0 cp_0 cp_125 (by decide) (by decide) e2 rfl ?_
  cases hf
  exact z_vret C dX0_writeTo_19 F
set_option maxHeartbeats 400000 in
set_option maxRecDepth 100000 in
theorem c_X0_boards {l : Launch} {D : va_G} {cs : ClassId × ClassId × ClassId} (h : Nat) (r : Nat) (fl : Nat)  (row : zA) (flow : zA) {v : Int32}  (e : f_X0_boards row = some v) : zM l D cs yX0_boards cX0_boards 1 (some .int) 0 [.ref h] (HW cs h r fl row flow) v (HW cs h r fl row flow) := by
  refine zM_of (show plainName RX0 = true by decide +kernel) (Nat.le_of_ble_eq_true rfl) ?_
  rintro G rfl rfl rfl C F
  have hf := e
  clear e
  unfold f_X0_boards at hf
  show zV G 1 0 [(0, .ref h)] [] (HW (gk G) h r fl row flow)
  refine z_aload_n 0 C dX0_boards_0 rfl ?_
  refine gf_X0_11 0 C dX0_boards_1 rfl rfl ?_
  refine z_iconst (v := 4) C dX0_boards_4 kc_4 ?_
  refine z_iald 1 C dX0_boards_5 ix_4_125 rfl ?_
  cases hf
  exact z_iret C dX0_boards_6 F
set_option maxHeartbeats 400000 in
set_option maxRecDepth 100000 in
theorem c_X0_isBoard {l : Launch} {D : va_G} {cs : ClassId × ClassId × ClassId} (h : Nat) (r : Nat) (fl : Nat) (a1 : Int32) (row : zA) (flow : zA) {v : Int32}  (e : f_X0_isBoard a1 row = some v) : zM l D cs yX0_isBoard cX0_isBoard 2 (some .boolean) 0 [.ref h, .int a1] (HW cs h r fl row flow) v (HW cs h r fl row flow) := by
  refine zM_of (show plainName RX0 = true by decide +kernel) (Nat.le_of_ble_eq_true rfl) ?_
  rintro G rfl rfl rfl C F
  have hf := e
  clear e
  unfold f_X0_isBoard at hf
  show zV G 2 0 [(0, .ref h), (1, .int a1)] [] (HW (gk G) h r fl row flow)
  refine z_iload_n 1 C dX0_isBoard_0 rfl ?_
  refine z_if_lt (tgt := 18) C dX0_isBoard_1 rfl (fun hc => ?_) (fun hc => ?_)
  · have hf := ifp hc hf
    refine z_iconst (v := 0) C dX0_isBoard_18 kc_0 ?_
    cases hf
    exact z_zret C dX0_isBoard_19 rfl F
  have hf := ifn hc hf
  refine z_iload_n 1 C dX0_isBoard_4 rfl ?_
  refine z_aload_n 0 C dX0_isBoard_5 rfl ?_
  refine gf_X0_11 0 C dX0_isBoard_6 rfl rfl ?_
  refine z_iconst (v := 4) C dX0_isBoard_9 kc_4 ?_
  refine z_iald 1 C dX0_isBoard_10 ix_4_125 rfl ?_
  refine z_icmp_ge (tgt := 18) C dX0_isBoard_11 rfl (fun hc => ?_) (fun hc => ?_)
  · have hf := ifp hc hf
    refine z_iconst (v := 0) C dX0_isBoard_18 kc_0 ?_
    cases hf
    exact z_zret C dX0_isBoard_19 rfl F
  have hf := ifn hc hf
  refine z_iconst (v := 1) C dX0_isBoard_14 kc_1 ?_
  refine z_goto (tgt := 19) C dX0_isBoard_15 rfl ?_
  cases hf
  exact z_zret C dX0_isBoard_19 rfl F
set_option maxHeartbeats 400000 in
set_option maxRecDepth 100000 in
theorem c_X0_isLoad {l : Launch} {D : va_G} {cs : ClassId × ClassId × ClassId} (h : Nat) (r : Nat) (fl : Nat) (a1 : Int32) (row : zA) (flow : zA) {v : Int32}  (e : f_X0_isLoad a1 row = some v) : zM l D cs yX0_isLoad cX0_isLoad 2 (some .boolean) 0 [.ref h, .int a1] (HW cs h r fl row flow) v (HW cs h r fl row flow) := by
  refine zM_of (show plainName RX0 = true by decide +kernel) (Nat.le_of_ble_eq_true rfl) ?_
  rintro G rfl rfl rfl C F
  have hf := e
  clear e
  unfold f_X0_isLoad at hf
  show zV G 2 0 [(0, .ref h), (1, .int a1)] [] (HW (gk G) h r fl row flow)
  refine z_iload_n 1 C dX0_isLoad_0 rfl ?_
  refine z_if_lt (tgt := 18) C dX0_isLoad_1 rfl (fun hc => ?_) (fun hc => ?_)
  · have hf := ifp hc hf
    refine z_iconst (v := 0) C dX0_isLoad_18 kc_0 ?_
    cases hf
    exact z_zret C dX0_isLoad_19 rfl F
  have hf := ifn hc hf
  refine z_iload_n 1 C dX0_isLoad_4 rfl ?_
  refine z_aload_n 0 C dX0_isLoad_5 rfl ?_
  refine gf_X0_11 0 C dX0_isLoad_6 rfl rfl ?_
  refine z_iconst (v := 5) C dX0_isLoad_9 kc_5 ?_
  refine z_iald 1 C dX0_isLoad_10 ix_5_125 rfl ?_
  refine z_icmp_ge (tgt := 18) C dX0_isLoad_11 rfl (fun hc => ?_) (fun hc => ?_)
  · have hf := ifp hc hf
    refine z_iconst (v := 0) C dX0_isLoad_18 kc_0 ?_
    cases hf
    exact z_zret C dX0_isLoad_19 rfl F
  have hf := ifn hc hf
  refine z_iconst (v := 1) C dX0_isLoad_14 kc_1 ?_
  refine z_goto (tgt := 19) C dX0_isLoad_15 rfl ?_
  cases hf
  exact z_zret C dX0_isLoad_19 rfl F
set_option maxHeartbeats 400000 in
set_option maxRecDepth 100000 in
theorem c_X0_rating {l : Launch} {D : va_G} {cs : ClassId × ClassId × ClassId} (h : Nat) (r : Nat) (fl : Nat) (a1 : Int32) (row : zA) (flow : zA) {v : Int32}  (e : f_X0_rating a1 row = some v) : zM l D cs yX0_rating cX0_rating 2 (some .int) 1 [.ref h, .int a1] (HW cs h r fl row flow) v (HW cs h r fl row flow) := by
  refine zM_of (show plainName RX0 = true by decide +kernel) (Nat.le_of_ble_eq_true rfl) ?_
  rintro G rfl rfl rfl C F
  have hf := e
  clear e
  unfold f_X0_rating at hf
  show zV G 2 0 [(0, .ref h), (1, .int a1)] [] (HW (gk G) h r fl row flow)
  refine z_aload_n 0 C dX0_rating_0 rfl ?_
  refine z_iload_n 1 C dX0_rating_1 rfl ?_
  obtain ⟨v1, e2, hf⟩ := b1_e hf
  refine z_callV (st := []) (ws2 := (HW (gk G) h r fl row flow)) [0, 1, 2] C dX0_rating_2 w_X0_24 (c_X0_isBoard h r fl a1 row flow e2) (by decide) rfl rfl rfl rfl rfl rfl rfl (Nat.le_of_ble_eq_true rfl) rfl ?_
  refine z_if_eq (tgt := 20) C dX0_rating_5 rfl (fun hc => ?_) (fun hc => ?_)
  · have hf := ifp hc hf
    refine z_iconst (v := 0) C dX0_rating_20 kc_0 ?_
    cases hf
    exact z_iret C dX0_rating_21 F
  have hf := ifn hc hf
  refine z_aload_n 0 C dX0_rating_8 rfl ?_
  refine gf_X0_11 0 C dX0_rating_9 rfl rfl ?_
  refine z_bipush (v := 27) C dX0_rating_12 kb_27 ?_
  refine z_iload_n 1 C dX0_rating_14 rfl ?_
  refine z_iadd C dX0_rating_15 ?_
  obtain ⟨k3, h4, hf⟩ := gd_e hf
  refine z_iald 1 C dX0_rating_16 h4 rfl ?_
  refine z_goto (tgt := 21) C dX0_rating_17 rfl ?_
  cases hf
  exact z_iret C dX0_rating_21 F
set_option maxHeartbeats 400000 in
set_option maxRecDepth 100000 in
theorem c_X0_changeSetting {l : Launch} {D : va_G} {cs : ClassId × ClassId × ClassId} (h : Nat) (r : Nat) (fl : Nat) (a1 : Int32) (a2 : Int32) (row : zA) (flow : zA) {v : Int32} {row' : zA} (e : f_X0_changeSetting a1 a2 row = some (v, row')) : zM l D cs yX0_changeSetting cX0_changeSetting 4 (some .int) 0 [.ref h, .int a1, .int a2] (HW cs h r fl row flow) v (HW cs h r fl row' flow) := by
  refine zM_of (show plainName RX0 = true by decide +kernel) (Nat.le_of_ble_eq_true rfl) ?_
  rintro G rfl rfl rfl C F
  have hf := e
  clear e
  unfold f_X0_changeSetting at hf
  show zV G 4 0 [(0, .ref h), (1, .int a1), (2, .int a2)] [] (HW (gk G) h r fl row flow)
  refine z_iload_n 1 C dX0_changeSetting_0 rfl ?_
  refine z_if_lt (tgt := 9) C dX0_changeSetting_1 rfl (fun hc => ?_) (fun hc => ?_)
  · have hf := ifp hc hf
    refine z_bipush (v := -2) C dX0_changeSetting_9 kb_m2 ?_
    cases hf
    exact z_iret C dX0_changeSetting_11 F
  have hf := ifn hc hf
  refine z_iload_n 1 C dX0_changeSetting_4 rfl ?_
  refine z_iconst (v := 2) C dX0_changeSetting_5 kc_2 ?_
  refine z_icmp_le (tgt := 12) C dX0_changeSetting_6 rfl (fun hc => ?_) (fun hc => ?_)
  · have hf := ifp hc hf
    refine z_iload_n 2 C dX0_changeSetting_12 rfl ?_
    obtain ⟨tL, hzL, htL⟩ := C.2.2.2.2.2.2.1
    refine z_gets C hzL dX0_changeSetting_13 tw_78 ?_
    refine z_iload_n 1 C dX0_changeSetting_16 rfl ?_
    obtain ⟨k1, h2, hf⟩ := gd_e hf
    refine z_tld C htL dX0_changeSetting_17 h2 ?_
    refine z_icmp_lt (tgt := 30) C dX0_changeSetting_18 rfl (fun hc => ?_) (fun hc => ?_)
    · have hf := ifp hc hf
      refine z_bipush (v := -2) C dX0_changeSetting_30 kb_m2 ?_
      cases hf
      exact z_iret C dX0_changeSetting_32 F
    have hf := ifn hc hf
    refine z_iload_n 2 C dX0_changeSetting_21 rfl ?_
    obtain ⟨tM, hzM, htM⟩ := C.2.2.2.2.2.2.2
    refine z_gets C hzM dX0_changeSetting_22 tw_79 ?_
    refine z_iload_n 1 C dX0_changeSetting_25 rfl ?_
    obtain ⟨k3, h4, hf⟩ := gd_e hf
    refine z_tld C htM dX0_changeSetting_26 h4 ?_
    refine z_icmp_le (tgt := 33) C dX0_changeSetting_27 rfl (fun hc => ?_) (fun hc => ?_)
    · have hf := ifp hc hf
      refine z_aload_n 0 C dX0_changeSetting_33 rfl ?_
      refine gf_X0_11 0 C dX0_changeSetting_34 rfl rfl ?_
      refine z_iload_n 1 C dX0_changeSetting_37 rfl ?_
      obtain ⟨k5, h6, hf⟩ := gd_e hf
      refine z_iald 1 C dX0_changeSetting_38 h6 rfl ?_
      refine z_istore_n (ls' := [(3, _), (0, _), (1, _), (2, _)]) C dX0_changeSetting_39 (by decide) rfl ?_
      refine z_aload_n 1 C dX0_changeSetting_40 rfl ?_
      refine gf_X0_11 0 C dX0_changeSetting_41 rfl rfl ?_
      refine z_iload_n 2 C dX0_changeSetting_44 rfl ?_
      refine z_iload_n 3 C dX0_changeSetting_45 rfl ?_
      obtain ⟨row7, e8, hf⟩ := nm_g hf
      refine z_iast (ws' := (HW (gk G) h r fl row7 flow)) 1 C dX0_changeSetting_46 h6 rfl e8 rfl ?_
      refine z_iload_n 0 C dX0_changeSetting_47 rfl ?_
      cases hf
      exact z_iret C dX0_changeSetting_48 F
    have hf := ifn hc hf
    refine z_bipush (v := -2) C dX0_changeSetting_30 kb_m2 ?_
    cases hf
    exact z_iret C dX0_changeSetting_32 F
  have hf := ifn hc hf
  refine z_bipush (v := -2) C dX0_changeSetting_9 kb_m2 ?_
  cases hf
  exact z_iret C dX0_changeSetting_11 F
set_option maxHeartbeats 400000 in
set_option maxRecDepth 100000 in
theorem c_X0_isFuse {l : Launch} {D : va_G} {cs : ClassId × ClassId × ClassId}  (a0 : Int32) (a1 : Int32)  {v : Int32}  (e : f_X0_isFuse a0 a1 = some v) : zM l D cs yX0_isFuse cX0_isFuse 2 (some .boolean) 0 [.int a0, .int a1] ([] : va_W) v ([] : va_W) := by
  refine zM_of (show plainName RX0 = true by decide +kernel) (Nat.le_of_ble_eq_true rfl) ?_
  rintro G rfl rfl rfl C F
  have hf := e
  clear e
  unfold f_X0_isFuse at hf
  show zV G 2 0 [(0, .int a0), (1, .int a1)] [] ([] : va_W)
  refine z_iload_n 0 C dX0_isFuse_0 rfl ?_
  refine z_iconst (v := 1) C dX0_isFuse_1 kc_1 ?_
  refine z_icmp_lt (tgt := 24) C dX0_isFuse_2 rfl (fun hc => ?_) (fun hc => ?_)
  · have hf := ifp hc hf
    refine z_iconst (v := 0) C dX0_isFuse_24 kc_0 ?_
    cases hf
    exact z_zret C dX0_isFuse_25 rfl F
  have hf := ifn hc hf
  refine z_iload_n 0 C dX0_isFuse_5 rfl ?_
  refine z_bipush (v := 100) C dX0_isFuse_6 kb_100 ?_
  refine z_icmp_gt (tgt := 24) C dX0_isFuse_8 rfl (fun hc => ?_) (fun hc => ?_)
  · have hf := ifp hc hf
    refine z_iconst (v := 0) C dX0_isFuse_24 kc_0 ?_
    cases hf
    exact z_zret C dX0_isFuse_25 rfl F
  have hf := ifn hc hf
  refine z_iload_n 1 C dX0_isFuse_11 rfl ?_
  refine z_if_lt (tgt := 24) C dX0_isFuse_12 rfl (fun hc => ?_) (fun hc => ?_)
  · have hf := ifp hc hf
    refine z_iconst (v := 0) C dX0_isFuse_24 kc_0 ?_
    cases hf
    exact z_zret C dX0_isFuse_25 rfl F
  have hf := ifn hc hf
  refine z_iload_n 1 C dX0_isFuse_15 rfl ?_
  refine z_iconst (v := 2) C dX0_isFuse_16 kc_2 ?_
  refine z_icmp_gt (tgt := 24) C dX0_isFuse_17 rfl (fun hc => ?_) (fun hc => ?_)
  · have hf := ifp hc hf
    refine z_iconst (v := 0) C dX0_isFuse_24 kc_0 ?_
    cases hf
    exact z_zret C dX0_isFuse_25 rfl F
  have hf := ifn hc hf
  refine z_iconst (v := 1) C dX0_isFuse_20 kc_1 ?_
  refine z_goto (tgt := 25) C dX0_isFuse_21 rfl ?_
  cases hf
  exact z_zret C dX0_isFuse_25 rfl F
set_option maxHeartbeats 400000 in
set_option maxRecDepth 100000 in
theorem c_X0_putNewFuse {l : Launch} {D : va_G} {cs : ClassId × ClassId × ClassId} (h : Nat) (r : Nat) (fl : Nat) (a1 : Int32) (a2 : Int32) (a3 : Int32) (row : zA) (flow : zA) {row' : zA} (e : f_X0_putNewFuse a1 a2 a3 row = some row') : zMv l D cs yX0_putNewFuse cX0_putNewFuse 4 none 0 [.ref h, .int a1, .int a2, .int a3] (HW cs h r fl row flow) (HW cs h r fl row' flow) := by
  refine zMv_of (show plainName RX0 = true by decide +kernel) (Nat.le_of_ble_eq_true rfl) ?_
  rintro G rfl rfl rfl C F
  have hf := e
  clear e
  unfold f_X0_putNewFuse at hf
  show zV G 4 0 [(0, .ref h), (1, .int a1), (2, .int a2), (3, .int a3)] [] (HW (gk G) h r fl row flow)
  refine z_aload_n 0 C dX0_putNewFuse_0 rfl ?_
  refine gf_X0_11 0 C dX0_putNewFuse_1 rfl rfl ?_
  refine z_bipush (v := 27) C dX0_putNewFuse_4 kb_27 ?_
  refine z_iload_n 1 C dX0_putNewFuse_6 rfl ?_
  refine z_iadd C dX0_putNewFuse_7 ?_
  refine z_iload_n 2 C dX0_putNewFuse_8 rfl ?_
  obtain ⟨k1, h2, hf⟩ := gd_e hf
  obtain ⟨row3, e4, hf⟩ := nm_g hf
  refine z_iast (ws' := (HW (gk G) h r fl row3 flow)) 1 C dX0_putNewFuse_9 h2 rfl e4 rfl ?_
  refine z_aload_n 0 C dX0_putNewFuse_10 rfl ?_
  refine gf_X0_11 0 C dX0_putNewFuse_11 rfl rfl ?_
  refine z_bipush (v := 37) C dX0_putNewFuse_14 kb_37 ?_
  refine z_iload_n 1 C dX0_putNewFuse_16 rfl ?_
  refine z_iadd C dX0_putNewFuse_17 ?_
  refine z_iload_n 3 C dX0_putNewFuse_18 rfl ?_
  obtain ⟨k5, h6, hf⟩ := gd_e hf
  obtain ⟨row7, e8, hf⟩ := nm_g hf
  refine z_iast (ws' := (HW (gk G) h r fl row7 flow)) 1 C dX0_putNewFuse_19 h6 rfl e8 rfl ?_
  refine z_aload_n 0 C dX0_putNewFuse_20 rfl ?_
  refine gf_X0_11 0 C dX0_putNewFuse_21 rfl rfl ?_
  refine z_bipush (v := 47) C dX0_putNewFuse_24 kb_47 ?_
  refine z_iload_n 1 C dX0_putNewFuse_26 rfl ?_
  refine z_iadd C dX0_putNewFuse_27 ?_
  refine z_iconst (v := 0) C dX0_putNewFuse_28 kc_0 ?_
  obtain ⟨k9, h10, hf⟩ := gd_e hf
  obtain ⟨row11, e12, hf⟩ := nm_g hf
  refine z_iast (ws' := (HW (gk G) h r fl row11 flow)) 1 C dX0_putNewFuse_29 h10 rfl e12 rfl ?_
  refine z_aload_n 0 C dX0_putNewFuse_30 rfl ?_
  refine gf_X0_11 0 C dX0_putNewFuse_31 rfl rfl ?_
  refine z_bipush (v := 57) C dX0_putNewFuse_34 kb_57 ?_
  refine z_iload_n 1 C dX0_putNewFuse_36 rfl ?_
  refine z_iadd C dX0_putNewFuse_37 ?_
  refine z_iconst (v := 0) C dX0_putNewFuse_38 kc_0 ?_
  obtain ⟨k13, h14, hf⟩ := gd_e hf
  obtain ⟨row15, e16, hf⟩ := nm_g hf
  refine z_iast (ws' := (HW (gk G) h r fl row15 flow)) 1 C dX0_putNewFuse_39 h14 rfl e16 rfl ?_
  refine z_aload_n 0 C dX0_putNewFuse_40 rfl ?_
  refine gf_X0_11 0 C dX0_putNewFuse_41 rfl rfl ?_
  refine z_bipush (v := 67) C dX0_putNewFuse_44 kb_67 ?_
  refine z_iload_n 1 C dX0_putNewFuse_46 rfl ?_
  refine z_iadd C dX0_putNewFuse_47 ?_
  refine z_iconst (v := 0) C dX0_putNewFuse_48 kc_0 ?_
  obtain ⟨k17, h18, hf⟩ := gd_e hf
  obtain ⟨row19, e20, hf⟩ := nm_g hf
  refine z_iast (ws' := (HW (gk G) h r fl row19 flow)) 1 C dX0_putNewFuse_49 h18 rfl e20 rfl ?_
  refine z_aload_n 0 C dX0_putNewFuse_50 rfl ?_
  refine gf_X0_11 0 C dX0_putNewFuse_51 rfl rfl ?_
  refine z_bipush (v := 77) C dX0_putNewFuse_54 kb_77 ?_
  refine z_iload_n 1 C dX0_putNewFuse_56 rfl ?_
  refine z_iadd C dX0_putNewFuse_57 ?_
  refine z_iconst (v := 0) C dX0_putNewFuse_58 kc_0 ?_
  obtain ⟨k21, h22, hf⟩ := gd_e hf
  obtain ⟨row23, e24, hf⟩ := nm_g hf
  refine z_iast (ws' := (HW (gk G) h r fl row23 flow)) 1 C dX0_putNewFuse_59 h22 rfl e24 rfl ?_
  refine z_aload_n 0 C dX0_putNewFuse_60 rfl ?_
  refine gf_X0_11 0 C dX0_putNewFuse_61 rfl rfl ?_
  refine z_bipush (v := 7) C dX0_putNewFuse_64 kb_7 ?_
  refine z_dup2 C dX0_putNewFuse_66 rfl rfl ?_
  refine z_iald 1 C dX0_putNewFuse_67 ix_7_125 rfl ?_
  refine z_iconst (v := 1) C dX0_putNewFuse_68 kc_1 ?_
  refine z_iload_n 1 C dX0_putNewFuse_69 rfl ?_
  refine z_ishl C dX0_putNewFuse_70 ?_
  refine z_iconst (v := -1) C dX0_putNewFuse_71 kc_m1 ?_
  refine z_ixor C dX0_putNewFuse_72 ?_
  refine z_iand C dX0_putNewFuse_73 ?_
  obtain ⟨row25, e26, hf⟩ := nm_g hf
  refine z_iast (ws' := (HW (gk G) h r fl row25 flow)) 1 C dX0_putNewFuse_74 ix_7_125 rfl e26 rfl ?_
  cases hf
  exact z_vret C dX0_putNewFuse_75 F
set_option maxHeartbeats 400000 in
set_option maxRecDepth 100000 in
theorem tb_X0_addBoard_63 {G : GT} (h : Nat) (r : Nat) (fl : Nat) (flow : zA) {v : Int32} {row' : zA} (C : zC G cX0_addBoard 5 RX0 (some .int) 1) (F : zF G (some (.int v)) (HW (gk G) h r fl row' flow)) : ∀ (s0 : Int32) (s1 : Int32) (l2 : Int32) (l3 : Int32) (l4 : Int32) (row : zA), B_X0_addBoard_63 s0 s1 l2 l3 l4 row = some (v, row') → zV G 5 63 [(0, .ref h), (2, .int l2), (3, .int l3), (4, .int l4)] [.int s0, .int s1, .ref r] (HW (gk G) h r fl row flow) := by
  intro s0 s1 l2 l3 l4 row hf
  unfold B_X0_addBoard_63 at hf
  obtain ⟨k1, h2, hf⟩ := gd_e hf
  obtain ⟨row3, e4, hf⟩ := nm_g hf
  refine z_iast (ws' := (HW (gk G) h r fl row3 flow)) 1 C dX0_addBoard_63 h2 rfl e4 rfl ?_
  refine z_aload_n 0 C dX0_addBoard_64 rfl ?_
  refine z_iload 3 C dX0_addBoard_65 rfl ?_
  refine z_iload_n 1 C dX0_addBoard_67 rfl ?_
  refine z_iload_n 2 C dX0_addBoard_68 rfl ?_
  obtain ⟨row5, e6, hf⟩ := b1_e hf
  refine z_callVv (st := []) (ws2 := (HW (gk G) h r fl row5 flow)) [0, 1, 2] C dX0_addBoard_69 w_X0_38 (c_X0_putNewFuse h r fl l4 l2 l3 row3 flow e6) (by decide) rfl rfl rfl rfl rfl rfl rfl (Nat.le_of_ble_eq_true rfl) rfl ?_
  refine z_aload_n 0 C dX0_addBoard_72 rfl ?_
  refine gf_X0_11 0 C dX0_addBoard_73 rfl rfl ?_
  refine z_iconst (v := 4) C dX0_addBoard_76 kc_4 ?_
  refine z_iload 3 C dX0_addBoard_77 rfl ?_
  refine z_iconst (v := 1) C dX0_addBoard_79 kc_1 ?_
  refine z_iadd C dX0_addBoard_80 ?_
  obtain ⟨row7, e8, hf⟩ := nm_g hf
  refine z_iast (ws' := (HW (gk G) h r fl row7 flow)) 1 C dX0_addBoard_81 ix_4_125 rfl e8 rfl ?_
  refine z_iload 3 C dX0_addBoard_82 rfl ?_
  cases hf
  exact z_iret C dX0_addBoard_84 F
set_option maxHeartbeats 400000 in
set_option maxRecDepth 100000 in
theorem tb_X0_addBoard_23 {G : GT} (h : Nat) (r : Nat) (fl : Nat) (flow : zA) {v : Int32} {row' : zA} (C : zC G cX0_addBoard 5 RX0 (some .int) 1) (F : zF G (some (.int v)) (HW (gk G) h r fl row' flow)) : ∀ (l1 : Int32) (l2 : Int32) (l3 : Int32) (l4 : Int32) (row : zA), B_X0_addBoard_23 l1 l2 l3 l4 row = some (v, row') → zV G 5 23 [(0, .ref h), (1, .int l1), (2, .int l2), (3, .int l3), (4, .int l4)] [] (HW (gk G) h r fl row flow) := by
  intro l1 l2 l3 l4 row hf
  unfold B_X0_addBoard_23 at hf
  refine z_iload_n 2 C dX0_addBoard_23 rfl ?_
  refine z_iload_n 3 C dX0_addBoard_24 rfl ?_
  obtain ⟨v1, e2, hf⟩ := b1_e hf
  refine z_callS (st := []) (ws2 := (HW (gk G) h r fl row flow)) [] C dX0_addBoard_25 w_X0_34 (c_X0_isFuse l2 l3 e2) (by decide) rfl rfl rfl  rfl rfl (Nat.le_of_ble_eq_true rfl) rfl ?_
  refine z_if_ne (tgt := 34) C dX0_addBoard_28 rfl (fun hc => ?_) (fun hc => ?_)
  · have hf := ifn hc hf
    refine z_iload 4 C dX0_addBoard_34 rfl ?_
    refine z_bipush (v := 10) C dX0_addBoard_36 kb_10 ?_
    refine z_icmp_lt (tgt := 44) C dX0_addBoard_38 rfl (fun hc => ?_) (fun hc => ?_)
    · have hf := ifp hc hf
      refine z_aload_n 0 C dX0_addBoard_44 rfl ?_
      refine gf_X0_11 0 C dX0_addBoard_45 rfl rfl ?_
      refine z_bipush (v := 17) C dX0_addBoard_48 kb_17 ?_
      refine z_iload 4 C dX0_addBoard_50 rfl ?_
      refine z_iadd C dX0_addBoard_52 ?_
      refine z_iload 4 C dX0_addBoard_53 rfl ?_
      refine z_if_ne (tgt := 62) C dX0_addBoard_55 rfl (fun hc => ?_) (fun hc => ?_)
      · have hf := ifn hc hf
        refine z_iload_n 1 C dX0_addBoard_62 rfl ?_
        refine z_sub (ls' := [(0, .ref h), (2, .int l2), (3, .int l3), (4, .int l4)]) [0, 2, 3, 4] rfl ?_
        exact tb_X0_addBoard_63 h r fl flow C F _ _ _ _ _ _ hf
      have hf := ifp hc hf
      refine z_iconst (v := 0) C dX0_addBoard_58 kc_0 ?_
      refine z_goto (tgt := 63) C dX0_addBoard_59 rfl ?_
      refine z_sub (ls' := [(0, .ref h), (2, .int l2), (3, .int l3), (4, .int l4)]) [0, 2, 3, 4] rfl ?_
      exact tb_X0_addBoard_63 h r fl flow C F _ _ _ _ _ _ hf
    have hf := ifn hc hf
    refine z_bipush (v := -4) C dX0_addBoard_41 kb_m4 ?_
    cases hf
    exact z_iret C dX0_addBoard_43 F
  have hf := ifp hc hf
  refine z_bipush (v := -2) C dX0_addBoard_31 kb_m2 ?_
  cases hf
  exact z_iret C dX0_addBoard_33 F
set_option maxHeartbeats 400000 in
set_option maxRecDepth 100000 in
theorem c_X0_addBoard {l : Launch} {D : va_G} {cs : ClassId × ClassId × ClassId} (h : Nat) (r : Nat) (fl : Nat) (a1 : Int32) (a2 : Int32) (a3 : Int32) (row : zA) (flow : zA) {v : Int32} {row' : zA} (e : f_X0_addBoard a1 a2 a3 row = some (v, row')) : zM l D cs yX0_addBoard cX0_addBoard 5 (some .int) 1 [.ref h, .int a1, .int a2, .int a3] (HW cs h r fl row flow) v (HW cs h r fl row' flow) := by
  refine zM_of (show plainName RX0 = true by decide +kernel) (Nat.le_of_ble_eq_true rfl) ?_
  rintro G rfl rfl rfl C F
  have hf := e
  clear e
  unfold f_X0_addBoard at hf
  show zV G 5 0 [(0, .ref h), (1, .int a1), (2, .int a2), (3, .int a3)] [] (HW (gk G) h r fl row flow)
  refine z_aload_n 0 C dX0_addBoard_0 rfl ?_
  refine gf_X0_11 0 C dX0_addBoard_1 rfl rfl ?_
  refine z_iconst (v := 4) C dX0_addBoard_4 kc_4 ?_
  refine z_iald 1 C dX0_addBoard_5 ix_4_125 rfl ?_
  refine z_istore (ls' := [(4, _), (0, _), (1, _), (2, _), (3, _)]) C dX0_addBoard_6 (by decide) rfl ?_
  refine z_iload 0 C dX0_addBoard_8 rfl ?_
  refine z_if_le (tgt := 23) C dX0_addBoard_10 rfl (fun hc => ?_) (fun hc => ?_)
  · have hf := ifp hc hf
    refine z_sub (ls' := [(0, .ref h), (1, .int a1), (2, .int a2), (3, .int a3), (4, .int (row 4))]) [1, 2, 3, 4, 0] rfl ?_
    exact tb_X0_addBoard_23 h r fl flow C F _ _ _ _ _ hf
  have hf := ifn hc hf
  refine z_aload_n 1 C dX0_addBoard_13 rfl ?_
  refine z_iload_n 2 C dX0_addBoard_14 rfl ?_
  obtain ⟨v1, e2, hf⟩ := b1_e hf
  refine z_callV (st := []) (ws2 := (HW (gk G) h r fl row flow)) [0, 1, 2] C dX0_addBoard_15 w_X0_24 (c_X0_isBoard h r fl a1 row flow e2) (by decide) rfl rfl rfl rfl rfl rfl rfl (Nat.le_of_ble_eq_true rfl) rfl ?_
  refine z_if_ne (tgt := 23) C dX0_addBoard_18 rfl (fun hc => ?_) (fun hc => ?_)
  · have hf := ifn hc hf
    refine z_sub (ls' := [(0, .ref h), (1, .int a1), (2, .int a2), (3, .int a3), (4, .int (row 4))]) [1, 2, 3, 4, 0] rfl ?_
    exact tb_X0_addBoard_23 h r fl flow C F _ _ _ _ _ hf
  have hf := ifp hc hf
  refine z_iconst (v := -1) C dX0_addBoard_21 kc_m1 ?_
  cases hf
  exact z_iret C dX0_addBoard_22 F
set_option maxHeartbeats 400000 in
set_option maxRecDepth 100000 in
theorem c_X0_addLoad {l : Launch} {D : va_G} {cs : ClassId × ClassId × ClassId} (h : Nat) (r : Nat) (fl : Nat) (a1 : Int32) (a2 : Int32) (row : zA) (flow : zA) {v : Int32} {row' : zA} (e : f_X0_addLoad a1 a2 row = some (v, row')) : zM l D cs yX0_addLoad cX0_addLoad 4 (some .int) 1 [.ref h, .int a1, .int a2] (HW cs h r fl row flow) v (HW cs h r fl row' flow) := by
  refine zM_of (show plainName RX0 = true by decide +kernel) (Nat.le_of_ble_eq_true rfl) ?_
  rintro G rfl rfl rfl C F
  have hf := e
  clear e
  unfold f_X0_addLoad at hf
  show zV G 4 0 [(0, .ref h), (1, .int a1), (2, .int a2)] [] (HW (gk G) h r fl row flow)
  refine z_aload_n 0 C dX0_addLoad_0 rfl ?_
  refine gf_X0_11 0 C dX0_addLoad_1 rfl rfl ?_
  refine z_iconst (v := 5) C dX0_addLoad_4 kc_5 ?_
  refine z_iald 1 C dX0_addLoad_5 ix_5_125 rfl ?_
  refine z_istore_n (ls' := [(3, _), (0, _), (1, _), (2, _)]) C dX0_addLoad_6 (by decide) rfl ?_
  refine z_aload_n 1 C dX0_addLoad_7 rfl ?_
  refine z_iload_n 2 C dX0_addLoad_8 rfl ?_
  obtain ⟨v1, e2, hf⟩ := b1_e hf
  refine z_callV (st := []) (ws2 := (HW (gk G) h r fl row flow)) [0, 1, 2] C dX0_addLoad_9 w_X0_24 (c_X0_isBoard h r fl a1 row flow e2) (by decide) rfl rfl rfl rfl rfl rfl rfl (Nat.le_of_ble_eq_true rfl) rfl ?_
  refine z_if_ne (tgt := 17) C dX0_addLoad_12 rfl (fun hc => ?_) (fun hc => ?_)
  · have hf := ifn hc hf
    refine z_iload_n 3 C dX0_addLoad_17 rfl ?_
    refine z_iconst (v := 1) C dX0_addLoad_18 kc_1 ?_
    refine z_icmp_lt (tgt := 29) C dX0_addLoad_19 rfl (fun hc => ?_) (fun hc => ?_)
    · have hf := ifp hc hf
      refine z_bipush (v := -2) C dX0_addLoad_29 kb_m2 ?_
      cases hf
      exact z_iret C dX0_addLoad_31 F
    have hf := ifn hc hf
    refine z_iload_n 3 C dX0_addLoad_22 rfl ?_
    refine z_sipush (v := 200) C dX0_addLoad_23 ks_200 ?_
    refine z_icmp_le (tgt := 32) C dX0_addLoad_26 rfl (fun hc => ?_) (fun hc => ?_)
    · have hf := ifp hc hf
      refine z_iload_n 0 C dX0_addLoad_32 rfl ?_
      refine z_bipush (v := 14) C dX0_addLoad_33 kb_14 ?_
      refine z_icmp_lt (tgt := 41) C dX0_addLoad_35 rfl (fun hc => ?_) (fun hc => ?_)
      · have hf := ifp hc hf
        refine z_aload_n 1 C dX0_addLoad_41 rfl ?_
        refine gf_X0_11 0 C dX0_addLoad_42 rfl rfl ?_
        refine z_bipush (v := 97) C dX0_addLoad_45 kb_97 ?_
        refine z_iload_n 0 C dX0_addLoad_47 rfl ?_
        refine z_iadd C dX0_addLoad_48 ?_
        refine z_iload_n 2 C dX0_addLoad_49 rfl ?_
        obtain ⟨k3, h4, hf⟩ := gd_e hf
        obtain ⟨row5, e6, hf⟩ := nm_g hf
        refine z_iast (ws' := (HW (gk G) h r fl row5 flow)) 1 C dX0_addLoad_50 h4 rfl e6 rfl ?_
        refine z_aload_n 1 C dX0_addLoad_51 rfl ?_
        refine gf_X0_11 0 C dX0_addLoad_52 rfl rfl ?_
        refine z_bipush (v := 111) C dX0_addLoad_55 kb_111 ?_
        refine z_iload_n 0 C dX0_addLoad_57 rfl ?_
        refine z_iadd C dX0_addLoad_58 ?_
        refine z_iload_n 3 C dX0_addLoad_59 rfl ?_
        obtain ⟨k7, h8, hf⟩ := gd_e hf
        obtain ⟨row9, e10, hf⟩ := nm_g hf
        refine z_iast (ws' := (HW (gk G) h r fl row9 flow)) 1 C dX0_addLoad_60 h8 rfl e10 rfl ?_
        refine z_aload_n 1 C dX0_addLoad_61 rfl ?_
        refine gf_X0_11 0 C dX0_addLoad_62 rfl rfl ?_
        refine z_iconst (v := 5) C dX0_addLoad_65 kc_5 ?_
        refine z_iload_n 0 C dX0_addLoad_66 rfl ?_
        refine z_iconst (v := 1) C dX0_addLoad_67 kc_1 ?_
        refine z_iadd C dX0_addLoad_68 ?_
        obtain ⟨row11, e12, hf⟩ := nm_g hf
        refine z_iast (ws' := (HW (gk G) h r fl row11 flow)) 1 C dX0_addLoad_69 ix_5_125 rfl e12 rfl ?_
        refine z_iload_n 0 C dX0_addLoad_70 rfl ?_
        cases hf
        exact z_iret C dX0_addLoad_71 F
      have hf := ifn hc hf
      refine z_bipush (v := -4) C dX0_addLoad_38 kb_m4 ?_
      cases hf
      exact z_iret C dX0_addLoad_40 F
    have hf := ifn hc hf
    refine z_bipush (v := -2) C dX0_addLoad_29 kb_m2 ?_
    cases hf
    exact z_iret C dX0_addLoad_31 F
  have hf := ifp hc hf
  refine z_iconst (v := -1) C dX0_addLoad_15 kc_m1 ?_
  cases hf
  exact z_iret C dX0_addLoad_16 F
set_option maxHeartbeats 400000 in
set_option maxRecDepth 100000 in
theorem c_X0_switchLoad {l : Launch} {D : va_G} {cs : ClassId × ClassId × ClassId} (h : Nat) (r : Nat) (fl : Nat) (a1 : Int32) (row : zA) (flow : zA) {v : Int32} {row' : zA} (e : f_X0_switchLoad a1 row = some (v, row')) : zM l D cs yX0_switchLoad cX0_switchLoad 2 (some .int) 1 [.ref h, .int a1] (HW cs h r fl row flow) v (HW cs h r fl row' flow) := by
  refine zM_of (show plainName RX0 = true by decide +kernel) (Nat.le_of_ble_eq_true rfl) ?_
  rintro G rfl rfl rfl C F
  have hf := e
  clear e
  unfold f_X0_switchLoad at hf
  show zV G 2 0 [(0, .ref h), (1, .int a1)] [] (HW (gk G) h r fl row flow)
  refine z_aload_n 0 C dX0_switchLoad_0 rfl ?_
  refine z_iload_n 1 C dX0_switchLoad_1 rfl ?_
  obtain ⟨v1, e2, hf⟩ := b1_e hf
  refine z_callV (st := []) (ws2 := (HW (gk G) h r fl row flow)) [0, 1, 2] C dX0_switchLoad_2 w_X0_42 (c_X0_isLoad h r fl a1 row flow e2) (by decide) rfl rfl rfl rfl rfl rfl rfl (Nat.le_of_ble_eq_true rfl) rfl ?_
  refine z_if_ne (tgt := 10) C dX0_switchLoad_5 rfl (fun hc => ?_) (fun hc => ?_)
  · have hf := ifn hc hf
    refine z_aload_n 0 C dX0_switchLoad_10 rfl ?_
    refine gf_X0_11 0 C dX0_switchLoad_11 rfl rfl ?_
    refine z_bipush (v := 6) C dX0_switchLoad_14 kb_6 ?_
    refine z_dup2 C dX0_switchLoad_16 rfl rfl ?_
    refine z_iald 1 C dX0_switchLoad_17 ix_6_125 rfl ?_
    refine z_iconst (v := 1) C dX0_switchLoad_18 kc_1 ?_
    refine z_iload_n 1 C dX0_switchLoad_19 rfl ?_
    refine z_ishl C dX0_switchLoad_20 ?_
    refine z_ixor C dX0_switchLoad_21 ?_
    obtain ⟨row3, e4, hf⟩ := nm_g hf
    refine z_iast (ws' := (HW (gk G) h r fl row3 flow)) 1 C dX0_switchLoad_22 ix_6_125 rfl e4 rfl ?_
    refine z_aload_n 0 C dX0_switchLoad_23 rfl ?_
    refine gf_X0_11 0 C dX0_switchLoad_24 rfl rfl ?_
    refine z_bipush (v := 6) C dX0_switchLoad_27 kb_6 ?_
    refine z_iald 1 C dX0_switchLoad_29 ix_6_125 rfl ?_
    refine z_iload_n 1 C dX0_switchLoad_30 rfl ?_
    refine z_ishr C dX0_switchLoad_31 ?_
    refine z_iconst (v := 1) C dX0_switchLoad_32 kc_1 ?_
    refine z_iand C dX0_switchLoad_33 ?_
    cases hf
    exact z_iret C dX0_switchLoad_34 F
  have hf := ifp hc hf
  refine z_iconst (v := -1) C dX0_switchLoad_8 kc_m1 ?_
  cases hf
  exact z_iret C dX0_switchLoad_9 F
set_option maxHeartbeats 400000 in
set_option maxRecDepth 100000 in
theorem c_X0_changeFuse {l : Launch} {D : va_G} {cs : ClassId × ClassId × ClassId} (h : Nat) (r : Nat) (fl : Nat) (a1 : Int32) (a2 : Int32) (a3 : Int32) (row : zA) (flow : zA) {v : Int32} {row' : zA} (e : f_X0_changeFuse a1 a2 a3 row = some (v, row')) : zM l D cs yX0_changeFuse cX0_changeFuse 5 (some .int) 1 [.ref h, .int a1, .int a2, .int a3] (HW cs h r fl row flow) v (HW cs h r fl row' flow) := by
  refine zM_of (show plainName RX0 = true by decide +kernel) (Nat.le_of_ble_eq_true rfl) ?_
  rintro G rfl rfl rfl C F
  have hf := e
  clear e
  unfold f_X0_changeFuse at hf
  show zV G 5 0 [(0, .ref h), (1, .int a1), (2, .int a2), (3, .int a3)] [] (HW (gk G) h r fl row flow)
  refine z_aload_n 0 C dX0_changeFuse_0 rfl ?_
  refine z_iload_n 1 C dX0_changeFuse_1 rfl ?_
  obtain ⟨v1, e2, hf⟩ := b1_e hf
  refine z_callV (st := []) (ws2 := (HW (gk G) h r fl row flow)) [0, 1, 2] C dX0_changeFuse_2 w_X0_24 (c_X0_isBoard h r fl a1 row flow e2) (by decide) rfl rfl rfl rfl rfl rfl rfl (Nat.le_of_ble_eq_true rfl) rfl ?_
  refine z_if_ne (tgt := 10) C dX0_changeFuse_5 rfl (fun hc => ?_) (fun hc => ?_)
  · have hf := ifn hc hf
    refine z_iload_n 2 C dX0_changeFuse_10 rfl ?_
    refine z_iload_n 3 C dX0_changeFuse_11 rfl ?_
    obtain ⟨v3, e4, hf⟩ := b1_e hf
    refine z_callS (st := []) (ws2 := (HW (gk G) h r fl row flow)) [] C dX0_changeFuse_12 w_X0_34 (c_X0_isFuse a2 a3 e4) (by decide) rfl rfl rfl  rfl rfl (Nat.le_of_ble_eq_true rfl) rfl ?_
    refine z_if_ne (tgt := 21) C dX0_changeFuse_15 rfl (fun hc => ?_) (fun hc => ?_)
    · have hf := ifn hc hf
      refine z_aload_n 0 C dX0_changeFuse_21 rfl ?_
      refine gf_X0_11 0 C dX0_changeFuse_22 rfl rfl ?_
      refine z_bipush (v := 47) C dX0_changeFuse_25 kb_47 ?_
      refine z_iload_n 1 C dX0_changeFuse_27 rfl ?_
      refine z_iadd C dX0_changeFuse_28 ?_
      obtain ⟨k5, h6, hf⟩ := gd_e hf
      refine z_iald 1 C dX0_changeFuse_29 h6 rfl ?_
      refine z_if_le (tgt := 36) C dX0_changeFuse_30 rfl (fun hc => ?_) (fun hc => ?_)
      · have hf := ifp hc hf
        refine z_aload_n 0 C dX0_changeFuse_36 rfl ?_
        refine gf_X0_11 0 C dX0_changeFuse_37 rfl rfl ?_
        refine z_bipush (v := 27) C dX0_changeFuse_40 kb_27 ?_
        refine z_iload_n 1 C dX0_changeFuse_42 rfl ?_
        refine z_iadd C dX0_changeFuse_43 ?_
        obtain ⟨k7, h8, hf⟩ := gd_e hf
        refine z_iald 1 C dX0_changeFuse_44 h8 rfl ?_
        refine z_istore (ls' := [(4, _), (0, _), (1, _), (2, _), (3, _)]) C dX0_changeFuse_45 (by decide) rfl ?_
        refine z_aload_n 1 C dX0_changeFuse_47 rfl ?_
        refine z_iload_n 2 C dX0_changeFuse_48 rfl ?_
        refine z_iload_n 3 C dX0_changeFuse_49 rfl ?_
        refine z_iload_n 4 C dX0_changeFuse_50 rfl ?_
        obtain ⟨row9, e10, hf⟩ := b1_e hf
        refine z_callVv (st := []) (ws2 := (HW (gk G) h r fl row9 flow)) [0, 1, 2] C dX0_changeFuse_51 w_X0_38 (c_X0_putNewFuse h r fl a1 a2 a3 row flow e10) (by decide) rfl rfl rfl rfl rfl rfl rfl (Nat.le_of_ble_eq_true rfl) rfl ?_
        refine z_iload 0 C dX0_changeFuse_54 rfl ?_
        cases hf
        exact z_iret C dX0_changeFuse_56 F
      have hf := ifn hc hf
      refine z_bipush (v := -5) C dX0_changeFuse_33 kb_m5 ?_
      cases hf
      exact z_iret C dX0_changeFuse_35 F
    have hf := ifp hc hf
    refine z_bipush (v := -2) C dX0_changeFuse_18 kb_m2 ?_
    cases hf
    exact z_iret C dX0_changeFuse_20 F
  have hf := ifp hc hf
  refine z_iconst (v := -1) C dX0_changeFuse_8 kc_m1 ?_
  cases hf
  exact z_iret C dX0_changeFuse_9 F
set_option maxHeartbeats 400000 in
set_option maxRecDepth 100000 in
theorem tb_J7_fill_53178_5 {G : GT} (ap : Nat) (sz : Nat)  {fa' : zA} (C : zC G cJ7_fill_53178 4 RJ7 none 0) (F : zF G none ([(ap, aI (gk G) sz fa')] : va_W)) : ∀ (n : Nat) (l1 : Int32) (l2 : Int32) (l3 : Int32) (fa : zA), B_J7_fill_53178_5 sz n l1 l2 l3 fa = some fa' → zV G 4 5 [(0, .ref ap), (1, .int l1), (2, .int l2), (3, .int l3)] [] ([(ap, aI (gk G) sz fa)] : va_W) := by
  intro n
  induction n with
  | zero => intro _ _ _ _ hf; rw [B_J7_fill_53178_5] at hf; cases hf
  | succ n ih =>
    intro l1 l2 l3 fa hf
    rw [B_J7_fill_53178_5] at hf
    refine z_iload_n 2 C dJ7_fill_53178_5 rfl ?_
    refine z_iload_n 3 C dJ7_fill_53178_6 rfl ?_
    refine z_icmp_ge (tgt := 20) C dJ7_fill_53178_7 rfl (fun hc => ?_) (fun hc => ?_)
    · have hf := ifp hc hf
      cases hf
      exact z_vret C dJ7_fill_53178_20 F
    have hf := ifn hc hf
    refine z_aload_n 0 C dJ7_fill_53178_10 rfl ?_
    refine z_iload_n 2 C dJ7_fill_53178_11 rfl ?_
    refine z_iload_n 1 C dJ7_fill_53178_12 rfl ?_
    obtain ⟨k1, h2, hf⟩ := gd_e hf
    obtain ⟨fa3, e4, hf⟩ := nm_g hf
    refine z_iast (ws' := ([(ap, aI (gk G) sz fa3)] : va_W)) 0 C dJ7_fill_53178_13 h2 rfl e4 rfl ?_
    obtain ⟨x5, e6, hf⟩ := nm_g hf
    refine z_iinc (ls' := [(2, _), (0, _), (1, _), (3, _)]) 2 C dJ7_fill_53178_14 rfl kc_1 e6 (by decide) rfl ?_
    refine z_goto (tgt := 5) C dJ7_fill_53178_17 rfl ?_
    refine z_sub (ls' := [(0, .ref ap), (1, .int l1), (2, .int x5), (3, .int l3)]) [1, 2, 0, 3] rfl ?_
    exact ih _ _ _ _ hf
set_option maxHeartbeats 400000 in
set_option maxRecDepth 100000 in
theorem c_J7_fill_53178 {l : Launch} {D : va_G} {cs : ClassId × ClassId × ClassId} (ap : Nat) (sz : Nat) (a1 : Int32) (fa : zA) {fa' : zA} (e : f_J7_fill_53178 sz a1 fa = some fa') : zMv l D cs yJ7_fill_53178 cJ7_fill_53178 4 none 0 [.ref ap, .int a1] ([(ap, aI cs sz fa)] : va_W) ([(ap, aI cs sz fa')] : va_W) := by
  refine zMv_of (show plainName RJ7 = true by decide +kernel) (Nat.le_of_ble_eq_true rfl) ?_
  rintro G rfl rfl rfl C F
  have hf := e
  clear e
  unfold f_J7_fill_53178 at hf
  show zV G 4 0 [(0, .ref ap), (1, .int a1)] [] ([(ap, aI (gk G) sz fa)] : va_W)
  refine z_iconst (v := 0) C dJ7_fill_53178_0 kc_0 ?_
  refine z_istore_n (ls' := [(2, _), (0, _), (1, _)]) C dJ7_fill_53178_1 (by decide) rfl ?_
  refine z_aload_n 1 C dJ7_fill_53178_2 rfl ?_
  refine z_alen 0 C dJ7_fill_53178_3 rfl rfl ?_
  obtain ⟨x1, e2, hf⟩ := nm_g hf
  refine z_top e2 ?_
  refine z_istore_n (ls' := [(3, _), (2, _), (0, _), (1, _)]) C dJ7_fill_53178_4 (by decide) rfl ?_
  refine z_sub (ls' := [(0, .ref ap), (1, .int a1), (2, .int 0), (3, .int x1)]) [2, 3, 1, 0] rfl ?_
  exact tb_J7_fill_53178_5 ap sz C F _ _ _ _ _ hf
set_option maxHeartbeats 400000 in
set_option maxRecDepth 100000 in
theorem tb_X0_deadBoards_10 {G : GT} (h : Nat) (r : Nat) (fl : Nat) (row : zA) (flow : zA) {v : Int32}  (C : zC G cX0_deadBoards 3 RX0 (some .int) 0) (F : zF G (some (.int v)) (HW (gk G) h r fl row flow)) : ∀ (n : Nat) (l1 : Int32) (l2 : Int32), B_X0_deadBoards_10 n l1 l2 row = some v → zV G 3 10 [(0, .ref h), (1, .int l1), (2, .int l2)] [] (HW (gk G) h r fl row flow) := by
  intro n
  induction n with
  | zero => intro _ _ hf; rw [B_X0_deadBoards_10] at hf; cases hf
  | succ n ih =>
    intro l1 l2 hf
    rw [B_X0_deadBoards_10] at hf
    refine z_iload_n 2 C dX0_deadBoards_10 rfl ?_
    refine z_aload_n 0 C dX0_deadBoards_11 rfl ?_
    refine gf_X0_11 0 C dX0_deadBoards_12 rfl rfl ?_
    refine z_iconst (v := 4) C dX0_deadBoards_15 kc_4 ?_
    refine z_iald 1 C dX0_deadBoards_16 ix_4_125 rfl ?_
    refine z_icmp_ge (tgt := 48) C dX0_deadBoards_17 rfl (fun hc => ?_) (fun hc => ?_)
    · have hf := ifp hc hf
      refine z_iload_n 1 C dX0_deadBoards_48 rfl ?_
      cases hf
      exact z_iret C dX0_deadBoards_49 F
    have hf := ifn hc hf
    refine z_iload_n 1 C dX0_deadBoards_20 rfl ?_
    refine z_aload_n 0 C dX0_deadBoards_21 rfl ?_
    refine gf_X0_11 0 C dX0_deadBoards_22 rfl rfl ?_
    refine z_bipush (v := 17) C dX0_deadBoards_25 kb_17 ?_
    refine z_iload_n 2 C dX0_deadBoards_27 rfl ?_
    refine z_iadd C dX0_deadBoards_28 ?_
    obtain ⟨k1, h2, hf⟩ := gd_e hf
    refine z_iald 1 C dX0_deadBoards_29 h2 rfl ?_
    refine z_ishr C dX0_deadBoards_30 ?_
    refine z_iconst (v := 1) C dX0_deadBoards_31 kc_1 ?_
    refine z_iand C dX0_deadBoards_32 ?_
    refine z_if_eq (tgt := 42) C dX0_deadBoards_33 rfl (fun hc => ?_) (fun hc => ?_)
    · have hf := ifp hc hf
      obtain ⟨x3, e4, hf⟩ := nm_g hf
      refine z_iinc (ls' := [(2, _), (0, _), (1, _)]) 2 C dX0_deadBoards_42 rfl kc_1 e4 (by decide) rfl ?_
      refine z_goto (tgt := 10) C dX0_deadBoards_45 rfl ?_
      refine z_sub (ls' := [(0, .ref h), (1, .int l1), (2, .int x3)]) [1, 2, 0] rfl ?_
      exact ih _ _ hf
    have hf := ifn hc hf
    refine z_iload_n 1 C dX0_deadBoards_36 rfl ?_
    refine z_iconst (v := 1) C dX0_deadBoards_37 kc_1 ?_
    refine z_iload_n 2 C dX0_deadBoards_38 rfl ?_
    refine z_ishl C dX0_deadBoards_39 ?_
    refine z_ior C dX0_deadBoards_40 ?_
    obtain ⟨x5, e6, hf⟩ := nm_g hf
    refine z_top e6 ?_
    refine z_istore_n (ls' := [(1, _), (0, _), (2, _)]) C dX0_deadBoards_41 (by decide) rfl ?_
    obtain ⟨x7, e8, hf⟩ := nm_g hf
    refine z_iinc (ls' := [(2, _), (1, _), (0, _)]) 2 C dX0_deadBoards_42 rfl kc_1 e8 (by decide) rfl ?_
    refine z_goto (tgt := 10) C dX0_deadBoards_45 rfl ?_
    refine z_sub (ls' := [(0, .ref h), (1, .int x5), (2, .int x7)]) [2, 1, 0] rfl ?_
    exact ih _ _ hf
set_option maxHeartbeats 400000 in
set_option maxRecDepth 100000 in
theorem c_X0_deadBoards {l : Launch} {D : va_G} {cs : ClassId × ClassId × ClassId} (h : Nat) (r : Nat) (fl : Nat)  (row : zA) (flow : zA) {v : Int32}  (e : f_X0_deadBoards row = some v) : zM l D cs yX0_deadBoards cX0_deadBoards 3 (some .int) 0 [.ref h] (HW cs h r fl row flow) v (HW cs h r fl row flow) := by
  refine zM_of (show plainName RX0 = true by decide +kernel) (Nat.le_of_ble_eq_true rfl) ?_
  rintro G rfl rfl rfl C F
  have hf := e
  clear e
  unfold f_X0_deadBoards at hf
  show zV G 3 0 [(0, .ref h)] [] (HW (gk G) h r fl row flow)
  refine z_aload_n 0 C dX0_deadBoards_0 rfl ?_
  refine gf_X0_11 0 C dX0_deadBoards_1 rfl rfl ?_
  refine z_bipush (v := 7) C dX0_deadBoards_4 kb_7 ?_
  refine z_iald 1 C dX0_deadBoards_6 ix_7_125 rfl ?_
  refine z_istore_n (ls' := [(1, _), (0, _)]) C dX0_deadBoards_7 (by decide) rfl ?_
  refine z_iconst (v := 1) C dX0_deadBoards_8 kc_1 ?_
  refine z_istore_n (ls' := [(2, _), (1, _), (0, _)]) C dX0_deadBoards_9 (by decide) rfl ?_
  refine z_sub (ls' := [(0, .ref h), (1, .int (row 7)), (2, .int 1)]) [2, 1, 0] rfl ?_
  exact tb_X0_deadBoards_10 h r fl row flow C F _ _ _ hf
set_option maxHeartbeats 400000 in
set_option maxRecDepth 100000 in
theorem c_X0_addFlow {l : Launch} {D : va_G} {cs : ClassId × ClassId × ClassId} (h : Nat) (r : Nat) (fl : Nat) (a1 : Int32) (a2 : Int32) (row : zA) (flow : zA) {flow' : zA} (e : f_X0_addFlow a1 a2 flow = some flow') : zMv l D cs yX0_addFlow cX0_addFlow 3 none 0 [.ref h, .int a1, .int a2] (HW cs h r fl row flow) (HW cs h r fl row flow') := by
  refine zMv_of (show plainName RX0 = true by decide +kernel) (Nat.le_of_ble_eq_true rfl) ?_
  rintro G rfl rfl rfl C F
  have hf := e
  clear e
  unfold f_X0_addFlow at hf
  show zV G 3 0 [(0, .ref h), (1, .int a1), (2, .int a2)] [] (HW (gk G) h r fl row flow)
  refine z_iload_n 1 C dX0_addFlow_0 rfl ?_
  refine z_if_lt (tgt := 20) C dX0_addFlow_1 rfl (fun hc => ?_) (fun hc => ?_)
  · have hf := ifp hc hf
    cases hf
    exact z_vret C dX0_addFlow_20 F
  have hf := ifn hc hf
  refine z_iload_n 1 C dX0_addFlow_4 rfl ?_
  refine z_bipush (v := 10) C dX0_addFlow_5 kb_10 ?_
  refine z_icmp_ge (tgt := 20) C dX0_addFlow_7 rfl (fun hc => ?_) (fun hc => ?_)
  · have hf := ifp hc hf
    cases hf
    exact z_vret C dX0_addFlow_20 F
  have hf := ifn hc hf
  refine z_aload_n 0 C dX0_addFlow_10 rfl ?_
  refine gf_X0_15 0 C dX0_addFlow_11 rfl rfl ?_
  refine z_iload_n 1 C dX0_addFlow_14 rfl ?_
  refine z_dup2 C dX0_addFlow_15 rfl rfl ?_
  obtain ⟨k1, h2, hf⟩ := gd_e hf
  refine z_iald 2 C dX0_addFlow_16 h2 rfl ?_
  refine z_iload_n 2 C dX0_addFlow_17 rfl ?_
  refine z_iadd C dX0_addFlow_18 ?_
  obtain ⟨flow3, e4, hf⟩ := nm_g hf
  refine z_iast (ws' := (HW (gk G) h r fl row flow3)) 2 C dX0_addFlow_19 h2 rfl e4 rfl ?_
  cases hf
  exact z_vret C dX0_addFlow_20 F
set_option maxHeartbeats 400000 in
set_option maxRecDepth 100000 in
theorem tb_X0_addUpCurrents_102 {G : GT} (h : Nat) (r : Nat) (fl : Nat) (row : zA) {flow' : zA} (C : zC G cX0_addUpCurrents 4 RX0 none 1) (F : zF G none (HW (gk G) h r fl row flow')) : ∀ (n : Nat) (l2 : Int32) (flow : zA), B_X0_addUpCurrents_102 n l2 row flow = some flow' → zV G 4 102 [(0, .ref h), (2, .int l2)] [] (HW (gk G) h r fl row flow) := by
  intro n
  induction n with
  | zero => intro _ _ hf; rw [B_X0_addUpCurrents_102] at hf; cases hf
  | succ n ih =>
    intro l2 flow hf
    rw [B_X0_addUpCurrents_102] at hf
    refine z_iload_n 1 C dX0_addUpCurrents_102 rfl ?_
    refine z_if_le (tgt := 131) C dX0_addUpCurrents_103 rfl (fun hc => ?_) (fun hc => ?_)
    · have hf := ifp hc hf
      cases hf
      exact z_vret C dX0_addUpCurrents_131 F
    have hf := ifn hc hf
    refine z_aload_n 0 C dX0_addUpCurrents_106 rfl ?_
    refine z_aload_n 0 C dX0_addUpCurrents_107 rfl ?_
    refine gf_X0_11 0 C dX0_addUpCurrents_108 rfl rfl ?_
    refine z_bipush (v := 17) C dX0_addUpCurrents_111 kb_17 ?_
    refine z_iload_n 1 C dX0_addUpCurrents_113 rfl ?_
    refine z_iadd C dX0_addUpCurrents_114 ?_
    obtain ⟨k1, h2, hf⟩ := gd_e hf
    refine z_iald 1 C dX0_addUpCurrents_115 h2 rfl ?_
    refine z_aload_n 0 C dX0_addUpCurrents_116 rfl ?_
    refine gf_X0_15 0 C dX0_addUpCurrents_117 rfl rfl ?_
    refine z_iload_n 1 C dX0_addUpCurrents_120 rfl ?_
    obtain ⟨k3, h4, hf⟩ := gd_e hf
    refine z_iald 2 C dX0_addUpCurrents_121 h4 rfl ?_
    obtain ⟨flow5, e6, hf⟩ := b1_e hf
    refine z_callVv (st := []) (ws2 := (HW (gk G) h r fl row flow5)) [0, 1, 2] C dX0_addUpCurrents_122 w_X0_90 (c_X0_addFlow h r fl (row k1) (flow k3) row flow e6) (by decide) rfl rfl rfl rfl rfl rfl rfl (Nat.le_of_ble_eq_true rfl) rfl ?_
    obtain ⟨x7, e8, hf⟩ := nm_g hf
    refine z_iinc (ls' := [(2, _), (0, _)]) 1 C dX0_addUpCurrents_125 rfl kc_m1 e8 (by decide) rfl ?_
    refine z_goto (tgt := 102) C dX0_addUpCurrents_128 rfl ?_
    refine z_sub (ls' := [(0, .ref h), (2, .int x7)]) [1, 0] rfl ?_
    exact ih _ _ hf
set_option maxHeartbeats 400000 in
set_option maxRecDepth 100000 in
theorem tb_X0_addUpCurrents_60 {G : GT} (h : Nat) (r : Nat) (fl : Nat) (row : zA) {flow' : zA} (C : zC G cX0_addUpCurrents 4 RX0 none 1) (F : zF G none (HW (gk G) h r fl row flow')) (K : Int32 → Int32 → zA → zA → Option (zA)) (hK : ∀ (l1 : Int32) (l2 : Int32) (flow : zA), K l1 l2 row flow = some flow' → zV G 4 15 [(0, .ref h), (1, .int l1), (2, .int l2)] [] (HW (gk G) h r fl row flow)) : ∀ (s0 : Int32) (l1 : Int32) (l2 : Int32) (flow : zA), B_X0_addUpCurrents_60 K s0 l1 l2 row flow = some flow' → zV G 4 60 [(0, .ref h), (1, .int l1), (2, .int l2)] [.int s0] (HW (gk G) h r fl row flow) := by
  intro s0 l1 l2 flow hf
  unfold B_X0_addUpCurrents_60 at hf
  refine z_istore_n (ls' := [(3, _), (0, _), (1, _), (2, _)]) C dX0_addUpCurrents_60 (by decide) rfl ?_
  refine z_iload_n 0 C dX0_addUpCurrents_61 rfl ?_
  refine z_if_eq (tgt := 87) C dX0_addUpCurrents_62 rfl (fun hc => ?_) (fun hc => ?_)
  · have hf := ifp hc hf
    obtain ⟨x1, e2, hf⟩ := nm_g hf
    refine z_iinc (ls' := [(2, _), (3, _), (0, _), (1, _)]) 3 C dX0_addUpCurrents_87 rfl kc_1 e2 (by decide) rfl ?_
    refine z_goto (tgt := 15) C dX0_addUpCurrents_90 rfl ?_
    refine z_sub (ls' := [(0, .ref h), (1, .int l1), (2, .int x1)]) [2, 3, 0] rfl ?_
    exact hK _ _ _ hf
  have hf := ifn hc hf
  refine z_aload_n 1 C dX0_addUpCurrents_65 rfl ?_
  refine z_aload_n 1 C dX0_addUpCurrents_66 rfl ?_
  refine gf_X0_11 0 C dX0_addUpCurrents_67 rfl rfl ?_
  refine z_bipush (v := 97) C dX0_addUpCurrents_70 kb_97 ?_
  refine z_iload_n 3 C dX0_addUpCurrents_72 rfl ?_
  refine z_iadd C dX0_addUpCurrents_73 ?_
  obtain ⟨k3, h4, hf⟩ := gd_e hf
  refine z_iald 1 C dX0_addUpCurrents_74 h4 rfl ?_
  refine z_aload_n 1 C dX0_addUpCurrents_75 rfl ?_
  refine gf_X0_11 0 C dX0_addUpCurrents_76 rfl rfl ?_
  refine z_bipush (v := 111) C dX0_addUpCurrents_79 kb_111 ?_
  refine z_iload_n 3 C dX0_addUpCurrents_81 rfl ?_
  refine z_iadd C dX0_addUpCurrents_82 ?_
  obtain ⟨k5, h6, hf⟩ := gd_e hf
  refine z_iald 1 C dX0_addUpCurrents_83 h6 rfl ?_
  obtain ⟨flow7, e8, hf⟩ := b1_e hf
  refine z_callVv (st := []) (ws2 := (HW (gk G) h r fl row flow7)) [0, 1, 2] C dX0_addUpCurrents_84 w_X0_90 (c_X0_addFlow h r fl (row k3) (row k5) row flow e8) (by decide) rfl rfl rfl rfl rfl rfl rfl (Nat.le_of_ble_eq_true rfl) rfl ?_
  obtain ⟨x9, e10, hf⟩ := nm_g hf
  refine z_iinc (ls' := [(2, _), (3, _), (0, _), (1, _)]) 3 C dX0_addUpCurrents_87 rfl kc_1 e10 (by decide) rfl ?_
  refine z_goto (tgt := 15) C dX0_addUpCurrents_90 rfl ?_
  refine z_sub (ls' := [(0, .ref h), (1, .int l1), (2, .int x9)]) [2, 3, 0] rfl ?_
  exact hK _ _ _ hf
set_option maxHeartbeats 400000 in
set_option maxRecDepth 100000 in
theorem tb_X0_addUpCurrents_59 {G : GT} (h : Nat) (r : Nat) (fl : Nat) (row : zA) {flow' : zA} (C : zC G cX0_addUpCurrents 4 RX0 none 1) (F : zF G none (HW (gk G) h r fl row flow')) (K : Int32 → Int32 → zA → zA → Option (zA)) (hK : ∀ (l1 : Int32) (l2 : Int32) (flow : zA), K l1 l2 row flow = some flow' → zV G 4 15 [(0, .ref h), (1, .int l1), (2, .int l2)] [] (HW (gk G) h r fl row flow)) : ∀ (l1 : Int32) (l2 : Int32) (flow : zA), B_X0_addUpCurrents_59 K l1 l2 row flow = some flow' → zV G 4 59 [(0, .ref h), (1, .int l1), (2, .int l2)] [] (HW (gk G) h r fl row flow) := by
  intro l1 l2 flow hf
  unfold B_X0_addUpCurrents_59 at hf
  refine z_iconst (v := 0) C dX0_addUpCurrents_59 kc_0 ?_
  exact tb_X0_addUpCurrents_60 h r fl row C F K hK _ _ _ _ hf
set_option maxHeartbeats 400000 in
set_option maxRecDepth 100000 in
theorem tb_X0_addUpCurrents_15 {G : GT} (h : Nat) (r : Nat) (fl : Nat) (row : zA) {flow' : zA} (C : zC G cX0_addUpCurrents 4 RX0 none 1) (F : zF G none (HW (gk G) h r fl row flow')) : ∀ (n : Nat) (l1 : Int32) (l2 : Int32) (flow : zA), B_X0_addUpCurrents_15 n l1 l2 row flow = some flow' → zV G 4 15 [(0, .ref h), (1, .int l1), (2, .int l2)] [] (HW (gk G) h r fl row flow) := by
  intro n
  induction n with
  | zero => intro _ _ _ hf; rw [B_X0_addUpCurrents_15] at hf; cases hf
  | succ n ih =>
    intro l1 l2 flow hf
    rw [B_X0_addUpCurrents_15] at hf
    refine z_iload_n 2 C dX0_addUpCurrents_15 rfl ?_
    refine z_aload_n 0 C dX0_addUpCurrents_16 rfl ?_
    refine gf_X0_11 0 C dX0_addUpCurrents_17 rfl rfl ?_
    refine z_iconst (v := 5) C dX0_addUpCurrents_20 kc_5 ?_
    refine z_iald 1 C dX0_addUpCurrents_21 ix_5_125 rfl ?_
    refine z_icmp_ge (tgt := 93) C dX0_addUpCurrents_22 rfl (fun hc => ?_) (fun hc => ?_)
    · have hf := ifp hc hf
      refine z_aload_n 0 C dX0_addUpCurrents_93 rfl ?_
      refine gf_X0_11 0 C dX0_addUpCurrents_94 rfl rfl ?_
      refine z_iconst (v := 4) C dX0_addUpCurrents_97 kc_4 ?_
      refine z_iald 1 C dX0_addUpCurrents_98 ix_4_125 rfl ?_
      refine z_iconst (v := 1) C dX0_addUpCurrents_99 kc_1 ?_
      refine z_isub C dX0_addUpCurrents_100 ?_
      obtain ⟨x1, e2, hf⟩ := nm_g hf
      refine z_top e2 ?_
      refine z_istore_n (ls' := [(2, _), (0, _), (1, _)]) C dX0_addUpCurrents_101 (by decide) rfl ?_
      refine z_sub (ls' := [(0, .ref h), (2, .int x1)]) [1, 0] rfl ?_
      exact tb_X0_addUpCurrents_102 h r fl row C F _ _ _ hf
    have hf := ifn hc hf
    refine z_aload_n 0 C dX0_addUpCurrents_25 rfl ?_
    refine gf_X0_11 0 C dX0_addUpCurrents_26 rfl rfl ?_
    refine z_bipush (v := 6) C dX0_addUpCurrents_29 kb_6 ?_
    refine z_iald 1 C dX0_addUpCurrents_31 ix_6_125 rfl ?_
    refine z_iload_n 2 C dX0_addUpCurrents_32 rfl ?_
    refine z_ishr C dX0_addUpCurrents_33 ?_
    refine z_iconst (v := 1) C dX0_addUpCurrents_34 kc_1 ?_
    refine z_iand C dX0_addUpCurrents_35 ?_
    refine z_if_eq (tgt := 59) C dX0_addUpCurrents_36 rfl (fun hc => ?_) (fun hc => ?_)
    · have hf := ifp hc hf
      exact tb_X0_addUpCurrents_59 h r fl row C F _ ih _ _ _ hf
    have hf := ifn hc hf
    refine z_iload_n 1 C dX0_addUpCurrents_39 rfl ?_
    refine z_aload_n 0 C dX0_addUpCurrents_40 rfl ?_
    refine gf_X0_11 0 C dX0_addUpCurrents_41 rfl rfl ?_
    refine z_bipush (v := 97) C dX0_addUpCurrents_44 kb_97 ?_
    refine z_iload_n 2 C dX0_addUpCurrents_46 rfl ?_
    refine z_iadd C dX0_addUpCurrents_47 ?_
    obtain ⟨k3, h4, hf⟩ := gd_e hf
    refine z_iald 1 C dX0_addUpCurrents_48 h4 rfl ?_
    refine z_ishr C dX0_addUpCurrents_49 ?_
    refine z_iconst (v := 1) C dX0_addUpCurrents_50 kc_1 ?_
    refine z_iand C dX0_addUpCurrents_51 ?_
    refine z_if_ne (tgt := 59) C dX0_addUpCurrents_52 rfl (fun hc => ?_) (fun hc => ?_)
    · have hf := ifn hc hf
      exact tb_X0_addUpCurrents_59 h r fl row C F _ ih _ _ _ hf
    have hf := ifp hc hf
    refine z_iconst (v := 1) C dX0_addUpCurrents_55 kc_1 ?_
    refine z_goto (tgt := 60) C dX0_addUpCurrents_56 rfl ?_
    exact tb_X0_addUpCurrents_60 h r fl row C F _ ih _ _ _ _ hf
set_option maxHeartbeats 400000 in
set_option maxRecDepth 100000 in
theorem c_X0_addUpCurrents {l : Launch} {D : va_G} {cs : ClassId × ClassId × ClassId} (h : Nat) (r : Nat) (fl : Nat)  (row : zA) (flow : zA) {flow' : zA} (e : f_X0_addUpCurrents row flow = some flow') : zMv l D cs yX0_addUpCurrents cX0_addUpCurrents 4 none 1 [.ref h] (HW cs h r fl row flow) (HW cs h r fl row flow') := by
  refine zMv_of (show plainName RX0 = true by decide +kernel) (Nat.le_of_ble_eq_true rfl) ?_
  rintro G rfl rfl rfl C F
  have hf := e
  clear e
  unfold f_X0_addUpCurrents at hf
  show zV G 4 0 [(0, .ref h)] [] (HW (gk G) h r fl row flow)
  refine z_aload_n 0 C dX0_addUpCurrents_0 rfl ?_
  refine gf_X0_15 0 C dX0_addUpCurrents_1 rfl rfl ?_
  refine z_iconst (v := 0) C dX0_addUpCurrents_4 kc_0 ?_
  obtain ⟨flow1, e2, hf⟩ := b1_e hf
  refine z_callSv (st := []) (ws2 := (HW (gk G) h r fl row flow1)) [2] C dX0_addUpCurrents_5 w_X0_84 (c_J7_fill_53178 fl 10 0 flow e2) (by decide) rfl rfl rfl  rfl rfl (Nat.le_of_ble_eq_true rfl) rfl ?_
  refine z_aload_n 0 C dX0_addUpCurrents_8 rfl ?_
  obtain ⟨v3, e4, hf⟩ := b1_e hf
  refine z_callV (st := []) (ws2 := (HW (gk G) h r fl row flow1)) [0, 1, 2] C dX0_addUpCurrents_9 w_X0_87 (c_X0_deadBoards h r fl row flow1 e4) (by decide) rfl rfl rfl rfl rfl rfl rfl (Nat.le_of_ble_eq_true rfl) rfl ?_
  refine z_istore_n (ls' := [(1, _), (0, _)]) C dX0_addUpCurrents_12 (by decide) rfl ?_
  refine z_iconst (v := 0) C dX0_addUpCurrents_13 kc_0 ?_
  refine z_istore_n (ls' := [(2, _), (1, _), (0, _)]) C dX0_addUpCurrents_14 (by decide) rfl ?_
  refine z_sub (ls' := [(0, .ref h), (1, .int v3), (2, .int 0)]) [2, 1, 0] rfl ?_
  exact tb_X0_addUpCurrents_15 h r fl row C F _ _ _ _ hf
set_option maxHeartbeats 400000 in
set_option maxRecDepth 100000 in
theorem tb_X0_burnArcs_2 {G : GT} (h : Nat) (r : Nat) (fl : Nat) (flow : zA) {row' : zA} (C : zC G cX0_burnArcs 2 RX0 none 0) (F : zF G none (HW (gk G) h r fl row' flow)) : ∀ (n : Nat) (l1 : Int32) (row : zA), B_X0_burnArcs_2 n l1 row = some row' → zV G 2 2 [(0, .ref h), (1, .int l1)] [] (HW (gk G) h r fl row flow) := by
  intro n
  induction n with
  | zero => intro _ _ hf; rw [B_X0_burnArcs_2] at hf; cases hf
  | succ n ih =>
    intro l1 row hf
    rw [B_X0_burnArcs_2] at hf
    refine z_iload_n 1 C dX0_burnArcs_2 rfl ?_
    refine z_aload_n 0 C dX0_burnArcs_3 rfl ?_
    refine gf_X0_11 0 C dX0_burnArcs_4 rfl rfl ?_
    refine z_iconst (v := 4) C dX0_burnArcs_7 kc_4 ?_
    refine z_iald 1 C dX0_burnArcs_8 ix_4_125 rfl ?_
    refine z_icmp_ge (tgt := 71) C dX0_burnArcs_9 rfl (fun hc => ?_) (fun hc => ?_)
    · have hf := ifp hc hf
      cases hf
      exact z_vret C dX0_burnArcs_71 F
    have hf := ifn hc hf
    refine z_aload_n 0 C dX0_burnArcs_12 rfl ?_
    refine gf_X0_11 0 C dX0_burnArcs_13 rfl rfl ?_
    refine z_bipush (v := 47) C dX0_burnArcs_16 kb_47 ?_
    refine z_iload_n 1 C dX0_burnArcs_18 rfl ?_
    refine z_iadd C dX0_burnArcs_19 ?_
    obtain ⟨k1, h2, hf⟩ := gd_e hf
    refine z_iald 1 C dX0_burnArcs_20 h2 rfl ?_
    refine z_if_ne (tgt := 27) C dX0_burnArcs_21 rfl (fun hc => ?_) (fun hc => ?_)
    · have hf := ifn hc hf
      refine z_aload_n 0 C dX0_burnArcs_27 rfl ?_
      refine gf_X0_11 0 C dX0_burnArcs_28 rfl rfl ?_
      refine z_bipush (v := 47) C dX0_burnArcs_31 kb_47 ?_
      refine z_iload_n 1 C dX0_burnArcs_33 rfl ?_
      refine z_iadd C dX0_burnArcs_34 ?_
      refine z_dup2 C dX0_burnArcs_35 rfl rfl ?_
      refine z_iald 1 C dX0_burnArcs_36 h2 rfl ?_
      refine z_iconst (v := 1) C dX0_burnArcs_37 kc_1 ?_
      refine z_isub C dX0_burnArcs_38 ?_
      obtain ⟨row3, e4, hf⟩ := nm_g hf
      refine z_iast (ws' := (HW (gk G) h r fl row3 flow)) 1 C dX0_burnArcs_39 h2 rfl e4 rfl ?_
      refine z_aload_n 0 C dX0_burnArcs_40 rfl ?_
      refine gf_X0_11 0 C dX0_burnArcs_41 rfl rfl ?_
      refine z_bipush (v := 47) C dX0_burnArcs_44 kb_47 ?_
      refine z_iload_n 1 C dX0_burnArcs_46 rfl ?_
      refine z_iadd C dX0_burnArcs_47 ?_
      refine z_iald 1 C dX0_burnArcs_48 h2 rfl ?_
      refine z_if_ne (tgt := 65) C dX0_burnArcs_49 rfl (fun hc => ?_) (fun hc => ?_)
      · have hf := ifn hc hf
        obtain ⟨x5, e6, hf⟩ := nm_g hf
        refine z_iinc (ls' := [(1, _), (0, _)]) 1 C dX0_burnArcs_65 rfl kc_1 e6 (by decide) rfl ?_
        refine z_goto (tgt := 2) C dX0_burnArcs_68 rfl ?_
        refine z_sub (ls' := [(0, .ref h), (1, .int x5)]) [1, 0] rfl ?_
        exact ih _ _ hf
      have hf := ifp hc hf
      refine z_aload_n 0 C dX0_burnArcs_52 rfl ?_
      refine gf_X0_11 0 C dX0_burnArcs_53 rfl rfl ?_
      refine z_bipush (v := 7) C dX0_burnArcs_56 kb_7 ?_
      refine z_dup2 C dX0_burnArcs_58 rfl rfl ?_
      refine z_iald 1 C dX0_burnArcs_59 ix_7_125 rfl ?_
      refine z_iconst (v := 1) C dX0_burnArcs_60 kc_1 ?_
      refine z_iload_n 1 C dX0_burnArcs_61 rfl ?_
      refine z_ishl C dX0_burnArcs_62 ?_
      refine z_ior C dX0_burnArcs_63 ?_
      obtain ⟨row7, e8, hf⟩ := nm_g hf
      refine z_iast (ws' := (HW (gk G) h r fl row7 flow)) 1 C dX0_burnArcs_64 ix_7_125 rfl e8 rfl ?_
      obtain ⟨x9, e10, hf⟩ := nm_g hf
      refine z_iinc (ls' := [(1, _), (0, _)]) 1 C dX0_burnArcs_65 rfl kc_1 e10 (by decide) rfl ?_
      refine z_goto (tgt := 2) C dX0_burnArcs_68 rfl ?_
      refine z_sub (ls' := [(0, .ref h), (1, .int x9)]) [1, 0] rfl ?_
      exact ih _ _ hf
    have hf := ifp hc hf
    refine z_goto (tgt := 65) C dX0_burnArcs_24 rfl ?_
    obtain ⟨x11, e12, hf⟩ := nm_g hf
    refine z_iinc (ls' := [(1, _), (0, _)]) 1 C dX0_burnArcs_65 rfl kc_1 e12 (by decide) rfl ?_
    refine z_goto (tgt := 2) C dX0_burnArcs_68 rfl ?_
    refine z_sub (ls' := [(0, .ref h), (1, .int x11)]) [1, 0] rfl ?_
    exact ih _ _ hf
set_option maxHeartbeats 400000 in
set_option maxRecDepth 100000 in
theorem c_X0_burnArcs {l : Launch} {D : va_G} {cs : ClassId × ClassId × ClassId} (h : Nat) (r : Nat) (fl : Nat)  (row : zA) (flow : zA) {row' : zA} (e : f_X0_burnArcs row = some row') : zMv l D cs yX0_burnArcs cX0_burnArcs 2 none 0 [.ref h] (HW cs h r fl row flow) (HW cs h r fl row' flow) := by
  refine zMv_of (show plainName RX0 = true by decide +kernel) (Nat.le_of_ble_eq_true rfl) ?_
  rintro G rfl rfl rfl C F
  have hf := e
  clear e
  unfold f_X0_burnArcs at hf
  show zV G 2 0 [(0, .ref h)] [] (HW (gk G) h r fl row flow)
  refine z_iconst (v := 0) C dX0_burnArcs_0 kc_0 ?_
  refine z_istore_n (ls' := [(1, _), (0, _)]) C dX0_burnArcs_1 (by decide) rfl ?_
  refine z_sub (ls' := [(0, .ref h), (1, .int 0)]) [1, 0] rfl ?_
  exact tb_X0_burnArcs_2 h r fl flow C F _ _ _ hf
set_option maxHeartbeats 400000 in
set_option maxRecDepth 100000 in
theorem c_X0_state {l : Launch} {D : va_G} {cs : ClassId × ClassId × ClassId} (h : Nat) (r : Nat) (fl : Nat) (a1 : Int32) (row : zA) (flow : zA) {v : Int32}  (e : f_X0_state a1 row = some v) : zM l D cs yX0_state cX0_state 2 (some .int) 0 [.ref h, .int a1] (HW cs h r fl row flow) v (HW cs h r fl row flow) := by
  refine zM_of (show plainName RX0 = true by decide +kernel) (Nat.le_of_ble_eq_true rfl) ?_
  rintro G rfl rfl rfl C F
  have hf := e
  clear e
  unfold f_X0_state at hf
  show zV G 2 0 [(0, .ref h), (1, .int a1)] [] (HW (gk G) h r fl row flow)
  refine z_aload_n 0 C dX0_state_0 rfl ?_
  refine gf_X0_11 0 C dX0_state_1 rfl rfl ?_
  refine z_bipush (v := 7) C dX0_state_4 kb_7 ?_
  refine z_iald 1 C dX0_state_6 ix_7_125 rfl ?_
  refine z_iload_n 1 C dX0_state_7 rfl ?_
  refine z_ishr C dX0_state_8 ?_
  refine z_iconst (v := 1) C dX0_state_9 kc_1 ?_
  refine z_iand C dX0_state_10 ?_
  refine z_if_eq (tgt := 16) C dX0_state_11 rfl (fun hc => ?_) (fun hc => ?_)
  · have hf := ifp hc hf
    refine z_aload_n 0 C dX0_state_16 rfl ?_
    refine gf_X0_11 0 C dX0_state_17 rfl rfl ?_
    refine z_bipush (v := 47) C dX0_state_20 kb_47 ?_
    refine z_iload_n 1 C dX0_state_22 rfl ?_
    refine z_iadd C dX0_state_23 ?_
    obtain ⟨k1, h2, hf⟩ := gd_e hf
    refine z_iald 1 C dX0_state_24 h2 rfl ?_
    refine z_if_le (tgt := 32) C dX0_state_25 rfl (fun hc => ?_) (fun hc => ?_)
    · have hf := ifp hc hf
      refine z_iconst (v := 0) C dX0_state_32 kc_0 ?_
      cases hf
      exact z_iret C dX0_state_33 F
    have hf := ifn hc hf
    refine z_iconst (v := 1) C dX0_state_28 kc_1 ?_
    refine z_goto (tgt := 33) C dX0_state_29 rfl ?_
    cases hf
    exact z_iret C dX0_state_33 F
  have hf := ifn hc hf
  refine z_iconst (v := 2) C dX0_state_14 kc_2 ?_
  cases hf
  exact z_iret C dX0_state_15 F
set_option maxHeartbeats 400000 in
set_option maxRecDepth 100000 in
theorem c_X0_creep {l : Launch} {D : va_G} {cs : ClassId × ClassId × ClassId} (h : Nat) (r : Nat) (fl : Nat) (a1 : Int32) (row : zA) (flow : zA) {row' : zA} (e : f_X0_creep a1 row = some row') : zMv l D cs yX0_creep cX0_creep 2 none 0 [.ref h, .int a1] (HW cs h r fl row flow) (HW cs h r fl row' flow) := by
  refine zMv_of (show plainName RX0 = true by decide +kernel) (Nat.le_of_ble_eq_true rfl) ?_
  rintro G rfl rfl rfl C F
  have hf := e
  clear e
  unfold f_X0_creep at hf
  show zV G 2 0 [(0, .ref h), (1, .int a1)] [] (HW (gk G) h r fl row flow)
  refine z_aload_n 0 C dX0_creep_0 rfl ?_
  refine gf_X0_11 0 C dX0_creep_1 rfl rfl ?_
  refine z_bipush (v := 77) C dX0_creep_4 kb_77 ?_
  refine z_iload_n 1 C dX0_creep_6 rfl ?_
  refine z_iadd C dX0_creep_7 ?_
  refine z_dup2 C dX0_creep_8 rfl rfl ?_
  obtain ⟨k1, h2, hf⟩ := gd_e hf
  refine z_iald 1 C dX0_creep_9 h2 rfl ?_
  refine z_iconst (v := 1) C dX0_creep_10 kc_1 ?_
  refine z_iadd C dX0_creep_11 ?_
  obtain ⟨row3, e4, hf⟩ := nm_g hf
  refine z_iast (ws' := (HW (gk G) h r fl row3 flow)) 1 C dX0_creep_12 h2 rfl e4 rfl ?_
  refine z_aload_n 0 C dX0_creep_13 rfl ?_
  refine gf_X0_11 0 C dX0_creep_14 rfl rfl ?_
  refine z_bipush (v := 77) C dX0_creep_17 kb_77 ?_
  refine z_iload_n 1 C dX0_creep_19 rfl ?_
  refine z_iadd C dX0_creep_20 ?_
  refine z_iald 1 C dX0_creep_21 h2 rfl ?_
  refine z_aload_n 0 C dX0_creep_22 rfl ?_
  refine gf_X0_11 0 C dX0_creep_23 rfl rfl ?_
  refine z_iconst (v := 2) C dX0_creep_26 kc_2 ?_
  refine z_iald 1 C dX0_creep_27 ix_2_125 rfl ?_
  refine z_icmp_ge (tgt := 32) C dX0_creep_28 rfl (fun hc => ?_) (fun hc => ?_)
  · have hf := ifp hc hf
    refine z_aload_n 0 C dX0_creep_32 rfl ?_
    refine gf_X0_11 0 C dX0_creep_33 rfl rfl ?_
    refine z_bipush (v := 77) C dX0_creep_36 kb_77 ?_
    refine z_iload_n 1 C dX0_creep_38 rfl ?_
    refine z_iadd C dX0_creep_39 ?_
    refine z_iconst (v := 0) C dX0_creep_40 kc_0 ?_
    obtain ⟨row5, e6, hf⟩ := nm_g hf
    refine z_iast (ws' := (HW (gk G) h r fl row5 flow)) 1 C dX0_creep_41 h2 rfl e6 rfl ?_
    refine z_aload_n 0 C dX0_creep_42 rfl ?_
    refine gf_X0_11 0 C dX0_creep_43 rfl rfl ?_
    refine z_bipush (v := 67) C dX0_creep_46 kb_67 ?_
    refine z_iload_n 1 C dX0_creep_48 rfl ?_
    refine z_iadd C dX0_creep_49 ?_
    refine z_dup2 C dX0_creep_50 rfl rfl ?_
    obtain ⟨k7, h8, hf⟩ := gd_e hf
    refine z_iald 1 C dX0_creep_51 h8 rfl ?_
    refine z_iconst (v := 1) C dX0_creep_52 kc_1 ?_
    refine z_iadd C dX0_creep_53 ?_
    obtain ⟨row9, e10, hf⟩ := nm_g hf
    refine z_iast (ws' := (HW (gk G) h r fl row9 flow)) 1 C dX0_creep_54 h8 rfl e10 rfl ?_
    cases hf
    exact z_vret C dX0_creep_55 F
  have hf := ifn hc hf
  cases hf
  exact z_vret C dX0_creep_31 F
set_option maxHeartbeats 400000 in
set_option maxRecDepth 100000 in
theorem tb_X0_warm_95 {G : GT} (h : Nat) (r : Nat) (fl : Nat) (flow : zA) {row' : zA} (C : zC G cX0_warm 7 RX0 none 1) (F : zF G none (HW (gk G) h r fl row' flow)) : ∀ (l1 : Int32) (l2 : Int32) (l3 : Int32) (row : zA), B_X0_warm_95 l1 l2 l3 row = some row' → zV G 7 95 [(0, .ref h), (1, .int l1), (2, .int l2), (3, .int l3)] [] (HW (gk G) h r fl row flow) := by
  intro l1 l2 l3 row hf
  unfold B_X0_warm_95 at hf
  refine z_aload_n 0 C dX0_warm_95 rfl ?_
  refine gf_X0_11 0 C dX0_warm_96 rfl rfl ?_
  refine z_bipush (v := 37) C dX0_warm_99 kb_37 ?_
  refine z_iload_n 1 C dX0_warm_101 rfl ?_
  refine z_iadd C dX0_warm_102 ?_
  obtain ⟨k1, h2, hf⟩ := gd_e hf
  refine z_iald 1 C dX0_warm_103 h2 rfl ?_
  refine z_iconst (v := 2) C dX0_warm_104 kc_2 ?_
  refine z_icmp_ne (tgt := 120) C dX0_warm_105 rfl (fun hc => ?_) (fun hc => ?_)
  · have hf := ifn hc hf
    cases hf
    exact z_vret C dX0_warm_120 F
  have hf := ifp hc hf
  refine z_iconst (v := 2) C dX0_warm_108 kc_2 ?_
  refine z_iload_n 2 C dX0_warm_109 rfl ?_
  refine z_imul C dX0_warm_110 ?_
  refine z_iload_n 3 C dX0_warm_111 rfl ?_
  refine z_icmp_le (tgt := 120) C dX0_warm_112 rfl (fun hc => ?_) (fun hc => ?_)
  · have hf := ifp hc hf
    cases hf
    exact z_vret C dX0_warm_120 F
  have hf := ifn hc hf
  refine z_aload_n 0 C dX0_warm_115 rfl ?_
  refine z_iload_n 1 C dX0_warm_116 rfl ?_
  obtain ⟨row3, e4, hf⟩ := b1_e hf
  refine z_callVv (st := []) (ws2 := (HW (gk G) h r fl row3 flow)) [0, 1, 2] C dX0_warm_117 w_X0_103 (c_X0_creep h r fl l1 row flow e4) (by decide) rfl rfl rfl rfl rfl rfl rfl (Nat.le_of_ble_eq_true rfl) rfl ?_
  cases hf
  exact z_vret C dX0_warm_120 F
set_option maxHeartbeats 400000 in
set_option maxRecDepth 100000 in
theorem c_X0_warm {l : Launch} {D : va_G} {cs : ClassId × ClassId × ClassId} (h : Nat) (r : Nat) (fl : Nat) (a1 : Int32) (a2 : Int32) (row : zA) (flow : zA) {row' : zA} (e : f_X0_warm a1 a2 row = some row') : zMv l D cs yX0_warm cX0_warm 7 none 1 [.ref h, .int a1, .int a2] (HW cs h r fl row flow) (HW cs h r fl row' flow) := by
  refine zMv_of (show plainName RX0 = true by decide +kernel) (Nat.le_of_ble_eq_true rfl) ?_
  rintro G rfl rfl rfl C F
  have hf := e
  clear e
  unfold f_X0_warm at hf
  show zV G 7 0 [(0, .ref h), (1, .int a1), (2, .int a2)] [] (HW (gk G) h r fl row flow)
  refine z_aload_n 0 C dX0_warm_0 rfl ?_
  refine gf_X0_11 0 C dX0_warm_1 rfl rfl ?_
  refine z_bipush (v := 27) C dX0_warm_4 kb_27 ?_
  refine z_iload_n 1 C dX0_warm_6 rfl ?_
  refine z_iadd C dX0_warm_7 ?_
  obtain ⟨k1, h2, hf⟩ := gd_e hf
  refine z_iald 1 C dX0_warm_8 h2 rfl ?_
  refine z_istore_n (ls' := [(3, _), (0, _), (1, _), (2, _)]) C dX0_warm_9 (by decide) rfl ?_
  refine z_aload_n 1 C dX0_warm_10 rfl ?_
  refine gf_X0_11 0 C dX0_warm_11 rfl rfl ?_
  refine z_bipush (v := 57) C dX0_warm_14 kb_57 ?_
  refine z_iload_n 2 C dX0_warm_16 rfl ?_
  refine z_iadd C dX0_warm_17 ?_
  obtain ⟨k3, h4, hf⟩ := gd_e hf
  refine z_iald 1 C dX0_warm_18 h4 rfl ?_
  refine z_istore (ls' := [(4, _), (3, _), (0, _), (1, _), (2, _)]) C dX0_warm_19 (by decide) rfl ?_
  refine z_iload_n 4 C dX0_warm_21 rfl ?_
  refine z_iload_n 4 C dX0_warm_22 rfl ?_
  refine z_imul C dX0_warm_23 ?_
  refine z_iload_n 1 C dX0_warm_24 rfl ?_
  refine z_iload_n 1 C dX0_warm_25 rfl ?_
  refine z_imul C dX0_warm_26 ?_
  refine z_isub C dX0_warm_27 ?_
  obtain ⟨x5, e6, hf⟩ := nm_g hf
  refine z_top e6 ?_
  refine z_istore (ls' := [(5, _), (4, _), (3, _), (0, _), (1, _), (2, _)]) C dX0_warm_28 (by decide) rfl ?_
  refine z_iload_n 2 C dX0_warm_30 rfl ?_
  refine z_iload_n 2 C dX0_warm_31 rfl ?_
  refine z_imul C dX0_warm_32 ?_
  refine z_iload_n 5 C dX0_warm_33 rfl ?_
  refine z_iload_n 5 C dX0_warm_34 rfl ?_
  refine z_imul C dX0_warm_35 ?_
  refine z_isub C dX0_warm_36 ?_
  obtain ⟨x7, e8, hf⟩ := nm_g hf
  refine z_top e8 ?_
  refine z_istore (ls' := [(6, _), (5, _), (4, _), (3, _), (0, _), (1, _), (2, _)]) C dX0_warm_37 (by decide) rfl ?_
  refine z_iload_n 6 C dX0_warm_39 rfl ?_
  refine z_iload_n 3 C dX0_warm_40 rfl ?_
  refine z_icmp_le (tgt := 66) C dX0_warm_41 rfl (fun hc => ?_) (fun hc => ?_)
  · have hf := ifp hc hf
    refine z_aload_n 4 C dX0_warm_66 rfl ?_
    refine gf_X0_11 0 C dX0_warm_67 rfl rfl ?_
    refine z_bipush (v := 57) C dX0_warm_70 kb_57 ?_
    refine z_iload_n 5 C dX0_warm_72 rfl ?_
    refine z_iadd C dX0_warm_73 ?_
    refine z_iconst (v := 0) C dX0_warm_74 kc_0 ?_
    refine z_iload 2 C dX0_warm_75 rfl ?_
    refine z_iload 0 C dX0_warm_77 rfl ?_
    refine z_iconst (v := 1) C dX0_warm_79 kc_1 ?_
    refine z_aload_n 4 C dX0_warm_80 rfl ?_
    refine gf_X0_11 0 C dX0_warm_81 rfl rfl ?_
    refine z_iconst (v := 1) C dX0_warm_84 kc_1 ?_
    refine z_iald 1 C dX0_warm_85 ix_1_125 rfl ?_
    refine z_mmax C dX0_warm_86 wm_X0_100 (by decide) (Nat.le_of_ble_eq_true rfl) ?_
    obtain ⟨h9, hf⟩ := zdv_e hf
    refine z_idiv C dX0_warm_89 h9 ?_
    refine z_isub C dX0_warm_90 ?_
    refine z_mmax C dX0_warm_91 wm_X0_100 (by decide) (Nat.le_of_ble_eq_true rfl) ?_
    obtain ⟨row10, e11, hf⟩ := nm_g hf
    refine z_iast (ws' := (HW (gk G) h r fl row10 flow)) 1 C dX0_warm_94 h4 rfl e11 rfl ?_
    refine z_sub (ls' := [(0, .ref h), (1, .int a1), (2, .int a2), (3, .int (row k1))]) [4, 5, 6, 3] rfl ?_
    exact tb_X0_warm_95 h r fl flow C F _ _ _ _ hf
  have hf := ifn hc hf
  refine z_aload_n 4 C dX0_warm_44 rfl ?_
  refine gf_X0_11 0 C dX0_warm_45 rfl rfl ?_
  refine z_bipush (v := 57) C dX0_warm_48 kb_57 ?_
  refine z_iload_n 5 C dX0_warm_50 rfl ?_
  refine z_iadd C dX0_warm_51 ?_
  refine z_ldc C dX0_warm_52 tw_133 ?_
  refine z_iload 2 C dX0_warm_54 rfl ?_
  refine z_iload 1 C dX0_warm_56 rfl ?_
  refine z_iadd C dX0_warm_58 ?_
  refine z_mmin C dX0_warm_59 wm_X0_94 (by decide) (Nat.le_of_ble_eq_true rfl) ?_
  obtain ⟨row12, e13, hf⟩ := nm_g hf
  refine z_iast (ws' := (HW (gk G) h r fl row12 flow)) 1 C dX0_warm_62 h4 rfl e13 rfl ?_
  refine z_goto (tgt := 95) C dX0_warm_63 rfl ?_
  refine z_sub (ls' := [(0, .ref h), (1, .int a1), (2, .int a2), (3, .int (row k1))]) [4, 5, 6, 3] rfl ?_
  exact tb_X0_warm_95 h r fl flow C F _ _ _ _ hf
set_option maxHeartbeats 400000 in
set_option maxRecDepth 100000 in
theorem c_X0_heatFactor {l : Launch} {D : va_G} {cs : ClassId × ClassId × ClassId}  (a0 : Int32)  {v : Int32}  (e : f_X0_heatFactor a0 = some v) : zM l D cs yX0_heatFactor cX0_heatFactor 1 (some .int) 0 [.int a0] ([] : va_W) v ([] : va_W) := by
  refine zM_of (show plainName RX0 = true by decide +kernel) (Nat.le_of_ble_eq_true rfl) ?_
  rintro G rfl rfl rfl C F
  have hf := e
  clear e
  unfold f_X0_heatFactor at hf
  show zV G 1 0 [(0, .int a0)] [] ([] : va_W)
  refine z_iload_n 0 C dX0_heatFactor_0 rfl ?_
  by_cases hs1 : a0 = 0
  · have hf := ifp hs1 hf
    refine z_look (off := 27) (tgt := 28) C dX0_heatFactor_1 (by decide) (by rw [hs1]; decide) rfl ?_
    refine z_bipush (v := 8) C dX0_heatFactor_28 kb_8 ?_
    cases hf
    exact z_iret C dX0_heatFactor_30 F
  have hf := ifn hs1 hf
  by_cases hs2 : a0 = 1
  · have hf := ifp hs2 hf
    refine z_look (off := 30) (tgt := 31) C dX0_heatFactor_1 (by decide) (by rw [hs2]; decide) rfl ?_
    refine z_bipush (v := 40) C dX0_heatFactor_31 kb_40 ?_
    cases hf
    exact z_iret C dX0_heatFactor_33 F
  have hf := ifn hs2 hf
  refine z_look (off := 33) (tgt := 34) C dX0_heatFactor_1 (by decide) (by have q0 := ti_ne (z := 0) (by decide) hs1; have q1 := ti_ne (z := 1) (by decide) hs2; simp [Op.lookupswitch.offset, zne q0, q0, zne q1, q1]) rfl ?_
  refine z_bipush (v := 20) C dX0_heatFactor_34 kb_20 ?_
  cases hf
  exact z_iret C dX0_heatFactor_36 F
set_option maxHeartbeats 400000 in
set_option maxRecDepth 100000 in
theorem c_X0_meltingHeat {l : Launch} {D : va_G} {cs : ClassId × ClassId × ClassId} (h : Nat) (r : Nat) (fl : Nat) (a1 : Int32) (row : zA) (flow : zA) {v : Int32}  (e : f_X0_meltingHeat a1 row = some v) : zM l D cs yX0_meltingHeat cX0_meltingHeat 4 (some .int) 1 [.ref h, .int a1] (HW cs h r fl row flow) v (HW cs h r fl row flow) := by
  refine zM_of (show plainName RX0 = true by decide +kernel) (Nat.le_of_ble_eq_true rfl) ?_
  rintro G rfl rfl rfl C F
  have hf := e
  clear e
  unfold f_X0_meltingHeat at hf
  show zV G 4 0 [(0, .ref h), (1, .int a1)] [] (HW (gk G) h r fl row flow)
  refine z_aload_n 0 C dX0_meltingHeat_0 rfl ?_
  refine gf_X0_11 0 C dX0_meltingHeat_1 rfl rfl ?_
  refine z_bipush (v := 27) C dX0_meltingHeat_4 kb_27 ?_
  refine z_iload_n 1 C dX0_meltingHeat_6 rfl ?_
  refine z_iadd C dX0_meltingHeat_7 ?_
  obtain ⟨k1, h2, hf⟩ := gd_e hf
  refine z_iald 1 C dX0_meltingHeat_8 h2 rfl ?_
  refine z_istore_n (ls' := [(2, _), (0, _), (1, _)]) C dX0_meltingHeat_9 (by decide) rfl ?_
  refine z_iload_n 0 C dX0_meltingHeat_10 rfl ?_
  refine z_iload_n 0 C dX0_meltingHeat_11 rfl ?_
  refine z_imul C dX0_meltingHeat_12 ?_
  refine z_aload_n 1 C dX0_meltingHeat_13 rfl ?_
  refine gf_X0_11 0 C dX0_meltingHeat_14 rfl rfl ?_
  refine z_bipush (v := 37) C dX0_meltingHeat_17 kb_37 ?_
  refine z_iload_n 2 C dX0_meltingHeat_19 rfl ?_
  refine z_iadd C dX0_meltingHeat_20 ?_
  obtain ⟨k3, h4, hf⟩ := gd_e hf
  refine z_iald 1 C dX0_meltingHeat_21 h4 rfl ?_
  obtain ⟨v5, e6, hf⟩ := b1_e hf
  refine z_callS (st := [.int ((row k1) * (row k1))]) (ws2 := (HW (gk G) h r fl row flow)) [] C dX0_meltingHeat_22 w_X0_127 (c_X0_heatFactor (row k3) e6) (by decide) rfl rfl rfl  rfl rfl (Nat.le_of_ble_eq_true rfl) rfl ?_
  refine z_imul C dX0_meltingHeat_25 ?_
  obtain ⟨x7, e8, hf⟩ := nm_g hf
  refine z_top e8 ?_
  refine z_istore_n (ls' := [(3, _), (2, _), (0, _), (1, _)]) C dX0_meltingHeat_26 (by decide) rfl ?_
  refine z_iconst (v := 1) C dX0_meltingHeat_27 kc_1 ?_
  refine z_iload_n 0 C dX0_meltingHeat_28 rfl ?_
  refine z_bipush (v := 20) C dX0_meltingHeat_29 kb_20 ?_
  refine z_iload_n 1 C dX0_meltingHeat_31 rfl ?_
  refine z_imul C dX0_meltingHeat_32 ?_
  refine z_aload_n 2 C dX0_meltingHeat_33 rfl ?_
  refine gf_X0_11 0 C dX0_meltingHeat_34 rfl rfl ?_
  refine z_bipush (v := 67) C dX0_meltingHeat_37 kb_67 ?_
  refine z_iload_n 3 C dX0_meltingHeat_39 rfl ?_
  refine z_iadd C dX0_meltingHeat_40 ?_
  obtain ⟨k9, h10, hf⟩ := gd_e hf
  refine z_iald 1 C dX0_meltingHeat_41 h10 rfl ?_
  refine z_imul C dX0_meltingHeat_42 ?_
  refine z_isub C dX0_meltingHeat_43 ?_
  refine z_mmax C dX0_meltingHeat_44 wm_X0_100 (by decide) (Nat.le_of_ble_eq_true rfl) ?_
  cases hf
  exact z_iret C dX0_meltingHeat_47 F
set_option maxHeartbeats 400000 in
set_option maxRecDepth 100000 in
theorem tb_X0_molten_4 {G : GT} (h : Nat) (r : Nat) (fl : Nat) (row : zA) (flow : zA) {v : Int32}  (C : zC G cX0_molten 3 RX0 (some .int) 2) (F : zF G (some (.int v)) (HW (gk G) h r fl row flow)) : ∀ (n : Nat) (l1 : Int32) (l2 : Int32), B_X0_molten_4 n l1 l2 row = some v → zV G 3 4 [(0, .ref h), (1, .int l1), (2, .int l2)] [] (HW (gk G) h r fl row flow) := by
  intro n
  induction n with
  | zero => intro _ _ hf; rw [B_X0_molten_4] at hf; cases hf
  | succ n ih =>
    intro l1 l2 hf
    rw [B_X0_molten_4] at hf
    refine z_iload_n 2 C dX0_molten_4 rfl ?_
    refine z_aload_n 0 C dX0_molten_5 rfl ?_
    refine gf_X0_11 0 C dX0_molten_6 rfl rfl ?_
    refine z_iconst (v := 4) C dX0_molten_9 kc_4 ?_
    refine z_iald 1 C dX0_molten_10 ix_4_125 rfl ?_
    refine z_icmp_ge (tgt := 51) C dX0_molten_11 rfl (fun hc => ?_) (fun hc => ?_)
    · have hf := ifp hc hf
      refine z_iload_n 1 C dX0_molten_51 rfl ?_
      cases hf
      exact z_iret C dX0_molten_52 F
    have hf := ifn hc hf
    refine z_aload_n 0 C dX0_molten_14 rfl ?_
    refine z_iload_n 2 C dX0_molten_15 rfl ?_
    obtain ⟨v1, e2, hf⟩ := b1_e hf
    refine z_callV (st := []) (ws2 := (HW (gk G) h r fl row flow)) [0, 1, 2] C dX0_molten_16 w_X0_67 (c_X0_state h r fl l2 row flow e2) (by decide) rfl rfl rfl rfl rfl rfl rfl (Nat.le_of_ble_eq_true rfl) rfl ?_
    refine z_if_ne (tgt := 45) C dX0_molten_19 rfl (fun hc => ?_) (fun hc => ?_)
    · have hf := ifn hc hf
      obtain ⟨x3, e4, hf⟩ := nm_g hf
      refine z_iinc (ls' := [(2, _), (0, _), (1, _)]) 2 C dX0_molten_45 rfl kc_1 e4 (by decide) rfl ?_
      refine z_goto (tgt := 4) C dX0_molten_48 rfl ?_
      refine z_sub (ls' := [(0, .ref h), (1, .int l1), (2, .int x3)]) [1, 2, 0] rfl ?_
      exact ih _ _ hf
    have hf := ifp hc hf
    refine z_aload_n 0 C dX0_molten_22 rfl ?_
    refine gf_X0_11 0 C dX0_molten_23 rfl rfl ?_
    refine z_bipush (v := 57) C dX0_molten_26 kb_57 ?_
    refine z_iload_n 2 C dX0_molten_28 rfl ?_
    refine z_iadd C dX0_molten_29 ?_
    obtain ⟨k5, h6, hf⟩ := gd_e hf
    refine z_iald 1 C dX0_molten_30 h6 rfl ?_
    refine z_aload_n 0 C dX0_molten_31 rfl ?_
    refine z_iload_n 2 C dX0_molten_32 rfl ?_
    obtain ⟨v7, e8, hf⟩ := b1_e hf
    refine z_callV (st := [.int (row k5)]) (ws2 := (HW (gk G) h r fl row flow)) [0, 1, 2] C dX0_molten_33 w_X0_106 (c_X0_meltingHeat h r fl l2 row flow e8) (by decide) rfl rfl rfl rfl rfl rfl rfl (Nat.le_of_ble_eq_true rfl) rfl ?_
    refine z_icmp_lt (tgt := 45) C dX0_molten_36 rfl (fun hc => ?_) (fun hc => ?_)
    · have hf := ifp hc hf
      obtain ⟨x9, e10, hf⟩ := nm_g hf
      refine z_iinc (ls' := [(2, _), (0, _), (1, _)]) 2 C dX0_molten_45 rfl kc_1 e10 (by decide) rfl ?_
      refine z_goto (tgt := 4) C dX0_molten_48 rfl ?_
      refine z_sub (ls' := [(0, .ref h), (1, .int l1), (2, .int x9)]) [1, 2, 0] rfl ?_
      exact ih _ _ hf
    have hf := ifn hc hf
    refine z_iload_n 1 C dX0_molten_39 rfl ?_
    refine z_iconst (v := 1) C dX0_molten_40 kc_1 ?_
    refine z_iload_n 2 C dX0_molten_41 rfl ?_
    refine z_ishl C dX0_molten_42 ?_
    refine z_ior C dX0_molten_43 ?_
    obtain ⟨x11, e12, hf⟩ := nm_g hf
    refine z_top e12 ?_
    refine z_istore_n (ls' := [(1, _), (0, _), (2, _)]) C dX0_molten_44 (by decide) rfl ?_
    obtain ⟨x13, e14, hf⟩ := nm_g hf
    refine z_iinc (ls' := [(2, _), (1, _), (0, _)]) 2 C dX0_molten_45 rfl kc_1 e14 (by decide) rfl ?_
    refine z_goto (tgt := 4) C dX0_molten_48 rfl ?_
    refine z_sub (ls' := [(0, .ref h), (1, .int x11), (2, .int x13)]) [2, 1, 0] rfl ?_
    exact ih _ _ hf
set_option maxHeartbeats 400000 in
set_option maxRecDepth 100000 in
theorem c_X0_molten {l : Launch} {D : va_G} {cs : ClassId × ClassId × ClassId} (h : Nat) (r : Nat) (fl : Nat)  (row : zA) (flow : zA) {v : Int32}  (e : f_X0_molten row = some v) : zM l D cs yX0_molten cX0_molten 3 (some .int) 2 [.ref h] (HW cs h r fl row flow) v (HW cs h r fl row flow) := by
  refine zM_of (show plainName RX0 = true by decide +kernel) (Nat.le_of_ble_eq_true rfl) ?_
  rintro G rfl rfl rfl C F
  have hf := e
  clear e
  unfold f_X0_molten at hf
  show zV G 3 0 [(0, .ref h)] [] (HW (gk G) h r fl row flow)
  refine z_iconst (v := 0) C dX0_molten_0 kc_0 ?_
  refine z_istore_n (ls' := [(1, _), (0, _)]) C dX0_molten_1 (by decide) rfl ?_
  refine z_iconst (v := 0) C dX0_molten_2 kc_0 ?_
  refine z_istore_n (ls' := [(2, _), (1, _), (0, _)]) C dX0_molten_3 (by decide) rfl ?_
  refine z_sub (ls' := [(0, .ref h), (1, .int 0), (2, .int 0)]) [2, 1, 0] rfl ?_
  exact tb_X0_molten_4 h r fl row flow C F _ _ _ hf
set_option maxHeartbeats 400000 in
set_option maxRecDepth 100000 in
theorem tb_X0_fedThrough_18 {G : GT} (h : Nat) (r : Nat) (fl : Nat) (row : zA) (flow : zA) {v : Int32}  (C : zC G cX0_fedThrough 4 RX0 (some .int) 1) (F : zF G (some (.int v)) (HW (gk G) h r fl row flow)) : ∀ (n : Nat) (l2 : Int32) (l3 : Int32), B_X0_fedThrough_18 n l2 l3 row = some v → zV G 4 18 [(0, .ref h), (2, .int l2), (3, .int l3)] [] (HW (gk G) h r fl row flow) := by
  intro n
  induction n with
  | zero => intro _ _ hf; rw [B_X0_fedThrough_18] at hf; cases hf
  | succ n ih =>
    intro l2 l3 hf
    rw [B_X0_fedThrough_18] at hf
    refine z_iload_n 2 C dX0_fedThrough_18 rfl ?_
    refine z_aload_n 0 C dX0_fedThrough_19 rfl ?_
    refine gf_X0_11 0 C dX0_fedThrough_20 rfl rfl ?_
    refine z_iconst (v := 4) C dX0_fedThrough_23 kc_4 ?_
    refine z_iald 1 C dX0_fedThrough_24 ix_4_125 rfl ?_
    refine z_icmp_ge (tgt := 56) C dX0_fedThrough_25 rfl (fun hc => ?_) (fun hc => ?_)
    · have hf := ifp hc hf
      refine z_iload_n 1 C dX0_fedThrough_56 rfl ?_
      cases hf
      exact z_iret C dX0_fedThrough_57 F
    have hf := ifn hc hf
    refine z_iload_n 1 C dX0_fedThrough_28 rfl ?_
    refine z_aload_n 0 C dX0_fedThrough_29 rfl ?_
    refine gf_X0_11 0 C dX0_fedThrough_30 rfl rfl ?_
    refine z_bipush (v := 17) C dX0_fedThrough_33 kb_17 ?_
    refine z_iload_n 2 C dX0_fedThrough_35 rfl ?_
    refine z_iadd C dX0_fedThrough_36 ?_
    obtain ⟨k1, h2, hf⟩ := gd_e hf
    refine z_iald 1 C dX0_fedThrough_37 h2 rfl ?_
    refine z_ishr C dX0_fedThrough_38 ?_
    refine z_iconst (v := 1) C dX0_fedThrough_39 kc_1 ?_
    refine z_iand C dX0_fedThrough_40 ?_
    refine z_if_eq (tgt := 50) C dX0_fedThrough_41 rfl (fun hc => ?_) (fun hc => ?_)
    · have hf := ifp hc hf
      obtain ⟨x3, e4, hf⟩ := nm_g hf
      refine z_iinc (ls' := [(3, _), (0, _), (2, _)]) 2 C dX0_fedThrough_50 rfl kc_1 e4 (by decide) rfl ?_
      refine z_goto (tgt := 18) C dX0_fedThrough_53 rfl ?_
      refine z_sub (ls' := [(0, .ref h), (2, .int l2), (3, .int x3)]) [1, 2, 0] rfl ?_
      exact ih _ _ hf
    have hf := ifn hc hf
    refine z_iload_n 1 C dX0_fedThrough_44 rfl ?_
    refine z_iconst (v := 1) C dX0_fedThrough_45 kc_1 ?_
    refine z_iload_n 2 C dX0_fedThrough_46 rfl ?_
    refine z_ishl C dX0_fedThrough_47 ?_
    refine z_ior C dX0_fedThrough_48 ?_
    obtain ⟨x5, e6, hf⟩ := nm_g hf
    refine z_top e6 ?_
    refine z_istore_n (ls' := [(2, _), (0, _), (3, _)]) C dX0_fedThrough_49 (by decide) rfl ?_
    obtain ⟨x7, e8, hf⟩ := nm_g hf
    refine z_iinc (ls' := [(3, _), (2, _), (0, _)]) 2 C dX0_fedThrough_50 rfl kc_1 e8 (by decide) rfl ?_
    refine z_goto (tgt := 18) C dX0_fedThrough_53 rfl ?_
    refine z_sub (ls' := [(0, .ref h), (2, .int x5), (3, .int x7)]) [2, 1, 0] rfl ?_
    exact ih _ _ hf
set_option maxHeartbeats 400000 in
set_option maxRecDepth 100000 in
theorem c_X0_fedThrough {l : Launch} {D : va_G} {cs : ClassId × ClassId × ClassId} (h : Nat) (r : Nat) (fl : Nat) (a1 : Int32) (row : zA) (flow : zA) {v : Int32}  (e : f_X0_fedThrough a1 row = some v) : zM l D cs yX0_fedThrough cX0_fedThrough 4 (some .int) 1 [.ref h, .int a1] (HW cs h r fl row flow) v (HW cs h r fl row flow) := by
  refine zM_of (show plainName RX0 = true by decide +kernel) (Nat.le_of_ble_eq_true rfl) ?_
  rintro G rfl rfl rfl C F
  have hf := e
  clear e
  unfold f_X0_fedThrough at hf
  show zV G 4 0 [(0, .ref h), (1, .int a1)] [] (HW (gk G) h r fl row flow)
  refine z_aload_n 0 C dX0_fedThrough_0 rfl ?_
  refine z_iload_n 1 C dX0_fedThrough_1 rfl ?_
  obtain ⟨v1, e2, hf⟩ := b1_e hf
  refine z_callV (st := []) (ws2 := (HW (gk G) h r fl row flow)) [0, 1, 2] C dX0_fedThrough_2 w_X0_24 (c_X0_isBoard h r fl a1 row flow e2) (by decide) rfl rfl rfl rfl rfl rfl rfl (Nat.le_of_ble_eq_true rfl) rfl ?_
  refine z_if_ne (tgt := 10) C dX0_fedThrough_5 rfl (fun hc => ?_) (fun hc => ?_)
  · have hf := ifn hc hf
    refine z_iconst (v := 1) C dX0_fedThrough_10 kc_1 ?_
    refine z_iload_n 1 C dX0_fedThrough_11 rfl ?_
    refine z_ishl C dX0_fedThrough_12 ?_
    obtain ⟨x3, e4, hf⟩ := nm_g hf
    refine z_top e4 ?_
    refine z_istore_n (ls' := [(2, _), (0, _), (1, _)]) C dX0_fedThrough_13 (by decide) rfl ?_
    refine z_iload_n 2 C dX0_fedThrough_14 rfl ?_
    refine z_iconst (v := 1) C dX0_fedThrough_15 kc_1 ?_
    refine z_iadd C dX0_fedThrough_16 ?_
    obtain ⟨x5, e6, hf⟩ := nm_g hf
    refine z_top e6 ?_
    refine z_istore_n (ls' := [(3, _), (2, _), (0, _), (1, _)]) C dX0_fedThrough_17 (by decide) rfl ?_
    refine z_sub (ls' := [(0, .ref h), (2, .int x3), (3, .int x5)]) [2, 1, 0] rfl ?_
    exact tb_X0_fedThrough_18 h r fl row flow C F _ _ _ hf
  have hf := ifp hc hf
  refine z_iconst (v := 0) C dX0_fedThrough_8 kc_0 ?_
  cases hf
  exact z_iret C dX0_fedThrough_9 F
set_option maxHeartbeats 400000 in
set_option maxRecDepth 100000 in
theorem tb_X0_nearestOf_4 {G : GT} (h : Nat) (r : Nat) (fl : Nat) (row : zA) (flow : zA) {v : Int32}  (C : zC G cX0_nearestOf 4 RX0 (some .int) 2) (F : zF G (some (.int v)) (HW (gk G) h r fl row flow)) : ∀ (n : Nat) (l1 : Int32) (l2 : Int32) (l3 : Int32), B_X0_nearestOf_4 n l1 l2 l3 row = some v → zV G 4 4 [(0, .ref h), (1, .int l1), (2, .int l2), (3, .int l3)] [] (HW (gk G) h r fl row flow) := by
  intro n
  induction n with
  | zero => intro _ _ _ hf; rw [B_X0_nearestOf_4] at hf; cases hf
  | succ n ih =>
    intro l1 l2 l3 hf
    rw [B_X0_nearestOf_4] at hf
    refine z_iload_n 3 C dX0_nearestOf_4 rfl ?_
    refine z_aload_n 0 C dX0_nearestOf_5 rfl ?_
    refine gf_X0_11 0 C dX0_nearestOf_6 rfl rfl ?_
    refine z_iconst (v := 4) C dX0_nearestOf_9 kc_4 ?_
    refine z_iald 1 C dX0_nearestOf_10 ix_4_125 rfl ?_
    refine z_icmp_ge (tgt := 39) C dX0_nearestOf_11 rfl (fun hc => ?_) (fun hc => ?_)
    · have hf := ifp hc hf
      refine z_iload_n 2 C dX0_nearestOf_39 rfl ?_
      cases hf
      exact z_iret C dX0_nearestOf_40 F
    have hf := ifn hc hf
    refine z_aload_n 0 C dX0_nearestOf_14 rfl ?_
    refine z_iload_n 3 C dX0_nearestOf_15 rfl ?_
    obtain ⟨v1, e2, hf⟩ := b1_e hf
    refine z_callV (st := []) (ws2 := (HW (gk G) h r fl row flow)) [0, 1, 2] C dX0_nearestOf_16 w_X0_109 (c_X0_fedThrough h r fl l3 row flow e2) (by decide) rfl rfl rfl rfl rfl rfl rfl (Nat.le_of_ble_eq_true rfl) rfl ?_
    refine z_iload_n 1 C dX0_nearestOf_19 rfl ?_
    refine z_iand C dX0_nearestOf_20 ?_
    refine z_iconst (v := 1) C dX0_nearestOf_21 kc_1 ?_
    refine z_iload_n 3 C dX0_nearestOf_22 rfl ?_
    refine z_ishl C dX0_nearestOf_23 ?_
    refine z_icmp_ne (tgt := 33) C dX0_nearestOf_24 rfl (fun hc => ?_) (fun hc => ?_)
    · have hf := ifn hc hf
      obtain ⟨x3, e4, hf⟩ := nm_g hf
      refine z_iinc (ls' := [(3, _), (0, _), (1, _), (2, _)]) 3 C dX0_nearestOf_33 rfl kc_1 e4 (by decide) rfl ?_
      refine z_goto (tgt := 4) C dX0_nearestOf_36 rfl ?_
      refine z_sub (ls' := [(0, .ref h), (1, .int l1), (2, .int l2), (3, .int x3)]) [1, 2, 3, 0] rfl ?_
      exact ih _ _ _ hf
    have hf := ifp hc hf
    refine z_iload_n 2 C dX0_nearestOf_27 rfl ?_
    refine z_iconst (v := 1) C dX0_nearestOf_28 kc_1 ?_
    refine z_iload_n 3 C dX0_nearestOf_29 rfl ?_
    refine z_ishl C dX0_nearestOf_30 ?_
    refine z_ior C dX0_nearestOf_31 ?_
    obtain ⟨x5, e6, hf⟩ := nm_g hf
    refine z_top e6 ?_
    refine z_istore_n (ls' := [(2, _), (0, _), (1, _), (3, _)]) C dX0_nearestOf_32 (by decide) rfl ?_
    obtain ⟨x7, e8, hf⟩ := nm_g hf
    refine z_iinc (ls' := [(3, _), (2, _), (0, _), (1, _)]) 3 C dX0_nearestOf_33 rfl kc_1 e8 (by decide) rfl ?_
    refine z_goto (tgt := 4) C dX0_nearestOf_36 rfl ?_
    refine z_sub (ls' := [(0, .ref h), (1, .int l1), (2, .int x5), (3, .int x7)]) [2, 3, 1, 0] rfl ?_
    exact ih _ _ _ hf
set_option maxHeartbeats 400000 in
set_option maxRecDepth 100000 in
theorem c_X0_nearestOf {l : Launch} {D : va_G} {cs : ClassId × ClassId × ClassId} (h : Nat) (r : Nat) (fl : Nat) (a1 : Int32) (row : zA) (flow : zA) {v : Int32}  (e : f_X0_nearestOf a1 row = some v) : zM l D cs yX0_nearestOf cX0_nearestOf 4 (some .int) 2 [.ref h, .int a1] (HW cs h r fl row flow) v (HW cs h r fl row flow) := by
  refine zM_of (show plainName RX0 = true by decide +kernel) (Nat.le_of_ble_eq_true rfl) ?_
  rintro G rfl rfl rfl C F
  have hf := e
  clear e
  unfold f_X0_nearestOf at hf
  show zV G 4 0 [(0, .ref h), (1, .int a1)] [] (HW (gk G) h r fl row flow)
  refine z_iconst (v := 0) C dX0_nearestOf_0 kc_0 ?_
  refine z_istore_n (ls' := [(2, _), (0, _), (1, _)]) C dX0_nearestOf_1 (by decide) rfl ?_
  refine z_iconst (v := 0) C dX0_nearestOf_2 kc_0 ?_
  refine z_istore_n (ls' := [(3, _), (2, _), (0, _), (1, _)]) C dX0_nearestOf_3 (by decide) rfl ?_
  refine z_sub (ls' := [(0, .ref h), (1, .int a1), (2, .int 0), (3, .int 0)]) [2, 3, 1, 0] rfl ?_
  exact tb_X0_nearestOf_4 h r fl row flow C F _ _ _ _ hf
set_option maxHeartbeats 400000 in
set_option maxRecDepth 100000 in
theorem tb_X0_blow_37 {G : GT} (h : Nat) (r : Nat) (fl : Nat) (flow : zA) {row' : zA} (C : zC G cX0_blow 2 RX0 none 1) (F : zF G none (HW (gk G) h r fl row' flow)) : ∀ (l1 : Int32) (row : zA), B_X0_blow_37 l1 row = some row' → zV G 2 37 [(0, .ref h), (1, .int l1)] [] (HW (gk G) h r fl row flow) := by
  intro l1 row hf
  unfold B_X0_blow_37 at hf
  refine z_aload_n 0 C dX0_blow_37 rfl ?_
  refine gf_X0_11 0 C dX0_blow_38 rfl rfl ?_
  refine z_bipush (v := 8) C dX0_blow_41 kb_8 ?_
  refine z_dup2 C dX0_blow_43 rfl rfl ?_
  refine z_iald 1 C dX0_blow_44 ix_8_125 rfl ?_
  refine z_iconst (v := 1) C dX0_blow_45 kc_1 ?_
  refine z_iadd C dX0_blow_46 ?_
  obtain ⟨row1, e2, hf⟩ := nm_g hf
  refine z_iast (ws' := (HW (gk G) h r fl row1 flow)) 1 C dX0_blow_47 ix_8_125 rfl e2 rfl ?_
  refine z_aload_n 0 C dX0_blow_48 rfl ?_
  refine gf_X0_11 0 C dX0_blow_49 rfl rfl ?_
  refine z_bipush (v := 87) C dX0_blow_52 kb_87 ?_
  refine z_iload_n 1 C dX0_blow_54 rfl ?_
  refine z_iadd C dX0_blow_55 ?_
  refine z_dup2 C dX0_blow_56 rfl rfl ?_
  obtain ⟨k3, h4, hf⟩ := gd_e hf
  refine z_iald 1 C dX0_blow_57 h4 rfl ?_
  refine z_iconst (v := 1) C dX0_blow_58 kc_1 ?_
  refine z_iadd C dX0_blow_59 ?_
  obtain ⟨row5, e6, hf⟩ := nm_g hf
  refine z_iast (ws' := (HW (gk G) h r fl row5 flow)) 1 C dX0_blow_60 h4 rfl e6 rfl ?_
  refine z_aload_n 0 C dX0_blow_61 rfl ?_
  refine gf_X0_11 0 C dX0_blow_62 rfl rfl ?_
  refine z_bipush (v := 9) C dX0_blow_65 kb_9 ?_
  refine z_aload_n 0 C dX0_blow_67 rfl ?_
  refine gf_X0_11 0 C dX0_blow_68 rfl rfl ?_
  refine z_bipush (v := 10) C dX0_blow_71 kb_10 ?_
  refine z_bipush (v := 7) C dX0_blow_73 kb_7 ?_
  obtain ⟨row7, e8, hf⟩ := nm_g hf
  refine z_copy (ws2 := (HW (gk G) h r fl row7 flow)) 1 1 C dX0_blow_75 wc_X0_18 (by decide) (Nat.le_of_ble_eq_true rfl) rfl rfl cp_9 cp_10 cp_7 (by decide) (by decide) e8 rfl ?_
  refine z_aload_n 0 C dX0_blow_78 rfl ?_
  refine gf_X0_11 0 C dX0_blow_79 rfl rfl ?_
  refine z_bipush (v := 9) C dX0_blow_82 kb_9 ?_
  refine z_iload_n 1 C dX0_blow_84 rfl ?_
  obtain ⟨row9, e10, hf⟩ := nm_g hf
  refine z_iast (ws' := (HW (gk G) h r fl row9 flow)) 1 C dX0_blow_85 ix_9_125 rfl e10 rfl ?_
  cases hf
  exact z_vret C dX0_blow_86 F
set_option maxHeartbeats 400000 in
set_option maxRecDepth 100000 in
theorem c_X0_blow {l : Launch} {D : va_G} {cs : ClassId × ClassId × ClassId} (h : Nat) (r : Nat) (fl : Nat) (a1 : Int32) (row : zA) (flow : zA) {row' : zA} (e : f_X0_blow a1 row = some row') : zMv l D cs yX0_blow cX0_blow 2 none 1 [.ref h, .int a1] (HW cs h r fl row flow) (HW cs h r fl row' flow) := by
  refine zMv_of (show plainName RX0 = true by decide +kernel) (Nat.le_of_ble_eq_true rfl) ?_
  rintro G rfl rfl rfl C F
  have hf := e
  clear e
  unfold f_X0_blow at hf
  show zV G 2 0 [(0, .ref h), (1, .int a1)] [] (HW (gk G) h r fl row flow)
  refine z_aload_n 0 C dX0_blow_0 rfl ?_
  refine gf_X0_11 0 C dX0_blow_1 rfl rfl ?_
  refine z_bipush (v := 47) C dX0_blow_4 kb_47 ?_
  refine z_iload_n 1 C dX0_blow_6 rfl ?_
  refine z_iadd C dX0_blow_7 ?_
  refine z_aload_n 0 C dX0_blow_8 rfl ?_
  refine gf_X0_11 0 C dX0_blow_9 rfl rfl ?_
  refine z_iconst (v := 0) C dX0_blow_12 kc_0 ?_
  refine z_iald 1 C dX0_blow_13 ix_0_125 rfl ?_
  obtain ⟨k1, h2, hf⟩ := gd_e hf
  obtain ⟨row3, e4, hf⟩ := nm_g hf
  refine z_iast (ws' := (HW (gk G) h r fl row3 flow)) 1 C dX0_blow_14 h2 rfl e4 rfl ?_
  refine z_aload_n 0 C dX0_blow_15 rfl ?_
  refine gf_X0_11 0 C dX0_blow_16 rfl rfl ?_
  refine z_iconst (v := 0) C dX0_blow_19 kc_0 ?_
  refine z_iald 1 C dX0_blow_20 ix_0_125 rfl ?_
  refine z_if_ne (tgt := 37) C dX0_blow_21 rfl (fun hc => ?_) (fun hc => ?_)
  · have hf := ifn hc hf
    exact tb_X0_blow_37 h r fl flow C F _ _ hf
  have hf := ifp hc hf
  refine z_aload_n 0 C dX0_blow_24 rfl ?_
  refine gf_X0_11 0 C dX0_blow_25 rfl rfl ?_
  refine z_bipush (v := 7) C dX0_blow_28 kb_7 ?_
  refine z_dup2 C dX0_blow_30 rfl rfl ?_
  refine z_iald 1 C dX0_blow_31 ix_7_125 rfl ?_
  refine z_iconst (v := 1) C dX0_blow_32 kc_1 ?_
  refine z_iload_n 1 C dX0_blow_33 rfl ?_
  refine z_ishl C dX0_blow_34 ?_
  refine z_ior C dX0_blow_35 ?_
  obtain ⟨row5, e6, hf⟩ := nm_g hf
  refine z_iast (ws' := (HW (gk G) h r fl row5 flow)) 1 C dX0_blow_36 ix_7_125 rfl e6 rfl ?_
  exact tb_X0_blow_37 h r fl flow C F _ _ hf
set_option maxHeartbeats 400000 in
set_option maxRecDepth 100000 in
theorem tb_X0_tick_56 {G : GT} (h : Nat) (r : Nat) (fl : Nat)  {v : Int32} {row' : zA} {flow' : zA} (C : zC G cX0_tick 3 RX0 (some .int) 3) (F : zF G (some (.int v)) (HW (gk G) h r fl row' flow')) : ∀ (n : Nat) (l1 : Int32) (l2 : Int32) (row : zA) (flow : zA), B_X0_tick_56 n l1 l2 row flow = some (v, row', flow') → zV G 3 56 [(0, .ref h), (1, .int l1), (2, .int l2)] [] (HW (gk G) h r fl row flow) := by
  intro n
  induction n with
  | zero => intro _ _ _ _ hf; rw [B_X0_tick_56] at hf; cases hf
  | succ n ih =>
    intro l1 l2 row flow hf
    rw [B_X0_tick_56] at hf
    refine z_iload_n 2 C dX0_tick_56 rfl ?_
    refine z_aload_n 0 C dX0_tick_57 rfl ?_
    refine gf_X0_11 0 C dX0_tick_58 rfl rfl ?_
    refine z_iconst (v := 4) C dX0_tick_61 kc_4 ?_
    refine z_iald 1 C dX0_tick_62 ix_4_125 rfl ?_
    refine z_icmp_ge (tgt := 85) C dX0_tick_63 rfl (fun hc => ?_) (fun hc => ?_)
    · have hf := ifp hc hf
      refine z_aload_n 0 C dX0_tick_85 rfl ?_
      refine gf_X0_11 0 C dX0_tick_86 rfl rfl ?_
      refine z_iconst (v := 3) C dX0_tick_89 kc_3 ?_
      refine z_dup2 C dX0_tick_90 rfl rfl ?_
      refine z_iald 1 C dX0_tick_91 ix_3_125 rfl ?_
      refine z_iconst (v := 1) C dX0_tick_92 kc_1 ?_
      refine z_iadd C dX0_tick_93 ?_
      obtain ⟨row1, e2, hf⟩ := nm_g hf
      refine z_iast (ws' := (HW (gk G) h r fl row1 flow)) 1 C dX0_tick_94 ix_3_125 rfl e2 rfl ?_
      refine z_iload_n 1 C dX0_tick_95 rfl ?_
      cases hf
      exact z_iret C dX0_tick_96 F
    have hf := ifn hc hf
    refine z_iload_n 1 C dX0_tick_66 rfl ?_
    refine z_iload_n 2 C dX0_tick_67 rfl ?_
    refine z_ishr C dX0_tick_68 ?_
    refine z_iconst (v := 1) C dX0_tick_69 kc_1 ?_
    refine z_iand C dX0_tick_70 ?_
    refine z_if_eq (tgt := 79) C dX0_tick_71 rfl (fun hc => ?_) (fun hc => ?_)
    · have hf := ifp hc hf
      obtain ⟨x3, e4, hf⟩ := nm_g hf
      refine z_iinc (ls' := [(2, _), (0, _), (1, _)]) 2 C dX0_tick_79 rfl kc_1 e4 (by decide) rfl ?_
      refine z_goto (tgt := 56) C dX0_tick_82 rfl ?_
      refine z_sub (ls' := [(0, .ref h), (1, .int l1), (2, .int x3)]) [1, 2, 0] rfl ?_
      exact ih _ _ _ _ hf
    have hf := ifn hc hf
    refine z_aload_n 0 C dX0_tick_74 rfl ?_
    refine z_iload_n 2 C dX0_tick_75 rfl ?_
    obtain ⟨row5, e6, hf⟩ := b1_e hf
    refine z_callVv (st := []) (ws2 := (HW (gk G) h r fl row5 flow)) [0, 1, 2] C dX0_tick_76 w_X0_80 (c_X0_blow h r fl l2 row flow e6) (by decide) rfl rfl rfl rfl rfl rfl rfl (Nat.le_of_ble_eq_true rfl) rfl ?_
    obtain ⟨x7, e8, hf⟩ := nm_g hf
    refine z_iinc (ls' := [(2, _), (0, _), (1, _)]) 2 C dX0_tick_79 rfl kc_1 e8 (by decide) rfl ?_
    refine z_goto (tgt := 56) C dX0_tick_82 rfl ?_
    refine z_sub (ls' := [(0, .ref h), (1, .int l1), (2, .int x7)]) [1, 2, 0] rfl ?_
    exact ih _ _ _ _ hf
set_option maxHeartbeats 400000 in
set_option maxRecDepth 100000 in
theorem tb_X0_tick_10 {G : GT} (h : Nat) (r : Nat) (fl : Nat)  {v : Int32} {row' : zA} {flow' : zA} (C : zC G cX0_tick 3 RX0 (some .int) 3) (F : zF G (some (.int v)) (HW (gk G) h r fl row' flow')) : ∀ (n : Nat) (l1 : Int32) (row : zA) (flow : zA), B_X0_tick_10 n l1 row flow = some (v, row', flow') → zV G 3 10 [(0, .ref h), (1, .int l1)] [] (HW (gk G) h r fl row flow) := by
  intro n
  induction n with
  | zero => intro _ _ _ hf; rw [B_X0_tick_10] at hf; cases hf
  | succ n ih =>
    intro l1 row flow hf
    rw [B_X0_tick_10] at hf
    refine z_iload_n 1 C dX0_tick_10 rfl ?_
    refine z_aload_n 0 C dX0_tick_11 rfl ?_
    refine gf_X0_11 0 C dX0_tick_12 rfl rfl ?_
    refine z_iconst (v := 4) C dX0_tick_15 kc_4 ?_
    refine z_iald 1 C dX0_tick_16 ix_4_125 rfl ?_
    refine z_icmp_ge (tgt := 45) C dX0_tick_17 rfl (fun hc => ?_) (fun hc => ?_)
    · have hf := ifp hc hf
      refine z_aload_n 0 C dX0_tick_45 rfl ?_
      refine z_aload_n 0 C dX0_tick_46 rfl ?_
      obtain ⟨v1, e2, hf⟩ := b1_e hf
      refine z_callV (st := [.ref h]) (ws2 := (HW (gk G) h r fl row flow)) [0, 1, 2] C dX0_tick_47 w_X0_74 (c_X0_molten h r fl row flow e2) (by decide) rfl rfl rfl rfl rfl rfl rfl (Nat.le_of_ble_eq_true rfl) rfl ?_
      obtain ⟨v3, e4, hf⟩ := b1_e hf
      refine z_callV (st := []) (ws2 := (HW (gk G) h r fl row flow)) [0, 1, 2] C dX0_tick_50 w_X0_77 (c_X0_nearestOf h r fl v1 row flow e4) (by decide) rfl rfl rfl rfl rfl rfl rfl (Nat.le_of_ble_eq_true rfl) rfl ?_
      refine z_istore_n (ls' := [(1, _), (0, _)]) C dX0_tick_53 (by decide) rfl ?_
      refine z_iconst (v := 0) C dX0_tick_54 kc_0 ?_
      refine z_istore_n (ls' := [(2, _), (1, _), (0, _)]) C dX0_tick_55 (by decide) rfl ?_
      refine z_sub (ls' := [(0, .ref h), (1, .int v3), (2, .int 0)]) [2, 1, 0] rfl ?_
      exact tb_X0_tick_56 h r fl C F _ _ _ _ _ hf
    have hf := ifn hc hf
    refine z_aload_n 0 C dX0_tick_20 rfl ?_
    refine z_iload_n 1 C dX0_tick_21 rfl ?_
    obtain ⟨v5, e6, hf⟩ := b1_e hf
    refine z_callV (st := []) (ws2 := (HW (gk G) h r fl row flow)) [0, 1, 2] C dX0_tick_22 w_X0_67 (c_X0_state h r fl l1 row flow e6) (by decide) rfl rfl rfl rfl rfl rfl rfl (Nat.le_of_ble_eq_true rfl) rfl ?_
    refine z_if_ne (tgt := 39) C dX0_tick_25 rfl (fun hc => ?_) (fun hc => ?_)
    · have hf := ifn hc hf
      obtain ⟨x7, e8, hf⟩ := nm_g hf
      refine z_iinc (ls' := [(1, _), (0, _)]) 1 C dX0_tick_39 rfl kc_1 e8 (by decide) rfl ?_
      refine z_goto (tgt := 10) C dX0_tick_42 rfl ?_
      refine z_sub (ls' := [(0, .ref h), (1, .int x7)]) [1, 0] rfl ?_
      exact ih _ _ _ hf
    have hf := ifp hc hf
    refine z_aload_n 0 C dX0_tick_28 rfl ?_
    refine z_iload_n 1 C dX0_tick_29 rfl ?_
    refine z_aload_n 0 C dX0_tick_30 rfl ?_
    refine gf_X0_15 0 C dX0_tick_31 rfl rfl ?_
    refine z_iload_n 1 C dX0_tick_34 rfl ?_
    obtain ⟨k9, h10, hf⟩ := gd_e hf
    refine z_iald 2 C dX0_tick_35 h10 rfl ?_
    obtain ⟨row11, e12, hf⟩ := b1_e hf
    refine z_callVv (st := []) (ws2 := (HW (gk G) h r fl row11 flow)) [0, 1, 2] C dX0_tick_36 w_X0_70 (c_X0_warm h r fl l1 (flow k9) row flow e12) (by decide) rfl rfl rfl rfl rfl rfl rfl (Nat.le_of_ble_eq_true rfl) rfl ?_
    obtain ⟨x13, e14, hf⟩ := nm_g hf
    refine z_iinc (ls' := [(1, _), (0, _)]) 1 C dX0_tick_39 rfl kc_1 e14 (by decide) rfl ?_
    refine z_goto (tgt := 10) C dX0_tick_42 rfl ?_
    refine z_sub (ls' := [(0, .ref h), (1, .int x13)]) [1, 0] rfl ?_
    exact ih _ _ _ hf
set_option maxHeartbeats 400000 in
set_option maxRecDepth 100000 in
theorem c_X0_tick {l : Launch} {D : va_G} {cs : ClassId × ClassId × ClassId} (h : Nat) (r : Nat) (fl : Nat)  (row : zA) (flow : zA) {v : Int32} {row' : zA} {flow' : zA} (e : f_X0_tick row flow = some (v, row', flow')) : zM l D cs yX0_tick cX0_tick 3 (some .int) 3 [.ref h] (HW cs h r fl row flow) v (HW cs h r fl row' flow') := by
  refine zM_of (show plainName RX0 = true by decide +kernel) (Nat.le_of_ble_eq_true rfl) ?_
  rintro G rfl rfl rfl C F
  have hf := e
  clear e
  unfold f_X0_tick at hf
  show zV G 3 0 [(0, .ref h)] [] (HW (gk G) h r fl row flow)
  refine z_aload_n 0 C dX0_tick_0 rfl ?_
  obtain ⟨flow1, e2, hf⟩ := b1_e hf
  refine z_callVv (st := []) (ws2 := (HW (gk G) h r fl row flow1)) [0, 1, 2] C dX0_tick_1 w_X0_61 (c_X0_addUpCurrents h r fl row flow e2) (by decide) rfl rfl rfl rfl rfl rfl rfl (Nat.le_of_ble_eq_true rfl) rfl ?_
  refine z_aload_n 0 C dX0_tick_4 rfl ?_
  obtain ⟨row3, e4, hf⟩ := b1_e hf
  refine z_callVv (st := []) (ws2 := (HW (gk G) h r fl row3 flow1)) [0, 1, 2] C dX0_tick_5 w_X0_64 (c_X0_burnArcs h r fl row flow1 e4) (by decide) rfl rfl rfl rfl rfl rfl rfl (Nat.le_of_ble_eq_true rfl) rfl ?_
  refine z_iconst (v := 0) C dX0_tick_8 kc_0 ?_
  refine z_istore_n (ls' := [(1, _), (0, _)]) C dX0_tick_9 (by decide) rfl ?_
  refine z_sub (ls' := [(0, .ref h), (1, .int 0)]) [1, 0] rfl ?_
  exact tb_X0_tick_10 h r fl C F _ _ _ _ hf
set_option maxHeartbeats 400000 in
set_option maxRecDepth 100000 in
theorem c_J6_bitCount_0f7a4 {l : Launch} {D : va_G} {cs : ClassId × ClassId × ClassId}  (a0 : Int32)  {v : Int32}  (e : f_J6_bitCount_0f7a4 a0 = some v) : zM l D cs yJ6_bitCount_0f7a4 cJ6_bitCount_0f7a4 1 (some .int) 0 [.int a0] ([] : va_W) v ([] : va_W) := by
  refine zM_of (show plainName RJ6 = true by decide +kernel) (Nat.le_of_ble_eq_true rfl) ?_
  rintro G rfl rfl rfl C F
  have hf := e
  clear e
  unfold f_J6_bitCount_0f7a4 at hf
  show zV G 1 0 [(0, .int a0)] [] ([] : va_W)
  refine z_iload_n 0 C dJ6_bitCount_0f7a4_0 rfl ?_
  refine z_iload_n 0 C dJ6_bitCount_0f7a4_1 rfl ?_
  refine z_iconst (v := 1) C dJ6_bitCount_0f7a4_2 kc_1 ?_
  refine z_iushr C dJ6_bitCount_0f7a4_3 ?_
  refine z_ldcw C dJ6_bitCount_0f7a4_4 tw_169 ?_
  refine z_iand C dJ6_bitCount_0f7a4_7 ?_
  refine z_isub C dJ6_bitCount_0f7a4_8 ?_
  obtain ⟨x1, e2, hf⟩ := nm_g hf
  refine z_top e2 ?_
  refine z_istore_n (ls' := [(0, _)]) C dJ6_bitCount_0f7a4_9 (by decide) rfl ?_
  refine z_iload_n 0 C dJ6_bitCount_0f7a4_10 rfl ?_
  refine z_ldcw C dJ6_bitCount_0f7a4_11 tw_170 ?_
  refine z_iand C dJ6_bitCount_0f7a4_14 ?_
  refine z_iload_n 0 C dJ6_bitCount_0f7a4_15 rfl ?_
  refine z_iconst (v := 2) C dJ6_bitCount_0f7a4_16 kc_2 ?_
  refine z_iushr C dJ6_bitCount_0f7a4_17 ?_
  refine z_ldcw C dJ6_bitCount_0f7a4_18 tw_170 ?_
  refine z_iand C dJ6_bitCount_0f7a4_21 ?_
  refine z_iadd C dJ6_bitCount_0f7a4_22 ?_
  obtain ⟨x3, e4, hf⟩ := nm_g hf
  refine z_top e4 ?_
  refine z_istore_n (ls' := [(0, _)]) C dJ6_bitCount_0f7a4_23 (by decide) rfl ?_
  refine z_iload_n 0 C dJ6_bitCount_0f7a4_24 rfl ?_
  refine z_iload_n 0 C dJ6_bitCount_0f7a4_25 rfl ?_
  refine z_iconst (v := 4) C dJ6_bitCount_0f7a4_26 kc_4 ?_
  refine z_iushr C dJ6_bitCount_0f7a4_27 ?_
  refine z_iadd C dJ6_bitCount_0f7a4_28 ?_
  refine z_ldcw C dJ6_bitCount_0f7a4_29 tw_171 ?_
  refine z_iand C dJ6_bitCount_0f7a4_32 ?_
  obtain ⟨x5, e6, hf⟩ := nm_g hf
  refine z_top e6 ?_
  refine z_istore_n (ls' := [(0, _)]) C dJ6_bitCount_0f7a4_33 (by decide) rfl ?_
  refine z_iload_n 0 C dJ6_bitCount_0f7a4_34 rfl ?_
  refine z_iload_n 0 C dJ6_bitCount_0f7a4_35 rfl ?_
  refine z_bipush (v := 8) C dJ6_bitCount_0f7a4_36 kb_8 ?_
  refine z_iushr C dJ6_bitCount_0f7a4_38 ?_
  refine z_iadd C dJ6_bitCount_0f7a4_39 ?_
  obtain ⟨x7, e8, hf⟩ := nm_g hf
  refine z_top e8 ?_
  refine z_istore_n (ls' := [(0, _)]) C dJ6_bitCount_0f7a4_40 (by decide) rfl ?_
  refine z_iload_n 0 C dJ6_bitCount_0f7a4_41 rfl ?_
  refine z_iload_n 0 C dJ6_bitCount_0f7a4_42 rfl ?_
  refine z_bipush (v := 16) C dJ6_bitCount_0f7a4_43 kb_16 ?_
  refine z_iushr C dJ6_bitCount_0f7a4_45 ?_
  refine z_iadd C dJ6_bitCount_0f7a4_46 ?_
  obtain ⟨x9, e10, hf⟩ := nm_g hf
  refine z_top e10 ?_
  refine z_istore_n (ls' := [(0, _)]) C dJ6_bitCount_0f7a4_47 (by decide) rfl ?_
  refine z_iload_n 0 C dJ6_bitCount_0f7a4_48 rfl ?_
  refine z_bipush (v := 63) C dJ6_bitCount_0f7a4_49 kb_63 ?_
  refine z_iand C dJ6_bitCount_0f7a4_51 ?_
  cases hf
  exact z_iret C dJ6_bitCount_0f7a4_52 F
set_option maxHeartbeats 400000 in
set_option maxRecDepth 100000 in
theorem tb_X0_letPass_35 {G : GT} (h : Nat) (r : Nat) (fl : Nat)  {v : Int32} {row' : zA} {flow' : zA} (C : zC G cX0_letPass 4 RX0 (some .int) 4) (F : zF G (some (.int v)) (HW (gk G) h r fl row' flow')) : ∀ (n : Nat) (l1 : Int32) (l2 : Int32) (l3 : Int32) (row : zA) (flow : zA), B_X0_letPass_35 n l1 l2 l3 row flow = some (v, row', flow') → zV G 4 35 [(0, .ref h), (1, .int l1), (2, .int l2), (3, .int l3)] [] (HW (gk G) h r fl row flow) := by
  intro n
  induction n with
  | zero => intro _ _ _ _ _ hf; rw [B_X0_letPass_35] at hf; cases hf
  | succ n ih =>
    intro l1 l2 l3 row flow hf
    rw [B_X0_letPass_35] at hf
    refine z_iload_n 3 C dX0_letPass_35 rfl ?_
    refine z_iload_n 1 C dX0_letPass_36 rfl ?_
    refine z_icmp_ge (tgt := 56) C dX0_letPass_37 rfl (fun hc => ?_) (fun hc => ?_)
    · have hf := ifp hc hf
      refine z_iload_n 2 C dX0_letPass_56 rfl ?_
      cases hf
      exact z_iret C dX0_letPass_57 F
    have hf := ifn hc hf
    refine z_iload_n 2 C dX0_letPass_40 rfl ?_
    refine z_aload_n 0 C dX0_letPass_41 rfl ?_
    obtain ⟨v1, row2, flow3, e4, hf⟩ := b3_e hf
    refine z_callV (st := [.int l2]) (ws2 := (HW (gk G) h r fl row2 flow3)) [0, 1, 2] C dX0_letPass_42 w_X0_45 (c_X0_tick h r fl row flow e4) (by decide) rfl rfl rfl rfl rfl rfl rfl (Nat.le_of_ble_eq_true rfl) rfl ?_
    obtain ⟨v5, e6, hf⟩ := b1_e hf
    refine z_callS (st := [.int l2]) (ws2 := (HW (gk G) h r fl row2 flow3)) [] C dX0_letPass_45 w_X0_49 (c_J6_bitCount_0f7a4 v1 e6) (by decide) rfl rfl rfl  rfl rfl (Nat.le_of_ble_eq_true rfl) rfl ?_
    refine z_iadd C dX0_letPass_48 ?_
    obtain ⟨x7, e8, hf⟩ := nm_g hf
    refine z_top e8 ?_
    refine z_istore_n (ls' := [(2, _), (0, _), (1, _), (3, _)]) C dX0_letPass_49 (by decide) rfl ?_
    obtain ⟨x9, e10, hf⟩ := nm_g hf
    refine z_iinc (ls' := [(3, _), (2, _), (0, _), (1, _)]) 3 C dX0_letPass_50 rfl kc_1 e10 (by decide) rfl ?_
    refine z_goto (tgt := 35) C dX0_letPass_53 rfl ?_
    refine z_sub (ls' := [(0, .ref h), (1, .int l1), (2, .int x7), (3, .int x9)]) [2, 3, 1, 0] rfl ?_
    exact ih _ _ _ _ _ hf
set_option maxHeartbeats 400000 in
set_option maxRecDepth 100000 in
theorem c_X0_letPass {l : Launch} {D : va_G} {cs : ClassId × ClassId × ClassId} (h : Nat) (r : Nat) (fl : Nat) (a1 : Int32) (row : zA) (flow : zA) {v : Int32} {row' : zA} {flow' : zA} (e : f_X0_letPass a1 row flow = some (v, row', flow')) : zM l D cs yX0_letPass cX0_letPass 4 (some .int) 4 [.ref h, .int a1] (HW cs h r fl row flow) v (HW cs h r fl row' flow') := by
  refine zM_of (show plainName RX0 = true by decide +kernel) (Nat.le_of_ble_eq_true rfl) ?_
  rintro G rfl rfl rfl C F
  have hf := e
  clear e
  unfold f_X0_letPass at hf
  show zV G 4 0 [(0, .ref h), (1, .int a1)] [] (HW (gk G) h r fl row flow)
  refine z_iload_n 1 C dX0_letPass_0 rfl ?_
  refine z_iconst (v := 1) C dX0_letPass_1 kc_1 ?_
  refine z_icmp_lt (tgt := 11) C dX0_letPass_2 rfl (fun hc => ?_) (fun hc => ?_)
  · have hf := ifp hc hf
    refine z_bipush (v := -2) C dX0_letPass_11 kb_m2 ?_
    cases hf
    exact z_iret C dX0_letPass_13 F
  have hf := ifn hc hf
  refine z_iload_n 1 C dX0_letPass_5 rfl ?_
  refine z_bipush (v := 99) C dX0_letPass_6 kb_99 ?_
  refine z_icmp_le (tgt := 14) C dX0_letPass_8 rfl (fun hc => ?_) (fun hc => ?_)
  · have hf := ifp hc hf
    refine z_aload_n 0 C dX0_letPass_14 rfl ?_
    refine gf_X0_11 0 C dX0_letPass_15 rfl rfl ?_
    refine z_iconst (v := 3) C dX0_letPass_18 kc_3 ?_
    refine z_iald 1 C dX0_letPass_19 ix_3_125 rfl ?_
    refine z_iload_n 1 C dX0_letPass_20 rfl ?_
    refine z_iadd C dX0_letPass_21 ?_
    refine z_sipush (v := 9999) C dX0_letPass_22 ks_9999 ?_
    refine z_icmp_le (tgt := 31) C dX0_letPass_25 rfl (fun hc => ?_) (fun hc => ?_)
    · have hf := ifp hc hf
      refine z_iconst (v := 0) C dX0_letPass_31 kc_0 ?_
      refine z_istore_n (ls' := [(2, _), (0, _), (1, _)]) C dX0_letPass_32 (by decide) rfl ?_
      refine z_iconst (v := 0) C dX0_letPass_33 kc_0 ?_
      refine z_istore_n (ls' := [(3, _), (2, _), (0, _), (1, _)]) C dX0_letPass_34 (by decide) rfl ?_
      refine z_sub (ls' := [(0, .ref h), (1, .int a1), (2, .int 0), (3, .int 0)]) [2, 3, 1, 0] rfl ?_
      exact tb_X0_letPass_35 h r fl C F _ _ _ _ _ _ hf
    have hf := ifn hc hf
    refine z_bipush (v := -5) C dX0_letPass_28 kb_m5 ?_
    cases hf
    exact z_iret C dX0_letPass_30 F
  have hf := ifn hc hf
  refine z_bipush (v := -2) C dX0_letPass_11 kb_m2 ?_
  cases hf
  exact z_iret C dX0_letPass_13 F
set_option maxHeartbeats 400000 in
set_option maxRecDepth 100000 in
theorem c_J7_rangeCheck_23922 {l : Launch} {D : va_G} {cs : ClassId × ClassId × ClassId}  (a0 : Int32) (a1 : Int32) (a2 : Int32)   (e : f_J7_rangeCheck_23922 a0 a1 a2 = some ()) : zMv l D cs yJ7_rangeCheck_23922 cJ7_rangeCheck_23922 3 none 0 [.int a0, .int a1, .int a2] ([] : va_W) ([] : va_W) := by
  refine zMv_of (show plainName RJ7 = true by decide +kernel) (Nat.le_of_ble_eq_true rfl) ?_
  rintro G rfl rfl rfl C F
  have hf := e
  clear e
  unfold f_J7_rangeCheck_23922 at hf
  show zV G 3 0 [(0, .int a0), (1, .int a1), (2, .int a2)] [] ([] : va_W)
  refine z_iload_n 1 C dJ7_rangeCheck_23922_0 rfl ?_
  refine z_iload_n 2 C dJ7_rangeCheck_23922_1 rfl ?_
  refine z_icmp_le (tgt := 46) C dJ7_rangeCheck_23922_2 rfl (fun hc => ?_) (fun hc => ?_)
  · have hf := ifp hc hf
    refine z_iload_n 1 C dJ7_rangeCheck_23922_46 rfl ?_
    refine z_if_ge (tgt := 59) C dJ7_rangeCheck_23922_47 rfl (fun hc => ?_) (fun hc => ?_)
    · have hf := ifp hc hf
      refine z_iload_n 2 C dJ7_rangeCheck_23922_59 rfl ?_
      refine z_iload_n 0 C dJ7_rangeCheck_23922_60 rfl ?_
      refine z_icmp_le (tgt := 73) C dJ7_rangeCheck_23922_61 rfl (fun hc => ?_) (fun hc => ?_)
      · have hf := ifp hc hf
        cases hf
        exact z_vret C dJ7_rangeCheck_23922_73 F
      have hf := ifn hc hf
      cases hf
    have hf := ifn hc hf
    cases hf
  have hf := ifn hc hf
  cases hf
set_option maxHeartbeats 400000 in
set_option maxRecDepth 100000 in
theorem tb_J7_fill_fda19_10 {G : GT} (ap : Nat) (sz : Nat)  {fa' : zA} (C : zC G cJ7_fill_fda19 5 RJ7 none 1) (F : zF G none ([(ap, aI (gk G) sz fa')] : va_W)) : ∀ (n : Nat) (l2 : Int32) (l3 : Int32) (l4 : Int32) (fa : zA), B_J7_fill_fda19_10 sz n l2 l3 l4 fa = some fa' → zV G 5 10 [(0, .ref ap), (2, .int l2), (3, .int l3), (4, .int l4)] [] ([(ap, aI (gk G) sz fa)] : va_W) := by
  intro n
  induction n with
  | zero => intro _ _ _ _ hf; rw [B_J7_fill_fda19_10] at hf; cases hf
  | succ n ih =>
    intro l2 l3 l4 fa hf
    rw [B_J7_fill_fda19_10] at hf
    refine z_iload 3 C dJ7_fill_fda19_10 rfl ?_
    refine z_iload_n 1 C dJ7_fill_fda19_12 rfl ?_
    refine z_icmp_ge (tgt := 27) C dJ7_fill_fda19_13 rfl (fun hc => ?_) (fun hc => ?_)
    · have hf := ifp hc hf
      cases hf
      exact z_vret C dJ7_fill_fda19_27 F
    have hf := ifn hc hf
    refine z_aload_n 0 C dJ7_fill_fda19_16 rfl ?_
    refine z_iload 3 C dJ7_fill_fda19_17 rfl ?_
    refine z_iload_n 2 C dJ7_fill_fda19_19 rfl ?_
    obtain ⟨k1, h2, hf⟩ := gd_e hf
    obtain ⟨fa3, e4, hf⟩ := nm_g hf
    refine z_iast (ws' := ([(ap, aI (gk G) sz fa3)] : va_W)) 0 C dJ7_fill_fda19_20 h2 rfl e4 rfl ?_
    obtain ⟨x5, e6, hf⟩ := nm_g hf
    refine z_iinc (ls' := [(4, _), (0, _), (2, _), (3, _)]) 3 C dJ7_fill_fda19_21 rfl kc_1 e6 (by decide) rfl ?_
    refine z_goto (tgt := 10) C dJ7_fill_fda19_24 rfl ?_
    refine z_sub (ls' := [(0, .ref ap), (2, .int l2), (3, .int l3), (4, .int x5)]) [1, 2, 3, 0] rfl ?_
    exact ih _ _ _ _ hf
set_option maxHeartbeats 400000 in
set_option maxRecDepth 100000 in
theorem c_J7_fill_fda19 {l : Launch} {D : va_G} {cs : ClassId × ClassId × ClassId} (ap : Nat) (sz : Nat) (a1 : Int32) (a2 : Int32) (a3 : Int32) (fa : zA) {fa' : zA} (e : f_J7_fill_fda19 sz a1 a2 a3 fa = some fa') : zMv l D cs yJ7_fill_fda19 cJ7_fill_fda19 5 none 1 [.ref ap, .int a1, .int a2, .int a3] ([(ap, aI cs sz fa)] : va_W) ([(ap, aI cs sz fa')] : va_W) := by
  refine zMv_of (show plainName RJ7 = true by decide +kernel) (Nat.le_of_ble_eq_true rfl) ?_
  rintro G rfl rfl rfl C F
  have hf := e
  clear e
  unfold f_J7_fill_fda19 at hf
  show zV G 5 0 [(0, .ref ap), (1, .int a1), (2, .int a2), (3, .int a3)] [] ([(ap, aI (gk G) sz fa)] : va_W)
  refine z_aload_n 0 C dJ7_fill_fda19_0 rfl ?_
  refine z_alen 0 C dJ7_fill_fda19_1 rfl rfl ?_
  refine z_iload_n 1 C dJ7_fill_fda19_2 rfl ?_
  refine z_iload_n 2 C dJ7_fill_fda19_3 rfl ?_
  obtain ⟨u1, e2, hf⟩ := b1_e hf
  refine z_callSv (st := []) (ws2 := ([(ap, aI (gk G) sz fa)] : va_W)) [] C dJ7_fill_fda19_4 w_J7_13 (c_J7_rangeCheck_23922 (Int32.ofNat sz) a1 a2 e2) (by decide) rfl rfl rfl  rfl rfl (Nat.le_of_ble_eq_true rfl) rfl ?_
  refine z_iload_n 1 C dJ7_fill_fda19_7 rfl ?_
  refine z_istore (ls' := [(4, _), (0, _), (1, _), (2, _), (3, _)]) C dJ7_fill_fda19_8 (by decide) rfl ?_
  refine z_sub (ls' := [(0, .ref ap), (2, .int a2), (3, .int a3), (4, .int a1)]) [1, 3, 4, 0] rfl ?_
  exact tb_J7_fill_fda19_10 ap sz C F _ _ _ _ _ hf
set_option maxHeartbeats 400000 in
set_option maxRecDepth 100000 in
theorem c_X0_leaveOnlyFault {l : Launch} {D : va_G} {cs : ClassId × ClassId × ClassId} (h : Nat) (r : Nat) (fl : Nat) (a1 : Int32) (a2 : Int32) (row : zA) (flow : zA) {row' : zA} (e : f_X0_leaveOnlyFault a1 a2 row = some row') : zMv l D cs yX0_leaveOnlyFault cX0_leaveOnlyFault 3 none 2 [.ref h, .int a1, .int a2] (HW cs h r fl row flow) (HW cs h r fl row' flow) := by
  refine zMv_of (show plainName RX0 = true by decide +kernel) (Nat.le_of_ble_eq_true rfl) ?_
  rintro G rfl rfl rfl C F
  have hf := e
  clear e
  unfold f_X0_leaveOnlyFault at hf
  show zV G 3 0 [(0, .ref h), (1, .int a1), (2, .int a2)] [] (HW (gk G) h r fl row flow)
  refine z_aload_n 0 C dX0_leaveOnlyFault_0 rfl ?_
  refine gf_X0_11 0 C dX0_leaveOnlyFault_1 rfl rfl ?_
  refine z_bipush (v := 57) C dX0_leaveOnlyFault_4 kb_57 ?_
  refine z_bipush (v := 67) C dX0_leaveOnlyFault_6 kb_67 ?_
  refine z_iconst (v := 0) C dX0_leaveOnlyFault_8 kc_0 ?_
  obtain ⟨row1, e2, hf⟩ := b1_e hf
  refine z_callSv (st := []) (ws2 := (HW (gk G) h r fl row1 flow)) [1] C dX0_leaveOnlyFault_9 w_X0_55 (c_J7_fill_fda19 r 125 57 67 0 row e2) (by decide) rfl rfl rfl  rfl rfl (Nat.le_of_ble_eq_true rfl) rfl ?_
  refine z_aload_n 0 C dX0_leaveOnlyFault_12 rfl ?_
  refine gf_X0_11 0 C dX0_leaveOnlyFault_13 rfl rfl ?_
  refine z_bipush (v := 97) C dX0_leaveOnlyFault_16 kb_97 ?_
  refine z_iload_n 1 C dX0_leaveOnlyFault_18 rfl ?_
  obtain ⟨row3, e4, hf⟩ := nm_g hf
  refine z_iast (ws' := (HW (gk G) h r fl row3 flow)) 1 C dX0_leaveOnlyFault_19 ix_97_125 rfl e4 rfl ?_
  refine z_aload_n 0 C dX0_leaveOnlyFault_20 rfl ?_
  refine gf_X0_11 0 C dX0_leaveOnlyFault_21 rfl rfl ?_
  refine z_bipush (v := 111) C dX0_leaveOnlyFault_24 kb_111 ?_
  refine z_iload_n 2 C dX0_leaveOnlyFault_26 rfl ?_
  obtain ⟨row5, e6, hf⟩ := nm_g hf
  refine z_iast (ws' := (HW (gk G) h r fl row5 flow)) 1 C dX0_leaveOnlyFault_27 ix_111_125 rfl e6 rfl ?_
  refine z_aload_n 0 C dX0_leaveOnlyFault_28 rfl ?_
  refine gf_X0_11 0 C dX0_leaveOnlyFault_29 rfl rfl ?_
  refine z_iconst (v := 5) C dX0_leaveOnlyFault_32 kc_5 ?_
  refine z_iconst (v := 1) C dX0_leaveOnlyFault_33 kc_1 ?_
  obtain ⟨row7, e8, hf⟩ := nm_g hf
  refine z_iast (ws' := (HW (gk G) h r fl row7 flow)) 1 C dX0_leaveOnlyFault_34 ix_5_125 rfl e8 rfl ?_
  refine z_aload_n 0 C dX0_leaveOnlyFault_35 rfl ?_
  refine gf_X0_11 0 C dX0_leaveOnlyFault_36 rfl rfl ?_
  refine z_bipush (v := 6) C dX0_leaveOnlyFault_39 kb_6 ?_
  refine z_iconst (v := 1) C dX0_leaveOnlyFault_41 kc_1 ?_
  obtain ⟨row9, e10, hf⟩ := nm_g hf
  refine z_iast (ws' := (HW (gk G) h r fl row9 flow)) 1 C dX0_leaveOnlyFault_42 ix_6_125 rfl e10 rfl ?_
  cases hf
  exact z_vret C dX0_leaveOnlyFault_43 F
set_option maxHeartbeats 400000 in
set_option maxRecDepth 100000 in
theorem c_X0_current {l : Launch} {D : va_G} {cs : ClassId × ClassId × ClassId} (h : Nat) (r : Nat) (fl : Nat) (a1 : Int32) (row : zA) (flow : zA) {v : Int32} {flow' : zA} (e : f_X0_current a1 row flow = some (v, flow')) : zM l D cs yX0_current cX0_current 2 (some .int) 2 [.ref h, .int a1] (HW cs h r fl row flow) v (HW cs h r fl row flow') := by
  refine zM_of (show plainName RX0 = true by decide +kernel) (Nat.le_of_ble_eq_true rfl) ?_
  rintro G rfl rfl rfl C F
  have hf := e
  clear e
  unfold f_X0_current at hf
  show zV G 2 0 [(0, .ref h), (1, .int a1)] [] (HW (gk G) h r fl row flow)
  refine z_aload_n 0 C dX0_current_0 rfl ?_
  obtain ⟨flow1, e2, hf⟩ := b1_e hf
  refine z_callVv (st := []) (ws2 := (HW (gk G) h r fl row flow1)) [0, 1, 2] C dX0_current_1 w_X0_61 (c_X0_addUpCurrents h r fl row flow e2) (by decide) rfl rfl rfl rfl rfl rfl rfl (Nat.le_of_ble_eq_true rfl) rfl ?_
  refine z_aload_n 0 C dX0_current_4 rfl ?_
  refine gf_X0_15 0 C dX0_current_5 rfl rfl ?_
  refine z_iload_n 1 C dX0_current_8 rfl ?_
  obtain ⟨k3, h4, hf⟩ := gd_e hf
  refine z_iald 2 C dX0_current_9 h4 rfl ?_
  cases hf
  exact z_iret C dX0_current_10 F
set_option maxHeartbeats 400000 in
set_option maxRecDepth 100000 in
theorem tb_X0_boardsAhead_7 {G : GT} (h : Nat) (r : Nat) (fl : Nat) (row : zA) (flow : zA) {v : Int32}  (C : zC G cX0_boardsAhead 5 RX0 (some .int) 0) (F : zF G (some (.int v)) (HW (gk G) h r fl row flow)) : ∀ (n : Nat) (l2 : Int32) (l3 : Int32) (l4 : Int32), B_X0_boardsAhead_7 n l2 l3 l4 row = some v → zV G 5 7 [(0, .ref h), (2, .int l2), (3, .int l3), (4, .int l4)] [] (HW (gk G) h r fl row flow) := by
  intro n
  induction n with
  | zero => intro _ _ _ hf; rw [B_X0_boardsAhead_7] at hf; cases hf
  | succ n ih =>
    intro l2 l3 l4 hf
    rw [B_X0_boardsAhead_7] at hf
    refine z_iload 3 C dX0_boardsAhead_7 rfl ?_
    refine z_if_le (tgt := 41) C dX0_boardsAhead_9 rfl (fun hc => ?_) (fun hc => ?_)
    · have hf := ifp hc hf
      refine z_iload_n 1 C dX0_boardsAhead_41 rfl ?_
      cases hf
      exact z_iret C dX0_boardsAhead_42 F
    have hf := ifn hc hf
    refine z_iload 3 C dX0_boardsAhead_12 rfl ?_
    refine z_iload_n 2 C dX0_boardsAhead_14 rfl ?_
    refine z_icmp_eq (tgt := 21) C dX0_boardsAhead_15 rfl (fun hc => ?_) (fun hc => ?_)
    · have hf := ifp hc hf
      refine z_aload_n 0 C dX0_boardsAhead_21 rfl ?_
      refine gf_X0_11 0 C dX0_boardsAhead_22 rfl rfl ?_
      refine z_bipush (v := 17) C dX0_boardsAhead_25 kb_17 ?_
      refine z_iload 3 C dX0_boardsAhead_27 rfl ?_
      refine z_iadd C dX0_boardsAhead_29 ?_
      obtain ⟨k1, h2, hf⟩ := gd_e hf
      refine z_iald 1 C dX0_boardsAhead_30 h2 rfl ?_
      refine z_istore_n (ls' := [(3, _), (0, _), (2, _), (4, _)]) C dX0_boardsAhead_31 (by decide) rfl ?_
      obtain ⟨x3, e4, hf⟩ := nm_g hf
      refine z_iinc (ls' := [(2, _), (3, _), (0, _), (4, _)]) 2 C dX0_boardsAhead_32 rfl kc_1 e4 (by decide) rfl ?_
      obtain ⟨x5, e6, hf⟩ := nm_g hf
      refine z_iinc (ls' := [(4, _), (2, _), (3, _), (0, _)]) 3 C dX0_boardsAhead_35 rfl kc_m1 e6 (by decide) rfl ?_
      refine z_goto (tgt := 7) C dX0_boardsAhead_38 rfl ?_
      refine z_sub (ls' := [(0, .ref h), (2, .int x3), (3, .int (row k1)), (4, .int x5)]) [3, 1, 2, 0] rfl ?_
      exact ih _ _ _ hf
    have hf := ifn hc hf
    refine z_goto (tgt := 35) C dX0_boardsAhead_18 rfl ?_
    obtain ⟨x7, e8, hf⟩ := nm_g hf
    refine z_iinc (ls' := [(4, _), (0, _), (2, _), (3, _)]) 3 C dX0_boardsAhead_35 rfl kc_m1 e8 (by decide) rfl ?_
    refine z_goto (tgt := 7) C dX0_boardsAhead_38 rfl ?_
    refine z_sub (ls' := [(0, .ref h), (2, .int l2), (3, .int l3), (4, .int x7)]) [1, 2, 3, 0] rfl ?_
    exact ih _ _ _ hf
set_option maxHeartbeats 400000 in
set_option maxRecDepth 100000 in
theorem c_X0_boardsAhead {l : Launch} {D : va_G} {cs : ClassId × ClassId × ClassId} (h : Nat) (r : Nat) (fl : Nat) (a1 : Int32) (row : zA) (flow : zA) {v : Int32}  (e : f_X0_boardsAhead a1 row = some v) : zM l D cs yX0_boardsAhead cX0_boardsAhead 5 (some .int) 0 [.ref h, .int a1] (HW cs h r fl row flow) v (HW cs h r fl row flow) := by
  refine zM_of (show plainName RX0 = true by decide +kernel) (Nat.le_of_ble_eq_true rfl) ?_
  rintro G rfl rfl rfl C F
  have hf := e
  clear e
  unfold f_X0_boardsAhead at hf
  show zV G 5 0 [(0, .ref h), (1, .int a1)] [] (HW (gk G) h r fl row flow)
  refine z_iconst (v := 0) C dX0_boardsAhead_0 kc_0 ?_
  refine z_istore_n (ls' := [(2, _), (0, _), (1, _)]) C dX0_boardsAhead_1 (by decide) rfl ?_
  refine z_iload_n 2 C dX0_boardsAhead_2 rfl ?_
  refine z_istore_n (ls' := [(3, _), (2, _), (0, _), (1, _)]) C dX0_boardsAhead_3 (by decide) rfl ?_
  refine z_iload_n 3 C dX0_boardsAhead_4 rfl ?_
  refine z_istore (ls' := [(4, _), (3, _), (2, _), (0, _), (1, _)]) C dX0_boardsAhead_5 (by decide) rfl ?_
  refine z_sub (ls' := [(0, .ref h), (2, .int 0), (3, .int a1), (4, .int a1)]) [3, 2, 1, 0] rfl ?_
  exact tb_X0_boardsAhead_7 h r fl row flow C F _ _ _ _ hf
set_option maxHeartbeats 400000 in
set_option maxRecDepth 100000 in
theorem c_X0_aboutBoard {l : Launch} {D : va_G} {cs : ClassId × ClassId × ClassId} (h : Nat) (r : Nat) (fl : Nat) (a1 : Int32) (a2 : Int32) (row : zA) (flow : zA) {v : Int32} {flow' : zA} (e : f_X0_aboutBoard a1 a2 row flow = some (v, flow')) : zM l D cs yX0_aboutBoard cX0_aboutBoard 3 (some .int) 3 [.ref h, .int a1, .int a2] (HW cs h r fl row flow) v (HW cs h r fl row flow') := by
  refine zM_of (show plainName RX0 = true by decide +kernel) (Nat.le_of_ble_eq_true rfl) ?_
  rintro G rfl rfl rfl C F
  have hf := e
  clear e
  unfold f_X0_aboutBoard at hf
  show zV G 3 0 [(0, .ref h), (1, .int a1), (2, .int a2)] [] (HW (gk G) h r fl row flow)
  refine z_aload_n 0 C dX0_aboutBoard_0 rfl ?_
  refine z_iload_n 1 C dX0_aboutBoard_1 rfl ?_
  obtain ⟨v1, e2, hf⟩ := b1_e hf
  refine z_callV (st := []) (ws2 := (HW (gk G) h r fl row flow)) [0, 1, 2] C dX0_aboutBoard_2 w_X0_24 (c_X0_isBoard h r fl a1 row flow e2) (by decide) rfl rfl rfl rfl rfl rfl rfl (Nat.le_of_ble_eq_true rfl) rfl ?_
  refine z_if_ne (tgt := 10) C dX0_aboutBoard_5 rfl (fun hc => ?_) (fun hc => ?_)
  · have hf := ifn hc hf
    refine z_iload_n 2 C dX0_aboutBoard_10 rfl ?_
    by_cases hs3 : a2 = 0
    · have hf := ifp hs3 hf
      refine z_tabIn (tgt := 72) C dX0_aboutBoard_11 hs3 (by decide) (by decide) rfl rfl ?_
      refine z_iload_n 1 C dX0_aboutBoard_72 rfl ?_
      refine z_if_ne (tgt := 81) C dX0_aboutBoard_73 rfl (fun hc => ?_) (fun hc => ?_)
      · have hf := ifn hc hf
        refine z_aload_n 0 C dX0_aboutBoard_81 rfl ?_
        refine gf_X0_11 0 C dX0_aboutBoard_82 rfl rfl ?_
        refine z_bipush (v := 17) C dX0_aboutBoard_85 kb_17 ?_
        refine z_iload_n 1 C dX0_aboutBoard_87 rfl ?_
        refine z_iadd C dX0_aboutBoard_88 ?_
        obtain ⟨k4, h5, hf⟩ := gd_e hf
        refine z_iald 1 C dX0_aboutBoard_89 h5 rfl ?_
        cases hf
        exact z_iret C dX0_aboutBoard_90 F
      have hf := ifp hc hf
      refine z_bipush (v := -6) C dX0_aboutBoard_76 kb_m6 ?_
      refine z_goto (tgt := 90) C dX0_aboutBoard_78 rfl ?_
      cases hf
      exact z_iret C dX0_aboutBoard_90 F
    have hf := ifn hs3 hf
    by_cases hs6 : a2 = 1
    · have hf := ifp hs6 hf
      refine z_tabIn (tgt := 91) C dX0_aboutBoard_11 hs6 (by decide) (by decide) rfl rfl ?_
      refine z_aload_n 0 C dX0_aboutBoard_91 rfl ?_
      refine gf_X0_11 0 C dX0_aboutBoard_92 rfl rfl ?_
      refine z_bipush (v := 27) C dX0_aboutBoard_95 kb_27 ?_
      refine z_iload_n 1 C dX0_aboutBoard_97 rfl ?_
      refine z_iadd C dX0_aboutBoard_98 ?_
      obtain ⟨k7, h8, hf⟩ := gd_e hf
      refine z_iald 1 C dX0_aboutBoard_99 h8 rfl ?_
      cases hf
      exact z_iret C dX0_aboutBoard_100 F
    have hf := ifn hs6 hf
    by_cases hs9 : a2 = 2
    · have hf := ifp hs9 hf
      refine z_tabIn (tgt := 101) C dX0_aboutBoard_11 hs9 (by decide) (by decide) rfl rfl ?_
      refine z_aload_n 0 C dX0_aboutBoard_101 rfl ?_
      refine gf_X0_11 0 C dX0_aboutBoard_102 rfl rfl ?_
      refine z_bipush (v := 37) C dX0_aboutBoard_105 kb_37 ?_
      refine z_iload_n 1 C dX0_aboutBoard_107 rfl ?_
      refine z_iadd C dX0_aboutBoard_108 ?_
      obtain ⟨k10, h11, hf⟩ := gd_e hf
      refine z_iald 1 C dX0_aboutBoard_109 h11 rfl ?_
      cases hf
      exact z_iret C dX0_aboutBoard_110 F
    have hf := ifn hs9 hf
    by_cases hs12 : a2 = 3
    · have hf := ifp hs12 hf
      refine z_tabIn (tgt := 111) C dX0_aboutBoard_11 hs12 (by decide) (by decide) rfl rfl ?_
      refine z_aload_n 0 C dX0_aboutBoard_111 rfl ?_
      refine z_iload_n 1 C dX0_aboutBoard_112 rfl ?_
      obtain ⟨v13, e14, hf⟩ := b1_e hf
      refine z_callV (st := []) (ws2 := (HW (gk G) h r fl row flow)) [0, 1, 2] C dX0_aboutBoard_113 w_X0_67 (c_X0_state h r fl a1 row flow e14) (by decide) rfl rfl rfl rfl rfl rfl rfl (Nat.le_of_ble_eq_true rfl) rfl ?_
      cases hf
      exact z_iret C dX0_aboutBoard_116 F
    have hf := ifn hs12 hf
    by_cases hs15 : a2 = 4
    · have hf := ifp hs15 hf
      refine z_tabIn (tgt := 117) C dX0_aboutBoard_11 hs15 (by decide) (by decide) rfl rfl ?_
      refine z_aload_n 0 C dX0_aboutBoard_117 rfl ?_
      refine z_iload_n 1 C dX0_aboutBoard_118 rfl ?_
      obtain ⟨v16, flow17, e18, hf⟩ := b2_e hf
      refine z_callV (st := []) (ws2 := (HW (gk G) h r fl row flow17)) [0, 1, 2] C dX0_aboutBoard_119 w_X0_112 (c_X0_current h r fl a1 row flow e18) (by decide) rfl rfl rfl rfl rfl rfl rfl (Nat.le_of_ble_eq_true rfl) rfl ?_
      cases hf
      exact z_iret C dX0_aboutBoard_122 F
    have hf := ifn hs15 hf
    by_cases hs19 : a2 = 5
    · have hf := ifp hs19 hf
      refine z_tabIn (tgt := 123) C dX0_aboutBoard_11 hs19 (by decide) (by decide) rfl rfl ?_
      refine z_aload_n 0 C dX0_aboutBoard_123 rfl ?_
      refine gf_X0_11 0 C dX0_aboutBoard_124 rfl rfl ?_
      refine z_bipush (v := 57) C dX0_aboutBoard_127 kb_57 ?_
      refine z_iload_n 1 C dX0_aboutBoard_129 rfl ?_
      refine z_iadd C dX0_aboutBoard_130 ?_
      obtain ⟨k20, h21, hf⟩ := gd_e hf
      refine z_iald 1 C dX0_aboutBoard_131 h21 rfl ?_
      cases hf
      exact z_iret C dX0_aboutBoard_132 F
    have hf := ifn hs19 hf
    by_cases hs22 : a2 = 6
    · have hf := ifp hs22 hf
      refine z_tabIn (tgt := 133) C dX0_aboutBoard_11 hs22 (by decide) (by decide) rfl rfl ?_
      refine z_aload_n 0 C dX0_aboutBoard_133 rfl ?_
      refine z_iload_n 1 C dX0_aboutBoard_134 rfl ?_
      obtain ⟨v23, e24, hf⟩ := b1_e hf
      refine z_callV (st := []) (ws2 := (HW (gk G) h r fl row flow)) [0, 1, 2] C dX0_aboutBoard_135 w_X0_106 (c_X0_meltingHeat h r fl a1 row flow e24) (by decide) rfl rfl rfl rfl rfl rfl rfl (Nat.le_of_ble_eq_true rfl) rfl ?_
      cases hf
      exact z_iret C dX0_aboutBoard_138 F
    have hf := ifn hs22 hf
    by_cases hs25 : a2 = 7
    · have hf := ifp hs25 hf
      refine z_tabIn (tgt := 139) C dX0_aboutBoard_11 hs25 (by decide) (by decide) rfl rfl ?_
      refine z_aload_n 0 C dX0_aboutBoard_139 rfl ?_
      refine gf_X0_11 0 C dX0_aboutBoard_140 rfl rfl ?_
      refine z_bipush (v := 67) C dX0_aboutBoard_143 kb_67 ?_
      refine z_iload_n 1 C dX0_aboutBoard_145 rfl ?_
      refine z_iadd C dX0_aboutBoard_146 ?_
      obtain ⟨k26, h27, hf⟩ := gd_e hf
      refine z_iald 1 C dX0_aboutBoard_147 h27 rfl ?_
      cases hf
      exact z_iret C dX0_aboutBoard_148 F
    have hf := ifn hs25 hf
    by_cases hs28 : a2 = 8
    · have hf := ifp hs28 hf
      refine z_tabIn (tgt := 149) C dX0_aboutBoard_11 hs28 (by decide) (by decide) rfl rfl ?_
      refine z_aload_n 0 C dX0_aboutBoard_149 rfl ?_
      obtain ⟨v29, e30, hf⟩ := b1_e hf
      refine z_callV (st := []) (ws2 := (HW (gk G) h r fl row flow)) [0, 1, 2] C dX0_aboutBoard_150 w_X0_87 (c_X0_deadBoards h r fl row flow e30) (by decide) rfl rfl rfl rfl rfl rfl rfl (Nat.le_of_ble_eq_true rfl) rfl ?_
      refine z_iload_n 1 C dX0_aboutBoard_153 rfl ?_
      refine z_ishr C dX0_aboutBoard_154 ?_
      refine z_iconst (v := 1) C dX0_aboutBoard_155 kc_1 ?_
      refine z_iand C dX0_aboutBoard_156 ?_
      cases hf
      exact z_iret C dX0_aboutBoard_157 F
    have hf := ifn hs28 hf
    by_cases hs31 : a2 = 9
    · have hf := ifp hs31 hf
      refine z_tabIn (tgt := 158) C dX0_aboutBoard_11 hs31 (by decide) (by decide) rfl rfl ?_
      refine z_aload_n 0 C dX0_aboutBoard_158 rfl ?_
      refine z_iload_n 1 C dX0_aboutBoard_159 rfl ?_
      obtain ⟨v32, e33, hf⟩ := b1_e hf
      refine z_callV (st := []) (ws2 := (HW (gk G) h r fl row flow)) [0, 1, 2] C dX0_aboutBoard_160 w_X0_115 (c_X0_boardsAhead h r fl a1 row flow e33) (by decide) rfl rfl rfl rfl rfl rfl rfl (Nat.le_of_ble_eq_true rfl) rfl ?_
      cases hf
      exact z_iret C dX0_aboutBoard_163 F
    have hf := ifn hs31 hf
    by_cases hs34 : a2 = 10
    · have hf := ifp hs34 hf
      refine z_tabIn (tgt := 164) C dX0_aboutBoard_11 hs34 (by decide) (by decide) rfl rfl ?_
      refine z_aload_n 0 C dX0_aboutBoard_164 rfl ?_
      refine gf_X0_11 0 C dX0_aboutBoard_165 rfl rfl ?_
      refine z_bipush (v := 47) C dX0_aboutBoard_168 kb_47 ?_
      refine z_iload_n 1 C dX0_aboutBoard_170 rfl ?_
      refine z_iadd C dX0_aboutBoard_171 ?_
      obtain ⟨k35, h36, hf⟩ := gd_e hf
      refine z_iald 1 C dX0_aboutBoard_172 h36 rfl ?_
      cases hf
      exact z_iret C dX0_aboutBoard_173 F
    have hf := ifn hs34 hf
    by_cases hs37 : a2 = 11
    · have hf := ifp hs37 hf
      refine z_tabIn (tgt := 174) C dX0_aboutBoard_11 hs37 (by decide) (by decide) rfl rfl ?_
      refine z_aload_n 0 C dX0_aboutBoard_174 rfl ?_
      refine gf_X0_11 0 C dX0_aboutBoard_175 rfl rfl ?_
      refine z_bipush (v := 87) C dX0_aboutBoard_178 kb_87 ?_
      refine z_iload_n 1 C dX0_aboutBoard_180 rfl ?_
      refine z_iadd C dX0_aboutBoard_181 ?_
      obtain ⟨k38, h39, hf⟩ := gd_e hf
      refine z_iald 1 C dX0_aboutBoard_182 h39 rfl ?_
      cases hf
      exact z_iret C dX0_aboutBoard_183 F
    have hf := ifn hs37 hf
    refine z_tabOut (tgt := 184) C dX0_aboutBoard_11 (by have q0 := ti_ne (z := 0) (by decide) hs3; have q1 := ti_ne (z := 1) (by decide) hs6; have q2 := ti_ne (z := 2) (by decide) hs9; have q3 := ti_ne (z := 3) (by decide) hs12; have q4 := ti_ne (z := 4) (by decide) hs15; have q5 := ti_ne (z := 5) (by decide) hs19; have q6 := ti_ne (z := 6) (by decide) hs22; have q7 := ti_ne (z := 7) (by decide) hs25; have q8 := ti_ne (z := 8) (by decide) hs28; have q9 := ti_ne (z := 9) (by decide) hs31; have q10 := ti_ne (z := 10) (by decide) hs34; have q11 := ti_ne (z := 11) (by decide) hs37; omega) rfl ?_
    refine z_bipush (v := -2) C dX0_aboutBoard_184 kb_m2 ?_
    cases hf
    exact z_iret C dX0_aboutBoard_186 F
  have hf := ifp hc hf
  refine z_iconst (v := -1) C dX0_aboutBoard_8 kc_m1 ?_
  cases hf
  exact z_iret C dX0_aboutBoard_9 F
set_option maxHeartbeats 400000 in
set_option maxRecDepth 100000 in
theorem c_X0_allBoards {l : Launch} {D : va_G} {cs : ClassId × ClassId × ClassId} (h : Nat) (r : Nat) (fl : Nat)  (row : zA) (flow : zA) {v : Int32}  (e : f_X0_allBoards row = some v) : zM l D cs yX0_allBoards cX0_allBoards 1 (some .int) 0 [.ref h] (HW cs h r fl row flow) v (HW cs h r fl row flow) := by
  refine zM_of (show plainName RX0 = true by decide +kernel) (Nat.le_of_ble_eq_true rfl) ?_
  rintro G rfl rfl rfl C F
  have hf := e
  clear e
  unfold f_X0_allBoards at hf
  show zV G 1 0 [(0, .ref h)] [] (HW (gk G) h r fl row flow)
  refine z_iconst (v := 1) C dX0_allBoards_0 kc_1 ?_
  refine z_aload_n 0 C dX0_allBoards_1 rfl ?_
  refine gf_X0_11 0 C dX0_allBoards_2 rfl rfl ?_
  refine z_iconst (v := 4) C dX0_allBoards_5 kc_4 ?_
  refine z_iald 1 C dX0_allBoards_6 ix_4_125 rfl ?_
  refine z_ishl C dX0_allBoards_7 ?_
  refine z_iconst (v := 1) C dX0_allBoards_8 kc_1 ?_
  refine z_isub C dX0_allBoards_9 ?_
  cases hf
  exact z_iret C dX0_allBoards_10 F
set_option maxHeartbeats 400000 in
set_option maxRecDepth 100000 in
theorem tb_X0_workingLoadsAt_14 {G : GT} (h : Nat) (r : Nat) (fl : Nat) (row : zA) (flow : zA) {v : Int32}  (C : zC G cX0_workingLoadsAt 5 RX0 (some .int) 1) (F : zF G (some (.int v)) (HW (gk G) h r fl row flow)) : ∀ (n : Nat) (l2 : Int32) (l3 : Int32) (l4 : Int32), B_X0_workingLoadsAt_14 n l2 l3 l4 row = some v → zV G 5 14 [(0, .ref h), (2, .int l2), (3, .int l3), (4, .int l4)] [] (HW (gk G) h r fl row flow) := by
  intro n
  induction n with
  | zero => intro _ _ _ hf; rw [B_X0_workingLoadsAt_14] at hf; cases hf
  | succ n ih =>
    intro l2 l3 l4 hf
    rw [B_X0_workingLoadsAt_14] at hf
    refine z_iload 3 C dX0_workingLoadsAt_14 rfl ?_
    refine z_aload_n 0 C dX0_workingLoadsAt_16 rfl ?_
    refine gf_X0_11 0 C dX0_workingLoadsAt_17 rfl rfl ?_
    refine z_iconst (v := 5) C dX0_workingLoadsAt_20 kc_5 ?_
    refine z_iald 1 C dX0_workingLoadsAt_21 ix_5_125 rfl ?_
    refine z_icmp_ge (tgt := 55) C dX0_workingLoadsAt_22 rfl (fun hc => ?_) (fun hc => ?_)
    · have hf := ifp hc hf
      refine z_iload_n 2 C dX0_workingLoadsAt_55 rfl ?_
      refine z_aload_n 0 C dX0_workingLoadsAt_56 rfl ?_
      refine gf_X0_11 0 C dX0_workingLoadsAt_57 rfl rfl ?_
      refine z_bipush (v := 6) C dX0_workingLoadsAt_60 kb_6 ?_
      refine z_iald 1 C dX0_workingLoadsAt_62 ix_6_125 rfl ?_
      refine z_iand C dX0_workingLoadsAt_63 ?_
      cases hf
      exact z_iret C dX0_workingLoadsAt_64 F
    have hf := ifn hc hf
    refine z_iload_n 1 C dX0_workingLoadsAt_25 rfl ?_
    refine z_aload_n 0 C dX0_workingLoadsAt_26 rfl ?_
    refine gf_X0_11 0 C dX0_workingLoadsAt_27 rfl rfl ?_
    refine z_bipush (v := 97) C dX0_workingLoadsAt_30 kb_97 ?_
    refine z_iload 3 C dX0_workingLoadsAt_32 rfl ?_
    refine z_iadd C dX0_workingLoadsAt_34 ?_
    obtain ⟨k1, h2, hf⟩ := gd_e hf
    refine z_iald 1 C dX0_workingLoadsAt_35 h2 rfl ?_
    refine z_ishr C dX0_workingLoadsAt_36 ?_
    refine z_iconst (v := 1) C dX0_workingLoadsAt_37 kc_1 ?_
    refine z_iand C dX0_workingLoadsAt_38 ?_
    refine z_if_eq (tgt := 49) C dX0_workingLoadsAt_39 rfl (fun hc => ?_) (fun hc => ?_)
    · have hf := ifp hc hf
      obtain ⟨x3, e4, hf⟩ := nm_g hf
      refine z_iinc (ls' := [(4, _), (0, _), (2, _), (3, _)]) 3 C dX0_workingLoadsAt_49 rfl kc_1 e4 (by decide) rfl ?_
      refine z_goto (tgt := 14) C dX0_workingLoadsAt_52 rfl ?_
      refine z_sub (ls' := [(0, .ref h), (2, .int l2), (3, .int l3), (4, .int x3)]) [1, 2, 3, 0] rfl ?_
      exact ih _ _ _ hf
    have hf := ifn hc hf
    refine z_iload_n 2 C dX0_workingLoadsAt_42 rfl ?_
    refine z_iconst (v := 1) C dX0_workingLoadsAt_43 kc_1 ?_
    refine z_iload 3 C dX0_workingLoadsAt_44 rfl ?_
    refine z_ishl C dX0_workingLoadsAt_46 ?_
    refine z_ior C dX0_workingLoadsAt_47 ?_
    obtain ⟨x5, e6, hf⟩ := nm_g hf
    refine z_top e6 ?_
    refine z_istore_n (ls' := [(3, _), (0, _), (2, _), (4, _)]) C dX0_workingLoadsAt_48 (by decide) rfl ?_
    obtain ⟨x7, e8, hf⟩ := nm_g hf
    refine z_iinc (ls' := [(4, _), (3, _), (0, _), (2, _)]) 3 C dX0_workingLoadsAt_49 rfl kc_1 e8 (by decide) rfl ?_
    refine z_goto (tgt := 14) C dX0_workingLoadsAt_52 rfl ?_
    refine z_sub (ls' := [(0, .ref h), (2, .int l2), (3, .int x5), (4, .int x7)]) [2, 3, 1, 0] rfl ?_
    exact ih _ _ _ hf
set_option maxHeartbeats 400000 in
set_option maxRecDepth 100000 in
theorem c_X0_workingLoadsAt {l : Launch} {D : va_G} {cs : ClassId × ClassId × ClassId} (h : Nat) (r : Nat) (fl : Nat) (a1 : Int32) (row : zA) (flow : zA) {v : Int32}  (e : f_X0_workingLoadsAt a1 row = some v) : zM l D cs yX0_workingLoadsAt cX0_workingLoadsAt 5 (some .int) 1 [.ref h, .int a1] (HW cs h r fl row flow) v (HW cs h r fl row flow) := by
  refine zM_of (show plainName RX0 = true by decide +kernel) (Nat.le_of_ble_eq_true rfl) ?_
  rintro G rfl rfl rfl C F
  have hf := e
  clear e
  unfold f_X0_workingLoadsAt at hf
  show zV G 5 0 [(0, .ref h), (1, .int a1)] [] (HW (gk G) h r fl row flow)
  refine z_iload_n 1 C dX0_workingLoadsAt_0 rfl ?_
  refine z_aload_n 0 C dX0_workingLoadsAt_1 rfl ?_
  obtain ⟨v1, e2, hf⟩ := b1_e hf
  refine z_callV (st := [.int a1]) (ws2 := (HW (gk G) h r fl row flow)) [0, 1, 2] C dX0_workingLoadsAt_2 w_X0_87 (c_X0_deadBoards h r fl row flow e2) (by decide) rfl rfl rfl rfl rfl rfl rfl (Nat.le_of_ble_eq_true rfl) rfl ?_
  refine z_iconst (v := -1) C dX0_workingLoadsAt_5 kc_m1 ?_
  refine z_ixor C dX0_workingLoadsAt_6 ?_
  refine z_iand C dX0_workingLoadsAt_7 ?_
  obtain ⟨x3, e4, hf⟩ := nm_g hf
  refine z_top e4 ?_
  refine z_istore_n (ls' := [(2, _), (0, _), (1, _)]) C dX0_workingLoadsAt_8 (by decide) rfl ?_
  refine z_iconst (v := 0) C dX0_workingLoadsAt_9 kc_0 ?_
  refine z_istore_n (ls' := [(3, _), (2, _), (0, _), (1, _)]) C dX0_workingLoadsAt_10 (by decide) rfl ?_
  refine z_iconst (v := 0) C dX0_workingLoadsAt_11 kc_0 ?_
  refine z_istore (ls' := [(4, _), (3, _), (2, _), (0, _), (1, _)]) C dX0_workingLoadsAt_12 (by decide) rfl ?_
  refine z_sub (ls' := [(0, .ref h), (2, .int x3), (3, .int 0), (4, .int 0)]) [3, 2, 1, 0] rfl ?_
  exact tb_X0_workingLoadsAt_14 h r fl row flow C F _ _ _ _ hf
set_option maxHeartbeats 400000 in
set_option maxRecDepth 100000 in
theorem c_X0_aboutLoad {l : Launch} {D : va_G} {cs : ClassId × ClassId × ClassId} (h : Nat) (r : Nat) (fl : Nat) (a1 : Int32) (a2 : Int32) (row : zA) (flow : zA) {v : Int32}  (e : f_X0_aboutLoad a1 a2 row = some v) : zM l D cs yX0_aboutLoad cX0_aboutLoad 3 (some .int) 2 [.ref h, .int a1, .int a2] (HW cs h r fl row flow) v (HW cs h r fl row flow) := by
  refine zM_of (show plainName RX0 = true by decide +kernel) (Nat.le_of_ble_eq_true rfl) ?_
  rintro G rfl rfl rfl C F
  have hf := e
  clear e
  unfold f_X0_aboutLoad at hf
  show zV G 3 0 [(0, .ref h), (1, .int a1), (2, .int a2)] [] (HW (gk G) h r fl row flow)
  refine z_aload_n 0 C dX0_aboutLoad_0 rfl ?_
  refine z_iload_n 1 C dX0_aboutLoad_1 rfl ?_
  obtain ⟨v1, e2, hf⟩ := b1_e hf
  refine z_callV (st := []) (ws2 := (HW (gk G) h r fl row flow)) [0, 1, 2] C dX0_aboutLoad_2 w_X0_42 (c_X0_isLoad h r fl a1 row flow e2) (by decide) rfl rfl rfl rfl rfl rfl rfl (Nat.le_of_ble_eq_true rfl) rfl ?_
  refine z_if_ne (tgt := 10) C dX0_aboutLoad_5 rfl (fun hc => ?_) (fun hc => ?_)
  · have hf := ifn hc hf
    refine z_iload_n 2 C dX0_aboutLoad_10 rfl ?_
    by_cases hs3 : a2 = 0
    · have hf := ifp hs3 hf
      refine z_tabIn (tgt := 40) C dX0_aboutLoad_11 hs3 (by decide) (by decide) rfl rfl ?_
      refine z_aload_n 0 C dX0_aboutLoad_40 rfl ?_
      refine gf_X0_11 0 C dX0_aboutLoad_41 rfl rfl ?_
      refine z_bipush (v := 97) C dX0_aboutLoad_44 kb_97 ?_
      refine z_iload_n 1 C dX0_aboutLoad_46 rfl ?_
      refine z_iadd C dX0_aboutLoad_47 ?_
      obtain ⟨k4, h5, hf⟩ := gd_e hf
      refine z_iald 1 C dX0_aboutLoad_48 h5 rfl ?_
      cases hf
      exact z_iret C dX0_aboutLoad_49 F
    have hf := ifn hs3 hf
    by_cases hs6 : a2 = 1
    · have hf := ifp hs6 hf
      refine z_tabIn (tgt := 50) C dX0_aboutLoad_11 hs6 (by decide) (by decide) rfl rfl ?_
      refine z_aload_n 0 C dX0_aboutLoad_50 rfl ?_
      refine gf_X0_11 0 C dX0_aboutLoad_51 rfl rfl ?_
      refine z_bipush (v := 111) C dX0_aboutLoad_54 kb_111 ?_
      refine z_iload_n 1 C dX0_aboutLoad_56 rfl ?_
      refine z_iadd C dX0_aboutLoad_57 ?_
      obtain ⟨k7, h8, hf⟩ := gd_e hf
      refine z_iald 1 C dX0_aboutLoad_58 h8 rfl ?_
      cases hf
      exact z_iret C dX0_aboutLoad_59 F
    have hf := ifn hs6 hf
    by_cases hs9 : a2 = 2
    · have hf := ifp hs9 hf
      refine z_tabIn (tgt := 60) C dX0_aboutLoad_11 hs9 (by decide) (by decide) rfl rfl ?_
      refine z_aload_n 0 C dX0_aboutLoad_60 rfl ?_
      refine gf_X0_11 0 C dX0_aboutLoad_61 rfl rfl ?_
      refine z_bipush (v := 6) C dX0_aboutLoad_64 kb_6 ?_
      refine z_iald 1 C dX0_aboutLoad_66 ix_6_125 rfl ?_
      refine z_iload_n 1 C dX0_aboutLoad_67 rfl ?_
      refine z_ishr C dX0_aboutLoad_68 ?_
      refine z_iconst (v := 1) C dX0_aboutLoad_69 kc_1 ?_
      refine z_iand C dX0_aboutLoad_70 ?_
      cases hf
      exact z_iret C dX0_aboutLoad_71 F
    have hf := ifn hs9 hf
    by_cases hs10 : a2 = 3
    · have hf := ifp hs10 hf
      refine z_tabIn (tgt := 72) C dX0_aboutLoad_11 hs10 (by decide) (by decide) rfl rfl ?_
      refine z_aload_n 0 C dX0_aboutLoad_72 rfl ?_
      refine z_aload_n 0 C dX0_aboutLoad_73 rfl ?_
      obtain ⟨v11, e12, hf⟩ := b1_e hf
      refine z_callV (st := [.ref h]) (ws2 := (HW (gk G) h r fl row flow)) [0, 1, 2] C dX0_aboutLoad_74 w_X0_118 (c_X0_allBoards h r fl row flow e12) (by decide) rfl rfl rfl rfl rfl rfl rfl (Nat.le_of_ble_eq_true rfl) rfl ?_
      obtain ⟨v13, e14, hf⟩ := b1_e hf
      refine z_callV (st := []) (ws2 := (HW (gk G) h r fl row flow)) [0, 1, 2] C dX0_aboutLoad_77 w_X0_121 (c_X0_workingLoadsAt h r fl v11 row flow e14) (by decide) rfl rfl rfl rfl rfl rfl rfl (Nat.le_of_ble_eq_true rfl) rfl ?_
      refine z_iload_n 1 C dX0_aboutLoad_80 rfl ?_
      refine z_ishr C dX0_aboutLoad_81 ?_
      refine z_iconst (v := 1) C dX0_aboutLoad_82 kc_1 ?_
      refine z_iand C dX0_aboutLoad_83 ?_
      cases hf
      exact z_iret C dX0_aboutLoad_84 F
    have hf := ifn hs10 hf
    refine z_tabOut (tgt := 85) C dX0_aboutLoad_11 (by have q0 := ti_ne (z := 0) (by decide) hs3; have q1 := ti_ne (z := 1) (by decide) hs6; have q2 := ti_ne (z := 2) (by decide) hs9; have q3 := ti_ne (z := 3) (by decide) hs10; omega) rfl ?_
    refine z_bipush (v := -2) C dX0_aboutLoad_85 kb_m2 ?_
    cases hf
    exact z_iret C dX0_aboutLoad_87 F
  have hf := ifp hc hf
  refine z_iconst (v := -1) C dX0_aboutLoad_8 kc_m1 ?_
  cases hf
  exact z_iret C dX0_aboutLoad_9 F
set_option maxHeartbeats 400000 in
set_option maxRecDepth 100000 in
theorem tb_X0_burningBoards_4 {G : GT} (h : Nat) (r : Nat) (fl : Nat) (row : zA) (flow : zA) {v : Int32}  (C : zC G cX0_burningBoards 3 RX0 (some .int) 0) (F : zF G (some (.int v)) (HW (gk G) h r fl row flow)) : ∀ (n : Nat) (l1 : Int32) (l2 : Int32), B_X0_burningBoards_4 n l1 l2 row = some v → zV G 3 4 [(0, .ref h), (1, .int l1), (2, .int l2)] [] (HW (gk G) h r fl row flow) := by
  intro n
  induction n with
  | zero => intro _ _ hf; rw [B_X0_burningBoards_4] at hf; cases hf
  | succ n ih =>
    intro l1 l2 hf
    rw [B_X0_burningBoards_4] at hf
    refine z_iload_n 2 C dX0_burningBoards_4 rfl ?_
    refine z_aload_n 0 C dX0_burningBoards_5 rfl ?_
    refine gf_X0_11 0 C dX0_burningBoards_6 rfl rfl ?_
    refine z_iconst (v := 4) C dX0_burningBoards_9 kc_4 ?_
    refine z_iald 1 C dX0_burningBoards_10 ix_4_125 rfl ?_
    refine z_icmp_ge (tgt := 38) C dX0_burningBoards_11 rfl (fun hc => ?_) (fun hc => ?_)
    · have hf := ifp hc hf
      refine z_iload_n 1 C dX0_burningBoards_38 rfl ?_
      cases hf
      exact z_iret C dX0_burningBoards_39 F
    have hf := ifn hc hf
    refine z_aload_n 0 C dX0_burningBoards_14 rfl ?_
    refine gf_X0_11 0 C dX0_burningBoards_15 rfl rfl ?_
    refine z_bipush (v := 47) C dX0_burningBoards_18 kb_47 ?_
    refine z_iload_n 2 C dX0_burningBoards_20 rfl ?_
    refine z_iadd C dX0_burningBoards_21 ?_
    obtain ⟨k1, h2, hf⟩ := gd_e hf
    refine z_iald 1 C dX0_burningBoards_22 h2 rfl ?_
    refine z_if_le (tgt := 32) C dX0_burningBoards_23 rfl (fun hc => ?_) (fun hc => ?_)
    · have hf := ifp hc hf
      obtain ⟨x3, e4, hf⟩ := nm_g hf
      refine z_iinc (ls' := [(2, _), (0, _), (1, _)]) 2 C dX0_burningBoards_32 rfl kc_1 e4 (by decide) rfl ?_
      refine z_goto (tgt := 4) C dX0_burningBoards_35 rfl ?_
      refine z_sub (ls' := [(0, .ref h), (1, .int l1), (2, .int x3)]) [1, 2, 0] rfl ?_
      exact ih _ _ hf
    have hf := ifn hc hf
    refine z_iload_n 1 C dX0_burningBoards_26 rfl ?_
    refine z_iconst (v := 1) C dX0_burningBoards_27 kc_1 ?_
    refine z_iload_n 2 C dX0_burningBoards_28 rfl ?_
    refine z_ishl C dX0_burningBoards_29 ?_
    refine z_ior C dX0_burningBoards_30 ?_
    obtain ⟨x5, e6, hf⟩ := nm_g hf
    refine z_top e6 ?_
    refine z_istore_n (ls' := [(1, _), (0, _), (2, _)]) C dX0_burningBoards_31 (by decide) rfl ?_
    obtain ⟨x7, e8, hf⟩ := nm_g hf
    refine z_iinc (ls' := [(2, _), (1, _), (0, _)]) 2 C dX0_burningBoards_32 rfl kc_1 e8 (by decide) rfl ?_
    refine z_goto (tgt := 4) C dX0_burningBoards_35 rfl ?_
    refine z_sub (ls' := [(0, .ref h), (1, .int x5), (2, .int x7)]) [2, 1, 0] rfl ?_
    exact ih _ _ hf
set_option maxHeartbeats 400000 in
set_option maxRecDepth 100000 in
theorem c_X0_burningBoards {l : Launch} {D : va_G} {cs : ClassId × ClassId × ClassId} (h : Nat) (r : Nat) (fl : Nat)  (row : zA) (flow : zA) {v : Int32}  (e : f_X0_burningBoards row = some v) : zM l D cs yX0_burningBoards cX0_burningBoards 3 (some .int) 0 [.ref h] (HW cs h r fl row flow) v (HW cs h r fl row flow) := by
  refine zM_of (show plainName RX0 = true by decide +kernel) (Nat.le_of_ble_eq_true rfl) ?_
  rintro G rfl rfl rfl C F
  have hf := e
  clear e
  unfold f_X0_burningBoards at hf
  show zV G 3 0 [(0, .ref h)] [] (HW (gk G) h r fl row flow)
  refine z_iconst (v := 0) C dX0_burningBoards_0 kc_0 ?_
  refine z_istore_n (ls' := [(1, _), (0, _)]) C dX0_burningBoards_1 (by decide) rfl ?_
  refine z_iconst (v := 0) C dX0_burningBoards_2 kc_0 ?_
  refine z_istore_n (ls' := [(2, _), (1, _), (0, _)]) C dX0_burningBoards_3 (by decide) rfl ?_
  refine z_sub (ls' := [(0, .ref h), (1, .int 0), (2, .int 0)]) [2, 1, 0] rfl ?_
  exact tb_X0_burningBoards_4 h r fl row flow C F _ _ _ hf
set_option maxHeartbeats 400000 in
set_option maxRecDepth 100000 in
theorem c_X0_aboutHouse {l : Launch} {D : va_G} {cs : ClassId × ClassId × ClassId} (h : Nat) (r : Nat) (fl : Nat) (a1 : Int32) (row : zA) (flow : zA) {v : Int32} {flow' : zA} (e : f_X0_aboutHouse a1 row flow = some (v, flow')) : zM l D cs yX0_aboutHouse cX0_aboutHouse 2 (some .int) 3 [.ref h, .int a1] (HW cs h r fl row flow) v (HW cs h r fl row flow') := by
  refine zM_of (show plainName RX0 = true by decide +kernel) (Nat.le_of_ble_eq_true rfl) ?_
  rintro G rfl rfl rfl C F
  have hf := e
  clear e
  unfold f_X0_aboutHouse at hf
  show zV G 2 0 [(0, .ref h), (1, .int a1)] [] (HW (gk G) h r fl row flow)
  refine z_iload_n 1 C dX0_aboutHouse_0 rfl ?_
  by_cases hs1 : a1 = 0
  · have hf := ifp hs1 hf
    refine z_tabIn (tgt := 64) C dX0_aboutHouse_1 hs1 (by decide) (by decide) rfl rfl ?_
    refine z_aload_n 0 C dX0_aboutHouse_64 rfl ?_
    refine gf_X0_11 0 C dX0_aboutHouse_65 rfl rfl ?_
    refine z_iconst (v := 3) C dX0_aboutHouse_68 kc_3 ?_
    refine z_iald 1 C dX0_aboutHouse_69 ix_3_125 rfl ?_
    cases hf
    exact z_iret C dX0_aboutHouse_70 F
  have hf := ifn hs1 hf
  by_cases hs2 : a1 = 1
  · have hf := ifp hs2 hf
    refine z_tabIn (tgt := 71) C dX0_aboutHouse_1 hs2 (by decide) (by decide) rfl rfl ?_
    refine z_aload_n 0 C dX0_aboutHouse_71 rfl ?_
    refine gf_X0_11 0 C dX0_aboutHouse_72 rfl rfl ?_
    refine z_iconst (v := 4) C dX0_aboutHouse_75 kc_4 ?_
    refine z_iald 1 C dX0_aboutHouse_76 ix_4_125 rfl ?_
    cases hf
    exact z_iret C dX0_aboutHouse_77 F
  have hf := ifn hs2 hf
  by_cases hs3 : a1 = 2
  · have hf := ifp hs3 hf
    refine z_tabIn (tgt := 78) C dX0_aboutHouse_1 hs3 (by decide) (by decide) rfl rfl ?_
    refine z_aload_n 0 C dX0_aboutHouse_78 rfl ?_
    refine gf_X0_11 0 C dX0_aboutHouse_79 rfl rfl ?_
    refine z_iconst (v := 5) C dX0_aboutHouse_82 kc_5 ?_
    refine z_iald 1 C dX0_aboutHouse_83 ix_5_125 rfl ?_
    cases hf
    exact z_iret C dX0_aboutHouse_84 F
  have hf := ifn hs3 hf
  by_cases hs4 : a1 = 3
  · have hf := ifp hs4 hf
    refine z_tabIn (tgt := 85) C dX0_aboutHouse_1 hs4 (by decide) (by decide) rfl rfl ?_
    refine z_aload_n 0 C dX0_aboutHouse_85 rfl ?_
    obtain ⟨v5, e6, hf⟩ := b1_e hf
    refine z_callV (st := []) (ws2 := (HW (gk G) h r fl row flow)) [0, 1, 2] C dX0_aboutHouse_86 w_X0_87 (c_X0_deadBoards h r fl row flow e6) (by decide) rfl rfl rfl rfl rfl rfl rfl (Nat.le_of_ble_eq_true rfl) rfl ?_
    cases hf
    exact z_iret C dX0_aboutHouse_89 F
  have hf := ifn hs4 hf
  by_cases hs7 : a1 = 4
  · have hf := ifp hs7 hf
    refine z_tabIn (tgt := 90) C dX0_aboutHouse_1 hs7 (by decide) (by decide) rfl rfl ?_
    refine z_aload_n 0 C dX0_aboutHouse_90 rfl ?_
    refine z_aload_n 0 C dX0_aboutHouse_91 rfl ?_
    obtain ⟨v8, e9, hf⟩ := b1_e hf
    refine z_callV (st := [.ref h]) (ws2 := (HW (gk G) h r fl row flow)) [0, 1, 2] C dX0_aboutHouse_92 w_X0_118 (c_X0_allBoards h r fl row flow e9) (by decide) rfl rfl rfl rfl rfl rfl rfl (Nat.le_of_ble_eq_true rfl) rfl ?_
    obtain ⟨v10, e11, hf⟩ := b1_e hf
    refine z_callV (st := []) (ws2 := (HW (gk G) h r fl row flow)) [0, 1, 2] C dX0_aboutHouse_95 w_X0_121 (c_X0_workingLoadsAt h r fl v8 row flow e11) (by decide) rfl rfl rfl rfl rfl rfl rfl (Nat.le_of_ble_eq_true rfl) rfl ?_
    cases hf
    exact z_iret C dX0_aboutHouse_98 F
  have hf := ifn hs7 hf
  by_cases hs12 : a1 = 5
  · have hf := ifp hs12 hf
    refine z_tabIn (tgt := 99) C dX0_aboutHouse_1 hs12 (by decide) (by decide) rfl rfl ?_
    refine z_aload_n 0 C dX0_aboutHouse_99 rfl ?_
    refine gf_X0_11 0 C dX0_aboutHouse_100 rfl rfl ?_
    refine z_bipush (v := 7) C dX0_aboutHouse_103 kb_7 ?_
    refine z_iald 1 C dX0_aboutHouse_105 ix_7_125 rfl ?_
    cases hf
    exact z_iret C dX0_aboutHouse_106 F
  have hf := ifn hs12 hf
  by_cases hs13 : a1 = 6
  · have hf := ifp hs13 hf
    refine z_tabIn (tgt := 107) C dX0_aboutHouse_1 hs13 (by decide) (by decide) rfl rfl ?_
    refine z_aload_n 0 C dX0_aboutHouse_107 rfl ?_
    obtain ⟨v14, e15, hf⟩ := b1_e hf
    refine z_callV (st := []) (ws2 := (HW (gk G) h r fl row flow)) [0, 1, 2] C dX0_aboutHouse_108 w_X0_124 (c_X0_burningBoards h r fl row flow e15) (by decide) rfl rfl rfl rfl rfl rfl rfl (Nat.le_of_ble_eq_true rfl) rfl ?_
    cases hf
    exact z_iret C dX0_aboutHouse_111 F
  have hf := ifn hs13 hf
  by_cases hs16 : a1 = 7
  · have hf := ifp hs16 hf
    refine z_tabIn (tgt := 112) C dX0_aboutHouse_1 hs16 (by decide) (by decide) rfl rfl ?_
    refine z_aload_n 0 C dX0_aboutHouse_112 rfl ?_
    refine gf_X0_11 0 C dX0_aboutHouse_113 rfl rfl ?_
    refine z_bipush (v := 8) C dX0_aboutHouse_116 kb_8 ?_
    refine z_iald 1 C dX0_aboutHouse_118 ix_8_125 rfl ?_
    cases hf
    exact z_iret C dX0_aboutHouse_119 F
  have hf := ifn hs16 hf
  by_cases hs17 : a1 = 8
  · have hf := ifp hs17 hf
    refine z_tabIn (tgt := 120) C dX0_aboutHouse_1 hs17 (by decide) (by decide) rfl rfl ?_
    refine z_aload_n 0 C dX0_aboutHouse_120 rfl ?_
    refine z_iconst (v := 0) C dX0_aboutHouse_121 kc_0 ?_
    obtain ⟨v18, flow19, e20, hf⟩ := b2_e hf
    refine z_callV (st := []) (ws2 := (HW (gk G) h r fl row flow19)) [0, 1, 2] C dX0_aboutHouse_122 w_X0_112 (c_X0_current h r fl 0 row flow e20) (by decide) rfl rfl rfl rfl rfl rfl rfl (Nat.le_of_ble_eq_true rfl) rfl ?_
    cases hf
    exact z_iret C dX0_aboutHouse_125 F
  have hf := ifn hs17 hf
  by_cases hs21 : a1 = 9
  · have hf := ifp hs21 hf
    refine z_tabIn (tgt := 126) C dX0_aboutHouse_1 hs21 (by decide) (by decide) rfl rfl ?_
    refine z_aload_n 0 C dX0_aboutHouse_126 rfl ?_
    refine gf_X0_11 0 C dX0_aboutHouse_127 rfl rfl ?_
    refine z_iconst (v := 0) C dX0_aboutHouse_130 kc_0 ?_
    refine z_iald 1 C dX0_aboutHouse_131 ix_0_125 rfl ?_
    cases hf
    exact z_iret C dX0_aboutHouse_132 F
  have hf := ifn hs21 hf
  by_cases hs22 : a1 = 10
  · have hf := ifp hs22 hf
    refine z_tabIn (tgt := 133) C dX0_aboutHouse_1 hs22 (by decide) (by decide) rfl rfl ?_
    refine z_aload_n 0 C dX0_aboutHouse_133 rfl ?_
    refine gf_X0_11 0 C dX0_aboutHouse_134 rfl rfl ?_
    refine z_iconst (v := 1) C dX0_aboutHouse_137 kc_1 ?_
    refine z_iald 1 C dX0_aboutHouse_138 ix_1_125 rfl ?_
    cases hf
    exact z_iret C dX0_aboutHouse_139 F
  have hf := ifn hs22 hf
  by_cases hs23 : a1 = 11
  · have hf := ifp hs23 hf
    refine z_tabIn (tgt := 140) C dX0_aboutHouse_1 hs23 (by decide) (by decide) rfl rfl ?_
    refine z_aload_n 0 C dX0_aboutHouse_140 rfl ?_
    refine gf_X0_11 0 C dX0_aboutHouse_141 rfl rfl ?_
    refine z_iconst (v := 2) C dX0_aboutHouse_144 kc_2 ?_
    refine z_iald 1 C dX0_aboutHouse_145 ix_2_125 rfl ?_
    cases hf
    exact z_iret C dX0_aboutHouse_146 F
  have hf := ifn hs23 hf
  refine z_tabOut (tgt := 147) C dX0_aboutHouse_1 (by have q0 := ti_ne (z := 0) (by decide) hs1; have q1 := ti_ne (z := 1) (by decide) hs2; have q2 := ti_ne (z := 2) (by decide) hs3; have q3 := ti_ne (z := 3) (by decide) hs4; have q4 := ti_ne (z := 4) (by decide) hs7; have q5 := ti_ne (z := 5) (by decide) hs12; have q6 := ti_ne (z := 6) (by decide) hs13; have q7 := ti_ne (z := 7) (by decide) hs16; have q8 := ti_ne (z := 8) (by decide) hs17; have q9 := ti_ne (z := 9) (by decide) hs21; have q10 := ti_ne (z := 10) (by decide) hs22; have q11 := ti_ne (z := 11) (by decide) hs23; omega) rfl ?_
  refine z_bipush (v := -2) C dX0_aboutHouse_147 kb_m2 ?_
  cases hf
  exact z_iret C dX0_aboutHouse_149 F
set_option maxHeartbeats 400000 in
set_option maxRecDepth 100000 in
theorem c_X0_latestBlown {l : Launch} {D : va_G} {cs : ClassId × ClassId × ClassId} (h : Nat) (r : Nat) (fl : Nat) (a1 : Int32) (row : zA) (flow : zA) {v : Int32}  (e : f_X0_latestBlown a1 row = some v) : zM l D cs yX0_latestBlown cX0_latestBlown 2 (some .int) 0 [.ref h, .int a1] (HW cs h r fl row flow) v (HW cs h r fl row flow) := by
  refine zM_of (show plainName RX0 = true by decide +kernel) (Nat.le_of_ble_eq_true rfl) ?_
  rintro G rfl rfl rfl C F
  have hf := e
  clear e
  unfold f_X0_latestBlown at hf
  show zV G 2 0 [(0, .ref h), (1, .int a1)] [] (HW (gk G) h r fl row flow)
  refine z_iload_n 1 C dX0_latestBlown_0 rfl ?_
  refine z_if_lt (tgt := 21) C dX0_latestBlown_1 rfl (fun hc => ?_) (fun hc => ?_)
  · have hf := ifp hc hf
    refine z_iconst (v := -1) C dX0_latestBlown_21 kc_m1 ?_
    cases hf
    exact z_iret C dX0_latestBlown_22 F
  have hf := ifn hc hf
  refine z_iload_n 1 C dX0_latestBlown_4 rfl ?_
  refine z_bipush (v := 8) C dX0_latestBlown_5 kb_8 ?_
  refine z_icmp_ge (tgt := 21) C dX0_latestBlown_7 rfl (fun hc => ?_) (fun hc => ?_)
  · have hf := ifp hc hf
    refine z_iconst (v := -1) C dX0_latestBlown_21 kc_m1 ?_
    cases hf
    exact z_iret C dX0_latestBlown_22 F
  have hf := ifn hc hf
  refine z_iload_n 1 C dX0_latestBlown_10 rfl ?_
  refine z_aload_n 0 C dX0_latestBlown_11 rfl ?_
  refine gf_X0_11 0 C dX0_latestBlown_12 rfl rfl ?_
  refine z_bipush (v := 8) C dX0_latestBlown_15 kb_8 ?_
  refine z_iald 1 C dX0_latestBlown_17 ix_8_125 rfl ?_
  refine z_icmp_lt (tgt := 23) C dX0_latestBlown_18 rfl (fun hc => ?_) (fun hc => ?_)
  · have hf := ifp hc hf
    refine z_aload_n 0 C dX0_latestBlown_23 rfl ?_
    refine gf_X0_11 0 C dX0_latestBlown_24 rfl rfl ?_
    refine z_bipush (v := 9) C dX0_latestBlown_27 kb_9 ?_
    refine z_iload_n 1 C dX0_latestBlown_29 rfl ?_
    refine z_iadd C dX0_latestBlown_30 ?_
    obtain ⟨k1, h2, hf⟩ := gd_e hf
    refine z_iald 1 C dX0_latestBlown_31 h2 rfl ?_
    cases hf
    exact z_iret C dX0_latestBlown_32 F
  have hf := ifn hc hf
  refine z_iconst (v := -1) C dX0_latestBlown_21 kc_m1 ?_
  cases hf
  exact z_iret C dX0_latestBlown_22 F
