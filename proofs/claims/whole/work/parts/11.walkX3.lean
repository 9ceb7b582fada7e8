set_option maxHeartbeats 400000 in
set_option maxRecDepth 100000 in
theorem c_X3_in {l : Launch} {D : va_G} {cs : ClassId × ClassId × ClassId}  (a0 : Int64) (a2 : Int64) (a4 : Int64)  {v : Int32}  (e : f_X3_in a0 a2 a4 = some v) : zM l D cs yX3_in cX3_in 6 (some .boolean) 0 [.long a0, .long a2, .long a4] ([] : va_W) v ([] : va_W) := by
  refine zM_of (show plainName RX3 = true by decide +kernel) (Nat.le_of_ble_eq_true rfl) ?_
  rintro G rfl rfl rfl C F
  have hf := e
  clear e
  unfold f_X3_in at hf
  show zV G 6 0 [(0, .long a0), (2, .long a2), (4, .long a4)] [] ([] : va_W)
  refine z_lload_n 0 C dX3_in_0 rfl ?_
  refine z_lload_n 1 C dX3_in_1 rfl ?_
  refine z_lcmp C dX3_in_2 ?_
  refine z_if_lt (tgt := 17) C dX3_in_3 rfl (fun hc => ?_) (fun hc => ?_)
  · have hf := ifp hc hf
    refine z_iconst (v := 0) C dX3_in_17 kc_0 ?_
    cases hf
    exact z_zret C dX3_in_18 rfl F
  have hf := ifn hc hf
  refine z_lload_n 0 C dX3_in_6 rfl ?_
  refine z_lload 2 C dX3_in_7 rfl ?_
  refine z_lcmp C dX3_in_9 ?_
  refine z_if_gt (tgt := 17) C dX3_in_10 rfl (fun hc => ?_) (fun hc => ?_)
  · have hf := ifp hc hf
    refine z_iconst (v := 0) C dX3_in_17 kc_0 ?_
    cases hf
    exact z_zret C dX3_in_18 rfl F
  have hf := ifn hc hf
  refine z_iconst (v := 1) C dX3_in_13 kc_1 ?_
  refine z_goto (tgt := 18) C dX3_in_14 rfl ?_
  cases hf
  exact z_zret C dX3_in_18 rfl F
set_option maxHeartbeats 400000 in
set_option maxRecDepth 100000 in
theorem c_X3_flag {l : Launch} {D : va_G} {cs : ClassId × ClassId × ClassId}  (a0 : Int32)  {v : Int32}  (e : f_X3_flag a0 = some v) : zM l D cs yX3_flag cX3_flag 1 (some .int) 0 [.int a0] ([] : va_W) v ([] : va_W) := by
  refine zM_of (show plainName RX3 = true by decide +kernel) (Nat.le_of_ble_eq_true rfl) ?_
  rintro G rfl rfl rfl C F
  have hf := e
  clear e
  unfold f_X3_flag at hf
  show zV G 1 0 [(0, .int a0)] [] ([] : va_W)
  refine z_iload_n 0 C dX3_flag_0 rfl ?_
  refine z_if_eq (tgt := 8) C dX3_flag_1 rfl (fun hc => ?_) (fun hc => ?_)
  · have hf := ifp hc hf
    refine z_iconst (v := 0) C dX3_flag_8 kc_0 ?_
    cases hf
    exact z_iret C dX3_flag_9 F
  have hf := ifn hc hf
  refine z_iconst (v := 1) C dX3_flag_4 kc_1 ?_
  refine z_goto (tgt := 9) C dX3_flag_5 rfl ?_
  cases hf
  exact z_iret C dX3_flag_9 F
set_option maxHeartbeats 400000 in
set_option maxRecDepth 100000 in
theorem tb_X3_copies_2 {G : GT} (ad : Nat → Nat) (sv : zA) (tx : zA) (cu : zA) (ho : zA) (mf : zA) {s' : zA} (C : zC G cX3_copies 4 RX3 none 0) (F : zF G none (MW (gk G) ad s' sv tx cu ho mf)) : ∀ (n : Nat) (l1 : Int32) (l2 : Int32) (l3 : Int32) (s : zA), B_X3_copies_2 n l1 l2 l3 s = some s' → zV G 4 2 [(0, .ref (ad 0)), (1, .int l1), (2, .int l2), (3, .int l3)] [] (MW (gk G) ad s sv tx cu ho mf) := by
  intro n
  induction n with
  | zero => intro _ _ _ _ hf; rw [B_X3_copies_2] at hf; cases hf
  | succ n ih =>
    intro l1 l2 l3 s hf
    rw [B_X3_copies_2] at hf
    refine z_iload_n 3 C dX3_copies_2 rfl ?_
    refine z_sipush (v := 148) C dX3_copies_3 ks_148 ?_
    refine z_icmp_ge (tgt := 39) C dX3_copies_6 rfl (fun hc => ?_) (fun hc => ?_)
    · have hf := ifp hc hf
      cases hf
      exact z_vret C dX3_copies_39 F
    have hf := ifn hc hf
    refine z_aload_n 0 C dX3_copies_9 rfl ?_
    refine gf_X3_7 0 C dX3_copies_10 rfl rfl ?_
    refine z_sipush (v := 148) C dX3_copies_13 ks_148 ?_
    refine z_iload_n 2 C dX3_copies_16 rfl ?_
    refine z_imul C dX3_copies_17 ?_
    refine z_iload_n 3 C dX3_copies_18 rfl ?_
    refine z_iadd C dX3_copies_19 ?_
    refine z_aload_n 0 C dX3_copies_20 rfl ?_
    refine gf_X3_7 0 C dX3_copies_21 rfl rfl ?_
    refine z_sipush (v := 148) C dX3_copies_24 ks_148 ?_
    refine z_iload_n 1 C dX3_copies_27 rfl ?_
    refine z_imul C dX3_copies_28 ?_
    refine z_iload_n 3 C dX3_copies_29 rfl ?_
    refine z_iadd C dX3_copies_30 ?_
    obtain ⟨k1, h2, hf⟩ := gd_e hf
    refine z_iald 1 C dX3_copies_31 h2 rfl ?_
    obtain ⟨k3, h4, hf⟩ := gd_e hf
    obtain ⟨s5, e6, hf⟩ := nm_g hf
    refine z_iast (ws' := (MW (gk G) ad s5 sv tx cu ho mf)) 1 C dX3_copies_32 h4 rfl e6 rfl ?_
    obtain ⟨x7, e8, hf⟩ := nm_g hf
    refine z_iinc (ls' := [(3, _), (0, _), (1, _), (2, _)]) 3 C dX3_copies_33 rfl kc_1 e8 (by decide) rfl ?_
    refine z_goto (tgt := 2) C dX3_copies_36 rfl ?_
    refine z_sub (ls' := [(0, .ref (ad 0)), (1, .int l1), (2, .int l2), (3, .int x7)]) [1, 2, 3, 0] rfl ?_
    exact ih _ _ _ _ hf
set_option maxHeartbeats 400000 in
set_option maxRecDepth 100000 in
theorem c_X3_copies {l : Launch} {D : va_G} {cs : ClassId × ClassId × ClassId} (ad : Nat → Nat) (a1 : Int32) (a2 : Int32) (s : zA) (sv : zA) (tx : zA) (cu : zA) (ho : zA) (mf : zA) {s' : zA} (e : f_X3_copies a1 a2 s = some s') : zMv l D cs yX3_copies cX3_copies 4 none 0 [.ref (ad 0), .int a1, .int a2] (MW cs ad s sv tx cu ho mf) (MW cs ad s' sv tx cu ho mf) := by
  refine zMv_of (show plainName RX3 = true by decide +kernel) (Nat.le_of_ble_eq_true rfl) ?_
  rintro G rfl rfl rfl C F
  have hf := e
  clear e
  unfold f_X3_copies at hf
  show zV G 4 0 [(0, .ref (ad 0)), (1, .int a1), (2, .int a2)] [] (MW (gk G) ad s sv tx cu ho mf)
  refine z_iconst (v := 0) C dX3_copies_0 kc_0 ?_
  refine z_istore_n (ls' := [(3, _), (0, _), (1, _), (2, _)]) C dX3_copies_1 (by decide) rfl ?_
  refine z_sub (ls' := [(0, .ref (ad 0)), (1, .int a1), (2, .int a2), (3, .int 0)]) [1, 2, 3, 0] rfl ?_
  exact tb_X3_copies_2 ad sv tx cu ho mf C F _ _ _ _ _ hf
set_option maxHeartbeats 400000 in
set_option maxRecDepth 100000 in
theorem tb_X3_changes_41 {G : GT} (ad : Nat → Nat) (sv : zA) (tx : zA) (cu : zA) (ho : zA) {s' : zA} {mf' : zA} (C : zC G cX3_changes 2 RX3 none 1) (F : zF G none (MW (gk G) ad s' sv tx cu ho mf')) : ∀ (s : zA) (mf : zA), B_X3_changes_41 s mf = some (s', mf') → zV G 2 41 [(0, .ref (ad 0))] [] (MW (gk G) ad s sv tx cu ho mf) := by
  intro s mf hf
  unfold B_X3_changes_41 at hf
  refine z_aload_n 0 C dX3_changes_41 rfl ?_
  refine z_dup C dX3_changes_42 rfl ?_
  refine gf_X3_30 0 C dX3_changes_43 rfl rfl ?_
  refine z_iconst (v := 1) C dX3_changes_46 kc_1 ?_
  refine z_iadd C dX3_changes_47 ?_
  obtain ⟨mf1, e2, hf⟩ := nm_g hf
  refine pf_X3_30 (ws' := (MW (gk G) ad s sv tx cu ho mf1)) 0 C dX3_changes_48 rfl (Nat.le_of_ble_eq_true rfl) (by subst e2; rfl) ?_
  refine z_aload_n 0 C dX3_changes_51 rfl ?_
  refine z_iconst (v := 0) C dX3_changes_52 kc_0 ?_
  refine z_aload_n 0 C dX3_changes_53 rfl ?_
  refine gf_X3_30 0 C dX3_changes_54 rfl rfl ?_
  obtain ⟨s3, e4, hf⟩ := b1_e hf
  refine z_callVv (st := []) (ws2 := (MW (gk G) ad s3 sv tx cu ho mf1)) [0, 1, 2, 3, 4, 5] C dX3_changes_57 w_X3_33 (c_X3_copies ad 0 (mf1 1) s sv tx cu ho mf1 e4) (by decide) rfl rfl rfl rfl rfl rfl rfl (Nat.le_of_ble_eq_true rfl) rfl ?_
  cases hf
  exact z_vret C dX3_changes_60 F
set_option maxHeartbeats 400000 in
set_option maxRecDepth 100000 in
theorem tb_X3_changes_11 {G : GT} (ad : Nat → Nat) (sv : zA) (tx : zA) (cu : zA) (ho : zA) {s' : zA} {mf' : zA} (C : zC G cX3_changes 2 RX3 none 1) (F : zF G none (MW (gk G) ad s' sv tx cu ho mf')) : ∀ (n : Nat) (l1 : Int32) (s : zA) (mf : zA), B_X3_changes_11 n l1 s mf = some (s', mf') → zV G 2 11 [(0, .ref (ad 0)), (1, .int l1)] [] (MW (gk G) ad s sv tx cu ho mf) := by
  intro n
  induction n with
  | zero => intro _ _ _ hf; rw [B_X3_changes_11] at hf; cases hf
  | succ n ih =>
    intro l1 s mf hf
    rw [B_X3_changes_11] at hf
    refine z_iload_n 1 C dX3_changes_11 rfl ?_
    refine z_bipush (v := 6) C dX3_changes_12 kb_6 ?_
    refine z_icmp_ge (tgt := 31) C dX3_changes_14 rfl (fun hc => ?_) (fun hc => ?_)
    · have hf := ifp hc hf
      refine z_aload_n 0 C dX3_changes_31 rfl ?_
      refine z_dup C dX3_changes_32 rfl ?_
      refine gf_X3_30 0 C dX3_changes_33 rfl rfl ?_
      refine z_iconst (v := 1) C dX3_changes_36 kc_1 ?_
      refine z_isub C dX3_changes_37 ?_
      obtain ⟨mf1, e2, hf⟩ := nm_g hf
      refine pf_X3_30 (ws' := (MW (gk G) ad s sv tx cu ho mf1)) 0 C dX3_changes_38 rfl (Nat.le_of_ble_eq_true rfl) (by subst e2; rfl) ?_
      refine z_sub (ls' := [(0, .ref (ad 0))]) [0] rfl ?_
      exact tb_X3_changes_41 ad sv tx cu ho C F _ _ hf
    have hf := ifn hc hf
    refine z_aload_n 0 C dX3_changes_17 rfl ?_
    refine z_iload_n 1 C dX3_changes_18 rfl ?_
    refine z_iconst (v := 1) C dX3_changes_19 kc_1 ?_
    refine z_iadd C dX3_changes_20 ?_
    refine z_iload_n 1 C dX3_changes_21 rfl ?_
    obtain ⟨s3, e4, hf⟩ := b1_e hf
    refine z_callVv (st := []) (ws2 := (MW (gk G) ad s3 sv tx cu ho mf)) [0, 1, 2, 3, 4, 5] C dX3_changes_22 w_X3_33 (c_X3_copies ad (l1 + 1) l1 s sv tx cu ho mf e4) (by decide) rfl rfl rfl rfl rfl rfl rfl (Nat.le_of_ble_eq_true rfl) rfl ?_
    obtain ⟨x5, e6, hf⟩ := nm_g hf
    refine z_iinc (ls' := [(1, _), (0, _)]) 1 C dX3_changes_25 rfl kc_1 e6 (by decide) rfl ?_
    refine z_goto (tgt := 11) C dX3_changes_28 rfl ?_
    refine z_sub (ls' := [(0, .ref (ad 0)), (1, .int x5)]) [1, 0] rfl ?_
    exact ih _ _ _ hf
set_option maxHeartbeats 400000 in
set_option maxRecDepth 100000 in
theorem c_X3_changes {l : Launch} {D : va_G} {cs : ClassId × ClassId × ClassId} (ad : Nat → Nat)  (s : zA) (sv : zA) (tx : zA) (cu : zA) (ho : zA) (mf : zA) {s' : zA} {mf' : zA} (e : f_X3_changes s mf = some (s', mf')) : zMv l D cs yX3_changes cX3_changes 2 none 1 [.ref (ad 0)] (MW cs ad s sv tx cu ho mf) (MW cs ad s' sv tx cu ho mf') := by
  refine zMv_of (show plainName RX3 = true by decide +kernel) (Nat.le_of_ble_eq_true rfl) ?_
  rintro G rfl rfl rfl C F
  have hf := e
  clear e
  unfold f_X3_changes at hf
  show zV G 2 0 [(0, .ref (ad 0))] [] (MW (gk G) ad s sv tx cu ho mf)
  refine z_aload_n 0 C dX3_changes_0 rfl ?_
  refine gf_X3_30 0 C dX3_changes_1 rfl rfl ?_
  refine z_bipush (v := 6) C dX3_changes_4 kb_6 ?_
  refine z_icmp_ne (tgt := 41) C dX3_changes_6 rfl (fun hc => ?_) (fun hc => ?_)
  · have hf := ifn hc hf
    exact tb_X3_changes_41 ad sv tx cu ho C F _ _ hf
  have hf := ifp hc hf
  refine z_iconst (v := 1) C dX3_changes_9 kc_1 ?_
  refine z_istore_n (ls' := [(1, _), (0, _)]) C dX3_changes_10 (by decide) rfl ?_
  refine z_sub (ls' := [(0, .ref (ad 0)), (1, .int 1)]) [1, 0] rfl ?_
  exact tb_X3_changes_11 ad sv tx cu ho C F _ _ _ _ hf
set_option maxHeartbeats 400000 in
set_option maxRecDepth 100000 in
theorem c_X3_boardAt {l : Launch} {D : va_G} {cs : ClassId × ClassId × ClassId}  (a0 : Int32) (a1 : Int32)  {v : Int32}  (e : f_X3_boardAt a0 a1 = some v) : zM l D cs yX3_boardAt cX3_boardAt 2 (some .int) 0 [.int a0, .int a1] ([] : va_W) v ([] : va_W) := by
  refine zM_of (show plainName RX3 = true by decide +kernel) (Nat.le_of_ble_eq_true rfl) ?_
  rintro G rfl rfl rfl C F
  have hf := e
  clear e
  unfold f_X3_boardAt at hf
  show zV G 2 0 [(0, .int a0), (1, .int a1)] [] ([] : va_W)
  refine z_iload_n 0 C dX3_boardAt_0 rfl ?_
  refine z_bipush (v := 16) C dX3_boardAt_1 kb_16 ?_
  refine z_iadd C dX3_boardAt_3 ?_
  refine z_bipush (v := 9) C dX3_boardAt_4 kb_9 ?_
  refine z_iload_n 1 C dX3_boardAt_6 rfl ?_
  refine z_imul C dX3_boardAt_7 ?_
  refine z_iadd C dX3_boardAt_8 ?_
  cases hf
  exact z_iret C dX3_boardAt_9 F
set_option maxHeartbeats 400000 in
set_option maxRecDepth 100000 in
theorem c_X3_loadAt {l : Launch} {D : va_G} {cs : ClassId × ClassId × ClassId}  (a0 : Int32) (a1 : Int32)  {v : Int32}  (e : f_X3_loadAt a0 a1 = some v) : zM l D cs yX3_loadAt cX3_loadAt 2 (some .int) 0 [.int a0, .int a1] ([] : va_W) v ([] : va_W) := by
  refine zM_of (show plainName RX3 = true by decide +kernel) (Nat.le_of_ble_eq_true rfl) ?_
  rintro G rfl rfl rfl C F
  have hf := e
  clear e
  unfold f_X3_loadAt at hf
  show zV G 2 0 [(0, .int a0), (1, .int a1)] [] ([] : va_W)
  refine z_iload_n 0 C dX3_loadAt_0 rfl ?_
  refine z_bipush (v := 106) C dX3_loadAt_1 kb_106 ?_
  refine z_iadd C dX3_loadAt_3 ?_
  refine z_iconst (v := 3) C dX3_loadAt_4 kc_3 ?_
  refine z_iload_n 1 C dX3_loadAt_5 rfl ?_
  refine z_imul C dX3_loadAt_6 ?_
  refine z_iadd C dX3_loadAt_7 ?_
  cases hf
  exact z_iret C dX3_loadAt_8 F
set_option maxHeartbeats 400000 in
set_option maxRecDepth 100000 in
theorem tb_X3_isDead_38 {G : GT} (ad : Nat → Nat) (s : zA) (sv : zA) (tx : zA) (cu : zA) (ho : zA) (mf : zA) {v : Int32}  (C : zC G cX3_isDead 5 RX3 (some .boolean) 1) (F : zF G (some (.int v)) (MW (gk G) ad s sv tx cu ho mf)) (K : Int32 → Int32 → Int32 → zA → Option (Int32)) (hK : ∀ (l1 : Int32) (l3 : Int32) (l4 : Int32), K l1 l3 l4 s = some v → zV G 5 5 [(0, .ref (ad 0)), (1, .int l1), (3, .int l3), (4, .int l4)] [] (MW (gk G) ad s sv tx cu ho mf)) : ∀ (s0 : Int32) (l1 : Int32) (l4 : Int32), B_X3_isDead_38 K s0 l1 l4 s = some v → zV G 5 38 [(0, .ref (ad 0)), (1, .int l1), (4, .int l4)] [.int s0] (MW (gk G) ad s sv tx cu ho mf) := by
  intro s0 l1 l4 hf
  unfold B_X3_isDead_38 at hf
  refine z_istore_n (ls' := [(3, _), (0, _), (1, _), (4, _)]) C dX3_isDead_38 (by decide) rfl ?_
  refine z_aload_n 1 C dX3_isDead_39 rfl ?_
  refine gf_X3_7 0 C dX3_isDead_40 rfl rfl ?_
  refine z_iload_n 2 C dX3_isDead_43 rfl ?_
  refine z_iload 3 C dX3_isDead_44 rfl ?_
  obtain ⟨v1, e2, hf⟩ := b1_e hf
  refine z_callS (st := [.ref (ad 1)]) (ws2 := (MW (gk G) ad s sv tx cu ho mf)) [] C dX3_isDead_46 w_X3_37 (c_X3_boardAt l1 l4 e2) (by decide) rfl rfl rfl  rfl rfl (Nat.le_of_ble_eq_true rfl) rfl ?_
  obtain ⟨k3, h4, hf⟩ := gd_e hf
  refine z_iald 1 C dX3_isDead_49 h4 rfl ?_
  refine z_istore (ls' := [(4, _), (3, _), (0, _), (1, _)]) C dX3_isDead_50 (by decide) rfl ?_
  refine z_goto (tgt := 5) C dX3_isDead_52 rfl ?_
  refine z_sub (ls' := [(0, .ref (ad 0)), (1, .int l1), (3, .int s0), (4, .int (s k3))]) [2, 3, 1, 0] rfl ?_
  exact hK _ _ _ hf
set_option maxHeartbeats 400000 in
set_option maxRecDepth 100000 in
theorem tb_X3_isDead_33 {G : GT} (ad : Nat → Nat) (s : zA) (sv : zA) (tx : zA) (cu : zA) (ho : zA) (mf : zA) {v : Int32}  (C : zC G cX3_isDead 5 RX3 (some .boolean) 1) (F : zF G (some (.int v)) (MW (gk G) ad s sv tx cu ho mf)) (K : Int32 → Int32 → Int32 → zA → Option (Int32)) (hK : ∀ (l1 : Int32) (l3 : Int32) (l4 : Int32), K l1 l3 l4 s = some v → zV G 5 5 [(0, .ref (ad 0)), (1, .int l1), (3, .int l3), (4, .int l4)] [] (MW (gk G) ad s sv tx cu ho mf)) : ∀ (l1 : Int32) (l4 : Int32), B_X3_isDead_33 K l1 l4 s = some v → zV G 5 33 [(0, .ref (ad 0)), (1, .int l1), (4, .int l4)] [] (MW (gk G) ad s sv tx cu ho mf) := by
  intro l1 l4 hf
  unfold B_X3_isDead_33 at hf
  refine z_iconst (v := 1) C dX3_isDead_33 kc_1 ?_
  refine z_goto (tgt := 38) C dX3_isDead_34 rfl ?_
  exact tb_X3_isDead_38 ad s sv tx cu ho mf C F K hK _ _ _ hf
set_option maxHeartbeats 400000 in
set_option maxRecDepth 100000 in
theorem tb_X3_isDead_5 {G : GT} (ad : Nat → Nat) (s : zA) (sv : zA) (tx : zA) (cu : zA) (ho : zA) (mf : zA) {v : Int32}  (C : zC G cX3_isDead 5 RX3 (some .boolean) 1) (F : zF G (some (.int v)) (MW (gk G) ad s sv tx cu ho mf)) : ∀ (n : Nat) (l1 : Int32) (l3 : Int32) (l4 : Int32), B_X3_isDead_5 n l1 l3 l4 s = some v → zV G 5 5 [(0, .ref (ad 0)), (1, .int l1), (3, .int l3), (4, .int l4)] [] (MW (gk G) ad s sv tx cu ho mf) := by
  intro n
  induction n with
  | zero => intro _ _ _ hf; rw [B_X3_isDead_5] at hf; cases hf
  | succ n ih =>
    intro l1 l3 l4 hf
    rw [B_X3_isDead_5] at hf
    refine z_iload 3 C dX3_isDead_5 rfl ?_
    refine z_bipush (v := -6) C dX3_isDead_7 kb_m6 ?_
    refine z_icmp_eq (tgt := 55) C dX3_isDead_9 rfl (fun hc => ?_) (fun hc => ?_)
    · have hf := ifp hc hf
      refine z_iload_n 2 C dX3_isDead_55 rfl ?_
      obtain ⟨hn, hf⟩ := zbo_e hf
      cases hf
      exact z_zret C dX3_isDead_56 hn F
    have hf := ifn hc hf
    refine z_iload_n 2 C dX3_isDead_12 rfl ?_
    refine z_if_ne (tgt := 33) C dX3_isDead_13 rfl (fun hc => ?_) (fun hc => ?_)
    · have hf := ifn hc hf
      refine z_sub (ls' := [(0, .ref (ad 0)), (1, .int l1), (4, .int l4)]) [0, 1, 3] rfl ?_
      exact tb_X3_isDead_33 ad s sv tx cu ho mf C F _ ih _ _ hf
    have hf := ifp hc hf
    refine z_aload_n 0 C dX3_isDead_16 rfl ?_
    refine gf_X3_7 0 C dX3_isDead_17 rfl rfl ?_
    refine z_iload_n 1 C dX3_isDead_20 rfl ?_
    refine z_iload 3 C dX3_isDead_21 rfl ?_
    obtain ⟨v1, e2, hf⟩ := b1_e hf
    refine z_callS (st := [.ref (ad 1)]) (ws2 := (MW (gk G) ad s sv tx cu ho mf)) [] C dX3_isDead_23 w_X3_37 (c_X3_boardAt l1 l4 e2) (by decide) rfl rfl rfl  rfl rfl (Nat.le_of_ble_eq_true rfl) rfl ?_
    refine z_iconst (v := 3) C dX3_isDead_26 kc_3 ?_
    refine z_iadd C dX3_isDead_27 ?_
    obtain ⟨k3, h4, hf⟩ := gd_e hf
    refine z_iald 1 C dX3_isDead_28 h4 rfl ?_
    refine z_iconst (v := 2) C dX3_isDead_29 kc_2 ?_
    refine z_icmp_ne (tgt := 37) C dX3_isDead_30 rfl (fun hc => ?_) (fun hc => ?_)
    · have hf := ifn hc hf
      refine z_iconst (v := 0) C dX3_isDead_37 kc_0 ?_
      refine z_sub (ls' := [(0, .ref (ad 0)), (1, .int l1), (4, .int l4)]) [0, 1, 3] rfl ?_
      exact tb_X3_isDead_38 ad s sv tx cu ho mf C F _ ih _ _ _ hf
    have hf := ifp hc hf
    refine z_sub (ls' := [(0, .ref (ad 0)), (1, .int l1), (4, .int l4)]) [0, 1, 3] rfl ?_
    exact tb_X3_isDead_33 ad s sv tx cu ho mf C F _ ih _ _ hf
set_option maxHeartbeats 400000 in
set_option maxRecDepth 100000 in
theorem c_X3_isDead {l : Launch} {D : va_G} {cs : ClassId × ClassId × ClassId} (ad : Nat → Nat) (a1 : Int32) (a2 : Int32) (s : zA) (sv : zA) (tx : zA) (cu : zA) (ho : zA) (mf : zA) {v : Int32}  (e : f_X3_isDead a1 a2 s = some v) : zM l D cs yX3_isDead cX3_isDead 5 (some .boolean) 1 [.ref (ad 0), .int a1, .int a2] (MW cs ad s sv tx cu ho mf) v (MW cs ad s sv tx cu ho mf) := by
  refine zM_of (show plainName RX3 = true by decide +kernel) (Nat.le_of_ble_eq_true rfl) ?_
  rintro G rfl rfl rfl C F
  have hf := e
  clear e
  unfold f_X3_isDead at hf
  show zV G 5 0 [(0, .ref (ad 0)), (1, .int a1), (2, .int a2)] [] (MW (gk G) ad s sv tx cu ho mf)
  refine z_iconst (v := 0) C dX3_isDead_0 kc_0 ?_
  refine z_istore_n (ls' := [(3, _), (0, _), (1, _), (2, _)]) C dX3_isDead_1 (by decide) rfl ?_
  refine z_iload_n 3 C dX3_isDead_2 rfl ?_
  refine z_istore (ls' := [(4, _), (3, _), (0, _), (1, _), (2, _)]) C dX3_isDead_3 (by decide) rfl ?_
  refine z_sub (ls' := [(0, .ref (ad 0)), (1, .int a1), (3, .int 0), (4, .int a2)]) [2, 3, 1, 0] rfl ?_
  exact tb_X3_isDead_5 ad s sv tx cu ho mf C F _ _ _ _ hf
set_option maxHeartbeats 400000 in
set_option maxRecDepth 100000 in
theorem tb_X3_isFed_29 {G : GT} (ad : Nat → Nat) (s : zA) (sv : zA) (tx : zA) (cu : zA) (ho : zA) (mf : zA) {v : Int32}  (C : zC G cX3_isFed 6 RX3 (some .boolean) 1) (F : zF G (some (.int v)) (MW (gk G) ad s sv tx cu ho mf)) (K : Int32 → Int32 → Int32 → Int32 → zA → Option (Int32)) (hK : ∀ (l1 : Int32) (l3 : Int32) (l4 : Int32) (l5 : Int32), K l1 l3 l4 l5 s = some v → zV G 6 6 [(0, .ref (ad 0)), (1, .int l1), (3, .int l3), (4, .int l4), (5, .int l5)] [] (MW (gk G) ad s sv tx cu ho mf)) : ∀ (s0 : Int32) (l1 : Int32) (l3 : Int32) (l5 : Int32), B_X3_isFed_29 K s0 l1 l3 l5 s = some v → zV G 6 29 [(0, .ref (ad 0)), (1, .int l1), (3, .int l3), (5, .int l5)] [.int s0] (MW (gk G) ad s sv tx cu ho mf) := by
  intro s0 l1 l3 l5 hf
  unfold B_X3_isFed_29 at hf
  refine z_istore (ls' := [(4, _), (0, _), (1, _), (3, _), (5, _)]) C dX3_isFed_29 (by decide) rfl ?_
  refine z_aload_n 1 C dX3_isFed_31 rfl ?_
  refine gf_X3_7 0 C dX3_isFed_32 rfl rfl ?_
  refine z_iload_n 2 C dX3_isFed_35 rfl ?_
  refine z_iload 4 C dX3_isFed_36 rfl ?_
  obtain ⟨v1, e2, hf⟩ := b1_e hf
  refine z_callS (st := [.ref (ad 1)]) (ws2 := (MW (gk G) ad s sv tx cu ho mf)) [] C dX3_isFed_38 w_X3_37 (c_X3_boardAt l1 l5 e2) (by decide) rfl rfl rfl  rfl rfl (Nat.le_of_ble_eq_true rfl) rfl ?_
  obtain ⟨k3, h4, hf⟩ := gd_e hf
  refine z_iald 1 C dX3_isFed_41 h4 rfl ?_
  refine z_istore (ls' := [(5, _), (4, _), (0, _), (1, _), (3, _)]) C dX3_isFed_42 (by decide) rfl ?_
  refine z_goto (tgt := 6) C dX3_isFed_44 rfl ?_
  refine z_sub (ls' := [(0, .ref (ad 0)), (1, .int l1), (3, .int l3), (4, .int s0), (5, .int (s k3))]) [2, 3, 4, 1, 0] rfl ?_
  exact hK _ _ _ _ hf
set_option maxHeartbeats 400000 in
set_option maxRecDepth 100000 in
theorem tb_X3_isFed_24 {G : GT} (ad : Nat → Nat) (s : zA) (sv : zA) (tx : zA) (cu : zA) (ho : zA) (mf : zA) {v : Int32}  (C : zC G cX3_isFed 6 RX3 (some .boolean) 1) (F : zF G (some (.int v)) (MW (gk G) ad s sv tx cu ho mf)) (K : Int32 → Int32 → Int32 → Int32 → zA → Option (Int32)) (hK : ∀ (l1 : Int32) (l3 : Int32) (l4 : Int32) (l5 : Int32), K l1 l3 l4 l5 s = some v → zV G 6 6 [(0, .ref (ad 0)), (1, .int l1), (3, .int l3), (4, .int l4), (5, .int l5)] [] (MW (gk G) ad s sv tx cu ho mf)) : ∀ (l1 : Int32) (l3 : Int32) (l5 : Int32), B_X3_isFed_24 K l1 l3 l5 s = some v → zV G 6 24 [(0, .ref (ad 0)), (1, .int l1), (3, .int l3), (5, .int l5)] [] (MW (gk G) ad s sv tx cu ho mf) := by
  intro l1 l3 l5 hf
  unfold B_X3_isFed_24 at hf
  refine z_iconst (v := 1) C dX3_isFed_24 kc_1 ?_
  refine z_goto (tgt := 29) C dX3_isFed_25 rfl ?_
  exact tb_X3_isFed_29 ad s sv tx cu ho mf C F K hK _ _ _ _ hf
set_option maxHeartbeats 400000 in
set_option maxRecDepth 100000 in
theorem tb_X3_isFed_6 {G : GT} (ad : Nat → Nat) (s : zA) (sv : zA) (tx : zA) (cu : zA) (ho : zA) (mf : zA) {v : Int32}  (C : zC G cX3_isFed 6 RX3 (some .boolean) 1) (F : zF G (some (.int v)) (MW (gk G) ad s sv tx cu ho mf)) : ∀ (n : Nat) (l1 : Int32) (l3 : Int32) (l4 : Int32) (l5 : Int32), B_X3_isFed_6 n l1 l3 l4 l5 s = some v → zV G 6 6 [(0, .ref (ad 0)), (1, .int l1), (3, .int l3), (4, .int l4), (5, .int l5)] [] (MW (gk G) ad s sv tx cu ho mf) := by
  intro n
  induction n with
  | zero => intro _ _ _ _ hf; rw [B_X3_isFed_6] at hf; cases hf
  | succ n ih =>
    intro l1 l3 l4 l5 hf
    rw [B_X3_isFed_6] at hf
    refine z_iload 4 C dX3_isFed_6 rfl ?_
    refine z_bipush (v := -6) C dX3_isFed_8 kb_m6 ?_
    refine z_icmp_eq (tgt := 47) C dX3_isFed_10 rfl (fun hc => ?_) (fun hc => ?_)
    · have hf := ifp hc hf
      refine z_iload 3 C dX3_isFed_47 rfl ?_
      obtain ⟨hn, hf⟩ := zbo_e hf
      cases hf
      exact z_zret C dX3_isFed_49 hn F
    have hf := ifn hc hf
    refine z_iload 3 C dX3_isFed_13 rfl ?_
    refine z_if_ne (tgt := 24) C dX3_isFed_15 rfl (fun hc => ?_) (fun hc => ?_)
    · have hf := ifn hc hf
      refine z_sub (ls' := [(0, .ref (ad 0)), (1, .int l1), (3, .int l3), (5, .int l5)]) [0, 1, 2, 4] rfl ?_
      exact tb_X3_isFed_24 ad s sv tx cu ho mf C F _ ih _ _ _ hf
    have hf := ifp hc hf
    refine z_iload 4 C dX3_isFed_18 rfl ?_
    refine z_iload_n 2 C dX3_isFed_20 rfl ?_
    refine z_icmp_ne (tgt := 28) C dX3_isFed_21 rfl (fun hc => ?_) (fun hc => ?_)
    · have hf := ifn hc hf
      refine z_iconst (v := 0) C dX3_isFed_28 kc_0 ?_
      refine z_sub (ls' := [(0, .ref (ad 0)), (1, .int l1), (3, .int l3), (5, .int l5)]) [0, 1, 2, 4] rfl ?_
      exact tb_X3_isFed_29 ad s sv tx cu ho mf C F _ ih _ _ _ _ hf
    have hf := ifp hc hf
    refine z_sub (ls' := [(0, .ref (ad 0)), (1, .int l1), (3, .int l3), (5, .int l5)]) [0, 1, 2, 4] rfl ?_
    exact tb_X3_isFed_24 ad s sv tx cu ho mf C F _ ih _ _ _ hf
set_option maxHeartbeats 400000 in
set_option maxRecDepth 100000 in
theorem c_X3_isFed {l : Launch} {D : va_G} {cs : ClassId × ClassId × ClassId} (ad : Nat → Nat) (a1 : Int32) (a2 : Int32) (a3 : Int32) (s : zA) (sv : zA) (tx : zA) (cu : zA) (ho : zA) (mf : zA) {v : Int32}  (e : f_X3_isFed a1 a2 a3 s = some v) : zM l D cs yX3_isFed cX3_isFed 6 (some .boolean) 1 [.ref (ad 0), .int a1, .int a2, .int a3] (MW cs ad s sv tx cu ho mf) v (MW cs ad s sv tx cu ho mf) := by
  refine zM_of (show plainName RX3 = true by decide +kernel) (Nat.le_of_ble_eq_true rfl) ?_
  rintro G rfl rfl rfl C F
  have hf := e
  clear e
  unfold f_X3_isFed at hf
  show zV G 6 0 [(0, .ref (ad 0)), (1, .int a1), (2, .int a2), (3, .int a3)] [] (MW (gk G) ad s sv tx cu ho mf)
  refine z_iconst (v := 0) C dX3_isFed_0 kc_0 ?_
  refine z_istore (ls' := [(4, _), (0, _), (1, _), (2, _), (3, _)]) C dX3_isFed_1 (by decide) rfl ?_
  refine z_iload_n 3 C dX3_isFed_3 rfl ?_
  refine z_istore (ls' := [(5, _), (4, _), (0, _), (1, _), (2, _), (3, _)]) C dX3_isFed_4 (by decide) rfl ?_
  refine z_sub (ls' := [(0, .ref (ad 0)), (1, .int a1), (3, .int a3), (4, .int 0), (5, .int a2)]) [2, 3, 5, 1, 0] rfl ?_
  exact tb_X3_isFed_6 ad s sv tx cu ho mf C F _ _ _ _ _ hf
set_option maxHeartbeats 400000 in
set_option maxRecDepth 100000 in
theorem tb_X3_current_131 {G : GT} (ad : Nat → Nat) (s : zA) (sv : zA) (tx : zA) (cu : zA) (ho : zA) (mf : zA) {v : Int32}  (C : zC G cX3_current 6 RX3 (some .int) 2) (F : zF G (some (.int v)) (MW (gk G) ad s sv tx cu ho mf)) : ∀ (s0 : Int32) (l3 : Int32), B_X3_current_131 s0 l3 s mf = some v → zV G 6 131 [(0, .ref (ad 0)), (3, .int l3)] [.int s0] (MW (gk G) ad s sv tx cu ho mf) := by
  intro s0 l3 hf
  unfold B_X3_current_131 at hf
  refine z_istore (ls' := [(4, _), (0, _), (3, _)]) C dX3_current_131 (by decide) rfl ?_
  refine z_iload_n 2 C dX3_current_133 rfl ?_
  refine z_iload 0 C dX3_current_134 rfl ?_
  refine z_if_eq (tgt := 146) C dX3_current_136 rfl (fun hc => ?_) (fun hc => ?_)
  · have hf := ifp hc hf
    refine z_iconst (v := 0) C dX3_current_146 kc_0 ?_
    refine z_iadd C dX3_current_147 ?_
    cases hf
    exact z_iret C dX3_current_148 F
  have hf := ifn hc hf
  refine z_aload_n 1 C dX3_current_139 rfl ?_
  refine gf_X3_52 0 C dX3_current_140 rfl rfl ?_
  refine z_goto (tgt := 147) C dX3_current_143 rfl ?_
  refine z_iadd C dX3_current_147 ?_
  cases hf
  exact z_iret C dX3_current_148 F
set_option maxHeartbeats 400000 in
set_option maxRecDepth 100000 in
theorem tb_X3_current_130 {G : GT} (ad : Nat → Nat) (s : zA) (sv : zA) (tx : zA) (cu : zA) (ho : zA) (mf : zA) {v : Int32}  (C : zC G cX3_current 6 RX3 (some .int) 2) (F : zF G (some (.int v)) (MW (gk G) ad s sv tx cu ho mf)) : ∀ (l3 : Int32), B_X3_current_130 l3 s mf = some v → zV G 6 130 [(0, .ref (ad 0)), (3, .int l3)] [] (MW (gk G) ad s sv tx cu ho mf) := by
  intro l3 hf
  unfold B_X3_current_130 at hf
  refine z_iconst (v := 0) C dX3_current_130 kc_0 ?_
  exact tb_X3_current_131 ad s sv tx cu ho mf C F _ _ hf
set_option maxHeartbeats 400000 in
set_option maxRecDepth 100000 in
theorem tb_X3_current_5 {G : GT} (ad : Nat → Nat) (s : zA) (sv : zA) (tx : zA) (cu : zA) (ho : zA) (mf : zA) {v : Int32}  (C : zC G cX3_current 6 RX3 (some .int) 2) (F : zF G (some (.int v)) (MW (gk G) ad s sv tx cu ho mf)) : ∀ (n : Nat) (l1 : Int32) (l2 : Int32) (l3 : Int32) (l4 : Int32), B_X3_current_5 n l1 l2 l3 l4 s mf = some v → zV G 6 5 [(0, .ref (ad 0)), (1, .int l1), (2, .int l2), (3, .int l3), (4, .int l4)] [] (MW (gk G) ad s sv tx cu ho mf) := by
  intro n
  induction n with
  | zero => intro _ _ _ _ hf; rw [B_X3_current_5] at hf; cases hf
  | succ n ih =>
    intro l1 l2 l3 l4 hf
    rw [B_X3_current_5] at hf
    refine z_iload 4 C dX3_current_5 rfl ?_
    refine z_aload_n 0 C dX3_current_7 rfl ?_
    refine gf_X3_7 0 C dX3_current_8 rfl rfl ?_
    refine z_iload_n 1 C dX3_current_11 rfl ?_
    refine z_iconst (v := 5) C dX3_current_12 kc_5 ?_
    refine z_iadd C dX3_current_13 ?_
    obtain ⟨k1, h2, hf⟩ := gd_e hf
    refine z_iald 1 C dX3_current_14 h2 rfl ?_
    refine z_icmp_ge (tgt := 92) C dX3_current_15 rfl (fun hc => ?_) (fun hc => ?_)
    · have hf := ifp hc hf
      refine z_aload_n 0 C dX3_current_92 rfl ?_
      refine gf_X3_20 0 C dX3_current_93 rfl rfl ?_
      refine z_bipush (v := -6) C dX3_current_96 kb_m6 ?_
      refine z_icmp_eq (tgt := 130) C dX3_current_98 rfl (fun hc => ?_) (fun hc => ?_)
      · have hf := ifp hc hf
        refine z_sub (ls' := [(0, .ref (ad 0)), (3, .int l3)]) [0, 3] rfl ?_
        exact tb_X3_current_130 ad s sv tx cu ho mf C F _ hf
      have hf := ifn hc hf
      refine z_aload_n 0 C dX3_current_101 rfl ?_
      refine z_iload_n 1 C dX3_current_102 rfl ?_
      refine z_aload_n 0 C dX3_current_103 rfl ?_
      refine gf_X3_20 0 C dX3_current_104 rfl rfl ?_
      refine z_iload_n 2 C dX3_current_107 rfl ?_
      obtain ⟨v3, e4, hf⟩ := b1_e hf
      refine z_callV (st := []) (ws2 := (MW (gk G) ad s sv tx cu ho mf)) [0, 1, 2, 3, 4, 5] C dX3_current_108 w_X3_44 (c_X3_isFed ad l1 (mf 5) l2 s sv tx cu ho mf e4) (by decide) rfl rfl rfl rfl rfl rfl rfl (Nat.le_of_ble_eq_true rfl) rfl ?_
      refine z_if_eq (tgt := 130) C dX3_current_111 rfl (fun hc => ?_) (fun hc => ?_)
      · have hf := ifp hc hf
        refine z_sub (ls' := [(0, .ref (ad 0)), (3, .int l3)]) [0, 3] rfl ?_
        exact tb_X3_current_130 ad s sv tx cu ho mf C F _ hf
      have hf := ifn hc hf
      refine z_aload_n 0 C dX3_current_114 rfl ?_
      refine z_iload_n 1 C dX3_current_115 rfl ?_
      refine z_aload_n 0 C dX3_current_116 rfl ?_
      refine gf_X3_20 0 C dX3_current_117 rfl rfl ?_
      obtain ⟨v5, e6, hf⟩ := b1_e hf
      refine z_callV (st := []) (ws2 := (MW (gk G) ad s sv tx cu ho mf)) [0, 1, 2, 3, 4, 5] C dX3_current_120 w_X3_48 (c_X3_isDead ad l1 (mf 5) s sv tx cu ho mf e6) (by decide) rfl rfl rfl rfl rfl rfl rfl (Nat.le_of_ble_eq_true rfl) rfl ?_
      refine z_if_ne (tgt := 130) C dX3_current_123 rfl (fun hc => ?_) (fun hc => ?_)
      · have hf := ifn hc hf
        refine z_sub (ls' := [(0, .ref (ad 0)), (3, .int l3)]) [0, 3] rfl ?_
        exact tb_X3_current_130 ad s sv tx cu ho mf C F _ hf
      have hf := ifp hc hf
      refine z_iconst (v := 1) C dX3_current_126 kc_1 ?_
      refine z_goto (tgt := 131) C dX3_current_127 rfl ?_
      refine z_sub (ls' := [(0, .ref (ad 0)), (3, .int l3)]) [0, 3] rfl ?_
      exact tb_X3_current_131 ad s sv tx cu ho mf C F _ _ hf
    have hf := ifn hc hf
    refine z_iload_n 1 C dX3_current_18 rfl ?_
    refine z_iload 4 C dX3_current_19 rfl ?_
    obtain ⟨v7, e8, hf⟩ := b1_e hf
    refine z_callS (st := []) (ws2 := (MW (gk G) ad s sv tx cu ho mf)) [] C dX3_current_21 w_X3_41 (c_X3_loadAt l1 l4 e8) (by decide) rfl rfl rfl  rfl rfl (Nat.le_of_ble_eq_true rfl) rfl ?_
    refine z_istore (ls' := [(5, _), (0, _), (1, _), (2, _), (3, _), (4, _)]) C dX3_current_24 (by decide) rfl ?_
    refine z_iload_n 4 C dX3_current_26 rfl ?_
    refine z_aload_n 1 C dX3_current_27 rfl ?_
    refine gf_X3_7 0 C dX3_current_28 rfl rfl ?_
    refine z_iload 0 C dX3_current_31 rfl ?_
    refine z_iconst (v := 2) C dX3_current_33 kc_2 ?_
    refine z_iadd C dX3_current_34 ?_
    obtain ⟨k9, h10, hf⟩ := gd_e hf
    refine z_iald 1 C dX3_current_35 h10 rfl ?_
    refine z_iconst (v := 1) C dX3_current_36 kc_1 ?_
    refine z_icmp_ne (tgt := 83) C dX3_current_37 rfl (fun hc => ?_) (fun hc => ?_)
    · have hf := ifn hc hf
      refine z_iconst (v := 0) C dX3_current_83 kc_0 ?_
      refine z_iadd C dX3_current_84 ?_
      obtain ⟨x11, e12, hf⟩ := nm_g hf
      refine z_top e12 ?_
      refine z_istore_n (ls' := [(3, _), (5, _), (0, _), (1, _), (2, _), (4, _)]) C dX3_current_85 (by decide) rfl ?_
      obtain ⟨x13, e14, hf⟩ := nm_g hf
      refine z_iinc (ls' := [(4, _), (3, _), (5, _), (0, _), (1, _), (2, _)]) 5 C dX3_current_86 rfl kc_1 e14 (by decide) rfl ?_
      refine z_goto (tgt := 5) C dX3_current_89 rfl ?_
      refine z_sub (ls' := [(0, .ref (ad 0)), (1, .int l1), (2, .int l2), (3, .int x11), (4, .int x13)]) [3, 4, 5, 1, 0] rfl ?_
      exact ih _ _ _ _ hf
    have hf := ifp hc hf
    refine z_aload_n 1 C dX3_current_40 rfl ?_
    refine z_iload_n 2 C dX3_current_41 rfl ?_
    refine z_aload_n 1 C dX3_current_42 rfl ?_
    refine gf_X3_7 0 C dX3_current_43 rfl rfl ?_
    refine z_iload 0 C dX3_current_46 rfl ?_
    obtain ⟨k15, h16, hf⟩ := gd_e hf
    refine z_iald 1 C dX3_current_48 h16 rfl ?_
    refine z_iload_n 3 C dX3_current_49 rfl ?_
    obtain ⟨v17, e18, hf⟩ := b1_e hf
    refine z_callV (st := [.int l3]) (ws2 := (MW (gk G) ad s sv tx cu ho mf)) [0, 1, 2, 3, 4, 5] C dX3_current_50 w_X3_44 (c_X3_isFed ad l1 (s k15) l2 s sv tx cu ho mf e18) (by decide) rfl rfl rfl rfl rfl rfl rfl (Nat.le_of_ble_eq_true rfl) rfl ?_
    refine z_if_eq (tgt := 83) C dX3_current_53 rfl (fun hc => ?_) (fun hc => ?_)
    · have hf := ifp hc hf
      refine z_iconst (v := 0) C dX3_current_83 kc_0 ?_
      refine z_iadd C dX3_current_84 ?_
      obtain ⟨x19, e20, hf⟩ := nm_g hf
      refine z_top e20 ?_
      refine z_istore_n (ls' := [(3, _), (5, _), (0, _), (1, _), (2, _), (4, _)]) C dX3_current_85 (by decide) rfl ?_
      obtain ⟨x21, e22, hf⟩ := nm_g hf
      refine z_iinc (ls' := [(4, _), (3, _), (5, _), (0, _), (1, _), (2, _)]) 5 C dX3_current_86 rfl kc_1 e22 (by decide) rfl ?_
      refine z_goto (tgt := 5) C dX3_current_89 rfl ?_
      refine z_sub (ls' := [(0, .ref (ad 0)), (1, .int l1), (2, .int l2), (3, .int x19), (4, .int x21)]) [3, 4, 5, 1, 0] rfl ?_
      exact ih _ _ _ _ hf
    have hf := ifn hc hf
    refine z_aload_n 1 C dX3_current_56 rfl ?_
    refine z_iload_n 2 C dX3_current_57 rfl ?_
    refine z_aload_n 1 C dX3_current_58 rfl ?_
    refine gf_X3_7 0 C dX3_current_59 rfl rfl ?_
    refine z_iload 0 C dX3_current_62 rfl ?_
    refine z_iald 1 C dX3_current_64 h16 rfl ?_
    obtain ⟨v23, e24, hf⟩ := b1_e hf
    refine z_callV (st := [.int l3]) (ws2 := (MW (gk G) ad s sv tx cu ho mf)) [0, 1, 2, 3, 4, 5] C dX3_current_65 w_X3_48 (c_X3_isDead ad l1 (s k15) s sv tx cu ho mf e24) (by decide) rfl rfl rfl rfl rfl rfl rfl (Nat.le_of_ble_eq_true rfl) rfl ?_
    refine z_if_ne (tgt := 83) C dX3_current_68 rfl (fun hc => ?_) (fun hc => ?_)
    · have hf := ifn hc hf
      refine z_iconst (v := 0) C dX3_current_83 kc_0 ?_
      refine z_iadd C dX3_current_84 ?_
      obtain ⟨x25, e26, hf⟩ := nm_g hf
      refine z_top e26 ?_
      refine z_istore_n (ls' := [(3, _), (5, _), (0, _), (1, _), (2, _), (4, _)]) C dX3_current_85 (by decide) rfl ?_
      obtain ⟨x27, e28, hf⟩ := nm_g hf
      refine z_iinc (ls' := [(4, _), (3, _), (5, _), (0, _), (1, _), (2, _)]) 5 C dX3_current_86 rfl kc_1 e28 (by decide) rfl ?_
      refine z_goto (tgt := 5) C dX3_current_89 rfl ?_
      refine z_sub (ls' := [(0, .ref (ad 0)), (1, .int l1), (2, .int l2), (3, .int x25), (4, .int x27)]) [3, 4, 5, 1, 0] rfl ?_
      exact ih _ _ _ _ hf
    have hf := ifp hc hf
    refine z_aload_n 1 C dX3_current_71 rfl ?_
    refine gf_X3_7 0 C dX3_current_72 rfl rfl ?_
    refine z_iload 0 C dX3_current_75 rfl ?_
    refine z_iconst (v := 1) C dX3_current_77 kc_1 ?_
    refine z_iadd C dX3_current_78 ?_
    obtain ⟨k29, h30, hf⟩ := gd_e hf
    refine z_iald 1 C dX3_current_79 h30 rfl ?_
    refine z_goto (tgt := 84) C dX3_current_80 rfl ?_
    refine z_iadd C dX3_current_84 ?_
    obtain ⟨x31, e32, hf⟩ := nm_g hf
    refine z_top e32 ?_
    refine z_istore_n (ls' := [(3, _), (5, _), (0, _), (1, _), (2, _), (4, _)]) C dX3_current_85 (by decide) rfl ?_
    obtain ⟨x33, e34, hf⟩ := nm_g hf
    refine z_iinc (ls' := [(4, _), (3, _), (5, _), (0, _), (1, _), (2, _)]) 5 C dX3_current_86 rfl kc_1 e34 (by decide) rfl ?_
    refine z_goto (tgt := 5) C dX3_current_89 rfl ?_
    refine z_sub (ls' := [(0, .ref (ad 0)), (1, .int l1), (2, .int l2), (3, .int x31), (4, .int x33)]) [3, 4, 5, 1, 0] rfl ?_
    exact ih _ _ _ _ hf
set_option maxHeartbeats 400000 in
set_option maxRecDepth 100000 in
theorem c_X3_current {l : Launch} {D : va_G} {cs : ClassId × ClassId × ClassId} (ad : Nat → Nat) (a1 : Int32) (a2 : Int32) (s : zA) (sv : zA) (tx : zA) (cu : zA) (ho : zA) (mf : zA) {v : Int32}  (e : f_X3_current a1 a2 s mf = some v) : zM l D cs yX3_current cX3_current 6 (some .int) 2 [.ref (ad 0), .int a1, .int a2] (MW cs ad s sv tx cu ho mf) v (MW cs ad s sv tx cu ho mf) := by
  refine zM_of (show plainName RX3 = true by decide +kernel) (Nat.le_of_ble_eq_true rfl) ?_
  rintro G rfl rfl rfl C F
  have hf := e
  clear e
  unfold f_X3_current at hf
  show zV G 6 0 [(0, .ref (ad 0)), (1, .int a1), (2, .int a2)] [] (MW (gk G) ad s sv tx cu ho mf)
  refine z_iconst (v := 0) C dX3_current_0 kc_0 ?_
  refine z_istore_n (ls' := [(3, _), (0, _), (1, _), (2, _)]) C dX3_current_1 (by decide) rfl ?_
  refine z_iconst (v := 0) C dX3_current_2 kc_0 ?_
  refine z_istore (ls' := [(4, _), (3, _), (0, _), (1, _), (2, _)]) C dX3_current_3 (by decide) rfl ?_
  refine z_sub (ls' := [(0, .ref (ad 0)), (1, .int a1), (2, .int a2), (3, .int 0), (4, .int 0)]) [2, 3, 4, 1, 0] rfl ?_
  exact tb_X3_current_5 ad s sv tx cu ho mf C F _ _ _ _ _ hf
set_option maxHeartbeats 400000 in
set_option maxRecDepth 100000 in
theorem tb_X3_meltingHeat_56 {G : GT} (ad : Nat → Nat) (s : zA) (sv : zA) (tx : zA) (cu : zA) (ho : zA) (mf : zA) {v : Int32}  (C : zC G cX3_meltingHeat 6 RX3 (some .int) 1) (F : zF G (some (.int v)) (MW (gk G) ad s sv tx cu ho mf)) : ∀ (s0 : Int32) (s1 : Int32) (l3 : Int32) (l4 : Int32), B_X3_meltingHeat_56 s0 s1 l3 l4 s = some v → zV G 6 56 [(0, .ref (ad 0)), (3, .int l3), (4, .int l4)] [.int s0, .int s1] (MW (gk G) ad s sv tx cu ho mf) := by
  intro s0 s1 l3 l4 hf
  unfold B_X3_meltingHeat_56 at hf
  refine z_imul C dX3_meltingHeat_56 ?_
  refine z_bipush (v := 20) C dX3_meltingHeat_57 kb_20 ?_
  refine z_iload 2 C dX3_meltingHeat_59 rfl ?_
  refine z_imul C dX3_meltingHeat_61 ?_
  refine z_aload_n 0 C dX3_meltingHeat_62 rfl ?_
  refine gf_X3_7 0 C dX3_meltingHeat_63 rfl rfl ?_
  refine z_iload_n 1 C dX3_meltingHeat_66 rfl ?_
  refine z_iconst (v := 5) C dX3_meltingHeat_67 kc_5 ?_
  refine z_iadd C dX3_meltingHeat_68 ?_
  obtain ⟨k1, h2, hf⟩ := gd_e hf
  refine z_iald 1 C dX3_meltingHeat_69 h2 rfl ?_
  refine z_imul C dX3_meltingHeat_70 ?_
  refine z_isub C dX3_meltingHeat_71 ?_
  obtain ⟨x3, e4, hf⟩ := nm_g hf
  refine z_top e4 ?_
  refine z_istore (ls' := [(5, _), (0, _), (3, _), (4, _)]) C dX3_meltingHeat_72 (by decide) rfl ?_
  refine z_iload 0 C dX3_meltingHeat_74 rfl ?_
  refine z_iconst (v := 1) C dX3_meltingHeat_76 kc_1 ?_
  refine z_icmp_ge (tgt := 84) C dX3_meltingHeat_77 rfl (fun hc => ?_) (fun hc => ?_)
  · have hf := ifp hc hf
    refine z_iload 0 C dX3_meltingHeat_84 rfl ?_
    cases hf
    exact z_iret C dX3_meltingHeat_86 F
  have hf := ifn hc hf
  refine z_iconst (v := 1) C dX3_meltingHeat_80 kc_1 ?_
  refine z_goto (tgt := 86) C dX3_meltingHeat_81 rfl ?_
  cases hf
  exact z_iret C dX3_meltingHeat_86 F
set_option maxHeartbeats 400000 in
set_option maxRecDepth 100000 in
theorem c_X3_meltingHeat {l : Launch} {D : va_G} {cs : ClassId × ClassId × ClassId} (ad : Nat → Nat) (a1 : Int32) (a2 : Int32) (s : zA) (sv : zA) (tx : zA) (cu : zA) (ho : zA) (mf : zA) {v : Int32}  (e : f_X3_meltingHeat a1 a2 s = some v) : zM l D cs yX3_meltingHeat cX3_meltingHeat 6 (some .int) 1 [.ref (ad 0), .int a1, .int a2] (MW cs ad s sv tx cu ho mf) v (MW cs ad s sv tx cu ho mf) := by
  refine zM_of (show plainName RX3 = true by decide +kernel) (Nat.le_of_ble_eq_true rfl) ?_
  rintro G rfl rfl rfl C F
  have hf := e
  clear e
  unfold f_X3_meltingHeat at hf
  show zV G 6 0 [(0, .ref (ad 0)), (1, .int a1), (2, .int a2)] [] (MW (gk G) ad s sv tx cu ho mf)
  refine z_iload_n 1 C dX3_meltingHeat_0 rfl ?_
  refine z_iload_n 2 C dX3_meltingHeat_1 rfl ?_
  obtain ⟨v1, e2, hf⟩ := b1_e hf
  refine z_callS (st := []) (ws2 := (MW (gk G) ad s sv tx cu ho mf)) [] C dX3_meltingHeat_2 w_X3_37 (c_X3_boardAt a1 a2 e2) (by decide) rfl rfl rfl  rfl rfl (Nat.le_of_ble_eq_true rfl) rfl ?_
  refine z_istore_n (ls' := [(3, _), (0, _), (1, _), (2, _)]) C dX3_meltingHeat_5 (by decide) rfl ?_
  refine z_aload_n 1 C dX3_meltingHeat_6 rfl ?_
  refine gf_X3_7 0 C dX3_meltingHeat_7 rfl rfl ?_
  refine z_iload_n 0 C dX3_meltingHeat_10 rfl ?_
  refine z_iconst (v := 1) C dX3_meltingHeat_11 kc_1 ?_
  refine z_iadd C dX3_meltingHeat_12 ?_
  obtain ⟨k3, h4, hf⟩ := gd_e hf
  refine z_iald 1 C dX3_meltingHeat_13 h4 rfl ?_
  refine z_istore (ls' := [(4, _), (3, _), (0, _), (1, _), (2, _)]) C dX3_meltingHeat_14 (by decide) rfl ?_
  refine z_iload 0 C dX3_meltingHeat_16 rfl ?_
  refine z_iload 0 C dX3_meltingHeat_18 rfl ?_
  refine z_imul C dX3_meltingHeat_20 ?_
  refine z_aload_n 2 C dX3_meltingHeat_21 rfl ?_
  refine gf_X3_7 0 C dX3_meltingHeat_22 rfl rfl ?_
  refine z_iload_n 1 C dX3_meltingHeat_25 rfl ?_
  refine z_iconst (v := 2) C dX3_meltingHeat_26 kc_2 ?_
  refine z_iadd C dX3_meltingHeat_27 ?_
  obtain ⟨k5, h6, hf⟩ := gd_e hf
  refine z_iald 1 C dX3_meltingHeat_28 h6 rfl ?_
  refine z_if_ne (tgt := 37) C dX3_meltingHeat_29 rfl (fun hc => ?_) (fun hc => ?_)
  · have hf := ifn hc hf
    refine z_aload_n 2 C dX3_meltingHeat_37 rfl ?_
    refine gf_X3_7 0 C dX3_meltingHeat_38 rfl rfl ?_
    refine z_iload_n 1 C dX3_meltingHeat_41 rfl ?_
    refine z_iconst (v := 2) C dX3_meltingHeat_42 kc_2 ?_
    refine z_iadd C dX3_meltingHeat_43 ?_
    refine z_iald 1 C dX3_meltingHeat_44 h6 rfl ?_
    refine z_iconst (v := 1) C dX3_meltingHeat_45 kc_1 ?_
    refine z_icmp_ne (tgt := 54) C dX3_meltingHeat_46 rfl (fun hc => ?_) (fun hc => ?_)
    · have hf := ifn hc hf
      refine z_bipush (v := 20) C dX3_meltingHeat_54 kb_20 ?_
      refine z_sub (ls' := [(0, .ref (ad 0)), (3, .int v1), (4, .int (s k3))]) [2, 1, 0] rfl ?_
      exact tb_X3_meltingHeat_56 ad s sv tx cu ho mf C F _ _ _ _ hf
    have hf := ifp hc hf
    refine z_bipush (v := 40) C dX3_meltingHeat_49 kb_40 ?_
    refine z_goto (tgt := 56) C dX3_meltingHeat_51 rfl ?_
    refine z_sub (ls' := [(0, .ref (ad 0)), (3, .int v1), (4, .int (s k3))]) [2, 1, 0] rfl ?_
    exact tb_X3_meltingHeat_56 ad s sv tx cu ho mf C F _ _ _ _ hf
  have hf := ifp hc hf
  refine z_bipush (v := 8) C dX3_meltingHeat_32 kb_8 ?_
  refine z_goto (tgt := 56) C dX3_meltingHeat_34 rfl ?_
  refine z_sub (ls' := [(0, .ref (ad 0)), (3, .int v1), (4, .int (s k3))]) [2, 1, 0] rfl ?_
  exact tb_X3_meltingHeat_56 ad s sv tx cu ho mf C F _ _ _ _ hf
set_option maxHeartbeats 400000 in
set_option maxRecDepth 100000 in
theorem tb_X3_burns_55 {G : GT} (ad : Nat → Nat) (sv : zA) (tx : zA) (cu : zA) (ho : zA) (mf : zA) {s' : zA} (C : zC G cX3_burns 4 RX3 none 1) (F : zF G none (MW (gk G) ad s' sv tx cu ho mf)) : ∀ (s0 : Int32) (s1 : Int32) (s : zA), B_X3_burns_55 s0 s1 s = some s' → zV G 4 55 [] [.int s0, .int s1, .ref (ad 1)] (MW (gk G) ad s sv tx cu ho mf) := by
  intro s0 s1 s hf
  unfold B_X3_burns_55 at hf
  obtain ⟨k1, h2, hf⟩ := gd_e hf
  obtain ⟨s3, e4, hf⟩ := nm_g hf
  refine z_iast (ws' := (MW (gk G) ad s3 sv tx cu ho mf)) 1 C dX3_burns_55 h2 rfl e4 rfl ?_
  cases hf
  exact z_vret C dX3_burns_56 F
set_option maxHeartbeats 400000 in
set_option maxRecDepth 100000 in
theorem c_X3_burns {l : Launch} {D : va_G} {cs : ClassId × ClassId × ClassId} (ad : Nat → Nat) (a1 : Int32) (a2 : Int32) (s : zA) (sv : zA) (tx : zA) (cu : zA) (ho : zA) (mf : zA) {s' : zA} (e : f_X3_burns a1 a2 s = some s') : zMv l D cs yX3_burns cX3_burns 4 none 1 [.ref (ad 0), .int a1, .int a2] (MW cs ad s sv tx cu ho mf) (MW cs ad s' sv tx cu ho mf) := by
  refine zMv_of (show plainName RX3 = true by decide +kernel) (Nat.le_of_ble_eq_true rfl) ?_
  rintro G rfl rfl rfl C F
  have hf := e
  clear e
  unfold f_X3_burns at hf
  show zV G 4 0 [(0, .ref (ad 0)), (1, .int a1), (2, .int a2)] [] (MW (gk G) ad s sv tx cu ho mf)
  refine z_iload_n 1 C dX3_burns_0 rfl ?_
  refine z_iload_n 2 C dX3_burns_1 rfl ?_
  obtain ⟨v1, e2, hf⟩ := b1_e hf
  refine z_callS (st := []) (ws2 := (MW (gk G) ad s sv tx cu ho mf)) [] C dX3_burns_2 w_X3_37 (c_X3_boardAt a1 a2 e2) (by decide) rfl rfl rfl  rfl rfl (Nat.le_of_ble_eq_true rfl) rfl ?_
  refine z_istore_n (ls' := [(3, _), (0, _), (1, _), (2, _)]) C dX3_burns_5 (by decide) rfl ?_
  refine z_aload_n 1 C dX3_burns_6 rfl ?_
  refine gf_X3_7 0 C dX3_burns_7 rfl rfl ?_
  refine z_iload_n 0 C dX3_burns_10 rfl ?_
  refine z_iconst (v := 3) C dX3_burns_11 kc_3 ?_
  refine z_iadd C dX3_burns_12 ?_
  obtain ⟨k3, h4, hf⟩ := gd_e hf
  refine z_iald 1 C dX3_burns_13 h4 rfl ?_
  refine z_iconst (v := 1) C dX3_burns_14 kc_1 ?_
  refine z_icmp_ne (tgt := 56) C dX3_burns_15 rfl (fun hc => ?_) (fun hc => ?_)
  · have hf := ifn hc hf
    cases hf
    exact z_vret C dX3_burns_56 F
  have hf := ifp hc hf
  refine z_aload_n 1 C dX3_burns_18 rfl ?_
  refine gf_X3_7 0 C dX3_burns_19 rfl rfl ?_
  refine z_iload_n 0 C dX3_burns_22 rfl ?_
  refine z_bipush (v := 7) C dX3_burns_23 kb_7 ?_
  refine z_iadd C dX3_burns_25 ?_
  refine z_dup2 C dX3_burns_26 rfl rfl ?_
  obtain ⟨k5, h6, hf⟩ := gd_e hf
  refine z_iald 1 C dX3_burns_27 h6 rfl ?_
  refine z_iconst (v := 1) C dX3_burns_28 kc_1 ?_
  refine z_isub C dX3_burns_29 ?_
  obtain ⟨s7, e8, hf⟩ := nm_g hf
  refine z_iast (ws' := (MW (gk G) ad s7 sv tx cu ho mf)) 1 C dX3_burns_30 h6 rfl e8 rfl ?_
  refine z_aload_n 1 C dX3_burns_31 rfl ?_
  refine gf_X3_7 0 C dX3_burns_32 rfl rfl ?_
  refine z_iload_n 0 C dX3_burns_35 rfl ?_
  refine z_iconst (v := 3) C dX3_burns_36 kc_3 ?_
  refine z_iadd C dX3_burns_37 ?_
  refine z_aload_n 1 C dX3_burns_38 rfl ?_
  refine gf_X3_7 0 C dX3_burns_39 rfl rfl ?_
  refine z_iload_n 0 C dX3_burns_42 rfl ?_
  refine z_bipush (v := 7) C dX3_burns_43 kb_7 ?_
  refine z_iadd C dX3_burns_45 ?_
  refine z_iald 1 C dX3_burns_46 h6 rfl ?_
  refine z_if_ne (tgt := 54) C dX3_burns_47 rfl (fun hc => ?_) (fun hc => ?_)
  · have hf := ifn hc hf
    refine z_iconst (v := 1) C dX3_burns_54 kc_1 ?_
    refine z_sub (ls' := []) [] rfl ?_
    exact tb_X3_burns_55 ad sv tx cu ho mf C F _ _ _ hf
  have hf := ifp hc hf
  refine z_iconst (v := 2) C dX3_burns_50 kc_2 ?_
  refine z_goto (tgt := 55) C dX3_burns_51 rfl ?_
  refine z_sub (ls' := []) [] rfl ?_
  exact tb_X3_burns_55 ad sv tx cu ho mf C F _ _ _ hf
set_option maxHeartbeats 400000 in
set_option maxRecDepth 100000 in
theorem tb_X3_heats_111 {G : GT} (ad : Nat → Nat) (sv : zA) (tx : zA) (cu : zA) (ho : zA) (mf : zA) {s' : zA} (C : zC G cX3_heats 7 RX3 none 1) (F : zF G none (MW (gk G) ad s' sv tx cu ho mf)) : ∀ (s0 : Int32) (s1 : Int32) (l1 : Int32) (l3 : Int32) (l4 : Int32) (l5 : Int32) (s : zA), B_X3_heats_111 s0 s1 l1 l3 l4 l5 s cu = some s' → zV G 7 111 [(0, .ref (ad 0)), (1, .int l1), (3, .int l3), (4, .int l4), (5, .int l5)] [.int s0, .int s1, .ref (ad 1)] (MW (gk G) ad s sv tx cu ho mf) := by
  intro s0 s1 l1 l3 l4 l5 s hf
  unfold B_X3_heats_111 at hf
  obtain ⟨k1, h2, hf⟩ := gd_e hf
  obtain ⟨s3, e4, hf⟩ := nm_g hf
  refine z_iast (ws' := (MW (gk G) ad s3 sv tx cu ho mf)) 1 C dX3_heats_111 h2 rfl e4 rfl ?_
  refine z_aload_n 0 C dX3_heats_112 rfl ?_
  refine gf_X3_7 0 C dX3_heats_113 rfl rfl ?_
  refine z_iload_n 2 C dX3_heats_116 rfl ?_
  refine z_iconst (v := 2) C dX3_heats_117 kc_2 ?_
  refine z_iadd C dX3_heats_118 ?_
  obtain ⟨k5, h6, hf⟩ := gd_e hf
  refine z_iald 1 C dX3_heats_119 h6 rfl ?_
  refine z_iconst (v := 2) C dX3_heats_120 kc_2 ?_
  refine z_icmp_ne (tgt := 188) C dX3_heats_121 rfl (fun hc => ?_) (fun hc => ?_)
  · have hf := ifn hc hf
    cases hf
    exact z_vret C dX3_heats_188 F
  have hf := ifp hc hf
  refine z_iconst (v := 2) C dX3_heats_124 kc_2 ?_
  refine z_iload 3 C dX3_heats_125 rfl ?_
  refine z_imul C dX3_heats_127 ?_
  refine z_iload 4 C dX3_heats_128 rfl ?_
  refine z_icmp_le (tgt := 188) C dX3_heats_130 rfl (fun hc => ?_) (fun hc => ?_)
  · have hf := ifp hc hf
    cases hf
    exact z_vret C dX3_heats_188 F
  have hf := ifn hc hf
  refine z_aload_n 0 C dX3_heats_133 rfl ?_
  refine gf_X3_7 0 C dX3_heats_134 rfl rfl ?_
  refine z_iload_n 2 C dX3_heats_137 rfl ?_
  refine z_bipush (v := 6) C dX3_heats_138 kb_6 ?_
  refine z_iadd C dX3_heats_140 ?_
  refine z_dup2 C dX3_heats_141 rfl rfl ?_
  obtain ⟨k7, h8, hf⟩ := gd_e hf
  refine z_iald 1 C dX3_heats_142 h8 rfl ?_
  refine z_iconst (v := 1) C dX3_heats_143 kc_1 ?_
  refine z_iadd C dX3_heats_144 ?_
  obtain ⟨s9, e10, hf⟩ := nm_g hf
  refine z_iast (ws' := (MW (gk G) ad s9 sv tx cu ho mf)) 1 C dX3_heats_145 h8 rfl e10 rfl ?_
  refine z_aload_n 0 C dX3_heats_146 rfl ?_
  refine gf_X3_7 0 C dX3_heats_147 rfl rfl ?_
  refine z_iload_n 2 C dX3_heats_150 rfl ?_
  refine z_bipush (v := 6) C dX3_heats_151 kb_6 ?_
  refine z_iadd C dX3_heats_153 ?_
  refine z_iald 1 C dX3_heats_154 h8 rfl ?_
  refine z_aload_n 0 C dX3_heats_155 rfl ?_
  refine gf_X3_7 0 C dX3_heats_156 rfl rfl ?_
  refine z_iload_n 1 C dX3_heats_159 rfl ?_
  refine z_iconst (v := 2) C dX3_heats_160 kc_2 ?_
  refine z_iadd C dX3_heats_161 ?_
  obtain ⟨k11, h12, hf⟩ := gd_e hf
  refine z_iald 1 C dX3_heats_162 h12 rfl ?_
  refine z_icmp_lt (tgt := 188) C dX3_heats_163 rfl (fun hc => ?_) (fun hc => ?_)
  · have hf := ifp hc hf
    cases hf
    exact z_vret C dX3_heats_188 F
  have hf := ifn hc hf
  refine z_aload_n 0 C dX3_heats_166 rfl ?_
  refine gf_X3_7 0 C dX3_heats_167 rfl rfl ?_
  refine z_iload_n 2 C dX3_heats_170 rfl ?_
  refine z_iconst (v := 5) C dX3_heats_171 kc_5 ?_
  refine z_iadd C dX3_heats_172 ?_
  refine z_dup2 C dX3_heats_173 rfl rfl ?_
  obtain ⟨k13, h14, hf⟩ := gd_e hf
  refine z_iald 1 C dX3_heats_174 h14 rfl ?_
  refine z_iconst (v := 1) C dX3_heats_175 kc_1 ?_
  refine z_iadd C dX3_heats_176 ?_
  obtain ⟨s15, e16, hf⟩ := nm_g hf
  refine z_iast (ws' := (MW (gk G) ad s15 sv tx cu ho mf)) 1 C dX3_heats_177 h14 rfl e16 rfl ?_
  refine z_aload_n 0 C dX3_heats_178 rfl ?_
  refine gf_X3_7 0 C dX3_heats_179 rfl rfl ?_
  refine z_iload_n 2 C dX3_heats_182 rfl ?_
  refine z_bipush (v := 6) C dX3_heats_183 kb_6 ?_
  refine z_iadd C dX3_heats_185 ?_
  refine z_iconst (v := 0) C dX3_heats_186 kc_0 ?_
  obtain ⟨s17, e18, hf⟩ := nm_g hf
  refine z_iast (ws' := (MW (gk G) ad s17 sv tx cu ho mf)) 1 C dX3_heats_187 h8 rfl e18 rfl ?_
  cases hf
  exact z_vret C dX3_heats_188 F
set_option maxHeartbeats 400000 in
set_option maxRecDepth 100000 in
theorem tb_X3_heats_78 {G : GT} (ad : Nat → Nat) (sv : zA) (tx : zA) (cu : zA) (ho : zA) (mf : zA) {s' : zA} (C : zC G cX3_heats 7 RX3 none 1) (F : zF G none (MW (gk G) ad s' sv tx cu ho mf)) : ∀ (s0 : Int32) (s1 : Int32) (l1 : Int32) (l3 : Int32) (l4 : Int32) (l5 : Int32) (s : zA), B_X3_heats_78 s0 s1 l1 l3 l4 l5 s cu = some s' → zV G 7 78 [(0, .ref (ad 0)), (1, .int l1), (3, .int l3), (4, .int l4), (5, .int l5)] [.int s0, .int s1] (MW (gk G) ad s sv tx cu ho mf) := by
  intro s0 s1 l1 l3 l4 l5 s hf
  unfold B_X3_heats_78 at hf
  refine z_iadd C dX3_heats_78 ?_
  obtain ⟨x1, e2, hf⟩ := nm_g hf
  refine z_top e2 ?_
  refine z_istore (ls' := [(6, _), (0, _), (1, _), (3, _), (4, _), (5, _)]) C dX3_heats_79 (by decide) rfl ?_
  refine z_aload_n 1 C dX3_heats_81 rfl ?_
  refine gf_X3_7 0 C dX3_heats_82 rfl rfl ?_
  refine z_iload_n 3 C dX3_heats_85 rfl ?_
  refine z_iconst (v := 4) C dX3_heats_86 kc_4 ?_
  refine z_iadd C dX3_heats_87 ?_
  refine z_iload 0 C dX3_heats_88 rfl ?_
  refine z_ldc C dX3_heats_90 tw_344 ?_
  refine z_icmp_le (tgt := 100) C dX3_heats_92 rfl (fun hc => ?_) (fun hc => ?_)
  · have hf := ifp hc hf
    refine z_iload 0 C dX3_heats_100 rfl ?_
    refine z_if_ge (tgt := 109) C dX3_heats_102 rfl (fun hc => ?_) (fun hc => ?_)
    · have hf := ifp hc hf
      refine z_iload 0 C dX3_heats_109 rfl ?_
      refine z_sub (ls' := [(0, .ref (ad 0)), (1, .int l1), (3, .int l3), (4, .int l4), (5, .int l5)]) [1, 2, 3, 4, 5] rfl ?_
      exact tb_X3_heats_111 ad sv tx cu ho mf C F _ _ _ _ _ _ _ hf
    have hf := ifn hc hf
    refine z_iconst (v := 0) C dX3_heats_105 kc_0 ?_
    refine z_goto (tgt := 111) C dX3_heats_106 rfl ?_
    refine z_sub (ls' := [(0, .ref (ad 0)), (1, .int l1), (3, .int l3), (4, .int l4), (5, .int l5)]) [1, 2, 3, 4, 5] rfl ?_
    exact tb_X3_heats_111 ad sv tx cu ho mf C F _ _ _ _ _ _ _ hf
  have hf := ifn hc hf
  refine z_ldc C dX3_heats_95 tw_344 ?_
  refine z_goto (tgt := 111) C dX3_heats_97 rfl ?_
  refine z_sub (ls' := [(0, .ref (ad 0)), (1, .int l1), (3, .int l3), (4, .int l4), (5, .int l5)]) [1, 2, 3, 4, 5] rfl ?_
  exact tb_X3_heats_111 ad sv tx cu ho mf C F _ _ _ _ _ _ _ hf
set_option maxHeartbeats 400000 in
set_option maxRecDepth 100000 in
theorem c_X3_heats {l : Launch} {D : va_G} {cs : ClassId × ClassId × ClassId} (ad : Nat → Nat) (a1 : Int32) (a2 : Int32) (s : zA) (sv : zA) (tx : zA) (cu : zA) (ho : zA) (mf : zA) {s' : zA} (e : f_X3_heats a1 a2 s cu = some s') : zMv l D cs yX3_heats cX3_heats 7 none 1 [.ref (ad 0), .int a1, .int a2] (MW cs ad s sv tx cu ho mf) (MW cs ad s' sv tx cu ho mf) := by
  refine zMv_of (show plainName RX3 = true by decide +kernel) (Nat.le_of_ble_eq_true rfl) ?_
  rintro G rfl rfl rfl C F
  have hf := e
  clear e
  unfold f_X3_heats at hf
  show zV G 7 0 [(0, .ref (ad 0)), (1, .int a1), (2, .int a2)] [] (MW (gk G) ad s sv tx cu ho mf)
  refine z_iload_n 1 C dX3_heats_0 rfl ?_
  refine z_iload_n 2 C dX3_heats_1 rfl ?_
  obtain ⟨v1, e2, hf⟩ := b1_e hf
  refine z_callS (st := []) (ws2 := (MW (gk G) ad s sv tx cu ho mf)) [] C dX3_heats_2 w_X3_37 (c_X3_boardAt a1 a2 e2) (by decide) rfl rfl rfl  rfl rfl (Nat.le_of_ble_eq_true rfl) rfl ?_
  refine z_istore_n (ls' := [(3, _), (0, _), (1, _), (2, _)]) C dX3_heats_5 (by decide) rfl ?_
  refine z_aload_n 1 C dX3_heats_6 rfl ?_
  refine gf_X3_24 0 C dX3_heats_7 rfl rfl ?_
  refine z_iload_n 3 C dX3_heats_10 rfl ?_
  obtain ⟨k3, h4, hf⟩ := gd_e hf
  refine z_iald 4 C dX3_heats_11 h4 rfl ?_
  refine z_istore (ls' := [(4, _), (3, _), (0, _), (1, _), (2, _)]) C dX3_heats_12 (by decide) rfl ?_
  refine z_aload_n 2 C dX3_heats_14 rfl ?_
  refine gf_X3_7 0 C dX3_heats_15 rfl rfl ?_
  refine z_iload_n 1 C dX3_heats_18 rfl ?_
  refine z_iconst (v := 1) C dX3_heats_19 kc_1 ?_
  refine z_iadd C dX3_heats_20 ?_
  obtain ⟨k5, h6, hf⟩ := gd_e hf
  refine z_iald 1 C dX3_heats_21 h6 rfl ?_
  refine z_istore (ls' := [(5, _), (4, _), (3, _), (0, _), (1, _), (2, _)]) C dX3_heats_22 (by decide) rfl ?_
  refine z_aload_n 3 C dX3_heats_24 rfl ?_
  refine gf_X3_7 0 C dX3_heats_25 rfl rfl ?_
  refine z_iload_n 2 C dX3_heats_28 rfl ?_
  refine z_iconst (v := 4) C dX3_heats_29 kc_4 ?_
  refine z_iadd C dX3_heats_30 ?_
  obtain ⟨k7, h8, hf⟩ := gd_e hf
  refine z_iald 1 C dX3_heats_31 h8 rfl ?_
  refine z_istore (ls' := [(6, _), (5, _), (4, _), (3, _), (0, _), (1, _), (2, _)]) C dX3_heats_32 (by decide) rfl ?_
  refine z_iload 0 C dX3_heats_34 rfl ?_
  refine z_iload 2 C dX3_heats_36 rfl ?_
  refine z_iload 1 C dX3_heats_38 rfl ?_
  refine z_icmp_le (tgt := 57) C dX3_heats_40 rfl (fun hc => ?_) (fun hc => ?_)
  · have hf := ifp hc hf
    refine z_iload 1 C dX3_heats_57 rfl ?_
    refine z_iload 1 C dX3_heats_59 rfl ?_
    refine z_imul C dX3_heats_61 ?_
    refine z_iload 2 C dX3_heats_62 rfl ?_
    refine z_iload 2 C dX3_heats_64 rfl ?_
    refine z_imul C dX3_heats_66 ?_
    refine z_isub C dX3_heats_67 ?_
    refine z_aload_n 4 C dX3_heats_68 rfl ?_
    refine gf_X3_7 0 C dX3_heats_69 rfl rfl ?_
    refine z_iload_n 5 C dX3_heats_72 rfl ?_
    refine z_iconst (v := 1) C dX3_heats_73 kc_1 ?_
    refine z_iadd C dX3_heats_74 ?_
    obtain ⟨k9, h10, hf⟩ := gd_e hf
    refine z_iald 1 C dX3_heats_75 h10 rfl ?_
    obtain ⟨h11, hf⟩ := zdv_e hf
    refine z_idiv C dX3_heats_76 h11 ?_
    refine z_ineg C dX3_heats_77 ?_
    refine z_sub (ls' := [(0, .ref (ad 0)), (1, .int a1), (3, .int v1), (4, .int (cu k3)), (5, .int (s k5))]) [4, 5, 3, 2, 1] rfl ?_
    exact tb_X3_heats_78 ad sv tx cu ho mf C F _ _ _ _ _ _ _ hf
  have hf := ifn hc hf
  refine z_iload 2 C dX3_heats_43 rfl ?_
  refine z_iload 2 C dX3_heats_45 rfl ?_
  refine z_imul C dX3_heats_47 ?_
  refine z_iload 1 C dX3_heats_48 rfl ?_
  refine z_iload 1 C dX3_heats_50 rfl ?_
  refine z_imul C dX3_heats_52 ?_
  refine z_isub C dX3_heats_53 ?_
  refine z_goto (tgt := 78) C dX3_heats_54 rfl ?_
  refine z_sub (ls' := [(0, .ref (ad 0)), (1, .int a1), (3, .int v1), (4, .int (cu k3)), (5, .int (s k5))]) [4, 5, 3, 2, 1] rfl ?_
  exact tb_X3_heats_78 ad sv tx cu ho mf C F _ _ _ _ _ _ _ hf
set_option maxHeartbeats 400000 in
set_option maxRecDepth 100000 in
theorem tb_X3_isNearest_5 {G : GT} (ad : Nat → Nat) (s : zA) (sv : zA) (tx : zA) (cu : zA) (ho : zA) (mf : zA) {v : Int32}  (C : zC G cX3_isNearest 5 RX3 (some .boolean) 2) (F : zF G (some (.int v)) (MW (gk G) ad s sv tx cu ho mf)) : ∀ (n : Nat) (l1 : Int32) (l2 : Int32) (l3 : Int32) (l4 : Int32), B_X3_isNearest_5 n l1 l2 l3 l4 s ho = some v → zV G 5 5 [(0, .ref (ad 0)), (1, .int l1), (2, .int l2), (3, .int l3), (4, .int l4)] [] (MW (gk G) ad s sv tx cu ho mf) := by
  intro n
  induction n with
  | zero => intro _ _ _ _ hf; rw [B_X3_isNearest_5] at hf; cases hf
  | succ n ih =>
    intro l1 l2 l3 l4 hf
    rw [B_X3_isNearest_5] at hf
    refine z_iload 4 C dX3_isNearest_5 rfl ?_
    refine z_aload_n 0 C dX3_isNearest_7 rfl ?_
    refine gf_X3_7 0 C dX3_isNearest_8 rfl rfl ?_
    refine z_iload_n 1 C dX3_isNearest_11 rfl ?_
    refine z_iconst (v := 4) C dX3_isNearest_12 kc_4 ?_
    refine z_iadd C dX3_isNearest_13 ?_
    obtain ⟨k1, h2, hf⟩ := gd_e hf
    refine z_iald 1 C dX3_isNearest_14 h2 rfl ?_
    refine z_icmp_ge (tgt := 61) C dX3_isNearest_15 rfl (fun hc => ?_) (fun hc => ?_)
    · have hf := ifp hc hf
      refine z_iload_n 3 C dX3_isNearest_61 rfl ?_
      obtain ⟨hn, hf⟩ := zbo_e hf
      cases hf
      exact z_zret C dX3_isNearest_62 hn F
    have hf := ifn hc hf
    refine z_iload_n 3 C dX3_isNearest_18 rfl ?_
    refine z_if_eq (tgt := 53) C dX3_isNearest_19 rfl (fun hc => ?_) (fun hc => ?_)
    · have hf := ifp hc hf
      refine z_iconst (v := 0) C dX3_isNearest_53 kc_0 ?_
      refine z_istore_n (ls' := [(3, _), (0, _), (1, _), (2, _), (4, _)]) C dX3_isNearest_54 (by decide) rfl ?_
      obtain ⟨x3, e4, hf⟩ := nm_g hf
      refine z_iinc (ls' := [(4, _), (3, _), (0, _), (1, _), (2, _)]) 4 C dX3_isNearest_55 rfl kc_1 e4 (by decide) rfl ?_
      refine z_goto (tgt := 5) C dX3_isNearest_58 rfl ?_
      refine z_sub (ls' := [(0, .ref (ad 0)), (1, .int l1), (2, .int l2), (3, .int 0), (4, .int x3)]) [2, 3, 4, 1, 0] rfl ?_
      exact ih _ _ _ _ hf
    have hf := ifn hc hf
    refine z_iload 4 C dX3_isNearest_22 rfl ?_
    refine z_iload_n 2 C dX3_isNearest_24 rfl ?_
    refine z_icmp_eq (tgt := 49) C dX3_isNearest_25 rfl (fun hc => ?_) (fun hc => ?_)
    · have hf := ifp hc hf
      refine z_iconst (v := 1) C dX3_isNearest_49 kc_1 ?_
      refine z_goto (tgt := 54) C dX3_isNearest_50 rfl ?_
      refine z_istore_n (ls' := [(3, _), (0, _), (1, _), (2, _), (4, _)]) C dX3_isNearest_54 (by decide) rfl ?_
      obtain ⟨x5, e6, hf⟩ := nm_g hf
      refine z_iinc (ls' := [(4, _), (3, _), (0, _), (1, _), (2, _)]) 4 C dX3_isNearest_55 rfl kc_1 e6 (by decide) rfl ?_
      refine z_goto (tgt := 5) C dX3_isNearest_58 rfl ?_
      refine z_sub (ls' := [(0, .ref (ad 0)), (1, .int l1), (2, .int l2), (3, .int 1), (4, .int x5)]) [2, 3, 4, 1, 0] rfl ?_
      exact ih _ _ _ _ hf
    have hf := ifn hc hf
    refine z_aload_n 0 C dX3_isNearest_28 rfl ?_
    refine gf_X3_27 0 C dX3_isNearest_29 rfl rfl ?_
    refine z_iload 4 C dX3_isNearest_32 rfl ?_
    obtain ⟨k7, h8, hf⟩ := gd_e hf
    refine z_zald 5 C dX3_isNearest_34 h8 rfl ?_
    refine z_if_eq (tgt := 49) C dX3_isNearest_35 rfl (fun hc => ?_) (fun hc => ?_)
    · have hf := ifp hc hf
      refine z_iconst (v := 1) C dX3_isNearest_49 kc_1 ?_
      refine z_goto (tgt := 54) C dX3_isNearest_50 rfl ?_
      refine z_istore_n (ls' := [(3, _), (0, _), (1, _), (2, _), (4, _)]) C dX3_isNearest_54 (by decide) rfl ?_
      obtain ⟨x9, e10, hf⟩ := nm_g hf
      refine z_iinc (ls' := [(4, _), (3, _), (0, _), (1, _), (2, _)]) 4 C dX3_isNearest_55 rfl kc_1 e10 (by decide) rfl ?_
      refine z_goto (tgt := 5) C dX3_isNearest_58 rfl ?_
      refine z_sub (ls' := [(0, .ref (ad 0)), (1, .int l1), (2, .int l2), (3, .int 1), (4, .int x9)]) [2, 3, 4, 1, 0] rfl ?_
      exact ih _ _ _ _ hf
    have hf := ifn hc hf
    refine z_aload_n 0 C dX3_isNearest_38 rfl ?_
    refine z_iload_n 1 C dX3_isNearest_39 rfl ?_
    refine z_iload 4 C dX3_isNearest_40 rfl ?_
    refine z_iload_n 2 C dX3_isNearest_42 rfl ?_
    obtain ⟨v11, e12, hf⟩ := b1_e hf
    refine z_callV (st := []) (ws2 := (MW (gk G) ad s sv tx cu ho mf)) [0, 1, 2, 3, 4, 5] C dX3_isNearest_43 w_X3_44 (c_X3_isFed ad l1 l4 l2 s sv tx cu ho mf e12) (by decide) rfl rfl rfl rfl rfl rfl rfl (Nat.le_of_ble_eq_true rfl) rfl ?_
    refine z_if_ne (tgt := 53) C dX3_isNearest_46 rfl (fun hc => ?_) (fun hc => ?_)
    · have hf := ifn hc hf
      refine z_iconst (v := 0) C dX3_isNearest_53 kc_0 ?_
      refine z_istore_n (ls' := [(3, _), (0, _), (1, _), (2, _), (4, _)]) C dX3_isNearest_54 (by decide) rfl ?_
      obtain ⟨x13, e14, hf⟩ := nm_g hf
      refine z_iinc (ls' := [(4, _), (3, _), (0, _), (1, _), (2, _)]) 4 C dX3_isNearest_55 rfl kc_1 e14 (by decide) rfl ?_
      refine z_goto (tgt := 5) C dX3_isNearest_58 rfl ?_
      refine z_sub (ls' := [(0, .ref (ad 0)), (1, .int l1), (2, .int l2), (3, .int 0), (4, .int x13)]) [2, 3, 4, 1, 0] rfl ?_
      exact ih _ _ _ _ hf
    have hf := ifp hc hf
    refine z_iconst (v := 1) C dX3_isNearest_49 kc_1 ?_
    refine z_goto (tgt := 54) C dX3_isNearest_50 rfl ?_
    refine z_istore_n (ls' := [(3, _), (0, _), (1, _), (2, _), (4, _)]) C dX3_isNearest_54 (by decide) rfl ?_
    obtain ⟨x15, e16, hf⟩ := nm_g hf
    refine z_iinc (ls' := [(4, _), (3, _), (0, _), (1, _), (2, _)]) 4 C dX3_isNearest_55 rfl kc_1 e16 (by decide) rfl ?_
    refine z_goto (tgt := 5) C dX3_isNearest_58 rfl ?_
    refine z_sub (ls' := [(0, .ref (ad 0)), (1, .int l1), (2, .int l2), (3, .int 1), (4, .int x15)]) [2, 3, 4, 1, 0] rfl ?_
    exact ih _ _ _ _ hf
set_option maxHeartbeats 400000 in
set_option maxRecDepth 100000 in
theorem c_X3_isNearest {l : Launch} {D : va_G} {cs : ClassId × ClassId × ClassId} (ad : Nat → Nat) (a1 : Int32) (a2 : Int32) (s : zA) (sv : zA) (tx : zA) (cu : zA) (ho : zA) (mf : zA) {v : Int32}  (e : f_X3_isNearest a1 a2 s ho = some v) : zM l D cs yX3_isNearest cX3_isNearest 5 (some .boolean) 2 [.ref (ad 0), .int a1, .int a2] (MW cs ad s sv tx cu ho mf) v (MW cs ad s sv tx cu ho mf) := by
  refine zM_of (show plainName RX3 = true by decide +kernel) (Nat.le_of_ble_eq_true rfl) ?_
  rintro G rfl rfl rfl C F
  have hf := e
  clear e
  unfold f_X3_isNearest at hf
  show zV G 5 0 [(0, .ref (ad 0)), (1, .int a1), (2, .int a2)] [] (MW (gk G) ad s sv tx cu ho mf)
  refine z_iconst (v := 1) C dX3_isNearest_0 kc_1 ?_
  refine z_istore_n (ls' := [(3, _), (0, _), (1, _), (2, _)]) C dX3_isNearest_1 (by decide) rfl ?_
  refine z_iconst (v := 0) C dX3_isNearest_2 kc_0 ?_
  refine z_istore (ls' := [(4, _), (3, _), (0, _), (1, _), (2, _)]) C dX3_isNearest_3 (by decide) rfl ?_
  refine z_sub (ls' := [(0, .ref (ad 0)), (1, .int a1), (2, .int a2), (3, .int 1), (4, .int 0)]) [2, 3, 4, 1, 0] rfl ?_
  exact tb_X3_isNearest_5 ad s sv tx cu ho mf C F _ _ _ _ _ hf
set_option maxHeartbeats 400000 in
set_option maxRecDepth 100000 in
theorem tb_X3_blows_153 {G : GT} (ad : Nat → Nat) (sv : zA) (tx : zA) (cu : zA) (ho : zA) (mf : zA) {s' : zA} (C : zC G cX3_blows 5 RX3 none 1) (F : zF G none (MW (gk G) ad s' sv tx cu ho mf)) : ∀ (s0 : Int32) (s1 : Int32) (s2 : Int32) (s : zA), B_X3_blows_153 s0 s1 s2 s = some s' → zV G 5 153 [] [.int s0, .int s1, .int s2, .ref (ad 1)] (MW (gk G) ad s sv tx cu ho mf) := by
  intro s0 s1 s2 s hf
  unfold B_X3_blows_153 at hf
  obtain ⟨v1, e2, hf⟩ := b1_e hf
  refine z_callS (st := [.int s1, .int s2, .ref (ad 1)]) (ws2 := (MW (gk G) ad s sv tx cu ho mf)) [] C dX3_blows_153 w_X3_56 (c_X3_flag s0 e2) (by decide) rfl rfl rfl  rfl rfl (Nat.le_of_ble_eq_true rfl) rfl ?_
  refine z_iadd C dX3_blows_156 ?_
  obtain ⟨k3, h4, hf⟩ := gd_e hf
  obtain ⟨s5, e6, hf⟩ := nm_g hf
  refine z_iast (ws' := (MW (gk G) ad s5 sv tx cu ho mf)) 1 C dX3_blows_157 h4 rfl e6 rfl ?_
  cases hf
  exact z_vret C dX3_blows_158 F
set_option maxHeartbeats 400000 in
set_option maxRecDepth 100000 in
theorem tb_X3_blows_77 {G : GT} (ad : Nat → Nat) (sv : zA) (tx : zA) (cu : zA) (ho : zA) (mf : zA) {s' : zA} (C : zC G cX3_blows 5 RX3 none 1) (F : zF G none (MW (gk G) ad s' sv tx cu ho mf)) : ∀ (n : Nat) (l1 : Int32) (l2 : Int32) (l4 : Int32) (s : zA), B_X3_blows_77 n l1 l2 l4 s = some s' → zV G 5 77 [(0, .ref (ad 0)), (1, .int l1), (2, .int l2), (4, .int l4)] [] (MW (gk G) ad s sv tx cu ho mf) := by
  intro n
  induction n with
  | zero => intro _ _ _ _ hf; rw [B_X3_blows_77] at hf; cases hf
  | succ n ih =>
    intro l1 l2 l4 s hf
    rw [B_X3_blows_77] at hf
    refine z_iload 3 C dX3_blows_77 rfl ?_
    refine z_if_le (tgt := 114) C dX3_blows_79 rfl (fun hc => ?_) (fun hc => ?_)
    · have hf := ifp hc hf
      refine z_aload_n 0 C dX3_blows_114 rfl ?_
      refine gf_X3_7 0 C dX3_blows_115 rfl rfl ?_
      refine z_iload_n 1 C dX3_blows_118 rfl ?_
      refine z_bipush (v := 8) C dX3_blows_119 kb_8 ?_
      refine z_iadd C dX3_blows_121 ?_
      refine z_iload_n 2 C dX3_blows_122 rfl ?_
      obtain ⟨k1, h2, hf⟩ := gd_e hf
      obtain ⟨s3, e4, hf⟩ := nm_g hf
      refine z_iast (ws' := (MW (gk G) ad s3 sv tx cu ho mf)) 1 C dX3_blows_123 h2 rfl e4 rfl ?_
      refine z_aload_n 0 C dX3_blows_124 rfl ?_
      refine gf_X3_7 0 C dX3_blows_125 rfl rfl ?_
      refine z_iload_n 1 C dX3_blows_128 rfl ?_
      refine z_bipush (v := 7) C dX3_blows_129 kb_7 ?_
      refine z_iadd C dX3_blows_131 ?_
      refine z_dup2 C dX3_blows_132 rfl rfl ?_
      obtain ⟨k5, h6, hf⟩ := gd_e hf
      refine z_iald 1 C dX3_blows_133 h6 rfl ?_
      refine z_aload_n 0 C dX3_blows_134 rfl ?_
      refine gf_X3_7 0 C dX3_blows_135 rfl rfl ?_
      refine z_iload_n 1 C dX3_blows_138 rfl ?_
      refine z_bipush (v := 7) C dX3_blows_139 kb_7 ?_
      refine z_iadd C dX3_blows_141 ?_
      refine z_iald 1 C dX3_blows_142 h6 rfl ?_
      refine z_bipush (v := 8) C dX3_blows_143 kb_8 ?_
      refine z_icmp_ge (tgt := 152) C dX3_blows_145 rfl (fun hc => ?_) (fun hc => ?_)
      · have hf := ifp hc hf
        refine z_iconst (v := 0) C dX3_blows_152 kc_0 ?_
        refine z_sub (ls' := []) [] rfl ?_
        exact tb_X3_blows_153 ad sv tx cu ho mf C F _ _ _ _ hf
      have hf := ifn hc hf
      refine z_iconst (v := 1) C dX3_blows_148 kc_1 ?_
      refine z_goto (tgt := 153) C dX3_blows_149 rfl ?_
      refine z_sub (ls' := []) [] rfl ?_
      exact tb_X3_blows_153 ad sv tx cu ho mf C F _ _ _ _ hf
    have hf := ifn hc hf
    refine z_aload_n 0 C dX3_blows_82 rfl ?_
    refine gf_X3_7 0 C dX3_blows_83 rfl rfl ?_
    refine z_iload_n 1 C dX3_blows_86 rfl ?_
    refine z_bipush (v := 8) C dX3_blows_87 kb_8 ?_
    refine z_iadd C dX3_blows_89 ?_
    refine z_iload 3 C dX3_blows_90 rfl ?_
    refine z_iadd C dX3_blows_92 ?_
    refine z_aload_n 0 C dX3_blows_93 rfl ?_
    refine gf_X3_7 0 C dX3_blows_94 rfl rfl ?_
    refine z_iload_n 1 C dX3_blows_97 rfl ?_
    refine z_bipush (v := 8) C dX3_blows_98 kb_8 ?_
    refine z_iadd C dX3_blows_100 ?_
    refine z_iload 3 C dX3_blows_101 rfl ?_
    refine z_iadd C dX3_blows_103 ?_
    refine z_iconst (v := 1) C dX3_blows_104 kc_1 ?_
    refine z_isub C dX3_blows_105 ?_
    obtain ⟨k7, h8, hf⟩ := gd_e hf
    refine z_iald 1 C dX3_blows_106 h8 rfl ?_
    obtain ⟨k9, h10, hf⟩ := gd_e hf
    obtain ⟨s11, e12, hf⟩ := nm_g hf
    refine z_iast (ws' := (MW (gk G) ad s11 sv tx cu ho mf)) 1 C dX3_blows_107 h10 rfl e12 rfl ?_
    obtain ⟨x13, e14, hf⟩ := nm_g hf
    refine z_iinc (ls' := [(4, _), (0, _), (1, _), (2, _)]) 3 C dX3_blows_108 rfl kc_m1 e14 (by decide) rfl ?_
    refine z_goto (tgt := 77) C dX3_blows_111 rfl ?_
    refine z_sub (ls' := [(0, .ref (ad 0)), (1, .int l1), (2, .int l2), (4, .int x13)]) [1, 2, 3, 0] rfl ?_
    exact ih _ _ _ _ hf
set_option maxHeartbeats 400000 in
set_option maxRecDepth 100000 in
theorem tb_X3_blows_29 {G : GT} (ad : Nat → Nat) (sv : zA) (tx : zA) (cu : zA) (ho : zA) (mf : zA) {s' : zA} (C : zC G cX3_blows 5 RX3 none 1) (F : zF G none (MW (gk G) ad s' sv tx cu ho mf)) : ∀ (s0 : Int32) (s1 : Int32) (l1 : Int32) (l2 : Int32) (l3 : Int32) (s : zA), B_X3_blows_29 s0 s1 l1 l2 l3 s = some s' → zV G 5 29 [(0, .ref (ad 0)), (1, .int l1), (2, .int l2), (3, .int l3)] [.int s0, .int s1, .ref (ad 1)] (MW (gk G) ad s sv tx cu ho mf) := by
  intro s0 s1 l1 l2 l3 s hf
  unfold B_X3_blows_29 at hf
  obtain ⟨k1, h2, hf⟩ := gd_e hf
  obtain ⟨s3, e4, hf⟩ := nm_g hf
  refine z_iast (ws' := (MW (gk G) ad s3 sv tx cu ho mf)) 1 C dX3_blows_29 h2 rfl e4 rfl ?_
  refine z_aload_n 0 C dX3_blows_30 rfl ?_
  refine gf_X3_7 0 C dX3_blows_31 rfl rfl ?_
  refine z_iload_n 3 C dX3_blows_34 rfl ?_
  refine z_bipush (v := 7) C dX3_blows_35 kb_7 ?_
  refine z_iadd C dX3_blows_37 ?_
  refine z_aload_n 0 C dX3_blows_38 rfl ?_
  refine gf_X3_7 0 C dX3_blows_39 rfl rfl ?_
  refine z_iload_n 1 C dX3_blows_42 rfl ?_
  refine z_iconst (v := 0) C dX3_blows_43 kc_0 ?_
  refine z_iadd C dX3_blows_44 ?_
  obtain ⟨k5, h6, hf⟩ := gd_e hf
  refine z_iald 1 C dX3_blows_45 h6 rfl ?_
  obtain ⟨k7, h8, hf⟩ := gd_e hf
  obtain ⟨s9, e10, hf⟩ := nm_g hf
  refine z_iast (ws' := (MW (gk G) ad s9 sv tx cu ho mf)) 1 C dX3_blows_46 h8 rfl e10 rfl ?_
  refine z_aload_n 0 C dX3_blows_47 rfl ?_
  refine gf_X3_7 0 C dX3_blows_48 rfl rfl ?_
  refine z_iload_n 3 C dX3_blows_51 rfl ?_
  refine z_bipush (v := 8) C dX3_blows_52 kb_8 ?_
  refine z_iadd C dX3_blows_54 ?_
  refine z_dup2 C dX3_blows_55 rfl rfl ?_
  obtain ⟨k11, h12, hf⟩ := gd_e hf
  refine z_iald 1 C dX3_blows_56 h12 rfl ?_
  refine z_iconst (v := 1) C dX3_blows_57 kc_1 ?_
  refine z_iadd C dX3_blows_58 ?_
  obtain ⟨s13, e14, hf⟩ := nm_g hf
  refine z_iast (ws' := (MW (gk G) ad s13 sv tx cu ho mf)) 1 C dX3_blows_59 h12 rfl e14 rfl ?_
  refine z_aload_n 0 C dX3_blows_60 rfl ?_
  refine gf_X3_7 0 C dX3_blows_61 rfl rfl ?_
  refine z_iload_n 1 C dX3_blows_64 rfl ?_
  refine z_bipush (v := 6) C dX3_blows_65 kb_6 ?_
  refine z_iadd C dX3_blows_67 ?_
  refine z_dup2 C dX3_blows_68 rfl rfl ?_
  obtain ⟨k15, h16, hf⟩ := gd_e hf
  refine z_iald 1 C dX3_blows_69 h16 rfl ?_
  refine z_iconst (v := 1) C dX3_blows_70 kc_1 ?_
  refine z_iadd C dX3_blows_71 ?_
  obtain ⟨s17, e18, hf⟩ := nm_g hf
  refine z_iast (ws' := (MW (gk G) ad s17 sv tx cu ho mf)) 1 C dX3_blows_72 h16 rfl e18 rfl ?_
  refine z_bipush (v := 7) C dX3_blows_73 kb_7 ?_
  refine z_istore (ls' := [(4, _), (0, _), (1, _), (2, _), (3, _)]) C dX3_blows_75 (by decide) rfl ?_
  refine z_sub (ls' := [(0, .ref (ad 0)), (1, .int l1), (2, .int l2), (4, .int 7)]) [1, 2, 3, 0] rfl ?_
  exact tb_X3_blows_77 ad sv tx cu ho mf C F _ _ _ _ _ hf
set_option maxHeartbeats 400000 in
set_option maxRecDepth 100000 in
theorem c_X3_blows {l : Launch} {D : va_G} {cs : ClassId × ClassId × ClassId} (ad : Nat → Nat) (a1 : Int32) (a2 : Int32) (s : zA) (sv : zA) (tx : zA) (cu : zA) (ho : zA) (mf : zA) {s' : zA} (e : f_X3_blows a1 a2 s = some s') : zMv l D cs yX3_blows cX3_blows 5 none 1 [.ref (ad 0), .int a1, .int a2] (MW cs ad s sv tx cu ho mf) (MW cs ad s' sv tx cu ho mf) := by
  refine zMv_of (show plainName RX3 = true by decide +kernel) (Nat.le_of_ble_eq_true rfl) ?_
  rintro G rfl rfl rfl C F
  have hf := e
  clear e
  unfold f_X3_blows at hf
  show zV G 5 0 [(0, .ref (ad 0)), (1, .int a1), (2, .int a2)] [] (MW (gk G) ad s sv tx cu ho mf)
  refine z_iload_n 1 C dX3_blows_0 rfl ?_
  refine z_iload_n 2 C dX3_blows_1 rfl ?_
  obtain ⟨v1, e2, hf⟩ := b1_e hf
  refine z_callS (st := []) (ws2 := (MW (gk G) ad s sv tx cu ho mf)) [] C dX3_blows_2 w_X3_37 (c_X3_boardAt a1 a2 e2) (by decide) rfl rfl rfl  rfl rfl (Nat.le_of_ble_eq_true rfl) rfl ?_
  refine z_istore_n (ls' := [(3, _), (0, _), (1, _), (2, _)]) C dX3_blows_5 (by decide) rfl ?_
  refine z_aload_n 1 C dX3_blows_6 rfl ?_
  refine gf_X3_7 0 C dX3_blows_7 rfl rfl ?_
  refine z_iload_n 0 C dX3_blows_10 rfl ?_
  refine z_iconst (v := 3) C dX3_blows_11 kc_3 ?_
  refine z_iadd C dX3_blows_12 ?_
  refine z_aload_n 1 C dX3_blows_13 rfl ?_
  refine gf_X3_7 0 C dX3_blows_14 rfl rfl ?_
  refine z_iload_n 2 C dX3_blows_17 rfl ?_
  refine z_iconst (v := 0) C dX3_blows_18 kc_0 ?_
  refine z_iadd C dX3_blows_19 ?_
  obtain ⟨k3, h4, hf⟩ := gd_e hf
  refine z_iald 1 C dX3_blows_20 h4 rfl ?_
  refine z_if_ne (tgt := 28) C dX3_blows_21 rfl (fun hc => ?_) (fun hc => ?_)
  · have hf := ifn hc hf
    refine z_iconst (v := 1) C dX3_blows_28 kc_1 ?_
    refine z_sub (ls' := [(0, .ref (ad 0)), (1, .int a1), (2, .int a2), (3, .int v1)]) [1, 2, 3, 0] rfl ?_
    exact tb_X3_blows_29 ad sv tx cu ho mf C F _ _ _ _ _ _ hf
  have hf := ifp hc hf
  refine z_iconst (v := 2) C dX3_blows_24 kc_2 ?_
  refine z_goto (tgt := 29) C dX3_blows_25 rfl ?_
  refine z_sub (ls' := [(0, .ref (ad 0)), (1, .int a1), (2, .int a2), (3, .int v1)]) [1, 2, 3, 0] rfl ?_
  exact tb_X3_blows_29 ad sv tx cu ho mf C F _ _ _ _ _ _ hf
set_option maxHeartbeats 400000 in
set_option maxRecDepth 100000 in
theorem tb_X3_tick_141 {G : GT} (ad : Nat → Nat) (sv : zA) (tx : zA) (mf : zA) {v : Int32} {s' : zA} {cu' : zA} {ho' : zA} (C : zC G cX3_tick 5 RX3 (some .int) 3) (F : zF G (some (.int v)) (MW (gk G) ad s' sv tx cu' ho' mf)) : ∀ (n : Nat) (l1 : Int32) (l2 : Int32) (l3 : Int32) (l4 : Int32) (s : zA) (cu : zA) (ho : zA), B_X3_tick_141 n l1 l2 l3 l4 s cu ho mf = some (v, s', cu', ho') → zV G 5 141 [(0, .ref (ad 0)), (1, .int l1), (2, .int l2), (3, .int l3), (4, .int l4)] [] (MW (gk G) ad s sv tx cu ho mf) := by
  intro n
  induction n with
  | zero => intro _ _ _ _ _ _ _ hf; rw [B_X3_tick_141] at hf; cases hf
  | succ n ih =>
    intro l1 l2 l3 l4 s cu ho hf
    rw [B_X3_tick_141] at hf
    refine z_iload 4 C dX3_tick_141 rfl ?_
    refine z_iload_n 2 C dX3_tick_143 rfl ?_
    refine z_icmp_ge (tgt := 187) C dX3_tick_144 rfl (fun hc => ?_) (fun hc => ?_)
    · have hf := ifp hc hf
      refine z_aload_n 0 C dX3_tick_187 rfl ?_
      refine gf_X3_7 0 C dX3_tick_188 rfl rfl ?_
      refine z_iload_n 1 C dX3_tick_191 rfl ?_
      refine z_iconst (v := 3) C dX3_tick_192 kc_3 ?_
      refine z_iadd C dX3_tick_193 ?_
      refine z_dup2 C dX3_tick_194 rfl rfl ?_
      obtain ⟨k1, h2, hf⟩ := gd_e hf
      refine z_iald 1 C dX3_tick_195 h2 rfl ?_
      refine z_iconst (v := 1) C dX3_tick_196 kc_1 ?_
      refine z_iadd C dX3_tick_197 ?_
      obtain ⟨s3, e4, hf⟩ := nm_g hf
      refine z_iast (ws' := (MW (gk G) ad s3 sv tx cu ho mf)) 1 C dX3_tick_198 h2 rfl e4 rfl ?_
      refine z_iload_n 3 C dX3_tick_199 rfl ?_
      cases hf
      exact z_iret C dX3_tick_200 F
    have hf := ifn hc hf
    refine z_aload_n 0 C dX3_tick_147 rfl ?_
    refine gf_X3_27 0 C dX3_tick_148 rfl rfl ?_
    refine z_iload 4 C dX3_tick_151 rfl ?_
    obtain ⟨k5, h6, hf⟩ := gd_e hf
    refine z_zald 5 C dX3_tick_153 h6 rfl ?_
    refine z_if_eq (tgt := 181) C dX3_tick_154 rfl (fun hc => ?_) (fun hc => ?_)
    · have hf := ifp hc hf
      obtain ⟨x7, e8, hf⟩ := nm_g hf
      refine z_iinc (ls' := [(4, _), (0, _), (1, _), (2, _), (3, _)]) 4 C dX3_tick_181 rfl kc_1 e8 (by decide) rfl ?_
      refine z_goto (tgt := 141) C dX3_tick_184 rfl ?_
      refine z_sub (ls' := [(0, .ref (ad 0)), (1, .int l1), (2, .int l2), (3, .int l3), (4, .int x7)]) [1, 2, 3, 4, 0] rfl ?_
      exact ih _ _ _ _ _ _ _ hf
    have hf := ifn hc hf
    refine z_aload_n 0 C dX3_tick_157 rfl ?_
    refine z_iload_n 1 C dX3_tick_158 rfl ?_
    refine z_iload 4 C dX3_tick_159 rfl ?_
    obtain ⟨v9, e10, hf⟩ := b1_e hf
    refine z_callV (st := []) (ws2 := (MW (gk G) ad s sv tx cu ho mf)) [0, 1, 2, 3, 4, 5] C dX3_tick_161 w_X3_72 (c_X3_isNearest ad l1 l4 s sv tx cu ho mf e10) (by decide) rfl rfl rfl rfl rfl rfl rfl (Nat.le_of_ble_eq_true rfl) rfl ?_
    refine z_if_eq (tgt := 181) C dX3_tick_164 rfl (fun hc => ?_) (fun hc => ?_)
    · have hf := ifp hc hf
      obtain ⟨x11, e12, hf⟩ := nm_g hf
      refine z_iinc (ls' := [(4, _), (0, _), (1, _), (2, _), (3, _)]) 4 C dX3_tick_181 rfl kc_1 e12 (by decide) rfl ?_
      refine z_goto (tgt := 141) C dX3_tick_184 rfl ?_
      refine z_sub (ls' := [(0, .ref (ad 0)), (1, .int l1), (2, .int l2), (3, .int l3), (4, .int x11)]) [1, 2, 3, 4, 0] rfl ?_
      exact ih _ _ _ _ _ _ _ hf
    have hf := ifn hc hf
    refine z_iload_n 3 C dX3_tick_167 rfl ?_
    refine z_iconst (v := 1) C dX3_tick_168 kc_1 ?_
    refine z_iload 4 C dX3_tick_169 rfl ?_
    refine z_ishl C dX3_tick_171 ?_
    refine z_ior C dX3_tick_172 ?_
    obtain ⟨x13, e14, hf⟩ := nm_g hf
    refine z_top e14 ?_
    refine z_istore_n (ls' := [(3, _), (0, _), (1, _), (2, _), (4, _)]) C dX3_tick_173 (by decide) rfl ?_
    refine z_aload_n 1 C dX3_tick_174 rfl ?_
    refine z_iload_n 2 C dX3_tick_175 rfl ?_
    refine z_iload 4 C dX3_tick_176 rfl ?_
    obtain ⟨s15, e16, hf⟩ := b1_e hf
    refine z_callVv (st := []) (ws2 := (MW (gk G) ad s15 sv tx cu ho mf)) [0, 1, 2, 3, 4, 5] C dX3_tick_178 w_X3_75 (c_X3_blows ad l1 l4 s sv tx cu ho mf e16) (by decide) rfl rfl rfl rfl rfl rfl rfl (Nat.le_of_ble_eq_true rfl) rfl ?_
    obtain ⟨x17, e18, hf⟩ := nm_g hf
    refine z_iinc (ls' := [(4, _), (3, _), (0, _), (1, _), (2, _)]) 4 C dX3_tick_181 rfl kc_1 e18 (by decide) rfl ?_
    refine z_goto (tgt := 141) C dX3_tick_184 rfl ?_
    refine z_sub (ls' := [(0, .ref (ad 0)), (1, .int l1), (2, .int l2), (3, .int x13), (4, .int x17)]) [2, 3, 4, 1, 0] rfl ?_
    exact ih _ _ _ _ _ _ _ hf
set_option maxHeartbeats 400000 in
set_option maxRecDepth 100000 in
theorem tb_X3_tick_129 {G : GT} (ad : Nat → Nat) (sv : zA) (tx : zA) (mf : zA) {v : Int32} {s' : zA} {cu' : zA} {ho' : zA} (C : zC G cX3_tick 5 RX3 (some .int) 3) (F : zF G (some (.int v)) (MW (gk G) ad s' sv tx cu' ho' mf)) (K : Int32 → Int32 → Int32 → zA → zA → zA → zA → Option (Int32 × zA × zA × zA)) (hK : ∀ (l1 : Int32) (l2 : Int32) (l3 : Int32) (s : zA) (cu : zA) (ho : zA), K l1 l2 l3 s cu ho mf = some (v, s', cu', ho') → zV G 5 55 [(0, .ref (ad 0)), (1, .int l1), (2, .int l2), (3, .int l3)] [] (MW (gk G) ad s sv tx cu ho mf)) : ∀ (s0 : Int32) (s1 : Int32) (l1 : Int32) (l2 : Int32) (l3 : Int32) (s : zA) (cu : zA) (ho : zA), B_X3_tick_129 K s0 s1 l1 l2 l3 s cu ho mf = some (v, s', cu', ho') → zV G 5 129 [(0, .ref (ad 0)), (1, .int l1), (2, .int l2), (3, .int l3)] [.int s0, .int s1, .ref (ad 5)] (MW (gk G) ad s sv tx cu ho mf) := by
  intro s0 s1 l1 l2 l3 s cu ho hf
  unfold B_X3_tick_129 at hf
  obtain ⟨k1, h2, hf⟩ := gd_e hf
  obtain ⟨ho3, e4, hf⟩ := nm_g hf
  refine z_zast (ws' := (MW (gk G) ad s sv tx cu ho3 mf)) 5 C dX3_tick_129 h2 rfl e4 rfl ?_
  obtain ⟨x5, e6, hf⟩ := nm_g hf
  refine z_iinc (ls' := [(3, _), (0, _), (1, _), (2, _)]) 3 C dX3_tick_130 rfl kc_1 e6 (by decide) rfl ?_
  refine z_goto (tgt := 55) C dX3_tick_133 rfl ?_
  refine z_sub (ls' := [(0, .ref (ad 0)), (1, .int l1), (2, .int l2), (3, .int x5)]) [1, 2, 3, 0] rfl ?_
  exact hK _ _ _ _ _ _ hf
set_option maxHeartbeats 400000 in
set_option maxRecDepth 100000 in
theorem tb_X3_tick_128 {G : GT} (ad : Nat → Nat) (sv : zA) (tx : zA) (mf : zA) {v : Int32} {s' : zA} {cu' : zA} {ho' : zA} (C : zC G cX3_tick 5 RX3 (some .int) 3) (F : zF G (some (.int v)) (MW (gk G) ad s' sv tx cu' ho' mf)) (K : Int32 → Int32 → Int32 → zA → zA → zA → zA → Option (Int32 × zA × zA × zA)) (hK : ∀ (l1 : Int32) (l2 : Int32) (l3 : Int32) (s : zA) (cu : zA) (ho : zA), K l1 l2 l3 s cu ho mf = some (v, s', cu', ho') → zV G 5 55 [(0, .ref (ad 0)), (1, .int l1), (2, .int l2), (3, .int l3)] [] (MW (gk G) ad s sv tx cu ho mf)) : ∀ (s0 : Int32) (l1 : Int32) (l2 : Int32) (l3 : Int32) (s : zA) (cu : zA) (ho : zA), B_X3_tick_128 K s0 l1 l2 l3 s cu ho mf = some (v, s', cu', ho') → zV G 5 128 [(0, .ref (ad 0)), (1, .int l1), (2, .int l2), (3, .int l3)] [.int s0, .ref (ad 5)] (MW (gk G) ad s sv tx cu ho mf) := by
  intro s0 l1 l2 l3 s cu ho hf
  unfold B_X3_tick_128 at hf
  refine z_iconst (v := 0) C dX3_tick_128 kc_0 ?_
  exact tb_X3_tick_129 ad sv tx mf C F K hK _ _ _ _ _ _ _ _ hf
set_option maxHeartbeats 400000 in
set_option maxRecDepth 100000 in
theorem tb_X3_tick_93 {G : GT} (ad : Nat → Nat) (sv : zA) (tx : zA) (mf : zA) {v : Int32} {s' : zA} {cu' : zA} {ho' : zA} (C : zC G cX3_tick 5 RX3 (some .int) 3) (F : zF G (some (.int v)) (MW (gk G) ad s' sv tx cu' ho' mf)) (K : Int32 → Int32 → Int32 → zA → zA → zA → zA → Option (Int32 × zA × zA × zA)) (hK : ∀ (l1 : Int32) (l2 : Int32) (l3 : Int32) (s : zA) (cu : zA) (ho : zA), K l1 l2 l3 s cu ho mf = some (v, s', cu', ho') → zV G 5 55 [(0, .ref (ad 0)), (1, .int l1), (2, .int l2), (3, .int l3)] [] (MW (gk G) ad s sv tx cu ho mf)) : ∀ (l1 : Int32) (l2 : Int32) (l3 : Int32) (l4 : Int32) (s : zA) (cu : zA) (ho : zA), B_X3_tick_93 K l1 l2 l3 l4 s cu ho mf = some (v, s', cu', ho') → zV G 5 93 [(0, .ref (ad 0)), (1, .int l1), (2, .int l2), (3, .int l3), (4, .int l4)] [] (MW (gk G) ad s sv tx cu ho mf) := by
  intro l1 l2 l3 l4 s cu ho hf
  unfold B_X3_tick_93 at hf
  refine z_aload_n 0 C dX3_tick_93 rfl ?_
  refine gf_X3_27 0 C dX3_tick_94 rfl rfl ?_
  refine z_iload_n 3 C dX3_tick_97 rfl ?_
  refine z_iload 4 C dX3_tick_98 rfl ?_
  refine z_if_eq (tgt := 128) C dX3_tick_100 rfl (fun hc => ?_) (fun hc => ?_)
  · have hf := ifp hc hf
    refine z_sub (ls' := [(0, .ref (ad 0)), (1, .int l1), (2, .int l2), (3, .int l3)]) [0, 1, 2, 3] rfl ?_
    exact tb_X3_tick_128 ad sv tx mf C F K hK _ _ _ _ _ _ _ hf
  have hf := ifn hc hf
  refine z_aload_n 0 C dX3_tick_103 rfl ?_
  refine gf_X3_7 0 C dX3_tick_104 rfl rfl ?_
  refine z_iload_n 1 C dX3_tick_107 rfl ?_
  refine z_iload_n 3 C dX3_tick_108 rfl ?_
  obtain ⟨v1, e2, hf⟩ := b1_e hf
  refine z_callS (st := [.ref (ad 1), .int l3, .ref (ad 5)]) (ws2 := (MW (gk G) ad s sv tx cu ho mf)) [] C dX3_tick_109 w_X3_37 (c_X3_boardAt l1 l3 e2) (by decide) rfl rfl rfl  rfl rfl (Nat.le_of_ble_eq_true rfl) rfl ?_
  refine z_iconst (v := 4) C dX3_tick_112 kc_4 ?_
  refine z_iadd C dX3_tick_113 ?_
  obtain ⟨k3, h4, hf⟩ := gd_e hf
  refine z_iald 1 C dX3_tick_114 h4 rfl ?_
  refine z_aload_n 0 C dX3_tick_115 rfl ?_
  refine z_iload_n 1 C dX3_tick_116 rfl ?_
  refine z_iload_n 3 C dX3_tick_117 rfl ?_
  obtain ⟨v5, e6, hf⟩ := b1_e hf
  refine z_callV (st := [.int (s k3), .int l3, .ref (ad 5)]) (ws2 := (MW (gk G) ad s sv tx cu ho mf)) [0, 1, 2, 3, 4, 5] C dX3_tick_118 w_X3_69 (c_X3_meltingHeat ad l1 l3 s sv tx cu ho mf e6) (by decide) rfl rfl rfl rfl rfl rfl rfl (Nat.le_of_ble_eq_true rfl) rfl ?_
  refine z_icmp_lt (tgt := 128) C dX3_tick_121 rfl (fun hc => ?_) (fun hc => ?_)
  · have hf := ifp hc hf
    refine z_sub (ls' := [(0, .ref (ad 0)), (1, .int l1), (2, .int l2), (3, .int l3)]) [0, 1, 2, 3] rfl ?_
    exact tb_X3_tick_128 ad sv tx mf C F K hK _ _ _ _ _ _ _ hf
  have hf := ifn hc hf
  refine z_iconst (v := 1) C dX3_tick_124 kc_1 ?_
  refine z_goto (tgt := 129) C dX3_tick_125 rfl ?_
  refine z_sub (ls' := [(0, .ref (ad 0)), (1, .int l1), (2, .int l2), (3, .int l3)]) [0, 1, 2, 3] rfl ?_
  exact tb_X3_tick_129 ad sv tx mf C F K hK _ _ _ _ _ _ _ _ hf
set_option maxHeartbeats 400000 in
set_option maxRecDepth 100000 in
theorem tb_X3_tick_80 {G : GT} (ad : Nat → Nat) (sv : zA) (tx : zA) (mf : zA) {v : Int32} {s' : zA} {cu' : zA} {ho' : zA} (C : zC G cX3_tick 5 RX3 (some .int) 3) (F : zF G (some (.int v)) (MW (gk G) ad s' sv tx cu' ho' mf)) (K : Int32 → Int32 → Int32 → zA → zA → zA → zA → Option (Int32 × zA × zA × zA)) (hK : ∀ (l1 : Int32) (l2 : Int32) (l3 : Int32) (s : zA) (cu : zA) (ho : zA), K l1 l2 l3 s cu ho mf = some (v, s', cu', ho') → zV G 5 55 [(0, .ref (ad 0)), (1, .int l1), (2, .int l2), (3, .int l3)] [] (MW (gk G) ad s sv tx cu ho mf)) : ∀ (s0 : Int32) (l1 : Int32) (l2 : Int32) (l3 : Int32) (s : zA) (cu : zA) (ho : zA), B_X3_tick_80 K s0 l1 l2 l3 s cu ho mf = some (v, s', cu', ho') → zV G 5 80 [(0, .ref (ad 0)), (1, .int l1), (2, .int l2), (3, .int l3)] [.int s0] (MW (gk G) ad s sv tx cu ho mf) := by
  intro s0 l1 l2 l3 s cu ho hf
  unfold B_X3_tick_80 at hf
  refine z_istore (ls' := [(4, _), (0, _), (1, _), (2, _), (3, _)]) C dX3_tick_80 (by decide) rfl ?_
  refine z_iload 0 C dX3_tick_82 rfl ?_
  refine z_if_eq (tgt := 93) C dX3_tick_84 rfl (fun hc => ?_) (fun hc => ?_)
  · have hf := ifp hc hf
    refine z_sub (ls' := [(0, .ref (ad 0)), (1, .int l1), (2, .int l2), (3, .int l3), (4, .int s0)]) [1, 2, 3, 4, 0] rfl ?_
    exact tb_X3_tick_93 ad sv tx mf C F K hK _ _ _ _ _ _ _ hf
  have hf := ifn hc hf
  refine z_aload_n 1 C dX3_tick_87 rfl ?_
  refine z_iload_n 2 C dX3_tick_88 rfl ?_
  refine z_iload_n 4 C dX3_tick_89 rfl ?_
  obtain ⟨s1, e2, hf⟩ := b1_e hf
  refine z_callVv (st := []) (ws2 := (MW (gk G) ad s1 sv tx cu ho mf)) [0, 1, 2, 3, 4, 5] C dX3_tick_90 w_X3_66 (c_X3_heats ad l1 l3 s sv tx cu ho mf e2) (by decide) rfl rfl rfl rfl rfl rfl rfl (Nat.le_of_ble_eq_true rfl) rfl ?_
  refine z_sub (ls' := [(0, .ref (ad 0)), (1, .int l1), (2, .int l2), (3, .int l3), (4, .int s0)]) [1, 2, 3, 4, 0] rfl ?_
  exact tb_X3_tick_93 ad sv tx mf C F K hK _ _ _ _ _ _ _ hf
set_option maxHeartbeats 400000 in
set_option maxRecDepth 100000 in
theorem tb_X3_tick_55 {G : GT} (ad : Nat → Nat) (sv : zA) (tx : zA) (mf : zA) {v : Int32} {s' : zA} {cu' : zA} {ho' : zA} (C : zC G cX3_tick 5 RX3 (some .int) 3) (F : zF G (some (.int v)) (MW (gk G) ad s' sv tx cu' ho' mf)) : ∀ (n : Nat) (l1 : Int32) (l2 : Int32) (l3 : Int32) (s : zA) (cu : zA) (ho : zA), B_X3_tick_55 n l1 l2 l3 s cu ho mf = some (v, s', cu', ho') → zV G 5 55 [(0, .ref (ad 0)), (1, .int l1), (2, .int l2), (3, .int l3)] [] (MW (gk G) ad s sv tx cu ho mf) := by
  intro n
  induction n with
  | zero => intro _ _ _ _ _ _ hf; rw [B_X3_tick_55] at hf; cases hf
  | succ n ih =>
    intro l1 l2 l3 s cu ho hf
    rw [B_X3_tick_55] at hf
    refine z_iload_n 3 C dX3_tick_55 rfl ?_
    refine z_iload_n 2 C dX3_tick_56 rfl ?_
    refine z_icmp_ge (tgt := 136) C dX3_tick_57 rfl (fun hc => ?_) (fun hc => ?_)
    · have hf := ifp hc hf
      refine z_iconst (v := 0) C dX3_tick_136 kc_0 ?_
      refine z_istore_n (ls' := [(3, _), (0, _), (1, _), (2, _)]) C dX3_tick_137 (by decide) rfl ?_
      refine z_iconst (v := 0) C dX3_tick_138 kc_0 ?_
      refine z_istore (ls' := [(4, _), (3, _), (0, _), (1, _), (2, _)]) C dX3_tick_139 (by decide) rfl ?_
      refine z_sub (ls' := [(0, .ref (ad 0)), (1, .int l1), (2, .int l2), (3, .int 0), (4, .int 0)]) [2, 3, 4, 1, 0] rfl ?_
      exact tb_X3_tick_141 ad sv tx mf C F _ _ _ _ _ _ _ _ hf
    have hf := ifn hc hf
    refine z_aload_n 0 C dX3_tick_60 rfl ?_
    refine gf_X3_7 0 C dX3_tick_61 rfl rfl ?_
    refine z_iload_n 1 C dX3_tick_64 rfl ?_
    refine z_iload_n 3 C dX3_tick_65 rfl ?_
    obtain ⟨v1, e2, hf⟩ := b1_e hf
    refine z_callS (st := [.ref (ad 1)]) (ws2 := (MW (gk G) ad s sv tx cu ho mf)) [] C dX3_tick_66 w_X3_37 (c_X3_boardAt l1 l3 e2) (by decide) rfl rfl rfl  rfl rfl (Nat.le_of_ble_eq_true rfl) rfl ?_
    refine z_iconst (v := 3) C dX3_tick_69 kc_3 ?_
    refine z_iadd C dX3_tick_70 ?_
    obtain ⟨k3, h4, hf⟩ := gd_e hf
    refine z_iald 1 C dX3_tick_71 h4 rfl ?_
    refine z_if_ne (tgt := 79) C dX3_tick_72 rfl (fun hc => ?_) (fun hc => ?_)
    · have hf := ifn hc hf
      refine z_iconst (v := 0) C dX3_tick_79 kc_0 ?_
      exact tb_X3_tick_80 ad sv tx mf C F _ ih _ _ _ _ _ _ _ hf
    have hf := ifp hc hf
    refine z_iconst (v := 1) C dX3_tick_75 kc_1 ?_
    refine z_goto (tgt := 80) C dX3_tick_76 rfl ?_
    exact tb_X3_tick_80 ad sv tx mf C F _ ih _ _ _ _ _ _ _ hf
set_option maxHeartbeats 400000 in
set_option maxRecDepth 100000 in
theorem tb_X3_tick_36 {G : GT} (ad : Nat → Nat) (sv : zA) (tx : zA) (mf : zA) {v : Int32} {s' : zA} {cu' : zA} {ho' : zA} (C : zC G cX3_tick 5 RX3 (some .int) 3) (F : zF G (some (.int v)) (MW (gk G) ad s' sv tx cu' ho' mf)) : ∀ (n : Nat) (l1 : Int32) (l2 : Int32) (l3 : Int32) (s : zA) (cu : zA) (ho : zA), B_X3_tick_36 n l1 l2 l3 s cu ho mf = some (v, s', cu', ho') → zV G 5 36 [(0, .ref (ad 0)), (1, .int l1), (2, .int l2), (3, .int l3)] [] (MW (gk G) ad s sv tx cu ho mf) := by
  intro n
  induction n with
  | zero => intro _ _ _ _ _ _ hf; rw [B_X3_tick_36] at hf; cases hf
  | succ n ih =>
    intro l1 l2 l3 s cu ho hf
    rw [B_X3_tick_36] at hf
    refine z_iload_n 3 C dX3_tick_36 rfl ?_
    refine z_iload_n 2 C dX3_tick_37 rfl ?_
    refine z_icmp_ge (tgt := 53) C dX3_tick_38 rfl (fun hc => ?_) (fun hc => ?_)
    · have hf := ifp hc hf
      refine z_iconst (v := 0) C dX3_tick_53 kc_0 ?_
      refine z_istore_n (ls' := [(3, _), (0, _), (1, _), (2, _)]) C dX3_tick_54 (by decide) rfl ?_
      refine z_sub (ls' := [(0, .ref (ad 0)), (1, .int l1), (2, .int l2), (3, .int 0)]) [1, 2, 3, 0] rfl ?_
      exact tb_X3_tick_55 ad sv tx mf C F _ _ _ _ _ _ _ hf
    have hf := ifn hc hf
    refine z_aload_n 0 C dX3_tick_41 rfl ?_
    refine z_iload_n 1 C dX3_tick_42 rfl ?_
    refine z_iload_n 3 C dX3_tick_43 rfl ?_
    obtain ⟨s1, e2, hf⟩ := b1_e hf
    refine z_callVv (st := []) (ws2 := (MW (gk G) ad s1 sv tx cu ho mf)) [0, 1, 2, 3, 4, 5] C dX3_tick_44 w_X3_63 (c_X3_burns ad l1 l3 s sv tx cu ho mf e2) (by decide) rfl rfl rfl rfl rfl rfl rfl (Nat.le_of_ble_eq_true rfl) rfl ?_
    obtain ⟨x3, e4, hf⟩ := nm_g hf
    refine z_iinc (ls' := [(3, _), (0, _), (1, _), (2, _)]) 3 C dX3_tick_47 rfl kc_1 e4 (by decide) rfl ?_
    refine z_goto (tgt := 36) C dX3_tick_50 rfl ?_
    refine z_sub (ls' := [(0, .ref (ad 0)), (1, .int l1), (2, .int l2), (3, .int x3)]) [1, 2, 3, 0] rfl ?_
    exact ih _ _ _ _ _ _ hf
set_option maxHeartbeats 400000 in
set_option maxRecDepth 100000 in
theorem tb_X3_tick_11 {G : GT} (ad : Nat → Nat) (sv : zA) (tx : zA) (mf : zA) {v : Int32} {s' : zA} {cu' : zA} {ho' : zA} (C : zC G cX3_tick 5 RX3 (some .int) 3) (F : zF G (some (.int v)) (MW (gk G) ad s' sv tx cu' ho' mf)) : ∀ (n : Nat) (l1 : Int32) (l2 : Int32) (l3 : Int32) (s : zA) (cu : zA) (ho : zA), B_X3_tick_11 n l1 l2 l3 s cu ho mf = some (v, s', cu', ho') → zV G 5 11 [(0, .ref (ad 0)), (1, .int l1), (2, .int l2), (3, .int l3)] [] (MW (gk G) ad s sv tx cu ho mf) := by
  intro n
  induction n with
  | zero => intro _ _ _ _ _ _ hf; rw [B_X3_tick_11] at hf; cases hf
  | succ n ih =>
    intro l1 l2 l3 s cu ho hf
    rw [B_X3_tick_11] at hf
    refine z_iload_n 3 C dX3_tick_11 rfl ?_
    refine z_iload_n 2 C dX3_tick_12 rfl ?_
    refine z_icmp_ge (tgt := 34) C dX3_tick_13 rfl (fun hc => ?_) (fun hc => ?_)
    · have hf := ifp hc hf
      refine z_iconst (v := 0) C dX3_tick_34 kc_0 ?_
      refine z_istore_n (ls' := [(3, _), (0, _), (1, _), (2, _)]) C dX3_tick_35 (by decide) rfl ?_
      refine z_sub (ls' := [(0, .ref (ad 0)), (1, .int l1), (2, .int l2), (3, .int 0)]) [1, 2, 3, 0] rfl ?_
      exact tb_X3_tick_36 ad sv tx mf C F _ _ _ _ _ _ _ hf
    have hf := ifn hc hf
    refine z_aload_n 0 C dX3_tick_16 rfl ?_
    refine gf_X3_24 0 C dX3_tick_17 rfl rfl ?_
    refine z_iload_n 3 C dX3_tick_20 rfl ?_
    refine z_aload_n 0 C dX3_tick_21 rfl ?_
    refine z_iload_n 1 C dX3_tick_22 rfl ?_
    refine z_iload_n 3 C dX3_tick_23 rfl ?_
    obtain ⟨v1, e2, hf⟩ := b1_e hf
    refine z_callV (st := [.int l3, .ref (ad 4)]) (ws2 := (MW (gk G) ad s sv tx cu ho mf)) [0, 1, 2, 3, 4, 5] C dX3_tick_24 w_X3_60 (c_X3_current ad l1 l3 s sv tx cu ho mf e2) (by decide) rfl rfl rfl rfl rfl rfl rfl (Nat.le_of_ble_eq_true rfl) rfl ?_
    obtain ⟨k3, h4, hf⟩ := gd_e hf
    obtain ⟨cu5, e6, hf⟩ := nm_g hf
    refine z_iast (ws' := (MW (gk G) ad s sv tx cu5 ho mf)) 4 C dX3_tick_27 h4 rfl e6 rfl ?_
    obtain ⟨x7, e8, hf⟩ := nm_g hf
    refine z_iinc (ls' := [(3, _), (0, _), (1, _), (2, _)]) 3 C dX3_tick_28 rfl kc_1 e8 (by decide) rfl ?_
    refine z_goto (tgt := 11) C dX3_tick_31 rfl ?_
    refine z_sub (ls' := [(0, .ref (ad 0)), (1, .int l1), (2, .int l2), (3, .int x7)]) [1, 2, 3, 0] rfl ?_
    exact ih _ _ _ _ _ _ hf
set_option maxHeartbeats 400000 in
set_option maxRecDepth 100000 in
theorem c_X3_tick {l : Launch} {D : va_G} {cs : ClassId × ClassId × ClassId} (ad : Nat → Nat) (a1 : Int32) (s : zA) (sv : zA) (tx : zA) (cu : zA) (ho : zA) (mf : zA) {v : Int32} {s' : zA} {cu' : zA} {ho' : zA} (e : f_X3_tick a1 s cu ho mf = some (v, s', cu', ho')) : zM l D cs yX3_tick cX3_tick 5 (some .int) 3 [.ref (ad 0), .int a1] (MW cs ad s sv tx cu ho mf) v (MW cs ad s' sv tx cu' ho' mf) := by
  refine zM_of (show plainName RX3 = true by decide +kernel) (Nat.le_of_ble_eq_true rfl) ?_
  rintro G rfl rfl rfl C F
  have hf := e
  clear e
  unfold f_X3_tick at hf
  show zV G 5 0 [(0, .ref (ad 0)), (1, .int a1)] [] (MW (gk G) ad s sv tx cu ho mf)
  refine z_aload_n 0 C dX3_tick_0 rfl ?_
  refine gf_X3_7 0 C dX3_tick_1 rfl rfl ?_
  refine z_iload_n 1 C dX3_tick_4 rfl ?_
  refine z_iconst (v := 4) C dX3_tick_5 kc_4 ?_
  refine z_iadd C dX3_tick_6 ?_
  obtain ⟨k1, h2, hf⟩ := gd_e hf
  refine z_iald 1 C dX3_tick_7 h2 rfl ?_
  refine z_istore_n (ls' := [(2, _), (0, _), (1, _)]) C dX3_tick_8 (by decide) rfl ?_
  refine z_iconst (v := 0) C dX3_tick_9 kc_0 ?_
  refine z_istore_n (ls' := [(3, _), (2, _), (0, _), (1, _)]) C dX3_tick_10 (by decide) rfl ?_
  refine z_sub (ls' := [(0, .ref (ad 0)), (1, .int a1), (2, .int (s k1)), (3, .int 0)]) [2, 3, 1, 0] rfl ?_
  exact tb_X3_tick_11 ad sv tx mf C F _ _ _ _ _ _ _ hf
set_option maxHeartbeats 400000 in
set_option maxRecDepth 100000 in
theorem tb_X3_ones_4 {G : GT}   {v : Int32}  (C : zC G cX3_ones 3 RX3 (some .int) 0) (F : zF G (some (.int v)) ([] : va_W)) : ∀ (n : Nat) (l0 : Int32) (l1 : Int32) (l2 : Int32), B_X3_ones_4 n l0 l1 l2 = some v → zV G 3 4 [(0, .int l0), (1, .int l1), (2, .int l2)] [] ([] : va_W) := by
  intro n
  induction n with
  | zero => intro _ _ _ hf; rw [B_X3_ones_4] at hf; cases hf
  | succ n ih =>
    intro l0 l1 l2 hf
    rw [B_X3_ones_4] at hf
    refine z_iload_n 2 C dX3_ones_4 rfl ?_
    refine z_bipush (v := 14) C dX3_ones_5 kb_14 ?_
    refine z_icmp_ge (tgt := 24) C dX3_ones_7 rfl (fun hc => ?_) (fun hc => ?_)
    · have hf := ifp hc hf
      refine z_iload_n 1 C dX3_ones_24 rfl ?_
      cases hf
      exact z_iret C dX3_ones_25 F
    have hf := ifn hc hf
    refine z_iload_n 1 C dX3_ones_10 rfl ?_
    refine z_iload_n 0 C dX3_ones_11 rfl ?_
    refine z_iload_n 2 C dX3_ones_12 rfl ?_
    refine z_ishr C dX3_ones_13 ?_
    refine z_iconst (v := 1) C dX3_ones_14 kc_1 ?_
    refine z_iand C dX3_ones_15 ?_
    refine z_iadd C dX3_ones_16 ?_
    obtain ⟨x1, e2, hf⟩ := nm_g hf
    refine z_top e2 ?_
    refine z_istore_n (ls' := [(1, _), (0, _), (2, _)]) C dX3_ones_17 (by decide) rfl ?_
    obtain ⟨x3, e4, hf⟩ := nm_g hf
    refine z_iinc (ls' := [(2, _), (1, _), (0, _)]) 2 C dX3_ones_18 rfl kc_1 e4 (by decide) rfl ?_
    refine z_goto (tgt := 4) C dX3_ones_21 rfl ?_
    refine z_sub (ls' := [(0, .int l0), (1, .int x1), (2, .int x3)]) [2, 1, 0] rfl ?_
    exact ih _ _ _ hf
set_option maxHeartbeats 400000 in
set_option maxRecDepth 100000 in
theorem c_X3_ones {l : Launch} {D : va_G} {cs : ClassId × ClassId × ClassId}  (a0 : Int32)  {v : Int32}  (e : f_X3_ones a0 = some v) : zM l D cs yX3_ones cX3_ones 3 (some .int) 0 [.int a0] ([] : va_W) v ([] : va_W) := by
  refine zM_of (show plainName RX3 = true by decide +kernel) (Nat.le_of_ble_eq_true rfl) ?_
  rintro G rfl rfl rfl C F
  have hf := e
  clear e
  unfold f_X3_ones at hf
  show zV G 3 0 [(0, .int a0)] [] ([] : va_W)
  refine z_iconst (v := 0) C dX3_ones_0 kc_0 ?_
  refine z_istore_n (ls' := [(1, _), (0, _)]) C dX3_ones_1 (by decide) rfl ?_
  refine z_iconst (v := 0) C dX3_ones_2 kc_0 ?_
  refine z_istore_n (ls' := [(2, _), (1, _), (0, _)]) C dX3_ones_3 (by decide) rfl ?_
  refine z_sub (ls' := [(0, .int a0), (1, .int 0), (2, .int 0)]) [2, 1, 0] rfl ?_
  exact tb_X3_ones_4  C F _ _ _ _ hf
set_option maxHeartbeats 400000 in
set_option maxRecDepth 100000 in
theorem tb_X3_ticks_5 {G : GT} (ad : Nat → Nat) (sv : zA) (tx : zA) (mf : zA) {v : Int32} {s' : zA} {cu' : zA} {ho' : zA} (C : zC G cX3_ticks 5 RX3 (some .int) 4) (F : zF G (some (.int v)) (MW (gk G) ad s' sv tx cu' ho' mf)) : ∀ (n : Nat) (l1 : Int32) (l2 : Int32) (l3 : Int32) (l4 : Int32) (s : zA) (cu : zA) (ho : zA), B_X3_ticks_5 n l1 l2 l3 l4 s cu ho mf = some (v, s', cu', ho') → zV G 5 5 [(0, .ref (ad 0)), (1, .int l1), (2, .int l2), (3, .int l3), (4, .int l4)] [] (MW (gk G) ad s sv tx cu ho mf) := by
  intro n
  induction n with
  | zero => intro _ _ _ _ _ _ _ hf; rw [B_X3_ticks_5] at hf; cases hf
  | succ n ih =>
    intro l1 l2 l3 l4 s cu ho hf
    rw [B_X3_ticks_5] at hf
    refine z_iload 4 C dX3_ticks_5 rfl ?_
    refine z_iload_n 2 C dX3_ticks_7 rfl ?_
    refine z_icmp_ge (tgt := 28) C dX3_ticks_8 rfl (fun hc => ?_) (fun hc => ?_)
    · have hf := ifp hc hf
      refine z_iload_n 3 C dX3_ticks_28 rfl ?_
      cases hf
      exact z_iret C dX3_ticks_29 F
    have hf := ifn hc hf
    refine z_iload_n 3 C dX3_ticks_11 rfl ?_
    refine z_aload_n 0 C dX3_ticks_12 rfl ?_
    refine z_iload_n 1 C dX3_ticks_13 rfl ?_
    obtain ⟨v1, s2, cu3, ho4, e5, hf⟩ := b4_e hf
    refine z_callV (st := [.int l3]) (ws2 := (MW (gk G) ad s2 sv tx cu3 ho4 mf)) [0, 1, 2, 3, 4, 5] C dX3_ticks_14 w_X3_78 (c_X3_tick ad l1 s sv tx cu ho mf e5) (by decide) rfl rfl rfl rfl rfl rfl rfl (Nat.le_of_ble_eq_true rfl) rfl ?_
    obtain ⟨v6, e7, hf⟩ := b1_e hf
    refine z_callS (st := [.int l3]) (ws2 := (MW (gk G) ad s2 sv tx cu3 ho4 mf)) [] C dX3_ticks_17 w_X3_82 (c_X3_ones v1 e7) (by decide) rfl rfl rfl  rfl rfl (Nat.le_of_ble_eq_true rfl) rfl ?_
    refine z_iadd C dX3_ticks_20 ?_
    obtain ⟨x8, e9, hf⟩ := nm_g hf
    refine z_top e9 ?_
    refine z_istore_n (ls' := [(3, _), (0, _), (1, _), (2, _), (4, _)]) C dX3_ticks_21 (by decide) rfl ?_
    obtain ⟨x10, e11, hf⟩ := nm_g hf
    refine z_iinc (ls' := [(4, _), (3, _), (0, _), (1, _), (2, _)]) 4 C dX3_ticks_22 rfl kc_1 e11 (by decide) rfl ?_
    refine z_goto (tgt := 5) C dX3_ticks_25 rfl ?_
    refine z_sub (ls' := [(0, .ref (ad 0)), (1, .int l1), (2, .int l2), (3, .int x8), (4, .int x10)]) [2, 3, 4, 1, 0] rfl ?_
    exact ih _ _ _ _ _ _ _ hf
set_option maxHeartbeats 400000 in
set_option maxRecDepth 100000 in
theorem c_X3_ticks {l : Launch} {D : va_G} {cs : ClassId × ClassId × ClassId} (ad : Nat → Nat) (a1 : Int32) (a2 : Int32) (s : zA) (sv : zA) (tx : zA) (cu : zA) (ho : zA) (mf : zA) {v : Int32} {s' : zA} {cu' : zA} {ho' : zA} (e : f_X3_ticks a1 a2 s cu ho mf = some (v, s', cu', ho')) : zM l D cs yX3_ticks cX3_ticks 5 (some .int) 4 [.ref (ad 0), .int a1, .int a2] (MW cs ad s sv tx cu ho mf) v (MW cs ad s' sv tx cu' ho' mf) := by
  refine zM_of (show plainName RX3 = true by decide +kernel) (Nat.le_of_ble_eq_true rfl) ?_
  rintro G rfl rfl rfl C F
  have hf := e
  clear e
  unfold f_X3_ticks at hf
  show zV G 5 0 [(0, .ref (ad 0)), (1, .int a1), (2, .int a2)] [] (MW (gk G) ad s sv tx cu ho mf)
  refine z_iconst (v := 0) C dX3_ticks_0 kc_0 ?_
  refine z_istore_n (ls' := [(3, _), (0, _), (1, _), (2, _)]) C dX3_ticks_1 (by decide) rfl ?_
  refine z_iconst (v := 0) C dX3_ticks_2 kc_0 ?_
  refine z_istore (ls' := [(4, _), (3, _), (0, _), (1, _), (2, _)]) C dX3_ticks_3 (by decide) rfl ?_
  refine z_sub (ls' := [(0, .ref (ad 0)), (1, .int a1), (2, .int a2), (3, .int 0), (4, .int 0)]) [2, 3, 4, 1, 0] rfl ?_
  exact tb_X3_ticks_5 ad sv tx mf C F _ _ _ _ _ _ _ _ hf
set_option maxHeartbeats 400000 in
set_option maxRecDepth 100000 in
theorem c_X3_isBoard {l : Launch} {D : va_G} {cs : ClassId × ClassId × ClassId} (ad : Nat → Nat) (a1 : Int32) (s : zA) (sv : zA) (tx : zA) (cu : zA) (ho : zA) (mf : zA) {v : Int32}  (e : f_X3_isBoard a1 s = some v) : zM l D cs yX3_isBoard cX3_isBoard 2 (some .boolean) 1 [.ref (ad 0), .int a1] (MW cs ad s sv tx cu ho mf) v (MW cs ad s sv tx cu ho mf) := by
  refine zM_of (show plainName RX3 = true by decide +kernel) (Nat.le_of_ble_eq_true rfl) ?_
  rintro G rfl rfl rfl C F
  have hf := e
  clear e
  unfold f_X3_isBoard at hf
  show zV G 2 0 [(0, .ref (ad 0)), (1, .int a1)] [] (MW (gk G) ad s sv tx cu ho mf)
  refine z_iload_n 1 C dX3_isBoard_0 rfl ?_
  refine z_i2l C dX3_isBoard_1 ?_
  refine z_lconst (v := 0) C dX3_isBoard_2 kl_0 ?_
  refine z_aload_n 0 C dX3_isBoard_3 rfl ?_
  refine gf_X3_7 0 C dX3_isBoard_4 rfl rfl ?_
  refine z_iconst (v := 4) C dX3_isBoard_7 kc_4 ?_
  refine z_iald 1 C dX3_isBoard_8 ix_4_1480 rfl ?_
  refine z_iconst (v := 1) C dX3_isBoard_9 kc_1 ?_
  refine z_isub C dX3_isBoard_10 ?_
  refine z_i2l C dX3_isBoard_11 ?_
  obtain ⟨v1, e2, hf⟩ := b1_e hf
  refine z_callS (st := []) (ws2 := (MW (gk G) ad s sv tx cu ho mf)) [] C dX3_isBoard_12 w_X3_85 (c_X3_in (Int32.toInt64 a1) 0 (Int32.toInt64 ((s 4) - 1)) e2) (by decide) rfl rfl rfl  rfl rfl (Nat.le_of_ble_eq_true rfl) rfl ?_
  obtain ⟨hn, hf⟩ := zbo_e hf
  cases hf
  exact z_zret C dX3_isBoard_15 hn F
set_option maxHeartbeats 400000 in
set_option maxRecDepth 100000 in
theorem c_X3_isLoad {l : Launch} {D : va_G} {cs : ClassId × ClassId × ClassId} (ad : Nat → Nat) (a1 : Int32) (s : zA) (sv : zA) (tx : zA) (cu : zA) (ho : zA) (mf : zA) {v : Int32}  (e : f_X3_isLoad a1 s = some v) : zM l D cs yX3_isLoad cX3_isLoad 2 (some .boolean) 1 [.ref (ad 0), .int a1] (MW cs ad s sv tx cu ho mf) v (MW cs ad s sv tx cu ho mf) := by
  refine zM_of (show plainName RX3 = true by decide +kernel) (Nat.le_of_ble_eq_true rfl) ?_
  rintro G rfl rfl rfl C F
  have hf := e
  clear e
  unfold f_X3_isLoad at hf
  show zV G 2 0 [(0, .ref (ad 0)), (1, .int a1)] [] (MW (gk G) ad s sv tx cu ho mf)
  refine z_iload_n 1 C dX3_isLoad_0 rfl ?_
  refine z_i2l C dX3_isLoad_1 ?_
  refine z_lconst (v := 0) C dX3_isLoad_2 kl_0 ?_
  refine z_aload_n 0 C dX3_isLoad_3 rfl ?_
  refine gf_X3_7 0 C dX3_isLoad_4 rfl rfl ?_
  refine z_iconst (v := 5) C dX3_isLoad_7 kc_5 ?_
  refine z_iald 1 C dX3_isLoad_8 ix_5_1480 rfl ?_
  refine z_iconst (v := 1) C dX3_isLoad_9 kc_1 ?_
  refine z_isub C dX3_isLoad_10 ?_
  refine z_i2l C dX3_isLoad_11 ?_
  obtain ⟨v1, e2, hf⟩ := b1_e hf
  refine z_callS (st := []) (ws2 := (MW (gk G) ad s sv tx cu ho mf)) [] C dX3_isLoad_12 w_X3_85 (c_X3_in (Int32.toInt64 a1) 0 (Int32.toInt64 ((s 5) - 1)) e2) (by decide) rfl rfl rfl  rfl rfl (Nat.le_of_ble_eq_true rfl) rfl ?_
  obtain ⟨hn, hf⟩ := zbo_e hf
  cases hf
  exact z_zret C dX3_isLoad_15 hn F
set_option maxHeartbeats 400000 in
set_option maxRecDepth 100000 in
theorem c_X3_isFuse {l : Launch} {D : va_G} {cs : ClassId × ClassId × ClassId}  (a0 : Int32) (a1 : Int32)  {v : Int32}  (e : f_X3_isFuse a0 a1 = some v) : zM l D cs yX3_isFuse cX3_isFuse 2 (some .boolean) 1 [.int a0, .int a1] ([] : va_W) v ([] : va_W) := by
  refine zM_of (show plainName RX3 = true by decide +kernel) (Nat.le_of_ble_eq_true rfl) ?_
  rintro G rfl rfl rfl C F
  have hf := e
  clear e
  unfold f_X3_isFuse at hf
  show zV G 2 0 [(0, .int a0), (1, .int a1)] [] ([] : va_W)
  refine z_iload_n 0 C dX3_isFuse_0 rfl ?_
  refine z_i2l C dX3_isFuse_1 ?_
  refine z_lconst (v := 1) C dX3_isFuse_2 kl_1 ?_
  refine z_ldc2 C dX3_isFuse_3 tw_142 ?_
  obtain ⟨v1, e2, hf⟩ := b1_e hf
  refine z_callS (st := []) (ws2 := ([] : va_W)) [] C dX3_isFuse_6 w_X3_85 (c_X3_in (Int32.toInt64 a0) 1 100 e2) (by decide) rfl rfl rfl  rfl rfl (Nat.le_of_ble_eq_true rfl) rfl ?_
  refine z_if_eq (tgt := 28) C dX3_isFuse_9 rfl (fun hc => ?_) (fun hc => ?_)
  · have hf := ifp hc hf
    refine z_iconst (v := 0) C dX3_isFuse_28 kc_0 ?_
    cases hf
    exact z_zret C dX3_isFuse_29 rfl F
  have hf := ifn hc hf
  refine z_iload_n 1 C dX3_isFuse_12 rfl ?_
  refine z_i2l C dX3_isFuse_13 ?_
  refine z_lconst (v := 0) C dX3_isFuse_14 kl_0 ?_
  refine z_ldc2 C dX3_isFuse_15 tw_143 ?_
  obtain ⟨v3, e4, hf⟩ := b1_e hf
  refine z_callS (st := []) (ws2 := ([] : va_W)) [] C dX3_isFuse_18 w_X3_85 (c_X3_in (Int32.toInt64 a1) 0 2 e4) (by decide) rfl rfl rfl  rfl rfl (Nat.le_of_ble_eq_true rfl) rfl ?_
  refine z_if_eq (tgt := 28) C dX3_isFuse_21 rfl (fun hc => ?_) (fun hc => ?_)
  · have hf := ifp hc hf
    refine z_iconst (v := 0) C dX3_isFuse_28 kc_0 ?_
    cases hf
    exact z_zret C dX3_isFuse_29 rfl F
  have hf := ifn hc hf
  refine z_iconst (v := 1) C dX3_isFuse_24 kc_1 ?_
  refine z_goto (tgt := 29) C dX3_isFuse_25 rfl ?_
  cases hf
  exact z_zret C dX3_isFuse_29 rfl F
set_option maxHeartbeats 400000 in
set_option maxRecDepth 100000 in
theorem tb_X3_boardError_19 {G : GT} (ad : Nat → Nat) (s : zA) (sv : zA) (tx : zA) (cu : zA) (ho : zA) (mf : zA) {v : Int32}  (C : zC G cX3_boardError 4 RX3 (some .int) 2) (F : zF G (some (.int v)) (MW (gk G) ad s sv tx cu ho mf)) : ∀ (l2 : Int32) (l3 : Int32), B_X3_boardError_19 l2 l3 s = some v → zV G 4 19 [(0, .ref (ad 0)), (2, .int l2), (3, .int l3)] [] (MW (gk G) ad s sv tx cu ho mf) := by
  intro l2 l3 hf
  unfold B_X3_boardError_19 at hf
  refine z_iload_n 1 C dX3_boardError_19 rfl ?_
  refine z_iload_n 2 C dX3_boardError_20 rfl ?_
  obtain ⟨v1, e2, hf⟩ := b1_e hf
  refine z_callS (st := []) (ws2 := (MW (gk G) ad s sv tx cu ho mf)) [] C dX3_boardError_21 w_X3_97 (c_X3_isFuse l2 l3 e2) (by decide) rfl rfl rfl  rfl rfl (Nat.le_of_ble_eq_true rfl) rfl ?_
  refine z_if_ne (tgt := 32) C dX3_boardError_24 rfl (fun hc => ?_) (fun hc => ?_)
  · have hf := ifn hc hf
    refine z_aload_n 0 C dX3_boardError_32 rfl ?_
    refine gf_X3_7 0 C dX3_boardError_33 rfl rfl ?_
    refine z_iconst (v := 4) C dX3_boardError_36 kc_4 ?_
    refine z_iald 1 C dX3_boardError_37 ix_4_1480 rfl ?_
    refine z_bipush (v := 10) C dX3_boardError_38 kb_10 ?_
    refine z_icmp_ne (tgt := 48) C dX3_boardError_40 rfl (fun hc => ?_) (fun hc => ?_)
    · have hf := ifn hc hf
      refine z_iconst (v := 0) C dX3_boardError_48 kc_0 ?_
      cases hf
      exact z_iret C dX3_boardError_49 F
    have hf := ifp hc hf
    refine z_bipush (v := -4) C dX3_boardError_43 kb_m4 ?_
    refine z_goto (tgt := 49) C dX3_boardError_45 rfl ?_
    cases hf
    exact z_iret C dX3_boardError_49 F
  have hf := ifp hc hf
  refine z_bipush (v := -2) C dX3_boardError_27 kb_m2 ?_
  refine z_goto (tgt := 49) C dX3_boardError_29 rfl ?_
  cases hf
  exact z_iret C dX3_boardError_49 F
set_option maxHeartbeats 400000 in
set_option maxRecDepth 100000 in
theorem c_X3_boardError {l : Launch} {D : va_G} {cs : ClassId × ClassId × ClassId} (ad : Nat → Nat) (a1 : Int32) (a2 : Int32) (a3 : Int32) (s : zA) (sv : zA) (tx : zA) (cu : zA) (ho : zA) (mf : zA) {v : Int32}  (e : f_X3_boardError a1 a2 a3 s = some v) : zM l D cs yX3_boardError cX3_boardError 4 (some .int) 2 [.ref (ad 0), .int a1, .int a2, .int a3] (MW cs ad s sv tx cu ho mf) v (MW cs ad s sv tx cu ho mf) := by
  refine zM_of (show plainName RX3 = true by decide +kernel) (Nat.le_of_ble_eq_true rfl) ?_
  rintro G rfl rfl rfl C F
  have hf := e
  clear e
  unfold f_X3_boardError at hf
  show zV G 4 0 [(0, .ref (ad 0)), (1, .int a1), (2, .int a2), (3, .int a3)] [] (MW (gk G) ad s sv tx cu ho mf)
  refine z_aload_n 0 C dX3_boardError_0 rfl ?_
  refine gf_X3_7 0 C dX3_boardError_1 rfl rfl ?_
  refine z_iconst (v := 4) C dX3_boardError_4 kc_4 ?_
  refine z_iald 1 C dX3_boardError_5 ix_4_1480 rfl ?_
  refine z_if_le (tgt := 19) C dX3_boardError_6 rfl (fun hc => ?_) (fun hc => ?_)
  · have hf := ifp hc hf
    refine z_sub (ls' := [(0, .ref (ad 0)), (2, .int a2), (3, .int a3)]) [0, 2, 3] rfl ?_
    exact tb_X3_boardError_19 ad s sv tx cu ho mf C F _ _ hf
  have hf := ifn hc hf
  refine z_aload_n 0 C dX3_boardError_9 rfl ?_
  refine z_iload_n 1 C dX3_boardError_10 rfl ?_
  obtain ⟨v1, e2, hf⟩ := b1_e hf
  refine z_callV (st := []) (ws2 := (MW (gk G) ad s sv tx cu ho mf)) [0, 1, 2, 3, 4, 5] C dX3_boardError_11 w_X3_93 (c_X3_isBoard ad a1 s sv tx cu ho mf e2) (by decide) rfl rfl rfl rfl rfl rfl rfl (Nat.le_of_ble_eq_true rfl) rfl ?_
  refine z_if_ne (tgt := 19) C dX3_boardError_14 rfl (fun hc => ?_) (fun hc => ?_)
  · have hf := ifn hc hf
    refine z_sub (ls' := [(0, .ref (ad 0)), (2, .int a2), (3, .int a3)]) [0, 2, 3] rfl ?_
    exact tb_X3_boardError_19 ad s sv tx cu ho mf C F _ _ hf
  have hf := ifp hc hf
  refine z_iconst (v := -1) C dX3_boardError_17 kc_m1 ?_
  cases hf
  exact z_iret C dX3_boardError_18 F
set_option maxHeartbeats 400000 in
set_option maxRecDepth 100000 in
theorem c_X3_loadError {l : Launch} {D : va_G} {cs : ClassId × ClassId × ClassId} (ad : Nat → Nat) (a1 : Int32) (a2 : Int32) (s : zA) (sv : zA) (tx : zA) (cu : zA) (ho : zA) (mf : zA) {v : Int32}  (e : f_X3_loadError a1 a2 s = some v) : zM l D cs yX3_loadError cX3_loadError 3 (some .int) 2 [.ref (ad 0), .int a1, .int a2] (MW cs ad s sv tx cu ho mf) v (MW cs ad s sv tx cu ho mf) := by
  refine zM_of (show plainName RX3 = true by decide +kernel) (Nat.le_of_ble_eq_true rfl) ?_
  rintro G rfl rfl rfl C F
  have hf := e
  clear e
  unfold f_X3_loadError at hf
  show zV G 3 0 [(0, .ref (ad 0)), (1, .int a1), (2, .int a2)] [] (MW (gk G) ad s sv tx cu ho mf)
  refine z_aload_n 0 C dX3_loadError_0 rfl ?_
  refine z_iload_n 1 C dX3_loadError_1 rfl ?_
  obtain ⟨v1, e2, hf⟩ := b1_e hf
  refine z_callV (st := []) (ws2 := (MW (gk G) ad s sv tx cu ho mf)) [0, 1, 2, 3, 4, 5] C dX3_loadError_2 w_X3_93 (c_X3_isBoard ad a1 s sv tx cu ho mf e2) (by decide) rfl rfl rfl rfl rfl rfl rfl (Nat.le_of_ble_eq_true rfl) rfl ?_
  refine z_if_ne (tgt := 12) C dX3_loadError_5 rfl (fun hc => ?_) (fun hc => ?_)
  · have hf := ifn hc hf
    refine z_iload_n 2 C dX3_loadError_12 rfl ?_
    refine z_i2l C dX3_loadError_13 ?_
    refine z_lconst (v := 1) C dX3_loadError_14 kl_1 ?_
    refine z_ldc2 C dX3_loadError_15 tw_171 ?_
    obtain ⟨v3, e4, hf⟩ := b1_e hf
    refine z_callS (st := []) (ws2 := (MW (gk G) ad s sv tx cu ho mf)) [] C dX3_loadError_18 w_X3_85 (c_X3_in (Int32.toInt64 a2) 1 200 e4) (by decide) rfl rfl rfl  rfl rfl (Nat.le_of_ble_eq_true rfl) rfl ?_
    refine z_if_ne (tgt := 29) C dX3_loadError_21 rfl (fun hc => ?_) (fun hc => ?_)
    · have hf := ifn hc hf
      refine z_aload_n 0 C dX3_loadError_29 rfl ?_
      refine gf_X3_7 0 C dX3_loadError_30 rfl rfl ?_
      refine z_iconst (v := 5) C dX3_loadError_33 kc_5 ?_
      refine z_iald 1 C dX3_loadError_34 ix_5_1480 rfl ?_
      refine z_bipush (v := 14) C dX3_loadError_35 kb_14 ?_
      refine z_icmp_ne (tgt := 45) C dX3_loadError_37 rfl (fun hc => ?_) (fun hc => ?_)
      · have hf := ifn hc hf
        refine z_iconst (v := 0) C dX3_loadError_45 kc_0 ?_
        cases hf
        exact z_iret C dX3_loadError_46 F
      have hf := ifp hc hf
      refine z_bipush (v := -4) C dX3_loadError_40 kb_m4 ?_
      refine z_goto (tgt := 46) C dX3_loadError_42 rfl ?_
      cases hf
      exact z_iret C dX3_loadError_46 F
    have hf := ifp hc hf
    refine z_bipush (v := -2) C dX3_loadError_24 kb_m2 ?_
    refine z_goto (tgt := 46) C dX3_loadError_26 rfl ?_
    cases hf
    exact z_iret C dX3_loadError_46 F
  have hf := ifp hc hf
  refine z_iconst (v := -1) C dX3_loadError_8 kc_m1 ?_
  refine z_goto (tgt := 46) C dX3_loadError_9 rfl ?_
  cases hf
  exact z_iret C dX3_loadError_46 F
set_option maxHeartbeats 400000 in
set_option maxRecDepth 100000 in
theorem c_X3_turnError {l : Launch} {D : va_G} {cs : ClassId × ClassId × ClassId} (ad : Nat → Nat) (a1 : Int32) (s : zA) (sv : zA) (tx : zA) (cu : zA) (ho : zA) (mf : zA) {v : Int32}  (e : f_X3_turnError a1 s = some v) : zM l D cs yX3_turnError cX3_turnError 2 (some .int) 2 [.ref (ad 0), .int a1] (MW cs ad s sv tx cu ho mf) v (MW cs ad s sv tx cu ho mf) := by
  refine zM_of (show plainName RX3 = true by decide +kernel) (Nat.le_of_ble_eq_true rfl) ?_
  rintro G rfl rfl rfl C F
  have hf := e
  clear e
  unfold f_X3_turnError at hf
  show zV G 2 0 [(0, .ref (ad 0)), (1, .int a1)] [] (MW (gk G) ad s sv tx cu ho mf)
  refine z_aload_n 0 C dX3_turnError_0 rfl ?_
  refine z_iload_n 1 C dX3_turnError_1 rfl ?_
  obtain ⟨v1, e2, hf⟩ := b1_e hf
  refine z_callV (st := []) (ws2 := (MW (gk G) ad s sv tx cu ho mf)) [0, 1, 2, 3, 4, 5] C dX3_turnError_2 w_X3_102 (c_X3_isLoad ad a1 s sv tx cu ho mf e2) (by decide) rfl rfl rfl rfl rfl rfl rfl (Nat.le_of_ble_eq_true rfl) rfl ?_
  refine z_if_eq (tgt := 12) C dX3_turnError_5 rfl (fun hc => ?_) (fun hc => ?_)
  · have hf := ifp hc hf
    refine z_iconst (v := -1) C dX3_turnError_12 kc_m1 ?_
    cases hf
    exact z_iret C dX3_turnError_13 F
  have hf := ifn hc hf
  refine z_iconst (v := 0) C dX3_turnError_8 kc_0 ?_
  refine z_goto (tgt := 13) C dX3_turnError_9 rfl ?_
  cases hf
  exact z_iret C dX3_turnError_13 F
set_option maxHeartbeats 400000 in
set_option maxRecDepth 100000 in
theorem c_X3_fuseError {l : Launch} {D : va_G} {cs : ClassId × ClassId × ClassId} (ad : Nat → Nat) (a1 : Int32) (a2 : Int32) (a3 : Int32) (s : zA) (sv : zA) (tx : zA) (cu : zA) (ho : zA) (mf : zA) {v : Int32}  (e : f_X3_fuseError a1 a2 a3 s = some v) : zM l D cs yX3_fuseError cX3_fuseError 4 (some .int) 2 [.ref (ad 0), .int a1, .int a2, .int a3] (MW cs ad s sv tx cu ho mf) v (MW cs ad s sv tx cu ho mf) := by
  refine zM_of (show plainName RX3 = true by decide +kernel) (Nat.le_of_ble_eq_true rfl) ?_
  rintro G rfl rfl rfl C F
  have hf := e
  clear e
  unfold f_X3_fuseError at hf
  show zV G 4 0 [(0, .ref (ad 0)), (1, .int a1), (2, .int a2), (3, .int a3)] [] (MW (gk G) ad s sv tx cu ho mf)
  refine z_aload_n 0 C dX3_fuseError_0 rfl ?_
  refine z_iload_n 1 C dX3_fuseError_1 rfl ?_
  obtain ⟨v1, e2, hf⟩ := b1_e hf
  refine z_callV (st := []) (ws2 := (MW (gk G) ad s sv tx cu ho mf)) [0, 1, 2, 3, 4, 5] C dX3_fuseError_2 w_X3_93 (c_X3_isBoard ad a1 s sv tx cu ho mf e2) (by decide) rfl rfl rfl rfl rfl rfl rfl (Nat.le_of_ble_eq_true rfl) rfl ?_
  refine z_if_ne (tgt := 10) C dX3_fuseError_5 rfl (fun hc => ?_) (fun hc => ?_)
  · have hf := ifn hc hf
    refine z_iload_n 2 C dX3_fuseError_10 rfl ?_
    refine z_iload_n 3 C dX3_fuseError_11 rfl ?_
    obtain ⟨v3, e4, hf⟩ := b1_e hf
    refine z_callS (st := []) (ws2 := (MW (gk G) ad s sv tx cu ho mf)) [] C dX3_fuseError_12 w_X3_97 (c_X3_isFuse a2 a3 e4) (by decide) rfl rfl rfl  rfl rfl (Nat.le_of_ble_eq_true rfl) rfl ?_
    refine z_if_ne (tgt := 23) C dX3_fuseError_15 rfl (fun hc => ?_) (fun hc => ?_)
    · have hf := ifn hc hf
      refine z_aload_n 0 C dX3_fuseError_23 rfl ?_
      refine gf_X3_7 0 C dX3_fuseError_24 rfl rfl ?_
      refine z_iconst (v := 0) C dX3_fuseError_27 kc_0 ?_
      refine z_iload_n 1 C dX3_fuseError_28 rfl ?_
      obtain ⟨v5, e6, hf⟩ := b1_e hf
      refine z_callS (st := [.ref (ad 1)]) (ws2 := (MW (gk G) ad s sv tx cu ho mf)) [] C dX3_fuseError_29 w_X3_37 (c_X3_boardAt 0 a1 e6) (by decide) rfl rfl rfl  rfl rfl (Nat.le_of_ble_eq_true rfl) rfl ?_
      refine z_iconst (v := 3) C dX3_fuseError_32 kc_3 ?_
      refine z_iadd C dX3_fuseError_33 ?_
      obtain ⟨k7, h8, hf⟩ := gd_e hf
      refine z_iald 1 C dX3_fuseError_34 h8 rfl ?_
      refine z_iconst (v := 1) C dX3_fuseError_35 kc_1 ?_
      refine z_icmp_ne (tgt := 44) C dX3_fuseError_36 rfl (fun hc => ?_) (fun hc => ?_)
      · have hf := ifn hc hf
        refine z_iconst (v := 0) C dX3_fuseError_44 kc_0 ?_
        cases hf
        exact z_iret C dX3_fuseError_45 F
      have hf := ifp hc hf
      refine z_bipush (v := -5) C dX3_fuseError_39 kb_m5 ?_
      refine z_goto (tgt := 45) C dX3_fuseError_41 rfl ?_
      cases hf
      exact z_iret C dX3_fuseError_45 F
    have hf := ifp hc hf
    refine z_bipush (v := -2) C dX3_fuseError_18 kb_m2 ?_
    refine z_goto (tgt := 45) C dX3_fuseError_20 rfl ?_
    cases hf
    exact z_iret C dX3_fuseError_45 F
  have hf := ifp hc hf
  refine z_iconst (v := -1) C dX3_fuseError_8 kc_m1 ?_
  cases hf
  exact z_iret C dX3_fuseError_9 F
set_option maxHeartbeats 400000 in
set_option maxRecDepth 100000 in
theorem c_X3_passError {l : Launch} {D : va_G} {cs : ClassId × ClassId × ClassId} (ad : Nat → Nat) (a1 : Int32) (s : zA) (sv : zA) (tx : zA) (cu : zA) (ho : zA) (mf : zA) {v : Int32}  (e : f_X3_passError a1 s = some v) : zM l D cs yX3_passError cX3_passError 2 (some .int) 1 [.ref (ad 0), .int a1] (MW cs ad s sv tx cu ho mf) v (MW cs ad s sv tx cu ho mf) := by
  refine zM_of (show plainName RX3 = true by decide +kernel) (Nat.le_of_ble_eq_true rfl) ?_
  rintro G rfl rfl rfl C F
  have hf := e
  clear e
  unfold f_X3_passError at hf
  show zV G 2 0 [(0, .ref (ad 0)), (1, .int a1)] [] (MW (gk G) ad s sv tx cu ho mf)
  refine z_iload_n 1 C dX3_passError_0 rfl ?_
  refine z_i2l C dX3_passError_1 ?_
  refine z_lconst (v := 1) C dX3_passError_2 kl_1 ?_
  refine z_ldc2 C dX3_passError_3 tw_314 ?_
  obtain ⟨v1, e2, hf⟩ := b1_e hf
  refine z_callS (st := []) (ws2 := (MW (gk G) ad s sv tx cu ho mf)) [] C dX3_passError_6 w_X3_85 (c_X3_in (Int32.toInt64 a1) 1 99 e2) (by decide) rfl rfl rfl  rfl rfl (Nat.le_of_ble_eq_true rfl) rfl ?_
  refine z_if_ne (tgt := 17) C dX3_passError_9 rfl (fun hc => ?_) (fun hc => ?_)
  · have hf := ifn hc hf
    refine z_aload_n 0 C dX3_passError_17 rfl ?_
    refine gf_X3_7 0 C dX3_passError_18 rfl rfl ?_
    refine z_iconst (v := 3) C dX3_passError_21 kc_3 ?_
    refine z_iald 1 C dX3_passError_22 ix_3_1480 rfl ?_
    refine z_iload_n 1 C dX3_passError_23 rfl ?_
    refine z_iadd C dX3_passError_24 ?_
    refine z_sipush (v := 9999) C dX3_passError_25 ks_9999 ?_
    refine z_icmp_le (tgt := 36) C dX3_passError_28 rfl (fun hc => ?_) (fun hc => ?_)
    · have hf := ifp hc hf
      refine z_iconst (v := 0) C dX3_passError_36 kc_0 ?_
      cases hf
      exact z_iret C dX3_passError_37 F
    have hf := ifn hc hf
    refine z_bipush (v := -5) C dX3_passError_31 kb_m5 ?_
    refine z_goto (tgt := 37) C dX3_passError_33 rfl ?_
    cases hf
    exact z_iret C dX3_passError_37 F
  have hf := ifp hc hf
  refine z_bipush (v := -2) C dX3_passError_12 kb_m2 ?_
  refine z_goto (tgt := 37) C dX3_passError_14 rfl ?_
  cases hf
  exact z_iret C dX3_passError_37 F
set_option maxHeartbeats 400000 in
set_option maxRecDepth 100000 in
theorem tb_X3_puts_47 {G : GT} (ad : Nat → Nat) (sv : zA) (tx : zA) (cu : zA) (ho : zA) (mf : zA) {s' : zA} (C : zC G cX3_puts 6 RX3 none 1) (F : zF G none (MW (gk G) ad s' sv tx cu ho mf)) (K : Int32 → Int32 → Int32 → Int32 → zA → Option (zA)) (hK : ∀ (l2 : Int32) (l3 : Int32) (l4 : Int32) (l5 : Int32) (s : zA), K l2 l3 l4 l5 s = some s' → zV G 6 10 [(0, .ref (ad 0)), (2, .int l2), (3, .int l3), (4, .int l4), (5, .int l5)] [] (MW (gk G) ad s sv tx cu ho mf)) : ∀ (s0 : Int32) (s1 : Int32) (l2 : Int32) (l3 : Int32) (l4 : Int32) (l5 : Int32) (s : zA), B_X3_puts_47 K s0 s1 l2 l3 l4 l5 s = some s' → zV G 6 47 [(0, .ref (ad 0)), (2, .int l2), (3, .int l3), (4, .int l4), (5, .int l5)] [.int s0, .int s1, .ref (ad 1)] (MW (gk G) ad s sv tx cu ho mf) := by
  intro s0 s1 l2 l3 l4 l5 s hf
  unfold B_X3_puts_47 at hf
  obtain ⟨k1, h2, hf⟩ := gd_e hf
  obtain ⟨s3, e4, hf⟩ := nm_g hf
  refine z_iast (ws' := (MW (gk G) ad s3 sv tx cu ho mf)) 1 C dX3_puts_47 h2 rfl e4 rfl ?_
  obtain ⟨x5, e6, hf⟩ := nm_g hf
  refine z_iinc (ls' := [(5, _), (0, _), (2, _), (3, _), (4, _)]) 4 C dX3_puts_48 rfl kc_1 e6 (by decide) rfl ?_
  refine z_goto (tgt := 10) C dX3_puts_51 rfl ?_
  refine z_sub (ls' := [(0, .ref (ad 0)), (2, .int l2), (3, .int l3), (4, .int l4), (5, .int x5)]) [1, 2, 3, 4, 0] rfl ?_
  exact hK _ _ _ _ _ hf
set_option maxHeartbeats 400000 in
set_option maxRecDepth 100000 in
theorem tb_X3_puts_10 {G : GT} (ad : Nat → Nat) (sv : zA) (tx : zA) (cu : zA) (ho : zA) (mf : zA) {s' : zA} (C : zC G cX3_puts 6 RX3 none 1) (F : zF G none (MW (gk G) ad s' sv tx cu ho mf)) : ∀ (n : Nat) (l2 : Int32) (l3 : Int32) (l4 : Int32) (l5 : Int32) (s : zA), B_X3_puts_10 n l2 l3 l4 l5 s = some s' → zV G 6 10 [(0, .ref (ad 0)), (2, .int l2), (3, .int l3), (4, .int l4), (5, .int l5)] [] (MW (gk G) ad s sv tx cu ho mf) := by
  intro n
  induction n with
  | zero => intro _ _ _ _ _ hf; rw [B_X3_puts_10] at hf; cases hf
  | succ n ih =>
    intro l2 l3 l4 l5 s hf
    rw [B_X3_puts_10] at hf
    refine z_iload 4 C dX3_puts_10 rfl ?_
    refine z_bipush (v := 8) C dX3_puts_12 kb_8 ?_
    refine z_icmp_ge (tgt := 54) C dX3_puts_14 rfl (fun hc => ?_) (fun hc => ?_)
    · have hf := ifp hc hf
      cases hf
      exact z_vret C dX3_puts_54 F
    have hf := ifn hc hf
    refine z_aload_n 0 C dX3_puts_17 rfl ?_
    refine gf_X3_7 0 C dX3_puts_18 rfl rfl ?_
    refine z_iload 3 C dX3_puts_21 rfl ?_
    refine z_iload 4 C dX3_puts_23 rfl ?_
    refine z_iadd C dX3_puts_25 ?_
    refine z_iload 4 C dX3_puts_26 rfl ?_
    refine z_iconst (v := 1) C dX3_puts_28 kc_1 ?_
    refine z_icmp_ne (tgt := 36) C dX3_puts_29 rfl (fun hc => ?_) (fun hc => ?_)
    · have hf := ifn hc hf
      refine z_iload 4 C dX3_puts_36 rfl ?_
      refine z_iconst (v := 2) C dX3_puts_38 kc_2 ?_
      refine z_icmp_ne (tgt := 46) C dX3_puts_39 rfl (fun hc => ?_) (fun hc => ?_)
      · have hf := ifn hc hf
        refine z_iconst (v := 0) C dX3_puts_46 kc_0 ?_
        exact tb_X3_puts_47 ad sv tx cu ho mf C F _ ih _ _ _ _ _ _ _ hf
      have hf := ifp hc hf
      refine z_iload_n 2 C dX3_puts_42 rfl ?_
      refine z_goto (tgt := 47) C dX3_puts_43 rfl ?_
      exact tb_X3_puts_47 ad sv tx cu ho mf C F _ ih _ _ _ _ _ _ _ hf
    have hf := ifp hc hf
    refine z_iload_n 1 C dX3_puts_32 rfl ?_
    refine z_goto (tgt := 47) C dX3_puts_33 rfl ?_
    exact tb_X3_puts_47 ad sv tx cu ho mf C F _ ih _ _ _ _ _ _ _ hf
set_option maxHeartbeats 400000 in
set_option maxRecDepth 100000 in
theorem c_X3_puts {l : Launch} {D : va_G} {cs : ClassId × ClassId × ClassId} (ad : Nat → Nat) (a1 : Int32) (a2 : Int32) (a3 : Int32) (s : zA) (sv : zA) (tx : zA) (cu : zA) (ho : zA) (mf : zA) {s' : zA} (e : f_X3_puts a1 a2 a3 s = some s') : zMv l D cs yX3_puts cX3_puts 6 none 1 [.ref (ad 0), .int a1, .int a2, .int a3] (MW cs ad s sv tx cu ho mf) (MW cs ad s' sv tx cu ho mf) := by
  refine zMv_of (show plainName RX3 = true by decide +kernel) (Nat.le_of_ble_eq_true rfl) ?_
  rintro G rfl rfl rfl C F
  have hf := e
  clear e
  unfold f_X3_puts at hf
  show zV G 6 0 [(0, .ref (ad 0)), (1, .int a1), (2, .int a2), (3, .int a3)] [] (MW (gk G) ad s sv tx cu ho mf)
  refine z_iconst (v := 0) C dX3_puts_0 kc_0 ?_
  refine z_iload_n 1 C dX3_puts_1 rfl ?_
  obtain ⟨v1, e2, hf⟩ := b1_e hf
  refine z_callS (st := []) (ws2 := (MW (gk G) ad s sv tx cu ho mf)) [] C dX3_puts_2 w_X3_37 (c_X3_boardAt 0 a1 e2) (by decide) rfl rfl rfl  rfl rfl (Nat.le_of_ble_eq_true rfl) rfl ?_
  refine z_istore (ls' := [(4, _), (0, _), (1, _), (2, _), (3, _)]) C dX3_puts_5 (by decide) rfl ?_
  refine z_iconst (v := 1) C dX3_puts_7 kc_1 ?_
  refine z_istore (ls' := [(5, _), (4, _), (0, _), (1, _), (2, _), (3, _)]) C dX3_puts_8 (by decide) rfl ?_
  refine z_sub (ls' := [(0, .ref (ad 0)), (2, .int a2), (3, .int a3), (4, .int v1), (5, .int 1)]) [2, 4, 5, 1, 0] rfl ?_
  exact tb_X3_puts_10 ad sv tx cu ho mf C F _ _ _ _ _ _ hf
set_option maxHeartbeats 400000 in
set_option maxRecDepth 100000 in
theorem tb_X3_builds_29 {G : GT} (ad : Nat → Nat) (sv : zA) (tx : zA) (cu : zA) (ho : zA) (mf : zA) {v : Int32} {s' : zA} (C : zC G cX3_builds 5 RX3 (some .int) 2) (F : zF G (some (.int v)) (MW (gk G) ad s' sv tx cu ho mf)) : ∀ (s0 : Int32) (s1 : Int32) (l2 : Int32) (l3 : Int32) (l4 : Int32) (s : zA), B_X3_builds_29 s0 s1 l2 l3 l4 s = some (v, s') → zV G 5 29 [(0, .ref (ad 0)), (2, .int l2), (3, .int l3), (4, .int l4)] [.int s0, .int s1, .ref (ad 1)] (MW (gk G) ad s sv tx cu ho mf) := by
  intro s0 s1 l2 l3 l4 s hf
  unfold B_X3_builds_29 at hf
  obtain ⟨k1, h2, hf⟩ := gd_e hf
  obtain ⟨s3, e4, hf⟩ := nm_g hf
  refine z_iast (ws' := (MW (gk G) ad s3 sv tx cu ho mf)) 1 C dX3_builds_29 h2 rfl e4 rfl ?_
  refine z_aload_n 0 C dX3_builds_30 rfl ?_
  refine gf_X3_7 0 C dX3_builds_31 rfl rfl ?_
  refine z_iconst (v := 0) C dX3_builds_34 kc_0 ?_
  refine z_iload 3 C dX3_builds_35 rfl ?_
  obtain ⟨v5, e6, hf⟩ := b1_e hf
  refine z_callS (st := [.ref (ad 1)]) (ws2 := (MW (gk G) ad s3 sv tx cu ho mf)) [] C dX3_builds_37 w_X3_37 (c_X3_boardAt 0 l4 e6) (by decide) rfl rfl rfl  rfl rfl (Nat.le_of_ble_eq_true rfl) rfl ?_
  refine z_bipush (v := 8) C dX3_builds_40 kb_8 ?_
  refine z_iadd C dX3_builds_42 ?_
  refine z_iconst (v := 0) C dX3_builds_43 kc_0 ?_
  obtain ⟨k7, h8, hf⟩ := gd_e hf
  obtain ⟨s9, e10, hf⟩ := nm_g hf
  refine z_iast (ws' := (MW (gk G) ad s9 sv tx cu ho mf)) 1 C dX3_builds_44 h8 rfl e10 rfl ?_
  refine z_aload_n 0 C dX3_builds_45 rfl ?_
  refine z_iload 3 C dX3_builds_46 rfl ?_
  refine z_iload_n 1 C dX3_builds_48 rfl ?_
  refine z_iload_n 2 C dX3_builds_49 rfl ?_
  obtain ⟨s11, e12, hf⟩ := b1_e hf
  refine z_callVv (st := []) (ws2 := (MW (gk G) ad s11 sv tx cu ho mf)) [0, 1, 2, 3, 4, 5] C dX3_builds_50 w_X3_107 (c_X3_puts ad l4 l2 l3 s9 sv tx cu ho mf e12) (by decide) rfl rfl rfl rfl rfl rfl rfl (Nat.le_of_ble_eq_true rfl) rfl ?_
  refine z_aload_n 0 C dX3_builds_53 rfl ?_
  refine gf_X3_7 0 C dX3_builds_54 rfl rfl ?_
  refine z_iconst (v := 4) C dX3_builds_57 kc_4 ?_
  refine z_dup2 C dX3_builds_58 rfl rfl ?_
  refine z_iald 1 C dX3_builds_59 ix_4_1480 rfl ?_
  refine z_iconst (v := 1) C dX3_builds_60 kc_1 ?_
  refine z_iadd C dX3_builds_61 ?_
  obtain ⟨s13, e14, hf⟩ := nm_g hf
  refine z_iast (ws' := (MW (gk G) ad s13 sv tx cu ho mf)) 1 C dX3_builds_62 ix_4_1480 rfl e14 rfl ?_
  refine z_iload 3 C dX3_builds_63 rfl ?_
  cases hf
  exact z_iret C dX3_builds_65 F
set_option maxHeartbeats 400000 in
set_option maxRecDepth 100000 in
theorem c_X3_builds {l : Launch} {D : va_G} {cs : ClassId × ClassId × ClassId} (ad : Nat → Nat) (a1 : Int32) (a2 : Int32) (a3 : Int32) (s : zA) (sv : zA) (tx : zA) (cu : zA) (ho : zA) (mf : zA) {v : Int32} {s' : zA} (e : f_X3_builds a1 a2 a3 s = some (v, s')) : zM l D cs yX3_builds cX3_builds 5 (some .int) 2 [.ref (ad 0), .int a1, .int a2, .int a3] (MW cs ad s sv tx cu ho mf) v (MW cs ad s' sv tx cu ho mf) := by
  refine zM_of (show plainName RX3 = true by decide +kernel) (Nat.le_of_ble_eq_true rfl) ?_
  rintro G rfl rfl rfl C F
  have hf := e
  clear e
  unfold f_X3_builds at hf
  show zV G 5 0 [(0, .ref (ad 0)), (1, .int a1), (2, .int a2), (3, .int a3)] [] (MW (gk G) ad s sv tx cu ho mf)
  refine z_aload_n 0 C dX3_builds_0 rfl ?_
  refine gf_X3_7 0 C dX3_builds_1 rfl rfl ?_
  refine z_iconst (v := 4) C dX3_builds_4 kc_4 ?_
  refine z_iald 1 C dX3_builds_5 ix_4_1480 rfl ?_
  refine z_istore (ls' := [(4, _), (0, _), (1, _), (2, _), (3, _)]) C dX3_builds_6 (by decide) rfl ?_
  refine z_aload_n 1 C dX3_builds_8 rfl ?_
  refine gf_X3_7 0 C dX3_builds_9 rfl rfl ?_
  refine z_iconst (v := 0) C dX3_builds_12 kc_0 ?_
  refine z_iload 0 C dX3_builds_13 rfl ?_
  obtain ⟨v1, e2, hf⟩ := b1_e hf
  refine z_callS (st := [.ref (ad 1)]) (ws2 := (MW (gk G) ad s sv tx cu ho mf)) [] C dX3_builds_15 w_X3_37 (c_X3_boardAt 0 (s 4) e2) (by decide) rfl rfl rfl  rfl rfl (Nat.le_of_ble_eq_true rfl) rfl ?_
  refine z_iload 0 C dX3_builds_18 rfl ?_
  refine z_if_ne (tgt := 28) C dX3_builds_20 rfl (fun hc => ?_) (fun hc => ?_)
  · have hf := ifn hc hf
    refine z_iload_n 2 C dX3_builds_28 rfl ?_
    refine z_sub (ls' := [(0, .ref (ad 0)), (2, .int a2), (3, .int a3), (4, .int (s 4))]) [1, 3, 4, 0] rfl ?_
    exact tb_X3_builds_29 ad sv tx cu ho mf C F _ _ _ _ _ _ hf
  have hf := ifp hc hf
  refine z_bipush (v := -6) C dX3_builds_23 kb_m6 ?_
  refine z_goto (tgt := 29) C dX3_builds_25 rfl ?_
  refine z_sub (ls' := [(0, .ref (ad 0)), (2, .int a2), (3, .int a3), (4, .int (s 4))]) [1, 3, 4, 0] rfl ?_
  exact tb_X3_builds_29 ad sv tx cu ho mf C F _ _ _ _ _ _ hf
set_option maxHeartbeats 400000 in
set_option maxRecDepth 100000 in
theorem c_X3_connects {l : Launch} {D : va_G} {cs : ClassId × ClassId × ClassId} (ad : Nat → Nat) (a1 : Int32) (a2 : Int32) (s : zA) (sv : zA) (tx : zA) (cu : zA) (ho : zA) (mf : zA) {v : Int32} {s' : zA} (e : f_X3_connects a1 a2 s = some (v, s')) : zM l D cs yX3_connects cX3_connects 4 (some .int) 1 [.ref (ad 0), .int a1, .int a2] (MW cs ad s sv tx cu ho mf) v (MW cs ad s' sv tx cu ho mf) := by
  refine zM_of (show plainName RX3 = true by decide +kernel) (Nat.le_of_ble_eq_true rfl) ?_
  rintro G rfl rfl rfl C F
  have hf := e
  clear e
  unfold f_X3_connects at hf
  show zV G 4 0 [(0, .ref (ad 0)), (1, .int a1), (2, .int a2)] [] (MW (gk G) ad s sv tx cu ho mf)
  refine z_aload_n 0 C dX3_connects_0 rfl ?_
  refine gf_X3_7 0 C dX3_connects_1 rfl rfl ?_
  refine z_iconst (v := 5) C dX3_connects_4 kc_5 ?_
  refine z_iald 1 C dX3_connects_5 ix_5_1480 rfl ?_
  refine z_istore_n (ls' := [(3, _), (0, _), (1, _), (2, _)]) C dX3_connects_6 (by decide) rfl ?_
  refine z_aload_n 1 C dX3_connects_7 rfl ?_
  refine gf_X3_7 0 C dX3_connects_8 rfl rfl ?_
  refine z_iconst (v := 0) C dX3_connects_11 kc_0 ?_
  refine z_iload_n 0 C dX3_connects_12 rfl ?_
  obtain ⟨v1, e2, hf⟩ := b1_e hf
  refine z_callS (st := [.ref (ad 1)]) (ws2 := (MW (gk G) ad s sv tx cu ho mf)) [] C dX3_connects_13 w_X3_41 (c_X3_loadAt 0 (s 5) e2) (by decide) rfl rfl rfl  rfl rfl (Nat.le_of_ble_eq_true rfl) rfl ?_
  refine z_iload_n 2 C dX3_connects_16 rfl ?_
  obtain ⟨k3, h4, hf⟩ := gd_e hf
  obtain ⟨s5, e6, hf⟩ := nm_g hf
  refine z_iast (ws' := (MW (gk G) ad s5 sv tx cu ho mf)) 1 C dX3_connects_17 h4 rfl e6 rfl ?_
  refine z_aload_n 1 C dX3_connects_18 rfl ?_
  refine gf_X3_7 0 C dX3_connects_19 rfl rfl ?_
  refine z_iconst (v := 0) C dX3_connects_22 kc_0 ?_
  refine z_iload_n 0 C dX3_connects_23 rfl ?_
  obtain ⟨v7, e8, hf⟩ := b1_e hf
  refine z_callS (st := [.ref (ad 1)]) (ws2 := (MW (gk G) ad s5 sv tx cu ho mf)) [] C dX3_connects_24 w_X3_41 (c_X3_loadAt 0 (s 5) e8) (by decide) rfl rfl rfl  rfl rfl (Nat.le_of_ble_eq_true rfl) rfl ?_
  refine z_iconst (v := 1) C dX3_connects_27 kc_1 ?_
  refine z_iadd C dX3_connects_28 ?_
  refine z_iload_n 3 C dX3_connects_29 rfl ?_
  obtain ⟨k9, h10, hf⟩ := gd_e hf
  obtain ⟨s11, e12, hf⟩ := nm_g hf
  refine z_iast (ws' := (MW (gk G) ad s11 sv tx cu ho mf)) 1 C dX3_connects_30 h10 rfl e12 rfl ?_
  refine z_aload_n 1 C dX3_connects_31 rfl ?_
  refine gf_X3_7 0 C dX3_connects_32 rfl rfl ?_
  refine z_iconst (v := 0) C dX3_connects_35 kc_0 ?_
  refine z_iload_n 0 C dX3_connects_36 rfl ?_
  obtain ⟨v13, e14, hf⟩ := b1_e hf
  refine z_callS (st := [.ref (ad 1)]) (ws2 := (MW (gk G) ad s11 sv tx cu ho mf)) [] C dX3_connects_37 w_X3_41 (c_X3_loadAt 0 (s 5) e14) (by decide) rfl rfl rfl  rfl rfl (Nat.le_of_ble_eq_true rfl) rfl ?_
  refine z_iconst (v := 2) C dX3_connects_40 kc_2 ?_
  refine z_iadd C dX3_connects_41 ?_
  refine z_iconst (v := 0) C dX3_connects_42 kc_0 ?_
  obtain ⟨k15, h16, hf⟩ := gd_e hf
  obtain ⟨s17, e18, hf⟩ := nm_g hf
  refine z_iast (ws' := (MW (gk G) ad s17 sv tx cu ho mf)) 1 C dX3_connects_43 h16 rfl e18 rfl ?_
  refine z_aload_n 1 C dX3_connects_44 rfl ?_
  refine gf_X3_7 0 C dX3_connects_45 rfl rfl ?_
  refine z_iconst (v := 5) C dX3_connects_48 kc_5 ?_
  refine z_dup2 C dX3_connects_49 rfl rfl ?_
  refine z_iald 1 C dX3_connects_50 ix_5_1480 rfl ?_
  refine z_iconst (v := 1) C dX3_connects_51 kc_1 ?_
  refine z_iadd C dX3_connects_52 ?_
  obtain ⟨s19, e20, hf⟩ := nm_g hf
  refine z_iast (ws' := (MW (gk G) ad s19 sv tx cu ho mf)) 1 C dX3_connects_53 ix_5_1480 rfl e20 rfl ?_
  refine z_iload_n 0 C dX3_connects_54 rfl ?_
  cases hf
  exact z_iret C dX3_connects_55 F
set_option maxHeartbeats 400000 in
set_option maxRecDepth 100000 in
theorem c_X3_turns {l : Launch} {D : va_G} {cs : ClassId × ClassId × ClassId} (ad : Nat → Nat) (a1 : Int32) (s : zA) (sv : zA) (tx : zA) (cu : zA) (ho : zA) (mf : zA) {v : Int32} {s' : zA} (e : f_X3_turns a1 s = some (v, s')) : zM l D cs yX3_turns cX3_turns 2 (some .int) 1 [.ref (ad 0), .int a1] (MW cs ad s sv tx cu ho mf) v (MW cs ad s' sv tx cu ho mf) := by
  refine zM_of (show plainName RX3 = true by decide +kernel) (Nat.le_of_ble_eq_true rfl) ?_
  rintro G rfl rfl rfl C F
  have hf := e
  clear e
  unfold f_X3_turns at hf
  show zV G 2 0 [(0, .ref (ad 0)), (1, .int a1)] [] (MW (gk G) ad s sv tx cu ho mf)
  refine z_aload_n 0 C dX3_turns_0 rfl ?_
  refine gf_X3_7 0 C dX3_turns_1 rfl rfl ?_
  refine z_iconst (v := 0) C dX3_turns_4 kc_0 ?_
  refine z_iload_n 1 C dX3_turns_5 rfl ?_
  obtain ⟨v1, e2, hf⟩ := b1_e hf
  refine z_callS (st := [.ref (ad 1)]) (ws2 := (MW (gk G) ad s sv tx cu ho mf)) [] C dX3_turns_6 w_X3_41 (c_X3_loadAt 0 a1 e2) (by decide) rfl rfl rfl  rfl rfl (Nat.le_of_ble_eq_true rfl) rfl ?_
  refine z_iconst (v := 2) C dX3_turns_9 kc_2 ?_
  refine z_iadd C dX3_turns_10 ?_
  refine z_iconst (v := 1) C dX3_turns_11 kc_1 ?_
  refine z_aload_n 0 C dX3_turns_12 rfl ?_
  refine gf_X3_7 0 C dX3_turns_13 rfl rfl ?_
  refine z_iconst (v := 0) C dX3_turns_16 kc_0 ?_
  refine z_iload_n 1 C dX3_turns_17 rfl ?_
  obtain ⟨v3, e4, hf⟩ := b1_e hf
  refine z_callS (st := [.ref (ad 1), .int 1, .int (v1 + 2), .ref (ad 1)]) (ws2 := (MW (gk G) ad s sv tx cu ho mf)) [] C dX3_turns_18 w_X3_41 (c_X3_loadAt 0 a1 e4) (by decide) rfl rfl rfl  rfl rfl (Nat.le_of_ble_eq_true rfl) rfl ?_
  refine z_iconst (v := 2) C dX3_turns_21 kc_2 ?_
  refine z_iadd C dX3_turns_22 ?_
  obtain ⟨k5, h6, hf⟩ := gd_e hf
  refine z_iald 1 C dX3_turns_23 h6 rfl ?_
  refine z_isub C dX3_turns_24 ?_
  obtain ⟨k7, h8, hf⟩ := gd_e hf
  obtain ⟨s9, e10, hf⟩ := nm_g hf
  refine z_iast (ws' := (MW (gk G) ad s9 sv tx cu ho mf)) 1 C dX3_turns_25 h8 rfl e10 rfl ?_
  refine z_aload_n 0 C dX3_turns_26 rfl ?_
  refine gf_X3_7 0 C dX3_turns_27 rfl rfl ?_
  refine z_iconst (v := 0) C dX3_turns_30 kc_0 ?_
  refine z_iload_n 1 C dX3_turns_31 rfl ?_
  obtain ⟨v11, e12, hf⟩ := b1_e hf
  refine z_callS (st := [.ref (ad 1)]) (ws2 := (MW (gk G) ad s9 sv tx cu ho mf)) [] C dX3_turns_32 w_X3_41 (c_X3_loadAt 0 a1 e12) (by decide) rfl rfl rfl  rfl rfl (Nat.le_of_ble_eq_true rfl) rfl ?_
  refine z_iconst (v := 2) C dX3_turns_35 kc_2 ?_
  refine z_iadd C dX3_turns_36 ?_
  obtain ⟨k13, h14, hf⟩ := gd_e hf
  refine z_iald 1 C dX3_turns_37 h14 rfl ?_
  cases hf
  exact z_iret C dX3_turns_38 F
set_option maxHeartbeats 400000 in
set_option maxRecDepth 100000 in
theorem c_X3_fuses {l : Launch} {D : va_G} {cs : ClassId × ClassId × ClassId} (ad : Nat → Nat) (a1 : Int32) (a2 : Int32) (a3 : Int32) (s : zA) (sv : zA) (tx : zA) (cu : zA) (ho : zA) (mf : zA) {v : Int32} {s' : zA} (e : f_X3_fuses a1 a2 a3 s = some (v, s')) : zM l D cs yX3_fuses cX3_fuses 5 (some .int) 2 [.ref (ad 0), .int a1, .int a2, .int a3] (MW cs ad s sv tx cu ho mf) v (MW cs ad s' sv tx cu ho mf) := by
  refine zM_of (show plainName RX3 = true by decide +kernel) (Nat.le_of_ble_eq_true rfl) ?_
  rintro G rfl rfl rfl C F
  have hf := e
  clear e
  unfold f_X3_fuses at hf
  show zV G 5 0 [(0, .ref (ad 0)), (1, .int a1), (2, .int a2), (3, .int a3)] [] (MW (gk G) ad s sv tx cu ho mf)
  refine z_aload_n 0 C dX3_fuses_0 rfl ?_
  refine gf_X3_7 0 C dX3_fuses_1 rfl rfl ?_
  refine z_iconst (v := 0) C dX3_fuses_4 kc_0 ?_
  refine z_iload_n 1 C dX3_fuses_5 rfl ?_
  obtain ⟨v1, e2, hf⟩ := b1_e hf
  refine z_callS (st := [.ref (ad 1)]) (ws2 := (MW (gk G) ad s sv tx cu ho mf)) [] C dX3_fuses_6 w_X3_37 (c_X3_boardAt 0 a1 e2) (by decide) rfl rfl rfl  rfl rfl (Nat.le_of_ble_eq_true rfl) rfl ?_
  refine z_iconst (v := 1) C dX3_fuses_9 kc_1 ?_
  refine z_iadd C dX3_fuses_10 ?_
  obtain ⟨k3, h4, hf⟩ := gd_e hf
  refine z_iald 1 C dX3_fuses_11 h4 rfl ?_
  refine z_istore (ls' := [(4, _), (0, _), (1, _), (2, _), (3, _)]) C dX3_fuses_12 (by decide) rfl ?_
  refine z_aload_n 1 C dX3_fuses_14 rfl ?_
  refine z_iload_n 2 C dX3_fuses_15 rfl ?_
  refine z_iload_n 3 C dX3_fuses_16 rfl ?_
  refine z_iload_n 4 C dX3_fuses_17 rfl ?_
  obtain ⟨s5, e6, hf⟩ := b1_e hf
  refine z_callVv (st := []) (ws2 := (MW (gk G) ad s5 sv tx cu ho mf)) [0, 1, 2, 3, 4, 5] C dX3_fuses_18 w_X3_107 (c_X3_puts ad a1 a2 a3 s sv tx cu ho mf e6) (by decide) rfl rfl rfl rfl rfl rfl rfl (Nat.le_of_ble_eq_true rfl) rfl ?_
  refine z_iload 0 C dX3_fuses_21 rfl ?_
  cases hf
  exact z_iret C dX3_fuses_23 F
set_option maxHeartbeats 400000 in
set_option maxRecDepth 100000 in
theorem c_X3_isValue {l : Launch} {D : va_G} {cs : ClassId × ClassId × ClassId}  (a0 : Int32) (a1 : Int32)  {v : Int32}  (e : f_X3_isValue a0 a1 = some v) : zM l D cs yX3_isValue cX3_isValue 2 (some .boolean) 1 [.int a0, .int a1] ([] : va_W) v ([] : va_W) := by
  refine zM_of (show plainName RX3 = true by decide +kernel) (Nat.le_of_ble_eq_true rfl) ?_
  rintro G rfl rfl rfl C F
  have hf := e
  clear e
  unfold f_X3_isValue at hf
  show zV G 2 0 [(0, .int a0), (1, .int a1)] [] ([] : va_W)
  refine z_iload_n 0 C dX3_isValue_0 rfl ?_
  by_cases hs1 : a0 = 0
  · have hf := ifp hs1 hf
    refine z_tabIn (tgt := 28) C dX3_isValue_1 hs1 (by decide) (by decide) rfl rfl ?_
    refine z_iload_n 1 C dX3_isValue_28 rfl ?_
    refine z_i2l C dX3_isValue_29 ?_
    refine z_lconst (v := 0) C dX3_isValue_30 kl_0 ?_
    refine z_ldc2 C dX3_isValue_31 tw_94 ?_
    obtain ⟨v2, e3, hf⟩ := b1_e hf
    refine z_callS (st := []) (ws2 := ([] : va_W)) [] C dX3_isValue_34 w_X3_85 (c_X3_in (Int32.toInt64 a1) 0 9 e3) (by decide) rfl rfl rfl  rfl rfl (Nat.le_of_ble_eq_true rfl) rfl ?_
    obtain ⟨hn, hf⟩ := zbo_e hf
    cases hf
    exact z_zret C dX3_isValue_37 hn F
  have hf := ifn hs1 hf
  by_cases hs4 : a0 = 1
  · have hf := ifp hs4 hf
    refine z_tabIn (tgt := 38) C dX3_isValue_1 hs4 (by decide) (by decide) rfl rfl ?_
    refine z_iload_n 1 C dX3_isValue_38 rfl ?_
    refine z_i2l C dX3_isValue_39 ?_
    refine z_lconst (v := 1) C dX3_isValue_40 kl_1 ?_
    refine z_ldc2 C dX3_isValue_41 tw_94 ?_
    obtain ⟨v5, e6, hf⟩ := b1_e hf
    refine z_callS (st := []) (ws2 := ([] : va_W)) [] C dX3_isValue_44 w_X3_85 (c_X3_in (Int32.toInt64 a1) 1 9 e6) (by decide) rfl rfl rfl  rfl rfl (Nat.le_of_ble_eq_true rfl) rfl ?_
    obtain ⟨hn, hf⟩ := zbo_e hf
    cases hf
    exact z_zret C dX3_isValue_47 hn F
  have hf := ifn hs4 hf
  by_cases hs7 : a0 = 2
  · have hf := ifp hs7 hf
    refine z_tabIn (tgt := 48) C dX3_isValue_1 hs7 (by decide) (by decide) rfl rfl ?_
    refine z_iload_n 1 C dX3_isValue_48 rfl ?_
    refine z_i2l C dX3_isValue_49 ?_
    refine z_lconst (v := 1) C dX3_isValue_50 kl_1 ?_
    refine z_ldc2 C dX3_isValue_51 tw_95 ?_
    obtain ⟨v8, e9, hf⟩ := b1_e hf
    refine z_callS (st := []) (ws2 := ([] : va_W)) [] C dX3_isValue_54 w_X3_85 (c_X3_in (Int32.toInt64 a1) 1 50 e9) (by decide) rfl rfl rfl  rfl rfl (Nat.le_of_ble_eq_true rfl) rfl ?_
    obtain ⟨hn, hf⟩ := zbo_e hf
    cases hf
    exact z_zret C dX3_isValue_57 hn F
  have hf := ifn hs7 hf
  refine z_tabOut (tgt := 58) C dX3_isValue_1 (by have q0 := ti_ne (z := 0) (by decide) hs1; have q1 := ti_ne (z := 1) (by decide) hs4; have q2 := ti_ne (z := 2) (by decide) hs7; omega) rfl ?_
  refine z_iconst (v := 0) C dX3_isValue_58 kc_0 ?_
  cases hf
  exact z_zret C dX3_isValue_59 rfl F
set_option maxHeartbeats 400000 in
set_option maxRecDepth 100000 in
theorem c_X3_set {l : Launch} {D : va_G} {cs : ClassId × ClassId × ClassId} (ad : Nat → Nat) (a1 : Int32) (a2 : Int32) (s : zA) (sv : zA) (tx : zA) (cu : zA) (ho : zA) (mf : zA) {v : Int32} {s' : zA} {mf' : zA} (e : f_X3_set a1 a2 s mf = some (v, s', mf')) : zM l D cs yX3_set cX3_set 4 (some .int) 2 [.ref (ad 0), .int a1, .int a2] (MW cs ad s sv tx cu ho mf) v (MW cs ad s' sv tx cu ho mf') := by
  refine zM_of (show plainName RX3 = true by decide +kernel) (Nat.le_of_ble_eq_true rfl) ?_
  rintro G rfl rfl rfl C F
  have hf := e
  clear e
  unfold f_X3_set at hf
  show zV G 4 0 [(0, .ref (ad 0)), (1, .int a1), (2, .int a2)] [] (MW (gk G) ad s sv tx cu ho mf)
  refine z_iload_n 1 C dX3_set_0 rfl ?_
  refine z_iload_n 2 C dX3_set_1 rfl ?_
  obtain ⟨v1, e2, hf⟩ := b1_e hf
  refine z_callS (st := []) (ws2 := (MW (gk G) ad s sv tx cu ho mf)) [] C dX3_set_2 w_X3_115 (c_X3_isValue a1 a2 e2) (by decide) rfl rfl rfl  rfl rfl (Nat.le_of_ble_eq_true rfl) rfl ?_
  refine z_if_ne (tgt := 11) C dX3_set_5 rfl (fun hc => ?_) (fun hc => ?_)
  · have hf := ifn hc hf
    refine z_aload_n 0 C dX3_set_11 rfl ?_
    obtain ⟨s3, mf4, e5, hf⟩ := b2_e hf
    refine z_callVv (st := []) (ws2 := (MW (gk G) ad s3 sv tx cu ho mf4)) [0, 1, 2, 3, 4, 5] C dX3_set_12 w_X3_118 (c_X3_changes ad s sv tx cu ho mf e5) (by decide) rfl rfl rfl rfl rfl rfl rfl (Nat.le_of_ble_eq_true rfl) rfl ?_
    refine z_aload_n 0 C dX3_set_15 rfl ?_
    refine gf_X3_7 0 C dX3_set_16 rfl rfl ?_
    refine z_iload_n 1 C dX3_set_19 rfl ?_
    obtain ⟨k6, h7, hf⟩ := gd_e hf
    refine z_iald 1 C dX3_set_20 h7 rfl ?_
    refine z_istore_n (ls' := [(3, _), (0, _), (1, _), (2, _)]) C dX3_set_21 (by decide) rfl ?_
    refine z_aload_n 1 C dX3_set_22 rfl ?_
    refine gf_X3_7 0 C dX3_set_23 rfl rfl ?_
    refine z_iload_n 2 C dX3_set_26 rfl ?_
    refine z_iload_n 3 C dX3_set_27 rfl ?_
    obtain ⟨s8, e9, hf⟩ := nm_g hf
    refine z_iast (ws' := (MW (gk G) ad s8 sv tx cu ho mf4)) 1 C dX3_set_28 h7 rfl e9 rfl ?_
    refine z_iload_n 0 C dX3_set_29 rfl ?_
    cases hf
    exact z_iret C dX3_set_30 F
  have hf := ifp hc hf
  refine z_bipush (v := -2) C dX3_set_8 kb_m2 ?_
  cases hf
  exact z_iret C dX3_set_10 F
set_option maxHeartbeats 400000 in
set_option maxRecDepth 100000 in
theorem c_X3_board {l : Launch} {D : va_G} {cs : ClassId × ClassId × ClassId} (ad : Nat → Nat) (a1 : Int32) (a2 : Int32) (a3 : Int32) (s : zA) (sv : zA) (tx : zA) (cu : zA) (ho : zA) (mf : zA) {v : Int32} {s' : zA} {mf' : zA} (e : f_X3_board a1 a2 a3 s mf = some (v, s', mf')) : zM l D cs yX3_board cX3_board 5 (some .int) 3 [.ref (ad 0), .int a1, .int a2, .int a3] (MW cs ad s sv tx cu ho mf) v (MW cs ad s' sv tx cu ho mf') := by
  refine zM_of (show plainName RX3 = true by decide +kernel) (Nat.le_of_ble_eq_true rfl) ?_
  rintro G rfl rfl rfl C F
  have hf := e
  clear e
  unfold f_X3_board at hf
  show zV G 5 0 [(0, .ref (ad 0)), (1, .int a1), (2, .int a2), (3, .int a3)] [] (MW (gk G) ad s sv tx cu ho mf)
  refine z_aload_n 0 C dX3_board_0 rfl ?_
  refine z_iload_n 1 C dX3_board_1 rfl ?_
  refine z_iload_n 2 C dX3_board_2 rfl ?_
  refine z_iload_n 3 C dX3_board_3 rfl ?_
  obtain ⟨v1, e2, hf⟩ := b1_e hf
  refine z_callV (st := []) (ws2 := (MW (gk G) ad s sv tx cu ho mf)) [0, 1, 2, 3, 4, 5] C dX3_board_4 w_X3_121 (c_X3_boardError ad a1 a2 a3 s sv tx cu ho mf e2) (by decide) rfl rfl rfl rfl rfl rfl rfl (Nat.le_of_ble_eq_true rfl) rfl ?_
  refine z_istore (ls' := [(4, _), (0, _), (1, _), (2, _), (3, _)]) C dX3_board_7 (by decide) rfl ?_
  refine z_iload 0 C dX3_board_9 rfl ?_
  refine z_if_eq (tgt := 17) C dX3_board_11 rfl (fun hc => ?_) (fun hc => ?_)
  · have hf := ifp hc hf
    refine z_aload_n 1 C dX3_board_17 rfl ?_
    obtain ⟨s3, mf4, e5, hf⟩ := b2_e hf
    refine z_callVv (st := []) (ws2 := (MW (gk G) ad s3 sv tx cu ho mf4)) [0, 1, 2, 3, 4, 5] C dX3_board_18 w_X3_118 (c_X3_changes ad s sv tx cu ho mf e5) (by decide) rfl rfl rfl rfl rfl rfl rfl (Nat.le_of_ble_eq_true rfl) rfl ?_
    refine z_aload_n 1 C dX3_board_21 rfl ?_
    refine z_iload_n 2 C dX3_board_22 rfl ?_
    refine z_iload_n 3 C dX3_board_23 rfl ?_
    refine z_iload_n 4 C dX3_board_24 rfl ?_
    obtain ⟨v6, s7, e8, hf⟩ := b2_e hf
    refine z_callV (st := []) (ws2 := (MW (gk G) ad s7 sv tx cu ho mf4)) [0, 1, 2, 3, 4, 5] C dX3_board_25 w_X3_125 (c_X3_builds ad a1 a2 a3 s3 sv tx cu ho mf4 e8) (by decide) rfl rfl rfl rfl rfl rfl rfl (Nat.le_of_ble_eq_true rfl) rfl ?_
    cases hf
    exact z_iret C dX3_board_28 F
  have hf := ifn hc hf
  refine z_iload 0 C dX3_board_14 rfl ?_
  cases hf
  exact z_iret C dX3_board_16 F
set_option maxHeartbeats 400000 in
set_option maxRecDepth 100000 in
theorem c_X3_load {l : Launch} {D : va_G} {cs : ClassId × ClassId × ClassId} (ad : Nat → Nat) (a1 : Int32) (a2 : Int32) (s : zA) (sv : zA) (tx : zA) (cu : zA) (ho : zA) (mf : zA) {v : Int32} {s' : zA} {mf' : zA} (e : f_X3_load a1 a2 s mf = some (v, s', mf')) : zM l D cs yX3_load cX3_load 4 (some .int) 3 [.ref (ad 0), .int a1, .int a2] (MW cs ad s sv tx cu ho mf) v (MW cs ad s' sv tx cu ho mf') := by
  refine zM_of (show plainName RX3 = true by decide +kernel) (Nat.le_of_ble_eq_true rfl) ?_
  rintro G rfl rfl rfl C F
  have hf := e
  clear e
  unfold f_X3_load at hf
  show zV G 4 0 [(0, .ref (ad 0)), (1, .int a1), (2, .int a2)] [] (MW (gk G) ad s sv tx cu ho mf)
  refine z_aload_n 0 C dX3_load_0 rfl ?_
  refine z_iload_n 1 C dX3_load_1 rfl ?_
  refine z_iload_n 2 C dX3_load_2 rfl ?_
  obtain ⟨v1, e2, hf⟩ := b1_e hf
  refine z_callV (st := []) (ws2 := (MW (gk G) ad s sv tx cu ho mf)) [0, 1, 2, 3, 4, 5] C dX3_load_3 w_X3_128 (c_X3_loadError ad a1 a2 s sv tx cu ho mf e2) (by decide) rfl rfl rfl rfl rfl rfl rfl (Nat.le_of_ble_eq_true rfl) rfl ?_
  refine z_istore_n (ls' := [(3, _), (0, _), (1, _), (2, _)]) C dX3_load_6 (by decide) rfl ?_
  refine z_iload_n 0 C dX3_load_7 rfl ?_
  refine z_if_eq (tgt := 13) C dX3_load_8 rfl (fun hc => ?_) (fun hc => ?_)
  · have hf := ifp hc hf
    refine z_aload_n 1 C dX3_load_13 rfl ?_
    obtain ⟨s3, mf4, e5, hf⟩ := b2_e hf
    refine z_callVv (st := []) (ws2 := (MW (gk G) ad s3 sv tx cu ho mf4)) [0, 1, 2, 3, 4, 5] C dX3_load_14 w_X3_118 (c_X3_changes ad s sv tx cu ho mf e5) (by decide) rfl rfl rfl rfl rfl rfl rfl (Nat.le_of_ble_eq_true rfl) rfl ?_
    refine z_aload_n 1 C dX3_load_17 rfl ?_
    refine z_iload_n 2 C dX3_load_18 rfl ?_
    refine z_iload_n 3 C dX3_load_19 rfl ?_
    obtain ⟨v6, s7, e8, hf⟩ := b2_e hf
    refine z_callV (st := []) (ws2 := (MW (gk G) ad s7 sv tx cu ho mf4)) [0, 1, 2, 3, 4, 5] C dX3_load_20 w_X3_131 (c_X3_connects ad a1 a2 s3 sv tx cu ho mf4 e8) (by decide) rfl rfl rfl rfl rfl rfl rfl (Nat.le_of_ble_eq_true rfl) rfl ?_
    cases hf
    exact z_iret C dX3_load_23 F
  have hf := ifn hc hf
  refine z_iload_n 0 C dX3_load_11 rfl ?_
  cases hf
  exact z_iret C dX3_load_12 F
set_option maxHeartbeats 400000 in
set_option maxRecDepth 100000 in
theorem c_X3_turn {l : Launch} {D : va_G} {cs : ClassId × ClassId × ClassId} (ad : Nat → Nat) (a1 : Int32) (s : zA) (sv : zA) (tx : zA) (cu : zA) (ho : zA) (mf : zA) {v : Int32} {s' : zA} {mf' : zA} (e : f_X3_turn a1 s mf = some (v, s', mf')) : zM l D cs yX3_turn cX3_turn 3 (some .int) 3 [.ref (ad 0), .int a1] (MW cs ad s sv tx cu ho mf) v (MW cs ad s' sv tx cu ho mf') := by
  refine zM_of (show plainName RX3 = true by decide +kernel) (Nat.le_of_ble_eq_true rfl) ?_
  rintro G rfl rfl rfl C F
  have hf := e
  clear e
  unfold f_X3_turn at hf
  show zV G 3 0 [(0, .ref (ad 0)), (1, .int a1)] [] (MW (gk G) ad s sv tx cu ho mf)
  refine z_aload_n 0 C dX3_turn_0 rfl ?_
  refine z_iload_n 1 C dX3_turn_1 rfl ?_
  obtain ⟨v1, e2, hf⟩ := b1_e hf
  refine z_callV (st := []) (ws2 := (MW (gk G) ad s sv tx cu ho mf)) [0, 1, 2, 3, 4, 5] C dX3_turn_2 w_X3_134 (c_X3_turnError ad a1 s sv tx cu ho mf e2) (by decide) rfl rfl rfl rfl rfl rfl rfl (Nat.le_of_ble_eq_true rfl) rfl ?_
  refine z_istore_n (ls' := [(2, _), (0, _), (1, _)]) C dX3_turn_5 (by decide) rfl ?_
  refine z_iload_n 0 C dX3_turn_6 rfl ?_
  refine z_if_eq (tgt := 12) C dX3_turn_7 rfl (fun hc => ?_) (fun hc => ?_)
  · have hf := ifp hc hf
    refine z_aload_n 1 C dX3_turn_12 rfl ?_
    obtain ⟨s3, mf4, e5, hf⟩ := b2_e hf
    refine z_callVv (st := []) (ws2 := (MW (gk G) ad s3 sv tx cu ho mf4)) [0, 1, 2, 3, 4, 5] C dX3_turn_13 w_X3_118 (c_X3_changes ad s sv tx cu ho mf e5) (by decide) rfl rfl rfl rfl rfl rfl rfl (Nat.le_of_ble_eq_true rfl) rfl ?_
    refine z_aload_n 1 C dX3_turn_16 rfl ?_
    refine z_iload_n 2 C dX3_turn_17 rfl ?_
    obtain ⟨v6, s7, e8, hf⟩ := b2_e hf
    refine z_callV (st := []) (ws2 := (MW (gk G) ad s7 sv tx cu ho mf4)) [0, 1, 2, 3, 4, 5] C dX3_turn_18 w_X3_137 (c_X3_turns ad a1 s3 sv tx cu ho mf4 e8) (by decide) rfl rfl rfl rfl rfl rfl rfl (Nat.le_of_ble_eq_true rfl) rfl ?_
    cases hf
    exact z_iret C dX3_turn_21 F
  have hf := ifn hc hf
  refine z_iload_n 0 C dX3_turn_10 rfl ?_
  cases hf
  exact z_iret C dX3_turn_11 F
set_option maxHeartbeats 400000 in
set_option maxRecDepth 100000 in
theorem c_X3_fuse {l : Launch} {D : va_G} {cs : ClassId × ClassId × ClassId} (ad : Nat → Nat) (a1 : Int32) (a2 : Int32) (a3 : Int32) (s : zA) (sv : zA) (tx : zA) (cu : zA) (ho : zA) (mf : zA) {v : Int32} {s' : zA} {mf' : zA} (e : f_X3_fuse a1 a2 a3 s mf = some (v, s', mf')) : zM l D cs yX3_fuse cX3_fuse 5 (some .int) 3 [.ref (ad 0), .int a1, .int a2, .int a3] (MW cs ad s sv tx cu ho mf) v (MW cs ad s' sv tx cu ho mf') := by
  refine zM_of (show plainName RX3 = true by decide +kernel) (Nat.le_of_ble_eq_true rfl) ?_
  rintro G rfl rfl rfl C F
  have hf := e
  clear e
  unfold f_X3_fuse at hf
  show zV G 5 0 [(0, .ref (ad 0)), (1, .int a1), (2, .int a2), (3, .int a3)] [] (MW (gk G) ad s sv tx cu ho mf)
  refine z_aload_n 0 C dX3_fuse_0 rfl ?_
  refine z_iload_n 1 C dX3_fuse_1 rfl ?_
  refine z_iload_n 2 C dX3_fuse_2 rfl ?_
  refine z_iload_n 3 C dX3_fuse_3 rfl ?_
  obtain ⟨v1, e2, hf⟩ := b1_e hf
  refine z_callV (st := []) (ws2 := (MW (gk G) ad s sv tx cu ho mf)) [0, 1, 2, 3, 4, 5] C dX3_fuse_4 w_X3_140 (c_X3_fuseError ad a1 a2 a3 s sv tx cu ho mf e2) (by decide) rfl rfl rfl rfl rfl rfl rfl (Nat.le_of_ble_eq_true rfl) rfl ?_
  refine z_istore (ls' := [(4, _), (0, _), (1, _), (2, _), (3, _)]) C dX3_fuse_7 (by decide) rfl ?_
  refine z_iload 0 C dX3_fuse_9 rfl ?_
  refine z_if_eq (tgt := 17) C dX3_fuse_11 rfl (fun hc => ?_) (fun hc => ?_)
  · have hf := ifp hc hf
    refine z_aload_n 1 C dX3_fuse_17 rfl ?_
    obtain ⟨s3, mf4, e5, hf⟩ := b2_e hf
    refine z_callVv (st := []) (ws2 := (MW (gk G) ad s3 sv tx cu ho mf4)) [0, 1, 2, 3, 4, 5] C dX3_fuse_18 w_X3_118 (c_X3_changes ad s sv tx cu ho mf e5) (by decide) rfl rfl rfl rfl rfl rfl rfl (Nat.le_of_ble_eq_true rfl) rfl ?_
    refine z_aload_n 1 C dX3_fuse_21 rfl ?_
    refine z_iload_n 2 C dX3_fuse_22 rfl ?_
    refine z_iload_n 3 C dX3_fuse_23 rfl ?_
    refine z_iload_n 4 C dX3_fuse_24 rfl ?_
    obtain ⟨v6, s7, e8, hf⟩ := b2_e hf
    refine z_callV (st := []) (ws2 := (MW (gk G) ad s7 sv tx cu ho mf4)) [0, 1, 2, 3, 4, 5] C dX3_fuse_25 w_X3_143 (c_X3_fuses ad a1 a2 a3 s3 sv tx cu ho mf4 e8) (by decide) rfl rfl rfl rfl rfl rfl rfl (Nat.le_of_ble_eq_true rfl) rfl ?_
    cases hf
    exact z_iret C dX3_fuse_28 F
  have hf := ifn hc hf
  refine z_iload 0 C dX3_fuse_14 rfl ?_
  cases hf
  exact z_iret C dX3_fuse_16 F
set_option maxHeartbeats 400000 in
set_option maxRecDepth 100000 in
theorem c_X3_pass {l : Launch} {D : va_G} {cs : ClassId × ClassId × ClassId} (ad : Nat → Nat) (a1 : Int32) (s : zA) (sv : zA) (tx : zA) (cu : zA) (ho : zA) (mf : zA) {v : Int32} {s' : zA} {cu' : zA} {ho' : zA} {mf' : zA} (e : f_X3_pass a1 s cu ho mf = some (v, s', cu', ho', mf')) : zM l D cs yX3_pass cX3_pass 3 (some .int) 5 [.ref (ad 0), .int a1] (MW cs ad s sv tx cu ho mf) v (MW cs ad s' sv tx cu' ho' mf') := by
  refine zM_of (show plainName RX3 = true by decide +kernel) (Nat.le_of_ble_eq_true rfl) ?_
  rintro G rfl rfl rfl C F
  have hf := e
  clear e
  unfold f_X3_pass at hf
  show zV G 3 0 [(0, .ref (ad 0)), (1, .int a1)] [] (MW (gk G) ad s sv tx cu ho mf)
  refine z_aload_n 0 C dX3_pass_0 rfl ?_
  refine z_iload_n 1 C dX3_pass_1 rfl ?_
  obtain ⟨v1, e2, hf⟩ := b1_e hf
  refine z_callV (st := []) (ws2 := (MW (gk G) ad s sv tx cu ho mf)) [0, 1, 2, 3, 4, 5] C dX3_pass_2 w_X3_146 (c_X3_passError ad a1 s sv tx cu ho mf e2) (by decide) rfl rfl rfl rfl rfl rfl rfl (Nat.le_of_ble_eq_true rfl) rfl ?_
  refine z_istore_n (ls' := [(2, _), (0, _), (1, _)]) C dX3_pass_5 (by decide) rfl ?_
  refine z_iload_n 0 C dX3_pass_6 rfl ?_
  refine z_if_eq (tgt := 12) C dX3_pass_7 rfl (fun hc => ?_) (fun hc => ?_)
  · have hf := ifp hc hf
    refine z_aload_n 1 C dX3_pass_12 rfl ?_
    obtain ⟨s3, mf4, e5, hf⟩ := b2_e hf
    refine z_callVv (st := []) (ws2 := (MW (gk G) ad s3 sv tx cu ho mf4)) [0, 1, 2, 3, 4, 5] C dX3_pass_13 w_X3_118 (c_X3_changes ad s sv tx cu ho mf e5) (by decide) rfl rfl rfl rfl rfl rfl rfl (Nat.le_of_ble_eq_true rfl) rfl ?_
    refine z_aload_n 1 C dX3_pass_16 rfl ?_
    refine z_iconst (v := 0) C dX3_pass_17 kc_0 ?_
    refine z_iload_n 2 C dX3_pass_18 rfl ?_
    obtain ⟨v6, s7, cu8, ho9, e10, hf⟩ := b4_e hf
    refine z_callV (st := []) (ws2 := (MW (gk G) ad s7 sv tx cu8 ho9 mf4)) [0, 1, 2, 3, 4, 5] C dX3_pass_19 w_X3_149 (c_X3_ticks ad 0 a1 s3 sv tx cu ho mf4 e10) (by decide) rfl rfl rfl rfl rfl rfl rfl (Nat.le_of_ble_eq_true rfl) rfl ?_
    cases hf
    exact z_iret C dX3_pass_22 F
  have hf := ifn hc hf
  refine z_iload_n 0 C dX3_pass_10 rfl ?_
  cases hf
  exact z_iret C dX3_pass_11 F
set_option maxHeartbeats 400000 in
set_option maxRecDepth 100000 in
theorem tb_X3_depth_4 {G : GT} (ad : Nat → Nat) (s : zA) (sv : zA) (tx : zA) (cu : zA) (ho : zA) (mf : zA) {v : Int32}  (C : zC G cX3_depth 4 RX3 (some .int) 1) (F : zF G (some (.int v)) (MW (gk G) ad s sv tx cu ho mf)) : ∀ (n : Nat) (l2 : Int32) (l3 : Int32), B_X3_depth_4 n l2 l3 s = some v → zV G 4 4 [(0, .ref (ad 0)), (2, .int l2), (3, .int l3)] [] (MW (gk G) ad s sv tx cu ho mf) := by
  intro n
  induction n with
  | zero => intro _ _ hf; rw [B_X3_depth_4] at hf; cases hf
  | succ n ih =>
    intro l2 l3 hf
    rw [B_X3_depth_4] at hf
    refine z_iload_n 2 C dX3_depth_4 rfl ?_
    refine z_bipush (v := -6) C dX3_depth_5 kb_m6 ?_
    refine z_icmp_eq (tgt := 27) C dX3_depth_7 rfl (fun hc => ?_) (fun hc => ?_)
    · have hf := ifp hc hf
      refine z_iload_n 1 C dX3_depth_27 rfl ?_
      cases hf
      exact z_iret C dX3_depth_28 F
    have hf := ifn hc hf
    obtain ⟨x1, e2, hf⟩ := nm_g hf
    refine z_iinc (ls' := [(2, _), (0, _), (3, _)]) 1 C dX3_depth_10 rfl kc_1 e2 (by decide) rfl ?_
    refine z_aload_n 1 C dX3_depth_13 rfl ?_
    refine gf_X3_7 0 C dX3_depth_14 rfl rfl ?_
    refine z_iconst (v := 0) C dX3_depth_17 kc_0 ?_
    refine z_iload_n 2 C dX3_depth_18 rfl ?_
    obtain ⟨v3, e4, hf⟩ := b1_e hf
    refine z_callS (st := [.ref (ad 1)]) (ws2 := (MW (gk G) ad s sv tx cu ho mf)) [] C dX3_depth_19 w_X3_37 (c_X3_boardAt 0 l3 e4) (by decide) rfl rfl rfl  rfl rfl (Nat.le_of_ble_eq_true rfl) rfl ?_
    obtain ⟨k5, h6, hf⟩ := gd_e hf
    refine z_iald 1 C dX3_depth_22 h6 rfl ?_
    refine z_istore_n (ls' := [(3, _), (2, _), (0, _)]) C dX3_depth_23 (by decide) rfl ?_
    refine z_goto (tgt := 4) C dX3_depth_24 rfl ?_
    refine z_sub (ls' := [(0, .ref (ad 0)), (2, .int x1), (3, .int (s k5))]) [2, 1, 0] rfl ?_
    exact ih _ _ hf
set_option maxHeartbeats 400000 in
set_option maxRecDepth 100000 in
theorem c_X3_depth {l : Launch} {D : va_G} {cs : ClassId × ClassId × ClassId} (ad : Nat → Nat) (a1 : Int32) (s : zA) (sv : zA) (tx : zA) (cu : zA) (ho : zA) (mf : zA) {v : Int32}  (e : f_X3_depth a1 s = some v) : zM l D cs yX3_depth cX3_depth 4 (some .int) 1 [.ref (ad 0), .int a1] (MW cs ad s sv tx cu ho mf) v (MW cs ad s sv tx cu ho mf) := by
  refine zM_of (show plainName RX3 = true by decide +kernel) (Nat.le_of_ble_eq_true rfl) ?_
  rintro G rfl rfl rfl C F
  have hf := e
  clear e
  unfold f_X3_depth at hf
  show zV G 4 0 [(0, .ref (ad 0)), (1, .int a1)] [] (MW (gk G) ad s sv tx cu ho mf)
  refine z_iconst (v := -1) C dX3_depth_0 kc_m1 ?_
  refine z_istore_n (ls' := [(2, _), (0, _), (1, _)]) C dX3_depth_1 (by decide) rfl ?_
  refine z_iload_n 2 C dX3_depth_2 rfl ?_
  refine z_istore_n (ls' := [(3, _), (2, _), (0, _), (1, _)]) C dX3_depth_3 (by decide) rfl ?_
  refine z_sub (ls' := [(0, .ref (ad 0)), (2, .int (-1)), (3, .int a1)]) [2, 1, 0] rfl ?_
  exact tb_X3_depth_4 ad s sv tx cu ho mf C F _ _ _ hf
set_option maxHeartbeats 400000 in
set_option maxRecDepth 100000 in
theorem c_X3_of {l : Launch} {D : va_G} {cs : ClassId × ClassId × ClassId} (ad : Nat → Nat) (a1 : Int32) (a2 : Int32) (s : zA) (sv : zA) (tx : zA) (cu : zA) (ho : zA) (mf : zA) {v : Int32}  (e : f_X3_of a1 a2 s mf = some v) : zM l D cs yX3_of cX3_of 4 (some .int) 3 [.ref (ad 0), .int a1, .int a2] (MW cs ad s sv tx cu ho mf) v (MW cs ad s sv tx cu ho mf) := by
  refine zM_of (show plainName RX3 = true by decide +kernel) (Nat.le_of_ble_eq_true rfl) ?_
  rintro G rfl rfl rfl C F
  have hf := e
  clear e
  unfold f_X3_of at hf
  show zV G 4 0 [(0, .ref (ad 0)), (1, .int a1), (2, .int a2)] [] (MW (gk G) ad s sv tx cu ho mf)
  refine z_aload_n 0 C dX3_of_0 rfl ?_
  refine z_iload_n 1 C dX3_of_1 rfl ?_
  obtain ⟨v1, e2, hf⟩ := b1_e hf
  refine z_callV (st := []) (ws2 := (MW (gk G) ad s sv tx cu ho mf)) [0, 1, 2, 3, 4, 5] C dX3_of_2 w_X3_93 (c_X3_isBoard ad a1 s sv tx cu ho mf e2) (by decide) rfl rfl rfl rfl rfl rfl rfl (Nat.le_of_ble_eq_true rfl) rfl ?_
  refine z_if_ne (tgt := 10) C dX3_of_5 rfl (fun hc => ?_) (fun hc => ?_)
  · have hf := ifn hc hf
    refine z_iconst (v := 0) C dX3_of_10 kc_0 ?_
    refine z_iload_n 1 C dX3_of_11 rfl ?_
    obtain ⟨v3, e4, hf⟩ := b1_e hf
    refine z_callS (st := []) (ws2 := (MW (gk G) ad s sv tx cu ho mf)) [] C dX3_of_12 w_X3_37 (c_X3_boardAt 0 a1 e4) (by decide) rfl rfl rfl  rfl rfl (Nat.le_of_ble_eq_true rfl) rfl ?_
    refine z_istore_n (ls' := [(3, _), (0, _), (1, _), (2, _)]) C dX3_of_15 (by decide) rfl ?_
    refine z_iload_n 3 C dX3_of_16 rfl ?_
    by_cases hs5 : a2 = 0
    · have hf := ifp hs5 hf
      refine z_tabIn (tgt := 80) C dX3_of_17 hs5 (by decide) (by decide) rfl rfl ?_
      refine z_aload_n 1 C dX3_of_80 rfl ?_
      refine gf_X3_7 0 C dX3_of_81 rfl rfl ?_
      refine z_iload_n 0 C dX3_of_84 rfl ?_
      refine z_iload_n 3 C dX3_of_85 rfl ?_
      refine z_iadd C dX3_of_86 ?_
      obtain ⟨k6, h7, hf⟩ := gd_e hf
      refine z_iald 1 C dX3_of_87 h7 rfl ?_
      cases hf
      exact z_iret C dX3_of_88 F
    have hf := ifn hs5 hf
    by_cases hs8 : a2 = 1
    · have hf := ifp hs8 hf
      refine z_tabIn (tgt := 80) C dX3_of_17 hs8 (by decide) (by decide) rfl rfl ?_
      refine z_aload_n 1 C dX3_of_80 rfl ?_
      refine gf_X3_7 0 C dX3_of_81 rfl rfl ?_
      refine z_iload_n 0 C dX3_of_84 rfl ?_
      refine z_iload_n 3 C dX3_of_85 rfl ?_
      refine z_iadd C dX3_of_86 ?_
      obtain ⟨k9, h10, hf⟩ := gd_e hf
      refine z_iald 1 C dX3_of_87 h10 rfl ?_
      cases hf
      exact z_iret C dX3_of_88 F
    have hf := ifn hs8 hf
    by_cases hs11 : a2 = 2
    · have hf := ifp hs11 hf
      refine z_tabIn (tgt := 80) C dX3_of_17 hs11 (by decide) (by decide) rfl rfl ?_
      refine z_aload_n 1 C dX3_of_80 rfl ?_
      refine gf_X3_7 0 C dX3_of_81 rfl rfl ?_
      refine z_iload_n 0 C dX3_of_84 rfl ?_
      refine z_iload_n 3 C dX3_of_85 rfl ?_
      refine z_iadd C dX3_of_86 ?_
      obtain ⟨k12, h13, hf⟩ := gd_e hf
      refine z_iald 1 C dX3_of_87 h13 rfl ?_
      cases hf
      exact z_iret C dX3_of_88 F
    have hf := ifn hs11 hf
    by_cases hs14 : a2 = 3
    · have hf := ifp hs14 hf
      refine z_tabIn (tgt := 80) C dX3_of_17 hs14 (by decide) (by decide) rfl rfl ?_
      refine z_aload_n 1 C dX3_of_80 rfl ?_
      refine gf_X3_7 0 C dX3_of_81 rfl rfl ?_
      refine z_iload_n 0 C dX3_of_84 rfl ?_
      refine z_iload_n 3 C dX3_of_85 rfl ?_
      refine z_iadd C dX3_of_86 ?_
      obtain ⟨k15, h16, hf⟩ := gd_e hf
      refine z_iald 1 C dX3_of_87 h16 rfl ?_
      cases hf
      exact z_iret C dX3_of_88 F
    have hf := ifn hs14 hf
    by_cases hs17 : a2 = 4
    · have hf := ifp hs17 hf
      refine z_tabIn (tgt := 89) C dX3_of_17 hs17 (by decide) (by decide) rfl rfl ?_
      refine z_aload_n 1 C dX3_of_89 rfl ?_
      refine z_iconst (v := 0) C dX3_of_90 kc_0 ?_
      refine z_iload_n 2 C dX3_of_91 rfl ?_
      obtain ⟨v18, e19, hf⟩ := b1_e hf
      refine z_callV (st := []) (ws2 := (MW (gk G) ad s sv tx cu ho mf)) [0, 1, 2, 3, 4, 5] C dX3_of_92 w_X3_60 (c_X3_current ad 0 a1 s sv tx cu ho mf e19) (by decide) rfl rfl rfl rfl rfl rfl rfl (Nat.le_of_ble_eq_true rfl) rfl ?_
      cases hf
      exact z_iret C dX3_of_95 F
    have hf := ifn hs17 hf
    by_cases hs20 : a2 = 5
    · have hf := ifp hs20 hf
      refine z_tabIn (tgt := 96) C dX3_of_17 hs20 (by decide) (by decide) rfl rfl ?_
      refine z_aload_n 1 C dX3_of_96 rfl ?_
      refine gf_X3_7 0 C dX3_of_97 rfl rfl ?_
      refine z_iload_n 0 C dX3_of_100 rfl ?_
      refine z_iconst (v := 4) C dX3_of_101 kc_4 ?_
      refine z_iadd C dX3_of_102 ?_
      obtain ⟨k21, h22, hf⟩ := gd_e hf
      refine z_iald 1 C dX3_of_103 h22 rfl ?_
      cases hf
      exact z_iret C dX3_of_104 F
    have hf := ifn hs20 hf
    by_cases hs23 : a2 = 6
    · have hf := ifp hs23 hf
      refine z_tabIn (tgt := 105) C dX3_of_17 hs23 (by decide) (by decide) rfl rfl ?_
      refine z_aload_n 1 C dX3_of_105 rfl ?_
      refine z_iconst (v := 0) C dX3_of_106 kc_0 ?_
      refine z_iload_n 2 C dX3_of_107 rfl ?_
      obtain ⟨v24, e25, hf⟩ := b1_e hf
      refine z_callV (st := []) (ws2 := (MW (gk G) ad s sv tx cu ho mf)) [0, 1, 2, 3, 4, 5] C dX3_of_108 w_X3_69 (c_X3_meltingHeat ad 0 a1 s sv tx cu ho mf e25) (by decide) rfl rfl rfl rfl rfl rfl rfl (Nat.le_of_ble_eq_true rfl) rfl ?_
      cases hf
      exact z_iret C dX3_of_111 F
    have hf := ifn hs23 hf
    by_cases hs26 : a2 = 7
    · have hf := ifp hs26 hf
      refine z_tabIn (tgt := 112) C dX3_of_17 hs26 (by decide) (by decide) rfl rfl ?_
      refine z_aload_n 1 C dX3_of_112 rfl ?_
      refine gf_X3_7 0 C dX3_of_113 rfl rfl ?_
      refine z_iload_n 0 C dX3_of_116 rfl ?_
      refine z_iconst (v := 5) C dX3_of_117 kc_5 ?_
      refine z_iadd C dX3_of_118 ?_
      obtain ⟨k27, h28, hf⟩ := gd_e hf
      refine z_iald 1 C dX3_of_119 h28 rfl ?_
      cases hf
      exact z_iret C dX3_of_120 F
    have hf := ifn hs26 hf
    by_cases hs29 : a2 = 8
    · have hf := ifp hs29 hf
      refine z_tabIn (tgt := 121) C dX3_of_17 hs29 (by decide) (by decide) rfl rfl ?_
      refine z_aload_n 1 C dX3_of_121 rfl ?_
      refine z_iconst (v := 0) C dX3_of_122 kc_0 ?_
      refine z_iload_n 2 C dX3_of_123 rfl ?_
      obtain ⟨v30, e31, hf⟩ := b1_e hf
      refine z_callV (st := []) (ws2 := (MW (gk G) ad s sv tx cu ho mf)) [0, 1, 2, 3, 4, 5] C dX3_of_124 w_X3_48 (c_X3_isDead ad 0 a1 s sv tx cu ho mf e31) (by decide) rfl rfl rfl rfl rfl rfl rfl (Nat.le_of_ble_eq_true rfl) rfl ?_
      obtain ⟨v32, e33, hf⟩ := b1_e hf
      refine z_callS (st := []) (ws2 := (MW (gk G) ad s sv tx cu ho mf)) [] C dX3_of_127 w_X3_56 (c_X3_flag v30 e33) (by decide) rfl rfl rfl  rfl rfl (Nat.le_of_ble_eq_true rfl) rfl ?_
      cases hf
      exact z_iret C dX3_of_130 F
    have hf := ifn hs29 hf
    by_cases hs34 : a2 = 9
    · have hf := ifp hs34 hf
      refine z_tabIn (tgt := 131) C dX3_of_17 hs34 (by decide) (by decide) rfl rfl ?_
      refine z_aload_n 1 C dX3_of_131 rfl ?_
      refine z_iload_n 2 C dX3_of_132 rfl ?_
      obtain ⟨v35, e36, hf⟩ := b1_e hf
      refine z_callV (st := []) (ws2 := (MW (gk G) ad s sv tx cu ho mf)) [0, 1, 2, 3, 4, 5] C dX3_of_133 w_X3_152 (c_X3_depth ad a1 s sv tx cu ho mf e36) (by decide) rfl rfl rfl rfl rfl rfl rfl (Nat.le_of_ble_eq_true rfl) rfl ?_
      cases hf
      exact z_iret C dX3_of_136 F
    have hf := ifn hs34 hf
    by_cases hs37 : a2 = 10
    · have hf := ifp hs37 hf
      refine z_tabIn (tgt := 137) C dX3_of_17 hs37 (by decide) (by decide) rfl rfl ?_
      refine z_aload_n 1 C dX3_of_137 rfl ?_
      refine gf_X3_7 0 C dX3_of_138 rfl rfl ?_
      refine z_iload_n 0 C dX3_of_141 rfl ?_
      refine z_bipush (v := 7) C dX3_of_142 kb_7 ?_
      refine z_iadd C dX3_of_144 ?_
      obtain ⟨k38, h39, hf⟩ := gd_e hf
      refine z_iald 1 C dX3_of_145 h39 rfl ?_
      cases hf
      exact z_iret C dX3_of_146 F
    have hf := ifn hs37 hf
    by_cases hs40 : a2 = 11
    · have hf := ifp hs40 hf
      refine z_tabIn (tgt := 147) C dX3_of_17 hs40 (by decide) (by decide) rfl rfl ?_
      refine z_aload_n 1 C dX3_of_147 rfl ?_
      refine gf_X3_7 0 C dX3_of_148 rfl rfl ?_
      refine z_iload_n 0 C dX3_of_151 rfl ?_
      refine z_bipush (v := 8) C dX3_of_152 kb_8 ?_
      refine z_iadd C dX3_of_154 ?_
      obtain ⟨k41, h42, hf⟩ := gd_e hf
      refine z_iald 1 C dX3_of_155 h42 rfl ?_
      cases hf
      exact z_iret C dX3_of_156 F
    have hf := ifn hs40 hf
    refine z_tabOut (tgt := 157) C dX3_of_17 (by have q0 := ti_ne (z := 0) (by decide) hs5; have q1 := ti_ne (z := 1) (by decide) hs8; have q2 := ti_ne (z := 2) (by decide) hs11; have q3 := ti_ne (z := 3) (by decide) hs14; have q4 := ti_ne (z := 4) (by decide) hs17; have q5 := ti_ne (z := 5) (by decide) hs20; have q6 := ti_ne (z := 6) (by decide) hs23; have q7 := ti_ne (z := 7) (by decide) hs26; have q8 := ti_ne (z := 8) (by decide) hs29; have q9 := ti_ne (z := 9) (by decide) hs34; have q10 := ti_ne (z := 10) (by decide) hs37; have q11 := ti_ne (z := 11) (by decide) hs40; omega) rfl ?_
    refine z_bipush (v := -2) C dX3_of_157 kb_m2 ?_
    cases hf
    exact z_iret C dX3_of_159 F
  have hf := ifp hc hf
  refine z_iconst (v := -1) C dX3_of_8 kc_m1 ?_
  cases hf
  exact z_iret C dX3_of_9 F
set_option maxHeartbeats 400000 in
set_option maxRecDepth 100000 in
theorem c_X3_works {l : Launch} {D : va_G} {cs : ClassId × ClassId × ClassId} (ad : Nat → Nat) (a1 : Int32) (s : zA) (sv : zA) (tx : zA) (cu : zA) (ho : zA) (mf : zA) {v : Int32}  (e : f_X3_works a1 s = some v) : zM l D cs yX3_works cX3_works 2 (some .boolean) 2 [.ref (ad 0), .int a1] (MW cs ad s sv tx cu ho mf) v (MW cs ad s sv tx cu ho mf) := by
  refine zM_of (show plainName RX3 = true by decide +kernel) (Nat.le_of_ble_eq_true rfl) ?_
  rintro G rfl rfl rfl C F
  have hf := e
  clear e
  unfold f_X3_works at hf
  show zV G 2 0 [(0, .ref (ad 0)), (1, .int a1)] [] (MW (gk G) ad s sv tx cu ho mf)
  refine z_aload_n 0 C dX3_works_0 rfl ?_
  refine gf_X3_7 0 C dX3_works_1 rfl rfl ?_
  refine z_iconst (v := 0) C dX3_works_4 kc_0 ?_
  refine z_iload_n 1 C dX3_works_5 rfl ?_
  obtain ⟨v1, e2, hf⟩ := b1_e hf
  refine z_callS (st := [.ref (ad 1)]) (ws2 := (MW (gk G) ad s sv tx cu ho mf)) [] C dX3_works_6 w_X3_41 (c_X3_loadAt 0 a1 e2) (by decide) rfl rfl rfl  rfl rfl (Nat.le_of_ble_eq_true rfl) rfl ?_
  refine z_iconst (v := 2) C dX3_works_9 kc_2 ?_
  refine z_iadd C dX3_works_10 ?_
  obtain ⟨k3, h4, hf⟩ := gd_e hf
  refine z_iald 1 C dX3_works_11 h4 rfl ?_
  refine z_iconst (v := 1) C dX3_works_12 kc_1 ?_
  refine z_icmp_ne (tgt := 38) C dX3_works_13 rfl (fun hc => ?_) (fun hc => ?_)
  · have hf := ifn hc hf
    refine z_iconst (v := 0) C dX3_works_38 kc_0 ?_
    cases hf
    exact z_zret C dX3_works_39 rfl F
  have hf := ifp hc hf
  refine z_aload_n 0 C dX3_works_16 rfl ?_
  refine z_iconst (v := 0) C dX3_works_17 kc_0 ?_
  refine z_aload_n 0 C dX3_works_18 rfl ?_
  refine gf_X3_7 0 C dX3_works_19 rfl rfl ?_
  refine z_iconst (v := 0) C dX3_works_22 kc_0 ?_
  refine z_iload_n 1 C dX3_works_23 rfl ?_
  obtain ⟨v5, e6, hf⟩ := b1_e hf
  refine z_callS (st := [.ref (ad 1), .int 0, .ref (ad 0)]) (ws2 := (MW (gk G) ad s sv tx cu ho mf)) [] C dX3_works_24 w_X3_41 (c_X3_loadAt 0 a1 e6) (by decide) rfl rfl rfl  rfl rfl (Nat.le_of_ble_eq_true rfl) rfl ?_
  obtain ⟨k7, h8, hf⟩ := gd_e hf
  refine z_iald 1 C dX3_works_27 h8 rfl ?_
  obtain ⟨v9, e10, hf⟩ := b1_e hf
  refine z_callV (st := []) (ws2 := (MW (gk G) ad s sv tx cu ho mf)) [0, 1, 2, 3, 4, 5] C dX3_works_28 w_X3_48 (c_X3_isDead ad 0 (s k7) s sv tx cu ho mf e10) (by decide) rfl rfl rfl rfl rfl rfl rfl (Nat.le_of_ble_eq_true rfl) rfl ?_
  refine z_if_ne (tgt := 38) C dX3_works_31 rfl (fun hc => ?_) (fun hc => ?_)
  · have hf := ifn hc hf
    refine z_iconst (v := 0) C dX3_works_38 kc_0 ?_
    cases hf
    exact z_zret C dX3_works_39 rfl F
  have hf := ifp hc hf
  refine z_iconst (v := 1) C dX3_works_34 kc_1 ?_
  refine z_goto (tgt := 39) C dX3_works_35 rfl ?_
  cases hf
  exact z_zret C dX3_works_39 rfl F
set_option maxHeartbeats 400000 in
set_option maxRecDepth 100000 in
theorem c_X3_ofLoad {l : Launch} {D : va_G} {cs : ClassId × ClassId × ClassId} (ad : Nat → Nat) (a1 : Int32) (a2 : Int32) (s : zA) (sv : zA) (tx : zA) (cu : zA) (ho : zA) (mf : zA) {v : Int32}  (e : f_X3_ofLoad a1 a2 s = some v) : zM l D cs yX3_ofLoad cX3_ofLoad 3 (some .int) 3 [.ref (ad 0), .int a1, .int a2] (MW cs ad s sv tx cu ho mf) v (MW cs ad s sv tx cu ho mf) := by
  refine zM_of (show plainName RX3 = true by decide +kernel) (Nat.le_of_ble_eq_true rfl) ?_
  rintro G rfl rfl rfl C F
  have hf := e
  clear e
  unfold f_X3_ofLoad at hf
  show zV G 3 0 [(0, .ref (ad 0)), (1, .int a1), (2, .int a2)] [] (MW (gk G) ad s sv tx cu ho mf)
  refine z_aload_n 0 C dX3_ofLoad_0 rfl ?_
  refine z_iload_n 1 C dX3_ofLoad_1 rfl ?_
  obtain ⟨v1, e2, hf⟩ := b1_e hf
  refine z_callV (st := []) (ws2 := (MW (gk G) ad s sv tx cu ho mf)) [0, 1, 2, 3, 4, 5] C dX3_ofLoad_2 w_X3_102 (c_X3_isLoad ad a1 s sv tx cu ho mf e2) (by decide) rfl rfl rfl rfl rfl rfl rfl (Nat.le_of_ble_eq_true rfl) rfl ?_
  refine z_if_ne (tgt := 10) C dX3_ofLoad_5 rfl (fun hc => ?_) (fun hc => ?_)
  · have hf := ifn hc hf
    refine z_iload_n 2 C dX3_ofLoad_10 rfl ?_
    refine z_i2l C dX3_ofLoad_11 ?_
    refine z_lconst (v := 0) C dX3_ofLoad_12 kl_0 ?_
    refine z_ldc2 C dX3_ofLoad_13 tw_143 ?_
    obtain ⟨v3, e4, hf⟩ := b1_e hf
    refine z_callS (st := []) (ws2 := (MW (gk G) ad s sv tx cu ho mf)) [] C dX3_ofLoad_16 w_X3_85 (c_X3_in (Int32.toInt64 a2) 0 2 e4) (by decide) rfl rfl rfl  rfl rfl (Nat.le_of_ble_eq_true rfl) rfl ?_
    refine z_if_eq (tgt := 37) C dX3_ofLoad_19 rfl (fun hc => ?_) (fun hc => ?_)
    · have hf := ifp hc hf
      refine z_iload_n 2 C dX3_ofLoad_37 rfl ?_
      refine z_iconst (v := 3) C dX3_ofLoad_38 kc_3 ?_
      refine z_icmp_ne (tgt := 53) C dX3_ofLoad_39 rfl (fun hc => ?_) (fun hc => ?_)
      · have hf := ifn hc hf
        refine z_bipush (v := -2) C dX3_ofLoad_53 kb_m2 ?_
        cases hf
        exact z_iret C dX3_ofLoad_55 F
      have hf := ifp hc hf
      refine z_aload_n 0 C dX3_ofLoad_42 rfl ?_
      refine z_iload_n 1 C dX3_ofLoad_43 rfl ?_
      obtain ⟨v5, e6, hf⟩ := b1_e hf
      refine z_callV (st := []) (ws2 := (MW (gk G) ad s sv tx cu ho mf)) [0, 1, 2, 3, 4, 5] C dX3_ofLoad_44 w_X3_155 (c_X3_works ad a1 s sv tx cu ho mf e6) (by decide) rfl rfl rfl rfl rfl rfl rfl (Nat.le_of_ble_eq_true rfl) rfl ?_
      obtain ⟨v7, e8, hf⟩ := b1_e hf
      refine z_callS (st := []) (ws2 := (MW (gk G) ad s sv tx cu ho mf)) [] C dX3_ofLoad_47 w_X3_56 (c_X3_flag v5 e8) (by decide) rfl rfl rfl  rfl rfl (Nat.le_of_ble_eq_true rfl) rfl ?_
      refine z_goto (tgt := 55) C dX3_ofLoad_50 rfl ?_
      cases hf
      exact z_iret C dX3_ofLoad_55 F
    have hf := ifn hc hf
    refine z_aload_n 0 C dX3_ofLoad_22 rfl ?_
    refine gf_X3_7 0 C dX3_ofLoad_23 rfl rfl ?_
    refine z_iconst (v := 0) C dX3_ofLoad_26 kc_0 ?_
    refine z_iload_n 1 C dX3_ofLoad_27 rfl ?_
    obtain ⟨v9, e10, hf⟩ := b1_e hf
    refine z_callS (st := [.ref (ad 1)]) (ws2 := (MW (gk G) ad s sv tx cu ho mf)) [] C dX3_ofLoad_28 w_X3_41 (c_X3_loadAt 0 a1 e10) (by decide) rfl rfl rfl  rfl rfl (Nat.le_of_ble_eq_true rfl) rfl ?_
    refine z_iload_n 2 C dX3_ofLoad_31 rfl ?_
    refine z_iadd C dX3_ofLoad_32 ?_
    obtain ⟨k11, h12, hf⟩ := gd_e hf
    refine z_iald 1 C dX3_ofLoad_33 h12 rfl ?_
    refine z_goto (tgt := 55) C dX3_ofLoad_34 rfl ?_
    cases hf
    exact z_iret C dX3_ofLoad_55 F
  have hf := ifp hc hf
  refine z_iconst (v := -1) C dX3_ofLoad_8 kc_m1 ?_
  cases hf
  exact z_iret C dX3_ofLoad_9 F
set_option maxHeartbeats 400000 in
set_option maxRecDepth 100000 in
theorem tb_X3_fed_14 {G : GT} (ad : Nat → Nat) (s : zA) (sv : zA) (tx : zA) (cu : zA) (ho : zA) (mf : zA) {v : Int32}  (C : zC G cX3_fed 4 RX3 (some .int) 2) (F : zF G (some (.int v)) (MW (gk G) ad s sv tx cu ho mf)) : ∀ (n : Nat) (l1 : Int32) (l2 : Int32) (l3 : Int32), B_X3_fed_14 n l1 l2 l3 s = some v → zV G 4 14 [(0, .ref (ad 0)), (1, .int l1), (2, .int l2), (3, .int l3)] [] (MW (gk G) ad s sv tx cu ho mf) := by
  intro n
  induction n with
  | zero => intro _ _ _ hf; rw [B_X3_fed_14] at hf; cases hf
  | succ n ih =>
    intro l1 l2 l3 hf
    rw [B_X3_fed_14] at hf
    refine z_iload_n 3 C dX3_fed_14 rfl ?_
    refine z_aload_n 0 C dX3_fed_15 rfl ?_
    refine gf_X3_7 0 C dX3_fed_16 rfl rfl ?_
    refine z_iconst (v := 4) C dX3_fed_19 kc_4 ?_
    refine z_iald 1 C dX3_fed_20 ix_4_1480 rfl ?_
    refine z_icmp_ge (tgt := 45) C dX3_fed_21 rfl (fun hc => ?_) (fun hc => ?_)
    · have hf := ifp hc hf
      refine z_iload_n 2 C dX3_fed_45 rfl ?_
      cases hf
      exact z_iret C dX3_fed_46 F
    have hf := ifn hc hf
    refine z_iload_n 2 C dX3_fed_24 rfl ?_
    refine z_aload_n 0 C dX3_fed_25 rfl ?_
    refine z_iconst (v := 0) C dX3_fed_26 kc_0 ?_
    refine z_iload_n 3 C dX3_fed_27 rfl ?_
    refine z_iload_n 1 C dX3_fed_28 rfl ?_
    obtain ⟨v1, e2, hf⟩ := b1_e hf
    refine z_callV (st := [.int l2]) (ws2 := (MW (gk G) ad s sv tx cu ho mf)) [0, 1, 2, 3, 4, 5] C dX3_fed_29 w_X3_44 (c_X3_isFed ad 0 l3 l1 s sv tx cu ho mf e2) (by decide) rfl rfl rfl rfl rfl rfl rfl (Nat.le_of_ble_eq_true rfl) rfl ?_
    obtain ⟨v3, e4, hf⟩ := b1_e hf
    refine z_callS (st := [.int l2]) (ws2 := (MW (gk G) ad s sv tx cu ho mf)) [] C dX3_fed_32 w_X3_56 (c_X3_flag v1 e4) (by decide) rfl rfl rfl  rfl rfl (Nat.le_of_ble_eq_true rfl) rfl ?_
    refine z_iload_n 3 C dX3_fed_35 rfl ?_
    refine z_ishl C dX3_fed_36 ?_
    refine z_ior C dX3_fed_37 ?_
    obtain ⟨x5, e6, hf⟩ := nm_g hf
    refine z_top e6 ?_
    refine z_istore_n (ls' := [(2, _), (0, _), (1, _), (3, _)]) C dX3_fed_38 (by decide) rfl ?_
    obtain ⟨x7, e8, hf⟩ := nm_g hf
    refine z_iinc (ls' := [(3, _), (2, _), (0, _), (1, _)]) 3 C dX3_fed_39 rfl kc_1 e8 (by decide) rfl ?_
    refine z_goto (tgt := 14) C dX3_fed_42 rfl ?_
    refine z_sub (ls' := [(0, .ref (ad 0)), (1, .int l1), (2, .int x5), (3, .int x7)]) [2, 3, 1, 0] rfl ?_
    exact ih _ _ _ hf
set_option maxHeartbeats 400000 in
set_option maxRecDepth 100000 in
theorem c_X3_fed {l : Launch} {D : va_G} {cs : ClassId × ClassId × ClassId} (ad : Nat → Nat) (a1 : Int32) (s : zA) (sv : zA) (tx : zA) (cu : zA) (ho : zA) (mf : zA) {v : Int32}  (e : f_X3_fed a1 s = some v) : zM l D cs yX3_fed cX3_fed 4 (some .int) 2 [.ref (ad 0), .int a1] (MW cs ad s sv tx cu ho mf) v (MW cs ad s sv tx cu ho mf) := by
  refine zM_of (show plainName RX3 = true by decide +kernel) (Nat.le_of_ble_eq_true rfl) ?_
  rintro G rfl rfl rfl C F
  have hf := e
  clear e
  unfold f_X3_fed at hf
  show zV G 4 0 [(0, .ref (ad 0)), (1, .int a1)] [] (MW (gk G) ad s sv tx cu ho mf)
  refine z_aload_n 0 C dX3_fed_0 rfl ?_
  refine z_iload_n 1 C dX3_fed_1 rfl ?_
  obtain ⟨v1, e2, hf⟩ := b1_e hf
  refine z_callV (st := []) (ws2 := (MW (gk G) ad s sv tx cu ho mf)) [0, 1, 2, 3, 4, 5] C dX3_fed_2 w_X3_93 (c_X3_isBoard ad a1 s sv tx cu ho mf e2) (by decide) rfl rfl rfl rfl rfl rfl rfl (Nat.le_of_ble_eq_true rfl) rfl ?_
  refine z_if_ne (tgt := 10) C dX3_fed_5 rfl (fun hc => ?_) (fun hc => ?_)
  · have hf := ifn hc hf
    refine z_iconst (v := 0) C dX3_fed_10 kc_0 ?_
    refine z_istore_n (ls' := [(2, _), (0, _), (1, _)]) C dX3_fed_11 (by decide) rfl ?_
    refine z_iconst (v := 0) C dX3_fed_12 kc_0 ?_
    refine z_istore_n (ls' := [(3, _), (2, _), (0, _), (1, _)]) C dX3_fed_13 (by decide) rfl ?_
    refine z_sub (ls' := [(0, .ref (ad 0)), (1, .int a1), (2, .int 0), (3, .int 0)]) [2, 3, 1, 0] rfl ?_
    exact tb_X3_fed_14 ad s sv tx cu ho mf C F _ _ _ _ hf
  have hf := ifp hc hf
  refine z_iconst (v := -1) C dX3_fed_8 kc_m1 ?_
  cases hf
  exact z_iret C dX3_fed_9 F
set_option maxHeartbeats 400000 in
set_option maxRecDepth 100000 in
theorem c_X3_blown {l : Launch} {D : va_G} {cs : ClassId × ClassId × ClassId} (ad : Nat → Nat) (a1 : Int32) (s : zA) (sv : zA) (tx : zA) (cu : zA) (ho : zA) (mf : zA) {v : Int32}  (e : f_X3_blown a1 s = some v) : zM l D cs yX3_blown cX3_blown 2 (some .int) 1 [.ref (ad 0), .int a1] (MW cs ad s sv tx cu ho mf) v (MW cs ad s sv tx cu ho mf) := by
  refine zM_of (show plainName RX3 = true by decide +kernel) (Nat.le_of_ble_eq_true rfl) ?_
  rintro G rfl rfl rfl C F
  have hf := e
  clear e
  unfold f_X3_blown at hf
  show zV G 2 0 [(0, .ref (ad 0)), (1, .int a1)] [] (MW (gk G) ad s sv tx cu ho mf)
  refine z_iload_n 1 C dX3_blown_0 rfl ?_
  refine z_i2l C dX3_blown_1 ?_
  refine z_lconst (v := 0) C dX3_blown_2 kl_0 ?_
  refine z_aload_n 0 C dX3_blown_3 rfl ?_
  refine gf_X3_7 0 C dX3_blown_4 rfl rfl ?_
  refine z_bipush (v := 7) C dX3_blown_7 kb_7 ?_
  refine z_iald 1 C dX3_blown_9 ix_7_1480 rfl ?_
  refine z_iconst (v := 1) C dX3_blown_10 kc_1 ?_
  refine z_isub C dX3_blown_11 ?_
  refine z_i2l C dX3_blown_12 ?_
  obtain ⟨v1, e2, hf⟩ := b1_e hf
  refine z_callS (st := []) (ws2 := (MW (gk G) ad s sv tx cu ho mf)) [] C dX3_blown_13 w_X3_85 (c_X3_in (Int32.toInt64 a1) 0 (Int32.toInt64 ((s 7) - 1)) e2) (by decide) rfl rfl rfl  rfl rfl (Nat.le_of_ble_eq_true rfl) rfl ?_
  refine z_if_eq (tgt := 31) C dX3_blown_16 rfl (fun hc => ?_) (fun hc => ?_)
  · have hf := ifp hc hf
    refine z_iconst (v := -1) C dX3_blown_31 kc_m1 ?_
    cases hf
    exact z_iret C dX3_blown_32 F
  have hf := ifn hc hf
  refine z_aload_n 0 C dX3_blown_19 rfl ?_
  refine gf_X3_7 0 C dX3_blown_20 rfl rfl ?_
  refine z_bipush (v := 8) C dX3_blown_23 kb_8 ?_
  refine z_iload_n 1 C dX3_blown_25 rfl ?_
  refine z_iadd C dX3_blown_26 ?_
  obtain ⟨k3, h4, hf⟩ := gd_e hf
  refine z_iald 1 C dX3_blown_27 h4 rfl ?_
  refine z_goto (tgt := 32) C dX3_blown_28 rfl ?_
  cases hf
  exact z_iret C dX3_blown_32 F
set_option maxHeartbeats 400000 in
set_option maxRecDepth 100000 in
theorem tb_X3_boards_58 {G : GT} (ad : Nat → Nat) (s : zA) (sv : zA) (tx : zA) (cu : zA) (ho : zA) (mf : zA) {v : Int32}  (C : zC G cX3_boards 5 RX3 (some .int) 2) (F : zF G (some (.int v)) (MW (gk G) ad s sv tx cu ho mf)) (K : Int32 → Int32 → Int32 → zA → Option (Int32)) (hK : ∀ (l1 : Int32) (l2 : Int32) (l3 : Int32), K l1 l2 l3 s = some v → zV G 5 4 [(0, .ref (ad 0)), (1, .int l1), (2, .int l2), (3, .int l3)] [] (MW (gk G) ad s sv tx cu ho mf)) : ∀ (s0 : Int32) (l1 : Int32) (l2 : Int32) (l3 : Int32), B_X3_boards_58 K s0 l1 l2 l3 s = some v → zV G 5 58 [(0, .ref (ad 0)), (1, .int l1), (2, .int l2), (3, .int l3)] [.int s0] (MW (gk G) ad s sv tx cu ho mf) := by
  intro s0 l1 l2 l3 hf
  unfold B_X3_boards_58 at hf
  refine z_istore (ls' := [(4, _), (0, _), (1, _), (2, _), (3, _)]) C dX3_boards_58 (by decide) rfl ?_
  refine z_iload_n 3 C dX3_boards_60 rfl ?_
  refine z_iload 0 C dX3_boards_61 rfl ?_
  obtain ⟨v1, e2, hf⟩ := b1_e hf
  refine z_callS (st := [.int l2]) (ws2 := (MW (gk G) ad s sv tx cu ho mf)) [] C dX3_boards_63 w_X3_56 (c_X3_flag s0 e2) (by decide) rfl rfl rfl  rfl rfl (Nat.le_of_ble_eq_true rfl) rfl ?_
  refine z_iload_n 4 C dX3_boards_66 rfl ?_
  refine z_ishl C dX3_boards_67 ?_
  refine z_ior C dX3_boards_68 ?_
  obtain ⟨x3, e4, hf⟩ := nm_g hf
  refine z_top e4 ?_
  refine z_istore_n (ls' := [(2, _), (4, _), (0, _), (1, _), (3, _)]) C dX3_boards_69 (by decide) rfl ?_
  obtain ⟨x5, e6, hf⟩ := nm_g hf
  refine z_iinc (ls' := [(3, _), (2, _), (4, _), (0, _), (1, _)]) 4 C dX3_boards_70 rfl kc_1 e6 (by decide) rfl ?_
  refine z_goto (tgt := 4) C dX3_boards_73 rfl ?_
  refine z_sub (ls' := [(0, .ref (ad 0)), (1, .int l1), (2, .int x3), (3, .int x5)]) [3, 4, 1, 0] rfl ?_
  exact hK _ _ _ hf
set_option maxHeartbeats 400000 in
set_option maxRecDepth 100000 in
theorem tb_X3_boards_50 {G : GT} (ad : Nat → Nat) (s : zA) (sv : zA) (tx : zA) (cu : zA) (ho : zA) (mf : zA) {v : Int32}  (C : zC G cX3_boards 5 RX3 (some .int) 2) (F : zF G (some (.int v)) (MW (gk G) ad s sv tx cu ho mf)) (K : Int32 → Int32 → Int32 → zA → Option (Int32)) (hK : ∀ (l1 : Int32) (l2 : Int32) (l3 : Int32), K l1 l2 l3 s = some v → zV G 5 4 [(0, .ref (ad 0)), (1, .int l1), (2, .int l2), (3, .int l3)] [] (MW (gk G) ad s sv tx cu ho mf)) : ∀ (s0 : Int32) (s1 : Int32) (l1 : Int32) (l2 : Int32) (l3 : Int32), B_X3_boards_50 K s0 s1 l1 l2 l3 s = some v → zV G 5 50 [(0, .ref (ad 0)), (1, .int l1), (2, .int l2), (3, .int l3)] [.int s0, .int s1] (MW (gk G) ad s sv tx cu ho mf) := by
  intro s0 s1 l1 l2 l3 hf
  unfold B_X3_boards_50 at hf
  refine z_icmp_ne (tgt := 57) C dX3_boards_50 rfl (fun hc => ?_) (fun hc => ?_)
  · have hf := ifn hc hf
    refine z_iconst (v := 0) C dX3_boards_57 kc_0 ?_
    exact tb_X3_boards_58 ad s sv tx cu ho mf C F K hK _ _ _ _ hf
  have hf := ifp hc hf
  refine z_iconst (v := 1) C dX3_boards_53 kc_1 ?_
  refine z_goto (tgt := 58) C dX3_boards_54 rfl ?_
  exact tb_X3_boards_58 ad s sv tx cu ho mf C F K hK _ _ _ _ hf
set_option maxHeartbeats 400000 in
set_option maxRecDepth 100000 in
theorem tb_X3_boards_4 {G : GT} (ad : Nat → Nat) (s : zA) (sv : zA) (tx : zA) (cu : zA) (ho : zA) (mf : zA) {v : Int32}  (C : zC G cX3_boards 5 RX3 (some .int) 2) (F : zF G (some (.int v)) (MW (gk G) ad s sv tx cu ho mf)) : ∀ (n : Nat) (l1 : Int32) (l2 : Int32) (l3 : Int32), B_X3_boards_4 n l1 l2 l3 s = some v → zV G 5 4 [(0, .ref (ad 0)), (1, .int l1), (2, .int l2), (3, .int l3)] [] (MW (gk G) ad s sv tx cu ho mf) := by
  intro n
  induction n with
  | zero => intro _ _ _ hf; rw [B_X3_boards_4] at hf; cases hf
  | succ n ih =>
    intro l1 l2 l3 hf
    rw [B_X3_boards_4] at hf
    refine z_iload_n 3 C dX3_boards_4 rfl ?_
    refine z_aload_n 0 C dX3_boards_5 rfl ?_
    refine gf_X3_7 0 C dX3_boards_6 rfl rfl ?_
    refine z_iconst (v := 4) C dX3_boards_9 kc_4 ?_
    refine z_iald 1 C dX3_boards_10 ix_4_1480 rfl ?_
    refine z_icmp_ge (tgt := 76) C dX3_boards_11 rfl (fun hc => ?_) (fun hc => ?_)
    · have hf := ifp hc hf
      refine z_iload_n 2 C dX3_boards_76 rfl ?_
      cases hf
      exact z_iret C dX3_boards_77 F
    have hf := ifn hc hf
    refine z_iload_n 1 C dX3_boards_14 rfl ?_
    refine z_iconst (v := 3) C dX3_boards_15 kc_3 ?_
    refine z_icmp_ne (tgt := 28) C dX3_boards_16 rfl (fun hc => ?_) (fun hc => ?_)
    · have hf := ifn hc hf
      refine z_aload_n 0 C dX3_boards_28 rfl ?_
      refine gf_X3_7 0 C dX3_boards_29 rfl rfl ?_
      refine z_iconst (v := 0) C dX3_boards_32 kc_0 ?_
      refine z_iload_n 3 C dX3_boards_33 rfl ?_
      obtain ⟨v1, e2, hf⟩ := b1_e hf
      refine z_callS (st := [.ref (ad 1)]) (ws2 := (MW (gk G) ad s sv tx cu ho mf)) [] C dX3_boards_34 w_X3_37 (c_X3_boardAt 0 l3 e2) (by decide) rfl rfl rfl  rfl rfl (Nat.le_of_ble_eq_true rfl) rfl ?_
      refine z_iconst (v := 3) C dX3_boards_37 kc_3 ?_
      refine z_iadd C dX3_boards_38 ?_
      obtain ⟨k3, h4, hf⟩ := gd_e hf
      refine z_iald 1 C dX3_boards_39 h4 rfl ?_
      refine z_iload_n 1 C dX3_boards_40 rfl ?_
      refine z_iconst (v := 5) C dX3_boards_41 kc_5 ?_
      refine z_icmp_ne (tgt := 49) C dX3_boards_42 rfl (fun hc => ?_) (fun hc => ?_)
      · have hf := ifn hc hf
        refine z_iconst (v := 1) C dX3_boards_49 kc_1 ?_
        exact tb_X3_boards_50 ad s sv tx cu ho mf C F _ ih _ _ _ _ _ hf
      have hf := ifp hc hf
      refine z_iconst (v := 2) C dX3_boards_45 kc_2 ?_
      refine z_goto (tgt := 50) C dX3_boards_46 rfl ?_
      exact tb_X3_boards_50 ad s sv tx cu ho mf C F _ ih _ _ _ _ _ hf
    have hf := ifp hc hf
    refine z_aload_n 0 C dX3_boards_19 rfl ?_
    refine z_iconst (v := 0) C dX3_boards_20 kc_0 ?_
    refine z_iload_n 3 C dX3_boards_21 rfl ?_
    obtain ⟨v5, e6, hf⟩ := b1_e hf
    refine z_callV (st := []) (ws2 := (MW (gk G) ad s sv tx cu ho mf)) [0, 1, 2, 3, 4, 5] C dX3_boards_22 w_X3_48 (c_X3_isDead ad 0 l3 s sv tx cu ho mf e6) (by decide) rfl rfl rfl rfl rfl rfl rfl (Nat.le_of_ble_eq_true rfl) rfl ?_
    refine z_goto (tgt := 58) C dX3_boards_25 rfl ?_
    exact tb_X3_boards_58 ad s sv tx cu ho mf C F _ ih _ _ _ _ hf
set_option maxHeartbeats 400000 in
set_option maxRecDepth 100000 in
theorem c_X3_boards {l : Launch} {D : va_G} {cs : ClassId × ClassId × ClassId} (ad : Nat → Nat) (a1 : Int32) (s : zA) (sv : zA) (tx : zA) (cu : zA) (ho : zA) (mf : zA) {v : Int32}  (e : f_X3_boards a1 s = some v) : zM l D cs yX3_boards cX3_boards 5 (some .int) 2 [.ref (ad 0), .int a1] (MW cs ad s sv tx cu ho mf) v (MW cs ad s sv tx cu ho mf) := by
  refine zM_of (show plainName RX3 = true by decide +kernel) (Nat.le_of_ble_eq_true rfl) ?_
  rintro G rfl rfl rfl C F
  have hf := e
  clear e
  unfold f_X3_boards at hf
  show zV G 5 0 [(0, .ref (ad 0)), (1, .int a1)] [] (MW (gk G) ad s sv tx cu ho mf)
  refine z_iconst (v := 0) C dX3_boards_0 kc_0 ?_
  refine z_istore_n (ls' := [(2, _), (0, _), (1, _)]) C dX3_boards_1 (by decide) rfl ?_
  refine z_iconst (v := 0) C dX3_boards_2 kc_0 ?_
  refine z_istore_n (ls' := [(3, _), (2, _), (0, _), (1, _)]) C dX3_boards_3 (by decide) rfl ?_
  refine z_sub (ls' := [(0, .ref (ad 0)), (1, .int a1), (2, .int 0), (3, .int 0)]) [2, 3, 1, 0] rfl ?_
  exact tb_X3_boards_4 ad s sv tx cu ho mf C F _ _ _ _ hf
set_option maxHeartbeats 400000 in
set_option maxRecDepth 100000 in
theorem tb_X3_working_4 {G : GT} (ad : Nat → Nat) (s : zA) (sv : zA) (tx : zA) (cu : zA) (ho : zA) (mf : zA) {v : Int32}  (C : zC G cX3_working 3 RX3 (some .int) 3) (F : zF G (some (.int v)) (MW (gk G) ad s sv tx cu ho mf)) : ∀ (n : Nat) (l1 : Int32) (l2 : Int32), B_X3_working_4 n l1 l2 s = some v → zV G 3 4 [(0, .ref (ad 0)), (1, .int l1), (2, .int l2)] [] (MW (gk G) ad s sv tx cu ho mf) := by
  intro n
  induction n with
  | zero => intro _ _ hf; rw [B_X3_working_4] at hf; cases hf
  | succ n ih =>
    intro l1 l2 hf
    rw [B_X3_working_4] at hf
    refine z_iload_n 2 C dX3_working_4 rfl ?_
    refine z_aload_n 0 C dX3_working_5 rfl ?_
    refine gf_X3_7 0 C dX3_working_6 rfl rfl ?_
    refine z_iconst (v := 5) C dX3_working_9 kc_5 ?_
    refine z_iald 1 C dX3_working_10 ix_5_1480 rfl ?_
    refine z_icmp_ge (tgt := 33) C dX3_working_11 rfl (fun hc => ?_) (fun hc => ?_)
    · have hf := ifp hc hf
      refine z_iload_n 1 C dX3_working_33 rfl ?_
      cases hf
      exact z_iret C dX3_working_34 F
    have hf := ifn hc hf
    refine z_iload_n 1 C dX3_working_14 rfl ?_
    refine z_aload_n 0 C dX3_working_15 rfl ?_
    refine z_iload_n 2 C dX3_working_16 rfl ?_
    obtain ⟨v1, e2, hf⟩ := b1_e hf
    refine z_callV (st := [.int l1]) (ws2 := (MW (gk G) ad s sv tx cu ho mf)) [0, 1, 2, 3, 4, 5] C dX3_working_17 w_X3_155 (c_X3_works ad l2 s sv tx cu ho mf e2) (by decide) rfl rfl rfl rfl rfl rfl rfl (Nat.le_of_ble_eq_true rfl) rfl ?_
    obtain ⟨v3, e4, hf⟩ := b1_e hf
    refine z_callS (st := [.int l1]) (ws2 := (MW (gk G) ad s sv tx cu ho mf)) [] C dX3_working_20 w_X3_56 (c_X3_flag v1 e4) (by decide) rfl rfl rfl  rfl rfl (Nat.le_of_ble_eq_true rfl) rfl ?_
    refine z_iload_n 2 C dX3_working_23 rfl ?_
    refine z_ishl C dX3_working_24 ?_
    refine z_ior C dX3_working_25 ?_
    obtain ⟨x5, e6, hf⟩ := nm_g hf
    refine z_top e6 ?_
    refine z_istore_n (ls' := [(1, _), (0, _), (2, _)]) C dX3_working_26 (by decide) rfl ?_
    obtain ⟨x7, e8, hf⟩ := nm_g hf
    refine z_iinc (ls' := [(2, _), (1, _), (0, _)]) 2 C dX3_working_27 rfl kc_1 e8 (by decide) rfl ?_
    refine z_goto (tgt := 4) C dX3_working_30 rfl ?_
    refine z_sub (ls' := [(0, .ref (ad 0)), (1, .int x5), (2, .int x7)]) [2, 1, 0] rfl ?_
    exact ih _ _ hf
set_option maxHeartbeats 400000 in
set_option maxRecDepth 100000 in
theorem c_X3_working {l : Launch} {D : va_G} {cs : ClassId × ClassId × ClassId} (ad : Nat → Nat)  (s : zA) (sv : zA) (tx : zA) (cu : zA) (ho : zA) (mf : zA) {v : Int32}  (e : f_X3_working s = some v) : zM l D cs yX3_working cX3_working 3 (some .int) 3 [.ref (ad 0)] (MW cs ad s sv tx cu ho mf) v (MW cs ad s sv tx cu ho mf) := by
  refine zM_of (show plainName RX3 = true by decide +kernel) (Nat.le_of_ble_eq_true rfl) ?_
  rintro G rfl rfl rfl C F
  have hf := e
  clear e
  unfold f_X3_working at hf
  show zV G 3 0 [(0, .ref (ad 0))] [] (MW (gk G) ad s sv tx cu ho mf)
  refine z_iconst (v := 0) C dX3_working_0 kc_0 ?_
  refine z_istore_n (ls' := [(1, _), (0, _)]) C dX3_working_1 (by decide) rfl ?_
  refine z_iconst (v := 0) C dX3_working_2 kc_0 ?_
  refine z_istore_n (ls' := [(2, _), (1, _), (0, _)]) C dX3_working_3 (by decide) rfl ?_
  refine z_sub (ls' := [(0, .ref (ad 0)), (1, .int 0), (2, .int 0)]) [2, 1, 0] rfl ?_
  exact tb_X3_working_4 ad s sv tx cu ho mf C F _ _ _ hf
set_option maxHeartbeats 400000 in
set_option maxRecDepth 100000 in
theorem c_X3_count {l : Launch} {D : va_G} {cs : ClassId × ClassId × ClassId} (ad : Nat → Nat) (a1 : Int32) (s : zA) (sv : zA) (tx : zA) (cu : zA) (ho : zA) (mf : zA) {v : Int32}  (e : f_X3_count a1 s mf = some v) : zM l D cs yX3_count cX3_count 2 (some .int) 4 [.ref (ad 0), .int a1] (MW cs ad s sv tx cu ho mf) v (MW cs ad s sv tx cu ho mf) := by
  refine zM_of (show plainName RX3 = true by decide +kernel) (Nat.le_of_ble_eq_true rfl) ?_
  rintro G rfl rfl rfl C F
  have hf := e
  clear e
  unfold f_X3_count at hf
  show zV G 2 0 [(0, .ref (ad 0)), (1, .int a1)] [] (MW (gk G) ad s sv tx cu ho mf)
  refine z_iload_n 1 C dX3_count_0 rfl ?_
  by_cases hs1 : a1 = 0
  · have hf := ifp hs1 hf
    refine z_tabIn (tgt := 72) C dX3_count_1 hs1 (by decide) (by decide) rfl rfl ?_
    refine z_aload_n 0 C dX3_count_72 rfl ?_
    refine gf_X3_7 0 C dX3_count_73 rfl rfl ?_
    refine z_iconst (v := 3) C dX3_count_76 kc_3 ?_
    refine z_iald 1 C dX3_count_77 ix_3_1480 rfl ?_
    cases hf
    exact z_iret C dX3_count_78 F
  have hf := ifn hs1 hf
  by_cases hs2 : a1 = 1
  · have hf := ifp hs2 hf
    refine z_tabIn (tgt := 79) C dX3_count_1 hs2 (by decide) (by decide) rfl rfl ?_
    refine z_aload_n 0 C dX3_count_79 rfl ?_
    refine gf_X3_7 0 C dX3_count_80 rfl rfl ?_
    refine z_iconst (v := 4) C dX3_count_83 kc_4 ?_
    refine z_iald 1 C dX3_count_84 ix_4_1480 rfl ?_
    cases hf
    exact z_iret C dX3_count_85 F
  have hf := ifn hs2 hf
  by_cases hs3 : a1 = 2
  · have hf := ifp hs3 hf
    refine z_tabIn (tgt := 86) C dX3_count_1 hs3 (by decide) (by decide) rfl rfl ?_
    refine z_aload_n 0 C dX3_count_86 rfl ?_
    refine gf_X3_7 0 C dX3_count_87 rfl rfl ?_
    refine z_iconst (v := 5) C dX3_count_90 kc_5 ?_
    refine z_iald 1 C dX3_count_91 ix_5_1480 rfl ?_
    cases hf
    exact z_iret C dX3_count_92 F
  have hf := ifn hs3 hf
  by_cases hs4 : a1 = 3
  · have hf := ifp hs4 hf
    refine z_tabIn (tgt := 93) C dX3_count_1 hs4 (by decide) (by decide) rfl rfl ?_
    refine z_aload_n 0 C dX3_count_93 rfl ?_
    refine z_iload_n 1 C dX3_count_94 rfl ?_
    obtain ⟨v5, e6, hf⟩ := b1_e hf
    refine z_callV (st := []) (ws2 := (MW (gk G) ad s sv tx cu ho mf)) [0, 1, 2, 3, 4, 5] C dX3_count_95 w_X3_158 (c_X3_boards ad a1 s sv tx cu ho mf e6) (by decide) rfl rfl rfl rfl rfl rfl rfl (Nat.le_of_ble_eq_true rfl) rfl ?_
    cases hf
    exact z_iret C dX3_count_98 F
  have hf := ifn hs4 hf
  by_cases hs7 : a1 = 4
  · have hf := ifp hs7 hf
    refine z_tabIn (tgt := 99) C dX3_count_1 hs7 (by decide) (by decide) rfl rfl ?_
    refine z_aload_n 0 C dX3_count_99 rfl ?_
    obtain ⟨v8, e9, hf⟩ := b1_e hf
    refine z_callV (st := []) (ws2 := (MW (gk G) ad s sv tx cu ho mf)) [0, 1, 2, 3, 4, 5] C dX3_count_100 w_X3_161 (c_X3_working ad s sv tx cu ho mf e9) (by decide) rfl rfl rfl rfl rfl rfl rfl (Nat.le_of_ble_eq_true rfl) rfl ?_
    cases hf
    exact z_iret C dX3_count_103 F
  have hf := ifn hs7 hf
  by_cases hs10 : a1 = 5
  · have hf := ifp hs10 hf
    refine z_tabIn (tgt := 93) C dX3_count_1 hs10 (by decide) (by decide) rfl rfl ?_
    refine z_aload_n 0 C dX3_count_93 rfl ?_
    refine z_iload_n 1 C dX3_count_94 rfl ?_
    obtain ⟨v11, e12, hf⟩ := b1_e hf
    refine z_callV (st := []) (ws2 := (MW (gk G) ad s sv tx cu ho mf)) [0, 1, 2, 3, 4, 5] C dX3_count_95 w_X3_158 (c_X3_boards ad a1 s sv tx cu ho mf e12) (by decide) rfl rfl rfl rfl rfl rfl rfl (Nat.le_of_ble_eq_true rfl) rfl ?_
    cases hf
    exact z_iret C dX3_count_98 F
  have hf := ifn hs10 hf
  by_cases hs13 : a1 = 6
  · have hf := ifp hs13 hf
    refine z_tabIn (tgt := 93) C dX3_count_1 hs13 (by decide) (by decide) rfl rfl ?_
    refine z_aload_n 0 C dX3_count_93 rfl ?_
    refine z_iload_n 1 C dX3_count_94 rfl ?_
    obtain ⟨v14, e15, hf⟩ := b1_e hf
    refine z_callV (st := []) (ws2 := (MW (gk G) ad s sv tx cu ho mf)) [0, 1, 2, 3, 4, 5] C dX3_count_95 w_X3_158 (c_X3_boards ad a1 s sv tx cu ho mf e15) (by decide) rfl rfl rfl rfl rfl rfl rfl (Nat.le_of_ble_eq_true rfl) rfl ?_
    cases hf
    exact z_iret C dX3_count_98 F
  have hf := ifn hs13 hf
  by_cases hs16 : a1 = 7
  · have hf := ifp hs16 hf
    refine z_tabIn (tgt := 104) C dX3_count_1 hs16 (by decide) (by decide) rfl rfl ?_
    refine z_aload_n 0 C dX3_count_104 rfl ?_
    refine gf_X3_7 0 C dX3_count_105 rfl rfl ?_
    refine z_bipush (v := 6) C dX3_count_108 kb_6 ?_
    refine z_iald 1 C dX3_count_110 ix_6_1480 rfl ?_
    cases hf
    exact z_iret C dX3_count_111 F
  have hf := ifn hs16 hf
  by_cases hs17 : a1 = 8
  · have hf := ifp hs17 hf
    refine z_tabIn (tgt := 112) C dX3_count_1 hs17 (by decide) (by decide) rfl rfl ?_
    refine z_aload_n 0 C dX3_count_112 rfl ?_
    refine gf_X3_7 0 C dX3_count_113 rfl rfl ?_
    refine z_iconst (v := 4) C dX3_count_116 kc_4 ?_
    refine z_iald 1 C dX3_count_117 ix_4_1480 rfl ?_
    refine z_if_ne (tgt := 125) C dX3_count_118 rfl (fun hc => ?_) (fun hc => ?_)
    · have hf := ifn hc hf
      refine z_aload_n 0 C dX3_count_125 rfl ?_
      refine z_iconst (v := 0) C dX3_count_126 kc_0 ?_
      refine z_iconst (v := 0) C dX3_count_127 kc_0 ?_
      obtain ⟨v18, e19, hf⟩ := b1_e hf
      refine z_callV (st := []) (ws2 := (MW (gk G) ad s sv tx cu ho mf)) [0, 1, 2, 3, 4, 5] C dX3_count_128 w_X3_60 (c_X3_current ad 0 0 s sv tx cu ho mf e19) (by decide) rfl rfl rfl rfl rfl rfl rfl (Nat.le_of_ble_eq_true rfl) rfl ?_
      cases hf
      exact z_iret C dX3_count_131 F
    have hf := ifp hc hf
    refine z_iconst (v := 0) C dX3_count_121 kc_0 ?_
    refine z_goto (tgt := 131) C dX3_count_122 rfl ?_
    cases hf
    exact z_iret C dX3_count_131 F
  have hf := ifn hs17 hf
  by_cases hs20 : a1 = 9
  · have hf := ifp hs20 hf
    refine z_tabIn (tgt := 132) C dX3_count_1 hs20 (by decide) (by decide) rfl rfl ?_
    refine z_aload_n 0 C dX3_count_132 rfl ?_
    refine gf_X3_7 0 C dX3_count_133 rfl rfl ?_
    refine z_iload_n 1 C dX3_count_136 rfl ?_
    refine z_bipush (v := 9) C dX3_count_137 kb_9 ?_
    refine z_isub C dX3_count_139 ?_
    obtain ⟨k21, h22, hf⟩ := gd_e hf
    refine z_iald 1 C dX3_count_140 h22 rfl ?_
    cases hf
    exact z_iret C dX3_count_141 F
  have hf := ifn hs20 hf
  by_cases hs23 : a1 = 10
  · have hf := ifp hs23 hf
    refine z_tabIn (tgt := 132) C dX3_count_1 hs23 (by decide) (by decide) rfl rfl ?_
    refine z_aload_n 0 C dX3_count_132 rfl ?_
    refine gf_X3_7 0 C dX3_count_133 rfl rfl ?_
    refine z_iload_n 1 C dX3_count_136 rfl ?_
    refine z_bipush (v := 9) C dX3_count_137 kb_9 ?_
    refine z_isub C dX3_count_139 ?_
    obtain ⟨k24, h25, hf⟩ := gd_e hf
    refine z_iald 1 C dX3_count_140 h25 rfl ?_
    cases hf
    exact z_iret C dX3_count_141 F
  have hf := ifn hs23 hf
  by_cases hs26 : a1 = 11
  · have hf := ifp hs26 hf
    refine z_tabIn (tgt := 132) C dX3_count_1 hs26 (by decide) (by decide) rfl rfl ?_
    refine z_aload_n 0 C dX3_count_132 rfl ?_
    refine gf_X3_7 0 C dX3_count_133 rfl rfl ?_
    refine z_iload_n 1 C dX3_count_136 rfl ?_
    refine z_bipush (v := 9) C dX3_count_137 kb_9 ?_
    refine z_isub C dX3_count_139 ?_
    obtain ⟨k27, h28, hf⟩ := gd_e hf
    refine z_iald 1 C dX3_count_140 h28 rfl ?_
    cases hf
    exact z_iret C dX3_count_141 F
  have hf := ifn hs26 hf
  by_cases hs29 : a1 = 12
  · have hf := ifp hs29 hf
    refine z_tabIn (tgt := 142) C dX3_count_1 hs29 (by decide) (by decide) rfl rfl ?_
    refine z_aload_n 0 C dX3_count_142 rfl ?_
    refine gf_X3_165 0 C dX3_count_143 rfl rfl ?_
    cases hf
    exact z_iret C dX3_count_146 F
  have hf := ifn hs29 hf
  by_cases hs30 : a1 = 13
  · have hf := ifp hs30 hf
    refine z_tabIn (tgt := 147) C dX3_count_1 hs30 (by decide) (by decide) rfl rfl ?_
    refine z_aload_n 0 C dX3_count_147 rfl ?_
    refine gf_X3_30 0 C dX3_count_148 rfl rfl ?_
    cases hf
    exact z_iret C dX3_count_151 F
  have hf := ifn hs30 hf
  refine z_tabOut (tgt := 152) C dX3_count_1 (by have q0 := ti_ne (z := 0) (by decide) hs1; have q1 := ti_ne (z := 1) (by decide) hs2; have q2 := ti_ne (z := 2) (by decide) hs3; have q3 := ti_ne (z := 3) (by decide) hs4; have q4 := ti_ne (z := 4) (by decide) hs7; have q5 := ti_ne (z := 5) (by decide) hs10; have q6 := ti_ne (z := 6) (by decide) hs13; have q7 := ti_ne (z := 7) (by decide) hs16; have q8 := ti_ne (z := 8) (by decide) hs17; have q9 := ti_ne (z := 9) (by decide) hs20; have q10 := ti_ne (z := 10) (by decide) hs23; have q11 := ti_ne (z := 11) (by decide) hs26; have q12 := ti_ne (z := 12) (by decide) hs29; have q13 := ti_ne (z := 13) (by decide) hs30; omega) rfl ?_
  refine z_bipush (v := -2) C dX3_count_152 kb_m2 ?_
  cases hf
  exact z_iret C dX3_count_154 F
set_option maxHeartbeats 400000 in
set_option maxRecDepth 100000 in
theorem tb_X3_lowest_2 {G : GT}   {v : Int32}  (C : zC G cX3_lowest 2 RX3 (some .int) 0) (F : zF G (some (.int v)) ([] : va_W)) : ∀ (n : Nat) (l0 : Int32) (l1 : Int32), B_X3_lowest_2 n l0 l1 = some v → zV G 2 2 [(0, .int l0), (1, .int l1)] [] ([] : va_W) := by
  intro n
  induction n with
  | zero => intro _ _ hf; rw [B_X3_lowest_2] at hf; cases hf
  | succ n ih =>
    intro l0 l1 hf
    rw [B_X3_lowest_2] at hf
    refine z_iload_n 0 C dX3_lowest_2 rfl ?_
    refine z_iload_n 1 C dX3_lowest_3 rfl ?_
    refine z_ishr C dX3_lowest_4 ?_
    refine z_iconst (v := 1) C dX3_lowest_5 kc_1 ?_
    refine z_iand C dX3_lowest_6 ?_
    refine z_if_ne (tgt := 16) C dX3_lowest_7 rfl (fun hc => ?_) (fun hc => ?_)
    · have hf := ifn hc hf
      refine z_iload_n 1 C dX3_lowest_16 rfl ?_
      cases hf
      exact z_iret C dX3_lowest_17 F
    have hf := ifp hc hf
    obtain ⟨x1, e2, hf⟩ := nm_g hf
    refine z_iinc (ls' := [(1, _), (0, _)]) 1 C dX3_lowest_10 rfl kc_1 e2 (by decide) rfl ?_
    refine z_goto (tgt := 2) C dX3_lowest_13 rfl ?_
    refine z_sub (ls' := [(0, .int l0), (1, .int x1)]) [1, 0] rfl ?_
    exact ih _ _ hf
set_option maxHeartbeats 400000 in
set_option maxRecDepth 100000 in
theorem c_X3_lowest {l : Launch} {D : va_G} {cs : ClassId × ClassId × ClassId}  (a0 : Int32)  {v : Int32}  (e : f_X3_lowest a0 = some v) : zM l D cs yX3_lowest cX3_lowest 2 (some .int) 0 [.int a0] ([] : va_W) v ([] : va_W) := by
  refine zM_of (show plainName RX3 = true by decide +kernel) (Nat.le_of_ble_eq_true rfl) ?_
  rintro G rfl rfl rfl C F
  have hf := e
  clear e
  unfold f_X3_lowest at hf
  show zV G 2 0 [(0, .int a0)] [] ([] : va_W)
  refine z_iconst (v := 0) C dX3_lowest_0 kc_0 ?_
  refine z_istore_n (ls' := [(1, _), (0, _)]) C dX3_lowest_1 (by decide) rfl ?_
  refine z_sub (ls' := [(0, .int a0), (1, .int 0)]) [1, 0] rfl ?_
  exact tb_X3_lowest_2  C F _ _ _ hf
set_option maxHeartbeats 400000 in
set_option maxRecDepth 100000 in
theorem tb_X3_first_2 {G : GT} (ad : Nat → Nat) (sv : zA) (tx : zA) (mf : zA) {v : Int32} {s' : zA} {cu' : zA} {ho' : zA} (C : zC G cX3_first 4 RX3 (some .int) 4) (F : zF G (some (.int v)) (MW (gk G) ad s' sv tx cu' ho' mf)) : ∀ (n : Nat) (l1 : Int32) (l2 : Int32) (s : zA) (cu : zA) (ho : zA), B_X3_first_2 n l1 l2 s cu ho mf = some (v, s', cu', ho') → zV G 4 2 [(0, .ref (ad 0)), (1, .int l1), (2, .int l2)] [] (MW (gk G) ad s sv tx cu ho mf) := by
  intro n
  induction n with
  | zero => intro _ _ _ _ _ hf; rw [B_X3_first_2] at hf; cases hf
  | succ n ih =>
    intro l1 l2 s cu ho hf
    rw [B_X3_first_2] at hf
    refine z_iload_n 2 C dX3_first_2 rfl ?_
    refine z_sipush (v := 200) C dX3_first_3 ks_200 ?_
    refine z_icmp_gt (tgt := 40) C dX3_first_6 rfl (fun hc => ?_) (fun hc => ?_)
    · have hf := ifp hc hf
      refine z_bipush (v := -6) C dX3_first_40 kb_m6 ?_
      cases hf
      exact z_iret C dX3_first_42 F
    have hf := ifn hc hf
    refine z_aload_n 0 C dX3_first_9 rfl ?_
    refine z_sipush (v := 1332) C dX3_first_10 ks_1332 ?_
    obtain ⟨v1, s2, cu3, ho4, e5, hf⟩ := b4_e hf
    refine z_callV (st := []) (ws2 := (MW (gk G) ad s2 sv tx cu3 ho4 mf)) [0, 1, 2, 3, 4, 5] C dX3_first_13 w_X3_78 (c_X3_tick ad 1332 s sv tx cu ho mf e5) (by decide) rfl rfl rfl rfl rfl rfl rfl (Nat.le_of_ble_eq_true rfl) rfl ?_
    refine z_istore_n (ls' := [(3, _), (0, _), (1, _), (2, _)]) C dX3_first_16 (by decide) rfl ?_
    refine z_iload_n 0 C dX3_first_17 rfl ?_
    refine z_if_eq (tgt := 34) C dX3_first_18 rfl (fun hc => ?_) (fun hc => ?_)
    · have hf := ifp hc hf
      obtain ⟨x6, e7, hf⟩ := nm_g hf
      refine z_iinc (ls' := [(2, _), (3, _), (0, _), (1, _)]) 3 C dX3_first_34 rfl kc_1 e7 (by decide) rfl ?_
      refine z_goto (tgt := 2) C dX3_first_37 rfl ?_
      refine z_sub (ls' := [(0, .ref (ad 0)), (1, .int l1), (2, .int x6)]) [2, 3, 0] rfl ?_
      exact ih _ _ _ _ _ hf
    have hf := ifn hc hf
    refine z_iload_n 2 C dX3_first_21 rfl ?_
    refine z_if_ne (tgt := 29) C dX3_first_22 rfl (fun hc => ?_) (fun hc => ?_)
    · have hf := ifn hc hf
      refine z_iload_n 0 C dX3_first_29 rfl ?_
      obtain ⟨v8, e9, hf⟩ := b1_e hf
      refine z_callS (st := []) (ws2 := (MW (gk G) ad s2 sv tx cu3 ho4 mf)) [] C dX3_first_30 w_X3_168 (c_X3_lowest v1 e9) (by decide) rfl rfl rfl  rfl rfl (Nat.le_of_ble_eq_true rfl) rfl ?_
      cases hf
      exact z_iret C dX3_first_33 F
    have hf := ifp hc hf
    refine z_iload_n 3 C dX3_first_25 rfl ?_
    refine z_goto (tgt := 33) C dX3_first_26 rfl ?_
    cases hf
    exact z_iret C dX3_first_33 F
set_option maxHeartbeats 400000 in
set_option maxRecDepth 100000 in
theorem c_X3_first {l : Launch} {D : va_G} {cs : ClassId × ClassId × ClassId} (ad : Nat → Nat) (a1 : Int32) (s : zA) (sv : zA) (tx : zA) (cu : zA) (ho : zA) (mf : zA) {v : Int32} {s' : zA} {cu' : zA} {ho' : zA} (e : f_X3_first a1 s cu ho mf = some (v, s', cu', ho')) : zM l D cs yX3_first cX3_first 4 (some .int) 4 [.ref (ad 0), .int a1] (MW cs ad s sv tx cu ho mf) v (MW cs ad s' sv tx cu' ho' mf) := by
  refine zM_of (show plainName RX3 = true by decide +kernel) (Nat.le_of_ble_eq_true rfl) ?_
  rintro G rfl rfl rfl C F
  have hf := e
  clear e
  unfold f_X3_first at hf
  show zV G 4 0 [(0, .ref (ad 0)), (1, .int a1)] [] (MW (gk G) ad s sv tx cu ho mf)
  refine z_iconst (v := 1) C dX3_first_0 kc_1 ?_
  refine z_istore_n (ls' := [(2, _), (0, _), (1, _)]) C dX3_first_1 (by decide) rfl ?_
  refine z_sub (ls' := [(0, .ref (ad 0)), (1, .int a1), (2, .int 1)]) [1, 2, 0] rfl ?_
  exact tb_X3_first_2 ad sv tx mf C F _ _ _ _ _ _ hf
set_option maxHeartbeats 400000 in
set_option maxRecDepth 100000 in
theorem c_X3_next {l : Launch} {D : va_G} {cs : ClassId × ClassId × ClassId} (ad : Nat → Nat) (a1 : Int32) (s : zA) (sv : zA) (tx : zA) (cu : zA) (ho : zA) (mf : zA) {v : Int32} {s' : zA} {cu' : zA} {ho' : zA} (e : f_X3_next a1 s cu ho mf = some (v, s', cu', ho')) : zM l D cs yX3_next cX3_next 2 (some .int) 5 [.ref (ad 0), .int a1] (MW cs ad s sv tx cu ho mf) v (MW cs ad s' sv tx cu' ho' mf) := by
  refine zM_of (show plainName RX3 = true by decide +kernel) (Nat.le_of_ble_eq_true rfl) ?_
  rintro G rfl rfl rfl C F
  have hf := e
  clear e
  unfold f_X3_next at hf
  show zV G 2 0 [(0, .ref (ad 0)), (1, .int a1)] [] (MW (gk G) ad s sv tx cu ho mf)
  refine z_iload_n 1 C dX3_next_0 rfl ?_
  refine z_i2l C dX3_next_1 ?_
  refine z_lconst (v := 0) C dX3_next_2 kl_0 ?_
  refine z_lconst (v := 1) C dX3_next_3 kl_1 ?_
  obtain ⟨v1, e2, hf⟩ := b1_e hf
  refine z_callS (st := []) (ws2 := (MW (gk G) ad s sv tx cu ho mf)) [] C dX3_next_4 w_X3_85 (c_X3_in (Int32.toInt64 a1) 0 1 e2) (by decide) rfl rfl rfl  rfl rfl (Nat.le_of_ble_eq_true rfl) rfl ?_
  refine z_if_ne (tgt := 13) C dX3_next_7 rfl (fun hc => ?_) (fun hc => ?_)
  · have hf := ifn hc hf
    refine z_aload_n 0 C dX3_next_13 rfl ?_
    refine z_iconst (v := 0) C dX3_next_14 kc_0 ?_
    refine z_bipush (v := 9) C dX3_next_15 kb_9 ?_
    obtain ⟨s3, e4, hf⟩ := b1_e hf
    refine z_callVv (st := []) (ws2 := (MW (gk G) ad s3 sv tx cu ho mf)) [0, 1, 2, 3, 4, 5] C dX3_next_17 w_X3_33 (c_X3_copies ad 0 9 s sv tx cu ho mf e4) (by decide) rfl rfl rfl rfl rfl rfl rfl (Nat.le_of_ble_eq_true rfl) rfl ?_
    refine z_aload_n 0 C dX3_next_20 rfl ?_
    refine z_iload_n 1 C dX3_next_21 rfl ?_
    obtain ⟨v5, s6, cu7, ho8, e9, hf⟩ := b4_e hf
    refine z_callV (st := []) (ws2 := (MW (gk G) ad s6 sv tx cu7 ho8 mf)) [0, 1, 2, 3, 4, 5] C dX3_next_22 w_X3_171 (c_X3_first ad a1 s3 sv tx cu ho mf e9) (by decide) rfl rfl rfl rfl rfl rfl rfl (Nat.le_of_ble_eq_true rfl) rfl ?_
    cases hf
    exact z_iret C dX3_next_25 F
  have hf := ifp hc hf
  refine z_bipush (v := -2) C dX3_next_10 kb_m2 ?_
  cases hf
  exact z_iret C dX3_next_12 F
set_option maxHeartbeats 400000 in
set_option maxRecDepth 100000 in
theorem tb_X3_tests_50 {G : GT} (ad : Nat → Nat) (sv : zA) (tx : zA) {v : Int32} {s' : zA} {cu' : zA} {ho' : zA} {mf' : zA} (C : zC G cX3_tests 6 RX3 (some .int) 5) (F : zF G (some (.int v)) (MW (gk G) ad s' sv tx cu' ho' mf')) : ∀ (n : Nat) (l1 : Int32) (l2 : Int32) (l3 : Int32) (l4 : Int32) (l5 : Int32) (s : zA) (cu : zA) (ho : zA) (mf : zA), B_X3_tests_50 n l1 l2 l3 l4 l5 s cu ho mf = some (v, s', cu', ho', mf') → zV G 6 50 [(0, .ref (ad 0)), (1, .int l1), (2, .int l2), (3, .int l3), (4, .int l4), (5, .int l5)] [] (MW (gk G) ad s sv tx cu ho mf) := by
  intro n
  induction n with
  | zero => intro _ _ _ _ _ _ _ _ _ hf; rw [B_X3_tests_50] at hf; cases hf
  | succ n ih =>
    intro l1 l2 l3 l4 l5 s cu ho mf hf
    rw [B_X3_tests_50] at hf
    refine z_iload 5 C dX3_tests_50 rfl ?_
    refine z_aload_n 0 C dX3_tests_52 rfl ?_
    refine gf_X3_7 0 C dX3_tests_53 rfl rfl ?_
    refine z_iconst (v := 4) C dX3_tests_56 kc_4 ?_
    refine z_iald 1 C dX3_tests_57 ix_4_1480 rfl ?_
    refine z_icmp_ge (tgt := 82) C dX3_tests_58 rfl (fun hc => ?_) (fun hc => ?_)
    · have hf := ifp hc hf
      refine z_aload_n 0 C dX3_tests_82 rfl ?_
      refine z_iload_n 1 C dX3_tests_83 rfl ?_
      obtain ⟨mf1, e2, hf⟩ := nm_g hf
      refine pf_X3_20 (ws' := (MW (gk G) ad s sv tx cu ho mf1)) 0 C dX3_tests_84 rfl (Nat.le_of_ble_eq_true rfl) (by subst e2; rfl) ?_
      refine z_aload_n 0 C dX3_tests_87 rfl ?_
      refine z_iload_n 2 C dX3_tests_88 rfl ?_
      obtain ⟨mf3, e4, hf⟩ := nm_g hf
      refine pf_X3_52 (ws' := (MW (gk G) ad s sv tx cu ho mf3)) 0 C dX3_tests_89 rfl (Nat.le_of_ble_eq_true rfl) (by subst e4; rfl) ?_
      refine z_aload_n 0 C dX3_tests_92 rfl ?_
      refine z_iload_n 3 C dX3_tests_93 rfl ?_
      obtain ⟨v5, s6, cu7, ho8, e9, hf⟩ := b4_e hf
      refine z_callV (st := []) (ws2 := (MW (gk G) ad s6 sv tx cu7 ho8 mf3)) [0, 1, 2, 3, 4, 5] C dX3_tests_94 w_X3_171 (c_X3_first ad l3 s sv tx cu ho mf3 e9) (by decide) rfl rfl rfl rfl rfl rfl rfl (Nat.le_of_ble_eq_true rfl) rfl ?_
      refine z_istore (ls' := [(5, _), (0, _), (1, _), (2, _), (3, _), (4, _)]) C dX3_tests_97 (by decide) rfl ?_
      refine z_aload_n 1 C dX3_tests_99 rfl ?_
      refine z_bipush (v := -6) C dX3_tests_100 kb_m6 ?_
      obtain ⟨mf10, e11, hf⟩ := nm_g hf
      refine pf_X3_20 (ws' := (MW (gk G) ad s6 sv tx cu7 ho8 mf10)) 0 C dX3_tests_102 rfl (Nat.le_of_ble_eq_true rfl) (by subst e11; rfl) ?_
      refine z_iload 0 C dX3_tests_105 rfl ?_
      cases hf
      exact z_iret C dX3_tests_107 F
    have hf := ifn hc hf
    refine z_aload_n 0 C dX3_tests_61 rfl ?_
    refine gf_X3_7 0 C dX3_tests_62 rfl rfl ?_
    refine z_iload 4 C dX3_tests_65 rfl ?_
    refine z_iload 5 C dX3_tests_67 rfl ?_
    obtain ⟨v12, e13, hf⟩ := b1_e hf
    refine z_callS (st := [.ref (ad 1)]) (ws2 := (MW (gk G) ad s sv tx cu ho mf)) [] C dX3_tests_69 w_X3_37 (c_X3_boardAt l4 l5 e13) (by decide) rfl rfl rfl  rfl rfl (Nat.le_of_ble_eq_true rfl) rfl ?_
    refine z_iconst (v := 4) C dX3_tests_72 kc_4 ?_
    refine z_iadd C dX3_tests_73 ?_
    refine z_iconst (v := 0) C dX3_tests_74 kc_0 ?_
    obtain ⟨k14, h15, hf⟩ := gd_e hf
    obtain ⟨s16, e17, hf⟩ := nm_g hf
    refine z_iast (ws' := (MW (gk G) ad s16 sv tx cu ho mf)) 1 C dX3_tests_75 h15 rfl e17 rfl ?_
    obtain ⟨x18, e19, hf⟩ := nm_g hf
    refine z_iinc (ls' := [(5, _), (0, _), (1, _), (2, _), (3, _), (4, _)]) 5 C dX3_tests_76 rfl kc_1 e19 (by decide) rfl ?_
    refine z_goto (tgt := 50) C dX3_tests_79 rfl ?_
    refine z_sub (ls' := [(0, .ref (ad 0)), (1, .int l1), (2, .int l2), (3, .int l3), (4, .int l4), (5, .int x18)]) [1, 2, 3, 4, 5, 0] rfl ?_
    exact ih _ _ _ _ _ _ _ _ _ hf
set_option maxHeartbeats 400000 in
set_option maxRecDepth 100000 in
theorem tb_X3_tests_15 {G : GT} (ad : Nat → Nat) (sv : zA) (tx : zA) {v : Int32} {s' : zA} {cu' : zA} {ho' : zA} {mf' : zA} (C : zC G cX3_tests 6 RX3 (some .int) 5) (F : zF G (some (.int v)) (MW (gk G) ad s' sv tx cu' ho' mf')) : ∀ (n : Nat) (l1 : Int32) (l2 : Int32) (l3 : Int32) (l4 : Int32) (l5 : Int32) (s : zA) (cu : zA) (ho : zA) (mf : zA), B_X3_tests_15 n l1 l2 l3 l4 l5 s cu ho mf = some (v, s', cu', ho', mf') → zV G 6 15 [(0, .ref (ad 0)), (1, .int l1), (2, .int l2), (3, .int l3), (4, .int l4), (5, .int l5)] [] (MW (gk G) ad s sv tx cu ho mf) := by
  intro n
  induction n with
  | zero => intro _ _ _ _ _ _ _ _ _ hf; rw [B_X3_tests_15] at hf; cases hf
  | succ n ih =>
    intro l1 l2 l3 l4 l5 s cu ho mf hf
    rw [B_X3_tests_15] at hf
    refine z_iload 5 C dX3_tests_15 rfl ?_
    refine z_aload_n 0 C dX3_tests_17 rfl ?_
    refine gf_X3_7 0 C dX3_tests_18 rfl rfl ?_
    refine z_iconst (v := 5) C dX3_tests_21 kc_5 ?_
    refine z_iald 1 C dX3_tests_22 ix_5_1480 rfl ?_
    refine z_icmp_ge (tgt := 47) C dX3_tests_23 rfl (fun hc => ?_) (fun hc => ?_)
    · have hf := ifp hc hf
      refine z_iconst (v := 0) C dX3_tests_47 kc_0 ?_
      refine z_istore (ls' := [(5, _), (0, _), (1, _), (2, _), (3, _), (4, _)]) C dX3_tests_48 (by decide) rfl ?_
      refine z_sub (ls' := [(0, .ref (ad 0)), (1, .int l1), (2, .int l2), (3, .int l3), (4, .int l4), (5, .int 0)]) [1, 2, 3, 4, 5, 0] rfl ?_
      exact tb_X3_tests_50 ad sv tx C F _ _ _ _ _ _ _ _ _ _ hf
    have hf := ifn hc hf
    refine z_aload_n 0 C dX3_tests_26 rfl ?_
    refine gf_X3_7 0 C dX3_tests_27 rfl rfl ?_
    refine z_iload 4 C dX3_tests_30 rfl ?_
    refine z_iload 5 C dX3_tests_32 rfl ?_
    obtain ⟨v1, e2, hf⟩ := b1_e hf
    refine z_callS (st := [.ref (ad 1)]) (ws2 := (MW (gk G) ad s sv tx cu ho mf)) [] C dX3_tests_34 w_X3_41 (c_X3_loadAt l4 l5 e2) (by decide) rfl rfl rfl  rfl rfl (Nat.le_of_ble_eq_true rfl) rfl ?_
    refine z_iconst (v := 2) C dX3_tests_37 kc_2 ?_
    refine z_iadd C dX3_tests_38 ?_
    refine z_iconst (v := 0) C dX3_tests_39 kc_0 ?_
    obtain ⟨k3, h4, hf⟩ := gd_e hf
    obtain ⟨s5, e6, hf⟩ := nm_g hf
    refine z_iast (ws' := (MW (gk G) ad s5 sv tx cu ho mf)) 1 C dX3_tests_40 h4 rfl e6 rfl ?_
    obtain ⟨x7, e8, hf⟩ := nm_g hf
    refine z_iinc (ls' := [(5, _), (0, _), (1, _), (2, _), (3, _), (4, _)]) 5 C dX3_tests_41 rfl kc_1 e8 (by decide) rfl ?_
    refine z_goto (tgt := 15) C dX3_tests_44 rfl ?_
    refine z_sub (ls' := [(0, .ref (ad 0)), (1, .int l1), (2, .int l2), (3, .int l3), (4, .int l4), (5, .int x7)]) [1, 2, 3, 4, 5, 0] rfl ?_
    exact ih _ _ _ _ _ _ _ _ _ hf
set_option maxHeartbeats 400000 in
set_option maxRecDepth 100000 in
theorem c_X3_tests {l : Launch} {D : va_G} {cs : ClassId × ClassId × ClassId} (ad : Nat → Nat) (a1 : Int32) (a2 : Int32) (a3 : Int32) (s : zA) (sv : zA) (tx : zA) (cu : zA) (ho : zA) (mf : zA) {v : Int32} {s' : zA} {cu' : zA} {ho' : zA} {mf' : zA} (e : f_X3_tests a1 a2 a3 s cu ho mf = some (v, s', cu', ho', mf')) : zM l D cs yX3_tests cX3_tests 6 (some .int) 5 [.ref (ad 0), .int a1, .int a2, .int a3] (MW cs ad s sv tx cu ho mf) v (MW cs ad s' sv tx cu' ho' mf') := by
  refine zM_of (show plainName RX3 = true by decide +kernel) (Nat.le_of_ble_eq_true rfl) ?_
  rintro G rfl rfl rfl C F
  have hf := e
  clear e
  unfold f_X3_tests at hf
  show zV G 6 0 [(0, .ref (ad 0)), (1, .int a1), (2, .int a2), (3, .int a3)] [] (MW (gk G) ad s sv tx cu ho mf)
  refine z_aload_n 0 C dX3_tests_0 rfl ?_
  refine z_iconst (v := 0) C dX3_tests_1 kc_0 ?_
  refine z_bipush (v := 9) C dX3_tests_2 kb_9 ?_
  obtain ⟨s1, e2, hf⟩ := b1_e hf
  refine z_callVv (st := []) (ws2 := (MW (gk G) ad s1 sv tx cu ho mf)) [0, 1, 2, 3, 4, 5] C dX3_tests_4 w_X3_33 (c_X3_copies ad 0 9 s sv tx cu ho mf e2) (by decide) rfl rfl rfl rfl rfl rfl rfl (Nat.le_of_ble_eq_true rfl) rfl ?_
  refine z_sipush (v := 1332) C dX3_tests_7 ks_1332 ?_
  refine z_istore (ls' := [(4, _), (0, _), (1, _), (2, _), (3, _)]) C dX3_tests_10 (by decide) rfl ?_
  refine z_iconst (v := 0) C dX3_tests_12 kc_0 ?_
  refine z_istore (ls' := [(5, _), (4, _), (0, _), (1, _), (2, _), (3, _)]) C dX3_tests_13 (by decide) rfl ?_
  refine z_sub (ls' := [(0, .ref (ad 0)), (1, .int a1), (2, .int a2), (3, .int a3), (4, .int 1332), (5, .int 0)]) [2, 3, 4, 5, 1, 0] rfl ?_
  exact tb_X3_tests_15 ad sv tx C F _ _ _ _ _ _ _ _ _ _ hf
set_option maxHeartbeats 400000 in
set_option maxRecDepth 100000 in
theorem c_X3_test {l : Launch} {D : va_G} {cs : ClassId × ClassId × ClassId} (ad : Nat → Nat) (a1 : Int32) (a2 : Int32) (a3 : Int32) (s : zA) (sv : zA) (tx : zA) (cu : zA) (ho : zA) (mf : zA) {v : Int32} {s' : zA} {cu' : zA} {ho' : zA} {mf' : zA} (e : f_X3_test a1 a2 a3 s cu ho mf = some (v, s', cu', ho', mf')) : zM l D cs yX3_test cX3_test 4 (some .int) 6 [.ref (ad 0), .int a1, .int a2, .int a3] (MW cs ad s sv tx cu ho mf) v (MW cs ad s' sv tx cu' ho' mf') := by
  refine zM_of (show plainName RX3 = true by decide +kernel) (Nat.le_of_ble_eq_true rfl) ?_
  rintro G rfl rfl rfl C F
  have hf := e
  clear e
  unfold f_X3_test at hf
  show zV G 4 0 [(0, .ref (ad 0)), (1, .int a1), (2, .int a2), (3, .int a3)] [] (MW (gk G) ad s sv tx cu ho mf)
  refine z_aload_n 0 C dX3_test_0 rfl ?_
  refine z_iload_n 1 C dX3_test_1 rfl ?_
  obtain ⟨v1, e2, hf⟩ := b1_e hf
  refine z_callV (st := []) (ws2 := (MW (gk G) ad s sv tx cu ho mf)) [0, 1, 2, 3, 4, 5] C dX3_test_2 w_X3_93 (c_X3_isBoard ad a1 s sv tx cu ho mf e2) (by decide) rfl rfl rfl rfl rfl rfl rfl (Nat.le_of_ble_eq_true rfl) rfl ?_
  refine z_if_ne (tgt := 10) C dX3_test_5 rfl (fun hc => ?_) (fun hc => ?_)
  · have hf := ifn hc hf
    refine z_iload_n 2 C dX3_test_10 rfl ?_
    refine z_i2l C dX3_test_11 ?_
    refine z_lconst (v := 1) C dX3_test_12 kl_1 ?_
    refine z_ldc2 C dX3_test_13 tw_515 ?_
    obtain ⟨v3, e4, hf⟩ := b1_e hf
    refine z_callS (st := []) (ws2 := (MW (gk G) ad s sv tx cu ho mf)) [] C dX3_test_16 w_X3_85 (c_X3_in (Int32.toInt64 a2) 1 9999 e4) (by decide) rfl rfl rfl  rfl rfl (Nat.le_of_ble_eq_true rfl) rfl ?_
    refine z_if_eq (tgt := 42) C dX3_test_19 rfl (fun hc => ?_) (fun hc => ?_)
    · have hf := ifp hc hf
      refine z_bipush (v := -2) C dX3_test_42 kb_m2 ?_
      cases hf
      exact z_iret C dX3_test_44 F
    have hf := ifn hc hf
    refine z_iload_n 3 C dX3_test_22 rfl ?_
    refine z_i2l C dX3_test_23 ?_
    refine z_lconst (v := 0) C dX3_test_24 kl_0 ?_
    refine z_lconst (v := 1) C dX3_test_25 kl_1 ?_
    obtain ⟨v5, e6, hf⟩ := b1_e hf
    refine z_callS (st := []) (ws2 := (MW (gk G) ad s sv tx cu ho mf)) [] C dX3_test_26 w_X3_85 (c_X3_in (Int32.toInt64 a3) 0 1 e6) (by decide) rfl rfl rfl  rfl rfl (Nat.le_of_ble_eq_true rfl) rfl ?_
    refine z_if_eq (tgt := 42) C dX3_test_29 rfl (fun hc => ?_) (fun hc => ?_)
    · have hf := ifp hc hf
      refine z_bipush (v := -2) C dX3_test_42 kb_m2 ?_
      cases hf
      exact z_iret C dX3_test_44 F
    have hf := ifn hc hf
    refine z_aload_n 0 C dX3_test_32 rfl ?_
    refine z_iload_n 1 C dX3_test_33 rfl ?_
    refine z_iload_n 2 C dX3_test_34 rfl ?_
    refine z_iload_n 3 C dX3_test_35 rfl ?_
    obtain ⟨v7, s8, cu9, ho10, mf11, e12, hf⟩ := b5_e hf
    refine z_callV (st := []) (ws2 := (MW (gk G) ad s8 sv tx cu9 ho10 mf11)) [0, 1, 2, 3, 4, 5] C dX3_test_36 w_X3_176 (c_X3_tests ad a1 a2 a3 s sv tx cu ho mf e12) (by decide) rfl rfl rfl rfl rfl rfl rfl (Nat.le_of_ble_eq_true rfl) rfl ?_
    refine z_goto (tgt := 44) C dX3_test_39 rfl ?_
    cases hf
    exact z_iret C dX3_test_44 F
  have hf := ifp hc hf
  refine z_iconst (v := -1) C dX3_test_8 kc_m1 ?_
  cases hf
  exact z_iret C dX3_test_9 F
set_option maxHeartbeats 400000 in
set_option maxRecDepth 100000 in
theorem tb_X3_unfair_72 {G : GT} (ad : Nat → Nat) (sv : zA) (tx : zA) {v : Int32} {s' : zA} {cu' : zA} {ho' : zA} {mf' : zA} (C : zC G cX3_unfair 5 RX3 (some .int) 6) (F : zF G (some (.int v)) (MW (gk G) ad s' sv tx cu' ho' mf')) (K : Int32 → Int32 → Int32 → zA → zA → zA → zA → Option (Int32 × zA × zA × zA × zA)) (hK : ∀ (l1 : Int32) (l2 : Int32) (l3 : Int32) (s : zA) (cu : zA) (ho : zA) (mf : zA), K l1 l2 l3 s cu ho mf = some (v, s', cu', ho', mf') → zV G 5 21 [(0, .ref (ad 0)), (1, .int l1), (2, .int l2), (3, .int l3)] [] (MW (gk G) ad s sv tx cu ho mf)) : ∀ (s0 : Int32) (s1 : Int32) (l1 : Int32) (l3 : Int32) (s : zA) (cu : zA) (ho : zA) (mf : zA), B_X3_unfair_72 K s0 s1 l1 l3 s cu ho mf = some (v, s', cu', ho', mf') → zV G 5 72 [(0, .ref (ad 0)), (1, .int l1), (3, .int l3)] [.int s0, .int s1] (MW (gk G) ad s sv tx cu ho mf) := by
  intro s0 s1 l1 l3 s cu ho mf hf
  unfold B_X3_unfair_72 at hf
  obtain ⟨v1, e2, hf⟩ := b1_e hf
  refine z_callS (st := [.int s1]) (ws2 := (MW (gk G) ad s sv tx cu ho mf)) [] C dX3_unfair_72 w_X3_56 (c_X3_flag s0 e2) (by decide) rfl rfl rfl  rfl rfl (Nat.le_of_ble_eq_true rfl) rfl ?_
  refine z_iload_n 2 C dX3_unfair_75 rfl ?_
  refine z_ishl C dX3_unfair_76 ?_
  refine z_ior C dX3_unfair_77 ?_
  obtain ⟨x3, e4, hf⟩ := nm_g hf
  refine z_top e4 ?_
  refine z_istore_n (ls' := [(2, _), (0, _), (1, _), (3, _)]) C dX3_unfair_78 (by decide) rfl ?_
  obtain ⟨x5, e6, hf⟩ := nm_g hf
  refine z_iinc (ls' := [(3, _), (2, _), (0, _), (1, _)]) 3 C dX3_unfair_79 rfl kc_1 e6 (by decide) rfl ?_
  refine z_goto (tgt := 21) C dX3_unfair_82 rfl ?_
  refine z_sub (ls' := [(0, .ref (ad 0)), (1, .int l1), (2, .int x3), (3, .int x5)]) [2, 3, 1, 0] rfl ?_
  exact hK _ _ _ _ _ _ _ hf
set_option maxHeartbeats 400000 in
set_option maxRecDepth 100000 in
theorem tb_X3_unfair_71 {G : GT} (ad : Nat → Nat) (sv : zA) (tx : zA) {v : Int32} {s' : zA} {cu' : zA} {ho' : zA} {mf' : zA} (C : zC G cX3_unfair 5 RX3 (some .int) 6) (F : zF G (some (.int v)) (MW (gk G) ad s' sv tx cu' ho' mf')) (K : Int32 → Int32 → Int32 → zA → zA → zA → zA → Option (Int32 × zA × zA × zA × zA)) (hK : ∀ (l1 : Int32) (l2 : Int32) (l3 : Int32) (s : zA) (cu : zA) (ho : zA) (mf : zA), K l1 l2 l3 s cu ho mf = some (v, s', cu', ho', mf') → zV G 5 21 [(0, .ref (ad 0)), (1, .int l1), (2, .int l2), (3, .int l3)] [] (MW (gk G) ad s sv tx cu ho mf)) : ∀ (s0 : Int32) (l1 : Int32) (l3 : Int32) (s : zA) (cu : zA) (ho : zA) (mf : zA), B_X3_unfair_71 K s0 l1 l3 s cu ho mf = some (v, s', cu', ho', mf') → zV G 5 71 [(0, .ref (ad 0)), (1, .int l1), (3, .int l3)] [.int s0] (MW (gk G) ad s sv tx cu ho mf) := by
  intro s0 l1 l3 s cu ho mf hf
  unfold B_X3_unfair_71 at hf
  refine z_iconst (v := 0) C dX3_unfair_71 kc_0 ?_
  exact tb_X3_unfair_72 ad sv tx C F K hK _ _ _ _ _ _ _ _ hf
set_option maxHeartbeats 400000 in
set_option maxRecDepth 100000 in
theorem tb_X3_unfair_21 {G : GT} (ad : Nat → Nat) (sv : zA) (tx : zA) {v : Int32} {s' : zA} {cu' : zA} {ho' : zA} {mf' : zA} (C : zC G cX3_unfair 5 RX3 (some .int) 6) (F : zF G (some (.int v)) (MW (gk G) ad s' sv tx cu' ho' mf')) : ∀ (n : Nat) (l1 : Int32) (l2 : Int32) (l3 : Int32) (s : zA) (cu : zA) (ho : zA) (mf : zA), B_X3_unfair_21 n l1 l2 l3 s cu ho mf = some (v, s', cu', ho', mf') → zV G 5 21 [(0, .ref (ad 0)), (1, .int l1), (2, .int l2), (3, .int l3)] [] (MW (gk G) ad s sv tx cu ho mf) := by
  intro n
  induction n with
  | zero => intro _ _ _ _ _ _ _ hf; rw [B_X3_unfair_21] at hf; cases hf
  | succ n ih =>
    intro l1 l2 l3 s cu ho mf hf
    rw [B_X3_unfair_21] at hf
    refine z_iload_n 3 C dX3_unfair_21 rfl ?_
    refine z_aload_n 0 C dX3_unfair_22 rfl ?_
    refine gf_X3_7 0 C dX3_unfair_23 rfl rfl ?_
    refine z_iconst (v := 4) C dX3_unfair_26 kc_4 ?_
    refine z_iald 1 C dX3_unfair_27 ix_4_1480 rfl ?_
    refine z_icmp_ge (tgt := 85) C dX3_unfair_28 rfl (fun hc => ?_) (fun hc => ?_)
    · have hf := ifp hc hf
      refine z_iload_n 2 C dX3_unfair_85 rfl ?_
      cases hf
      exact z_iret C dX3_unfair_86 F
    have hf := ifn hc hf
    refine z_aload_n 0 C dX3_unfair_31 rfl ?_
    refine z_iload_n 3 C dX3_unfair_32 rfl ?_
    refine z_iload_n 1 C dX3_unfair_33 rfl ?_
    refine z_aload_n 0 C dX3_unfair_34 rfl ?_
    refine gf_X3_7 0 C dX3_unfair_35 rfl rfl ?_
    refine z_iconst (v := 0) C dX3_unfair_38 kc_0 ?_
    refine z_iload_n 3 C dX3_unfair_39 rfl ?_
    obtain ⟨v1, e2, hf⟩ := b1_e hf
    refine z_callS (st := [.ref (ad 1), .int l1, .int l3, .ref (ad 0)]) (ws2 := (MW (gk G) ad s sv tx cu ho mf)) [] C dX3_unfair_40 w_X3_37 (c_X3_boardAt 0 l3 e2) (by decide) rfl rfl rfl  rfl rfl (Nat.le_of_ble_eq_true rfl) rfl ?_
    refine z_iconst (v := 1) C dX3_unfair_43 kc_1 ?_
    refine z_iadd C dX3_unfair_44 ?_
    obtain ⟨k3, h4, hf⟩ := gd_e hf
    refine z_iald 1 C dX3_unfair_45 h4 rfl ?_
    refine z_imul C dX3_unfair_46 ?_
    refine z_iconst (v := 1) C dX3_unfair_47 kc_1 ?_
    obtain ⟨v5, s6, cu7, ho8, mf9, e10, hf⟩ := b5_e hf
    refine z_callV (st := []) (ws2 := (MW (gk G) ad s6 sv tx cu7 ho8 mf9)) [0, 1, 2, 3, 4, 5] C dX3_unfair_48 w_X3_176 (c_X3_tests ad l3 (l1 * (s k3)) 1 s sv tx cu ho mf e10) (by decide) rfl rfl rfl rfl rfl rfl rfl (Nat.le_of_ble_eq_true rfl) rfl ?_
    refine z_istore (ls' := [(4, _), (0, _), (1, _), (2, _), (3, _)]) C dX3_unfair_51 (by decide) rfl ?_
    refine z_iload_n 3 C dX3_unfair_53 rfl ?_
    refine z_iload 0 C dX3_unfair_54 rfl ?_
    refine z_bipush (v := -6) C dX3_unfair_56 kb_m6 ?_
    refine z_icmp_eq (tgt := 71) C dX3_unfair_58 rfl (fun hc => ?_) (fun hc => ?_)
    · have hf := ifp hc hf
      refine z_sub (ls' := [(0, .ref (ad 0)), (1, .int l1), (3, .int l3)]) [1, 2, 4] rfl ?_
      exact tb_X3_unfair_71 ad sv tx C F _ ih _ _ _ _ _ _ _ hf
    have hf := ifn hc hf
    refine z_iload 0 C dX3_unfair_61 rfl ?_
    refine z_iload_n 4 C dX3_unfair_63 rfl ?_
    refine z_icmp_eq (tgt := 71) C dX3_unfair_64 rfl (fun hc => ?_) (fun hc => ?_)
    · have hf := ifp hc hf
      refine z_sub (ls' := [(0, .ref (ad 0)), (1, .int l1), (3, .int l3)]) [1, 2, 4] rfl ?_
      exact tb_X3_unfair_71 ad sv tx C F _ ih _ _ _ _ _ _ _ hf
    have hf := ifn hc hf
    refine z_iconst (v := 1) C dX3_unfair_67 kc_1 ?_
    refine z_goto (tgt := 72) C dX3_unfair_68 rfl ?_
    refine z_sub (ls' := [(0, .ref (ad 0)), (1, .int l1), (3, .int l3)]) [1, 2, 4] rfl ?_
    exact tb_X3_unfair_72 ad sv tx C F _ ih _ _ _ _ _ _ _ _ hf
set_option maxHeartbeats 400000 in
set_option maxRecDepth 100000 in
theorem c_X3_unfair {l : Launch} {D : va_G} {cs : ClassId × ClassId × ClassId} (ad : Nat → Nat) (a1 : Int32) (s : zA) (sv : zA) (tx : zA) (cu : zA) (ho : zA) (mf : zA) {v : Int32} {s' : zA} {cu' : zA} {ho' : zA} {mf' : zA} (e : f_X3_unfair a1 s cu ho mf = some (v, s', cu', ho', mf')) : zM l D cs yX3_unfair cX3_unfair 5 (some .int) 6 [.ref (ad 0), .int a1] (MW cs ad s sv tx cu ho mf) v (MW cs ad s' sv tx cu' ho' mf') := by
  refine zM_of (show plainName RX3 = true by decide +kernel) (Nat.le_of_ble_eq_true rfl) ?_
  rintro G rfl rfl rfl C F
  have hf := e
  clear e
  unfold f_X3_unfair at hf
  show zV G 5 0 [(0, .ref (ad 0)), (1, .int a1)] [] (MW (gk G) ad s sv tx cu ho mf)
  refine z_iload_n 1 C dX3_unfair_0 rfl ?_
  refine z_i2l C dX3_unfair_1 ?_
  refine z_ldc2 C dX3_unfair_2 tw_143 ?_
  refine z_ldc2 C dX3_unfair_5 tw_536 ?_
  obtain ⟨v1, e2, hf⟩ := b1_e hf
  refine z_callS (st := []) (ws2 := (MW (gk G) ad s sv tx cu ho mf)) [] C dX3_unfair_8 w_X3_85 (c_X3_in (Int32.toInt64 a1) 2 20 e2) (by decide) rfl rfl rfl  rfl rfl (Nat.le_of_ble_eq_true rfl) rfl ?_
  refine z_if_ne (tgt := 17) C dX3_unfair_11 rfl (fun hc => ?_) (fun hc => ?_)
  · have hf := ifn hc hf
    refine z_iconst (v := 0) C dX3_unfair_17 kc_0 ?_
    refine z_istore_n (ls' := [(2, _), (0, _), (1, _)]) C dX3_unfair_18 (by decide) rfl ?_
    refine z_iconst (v := 0) C dX3_unfair_19 kc_0 ?_
    refine z_istore_n (ls' := [(3, _), (2, _), (0, _), (1, _)]) C dX3_unfair_20 (by decide) rfl ?_
    refine z_sub (ls' := [(0, .ref (ad 0)), (1, .int a1), (2, .int 0), (3, .int 0)]) [2, 3, 1, 0] rfl ?_
    exact tb_X3_unfair_21 ad sv tx C F _ _ _ _ _ _ _ _ hf
  have hf := ifp hc hf
  refine z_bipush (v := -2) C dX3_unfair_14 kb_m2 ?_
  cases hf
  exact z_iret C dX3_unfair_16 F
set_option maxHeartbeats 400000 in
set_option maxRecDepth 100000 in
theorem tb_X3_ifOpen_57 {G : GT} (ad : Nat → Nat) (s : zA) (sv : zA) (tx : zA) (cu : zA) (ho : zA) (mf : zA) {v : Int32}  (C : zC G cX3_ifOpen 4 RX3 (some .int) 3) (F : zF G (some (.int v)) (MW (gk G) ad s sv tx cu ho mf)) (K : Int32 → Int32 → Int32 → zA → Option (Int32)) (hK : ∀ (l1 : Int32) (l2 : Int32) (l3 : Int32), K l1 l2 l3 s = some v → zV G 4 14 [(0, .ref (ad 0)), (1, .int l1), (2, .int l2), (3, .int l3)] [] (MW (gk G) ad s sv tx cu ho mf)) : ∀ (s0 : Int32) (s1 : Int32) (l1 : Int32) (l3 : Int32), B_X3_ifOpen_57 K s0 s1 l1 l3 s = some v → zV G 4 57 [(0, .ref (ad 0)), (1, .int l1), (3, .int l3)] [.int s0, .int s1] (MW (gk G) ad s sv tx cu ho mf) := by
  intro s0 s1 l1 l3 hf
  unfold B_X3_ifOpen_57 at hf
  obtain ⟨v1, e2, hf⟩ := b1_e hf
  refine z_callS (st := [.int s1]) (ws2 := (MW (gk G) ad s sv tx cu ho mf)) [] C dX3_ifOpen_57 w_X3_56 (c_X3_flag s0 e2) (by decide) rfl rfl rfl  rfl rfl (Nat.le_of_ble_eq_true rfl) rfl ?_
  refine z_iload_n 2 C dX3_ifOpen_60 rfl ?_
  refine z_ishl C dX3_ifOpen_61 ?_
  refine z_ior C dX3_ifOpen_62 ?_
  obtain ⟨x3, e4, hf⟩ := nm_g hf
  refine z_top e4 ?_
  refine z_istore_n (ls' := [(2, _), (0, _), (1, _), (3, _)]) C dX3_ifOpen_63 (by decide) rfl ?_
  obtain ⟨x5, e6, hf⟩ := nm_g hf
  refine z_iinc (ls' := [(3, _), (2, _), (0, _), (1, _)]) 3 C dX3_ifOpen_64 rfl kc_1 e6 (by decide) rfl ?_
  refine z_goto (tgt := 14) C dX3_ifOpen_67 rfl ?_
  refine z_sub (ls' := [(0, .ref (ad 0)), (1, .int l1), (2, .int x3), (3, .int x5)]) [2, 3, 1, 0] rfl ?_
  exact hK _ _ _ hf
set_option maxHeartbeats 400000 in
set_option maxRecDepth 100000 in
theorem tb_X3_ifOpen_56 {G : GT} (ad : Nat → Nat) (s : zA) (sv : zA) (tx : zA) (cu : zA) (ho : zA) (mf : zA) {v : Int32}  (C : zC G cX3_ifOpen 4 RX3 (some .int) 3) (F : zF G (some (.int v)) (MW (gk G) ad s sv tx cu ho mf)) (K : Int32 → Int32 → Int32 → zA → Option (Int32)) (hK : ∀ (l1 : Int32) (l2 : Int32) (l3 : Int32), K l1 l2 l3 s = some v → zV G 4 14 [(0, .ref (ad 0)), (1, .int l1), (2, .int l2), (3, .int l3)] [] (MW (gk G) ad s sv tx cu ho mf)) : ∀ (s0 : Int32) (l1 : Int32) (l3 : Int32), B_X3_ifOpen_56 K s0 l1 l3 s = some v → zV G 4 56 [(0, .ref (ad 0)), (1, .int l1), (3, .int l3)] [.int s0] (MW (gk G) ad s sv tx cu ho mf) := by
  intro s0 l1 l3 hf
  unfold B_X3_ifOpen_56 at hf
  refine z_iconst (v := 0) C dX3_ifOpen_56 kc_0 ?_
  exact tb_X3_ifOpen_57 ad s sv tx cu ho mf C F K hK _ _ _ _ hf
set_option maxHeartbeats 400000 in
set_option maxRecDepth 100000 in
theorem tb_X3_ifOpen_14 {G : GT} (ad : Nat → Nat) (s : zA) (sv : zA) (tx : zA) (cu : zA) (ho : zA) (mf : zA) {v : Int32}  (C : zC G cX3_ifOpen 4 RX3 (some .int) 3) (F : zF G (some (.int v)) (MW (gk G) ad s sv tx cu ho mf)) : ∀ (n : Nat) (l1 : Int32) (l2 : Int32) (l3 : Int32), B_X3_ifOpen_14 n l1 l2 l3 s = some v → zV G 4 14 [(0, .ref (ad 0)), (1, .int l1), (2, .int l2), (3, .int l3)] [] (MW (gk G) ad s sv tx cu ho mf) := by
  intro n
  induction n with
  | zero => intro _ _ _ hf; rw [B_X3_ifOpen_14] at hf; cases hf
  | succ n ih =>
    intro l1 l2 l3 hf
    rw [B_X3_ifOpen_14] at hf
    refine z_iload_n 3 C dX3_ifOpen_14 rfl ?_
    refine z_aload_n 0 C dX3_ifOpen_15 rfl ?_
    refine gf_X3_7 0 C dX3_ifOpen_16 rfl rfl ?_
    refine z_iconst (v := 5) C dX3_ifOpen_19 kc_5 ?_
    refine z_iald 1 C dX3_ifOpen_20 ix_5_1480 rfl ?_
    refine z_icmp_ge (tgt := 70) C dX3_ifOpen_21 rfl (fun hc => ?_) (fun hc => ?_)
    · have hf := ifp hc hf
      refine z_iload_n 2 C dX3_ifOpen_70 rfl ?_
      cases hf
      exact z_iret C dX3_ifOpen_71 F
    have hf := ifn hc hf
    refine z_iload_n 2 C dX3_ifOpen_24 rfl ?_
    refine z_aload_n 0 C dX3_ifOpen_25 rfl ?_
    refine z_iload_n 3 C dX3_ifOpen_26 rfl ?_
    obtain ⟨v1, e2, hf⟩ := b1_e hf
    refine z_callV (st := [.int l2]) (ws2 := (MW (gk G) ad s sv tx cu ho mf)) [0, 1, 2, 3, 4, 5] C dX3_ifOpen_27 w_X3_155 (c_X3_works ad l3 s sv tx cu ho mf e2) (by decide) rfl rfl rfl rfl rfl rfl rfl (Nat.le_of_ble_eq_true rfl) rfl ?_
    refine z_if_eq (tgt := 56) C dX3_ifOpen_30 rfl (fun hc => ?_) (fun hc => ?_)
    · have hf := ifp hc hf
      refine z_sub (ls' := [(0, .ref (ad 0)), (1, .int l1), (3, .int l3)]) [0, 1, 3] rfl ?_
      exact tb_X3_ifOpen_56 ad s sv tx cu ho mf C F _ ih _ _ _ hf
    have hf := ifn hc hf
    refine z_aload_n 0 C dX3_ifOpen_33 rfl ?_
    refine z_iconst (v := 0) C dX3_ifOpen_34 kc_0 ?_
    refine z_aload_n 0 C dX3_ifOpen_35 rfl ?_
    refine gf_X3_7 0 C dX3_ifOpen_36 rfl rfl ?_
    refine z_iconst (v := 0) C dX3_ifOpen_39 kc_0 ?_
    refine z_iload_n 3 C dX3_ifOpen_40 rfl ?_
    obtain ⟨v3, e4, hf⟩ := b1_e hf
    refine z_callS (st := [.ref (ad 1), .int 0, .ref (ad 0), .int l2]) (ws2 := (MW (gk G) ad s sv tx cu ho mf)) [] C dX3_ifOpen_41 w_X3_41 (c_X3_loadAt 0 l3 e4) (by decide) rfl rfl rfl  rfl rfl (Nat.le_of_ble_eq_true rfl) rfl ?_
    obtain ⟨k5, h6, hf⟩ := gd_e hf
    refine z_iald 1 C dX3_ifOpen_44 h6 rfl ?_
    refine z_iload_n 1 C dX3_ifOpen_45 rfl ?_
    obtain ⟨v7, e8, hf⟩ := b1_e hf
    refine z_callV (st := [.int l2]) (ws2 := (MW (gk G) ad s sv tx cu ho mf)) [0, 1, 2, 3, 4, 5] C dX3_ifOpen_46 w_X3_44 (c_X3_isFed ad 0 (s k5) l1 s sv tx cu ho mf e8) (by decide) rfl rfl rfl rfl rfl rfl rfl (Nat.le_of_ble_eq_true rfl) rfl ?_
    refine z_if_eq (tgt := 56) C dX3_ifOpen_49 rfl (fun hc => ?_) (fun hc => ?_)
    · have hf := ifp hc hf
      refine z_sub (ls' := [(0, .ref (ad 0)), (1, .int l1), (3, .int l3)]) [0, 1, 3] rfl ?_
      exact tb_X3_ifOpen_56 ad s sv tx cu ho mf C F _ ih _ _ _ hf
    have hf := ifn hc hf
    refine z_iconst (v := 1) C dX3_ifOpen_52 kc_1 ?_
    refine z_goto (tgt := 57) C dX3_ifOpen_53 rfl ?_
    refine z_sub (ls' := [(0, .ref (ad 0)), (1, .int l1), (3, .int l3)]) [0, 1, 3] rfl ?_
    exact tb_X3_ifOpen_57 ad s sv tx cu ho mf C F _ ih _ _ _ _ hf
set_option maxHeartbeats 400000 in
set_option maxRecDepth 100000 in
theorem c_X3_ifOpen {l : Launch} {D : va_G} {cs : ClassId × ClassId × ClassId} (ad : Nat → Nat) (a1 : Int32) (s : zA) (sv : zA) (tx : zA) (cu : zA) (ho : zA) (mf : zA) {v : Int32}  (e : f_X3_ifOpen a1 s = some v) : zM l D cs yX3_ifOpen cX3_ifOpen 4 (some .int) 3 [.ref (ad 0), .int a1] (MW cs ad s sv tx cu ho mf) v (MW cs ad s sv tx cu ho mf) := by
  refine zM_of (show plainName RX3 = true by decide +kernel) (Nat.le_of_ble_eq_true rfl) ?_
  rintro G rfl rfl rfl C F
  have hf := e
  clear e
  unfold f_X3_ifOpen at hf
  show zV G 4 0 [(0, .ref (ad 0)), (1, .int a1)] [] (MW (gk G) ad s sv tx cu ho mf)
  refine z_aload_n 0 C dX3_ifOpen_0 rfl ?_
  refine z_iload_n 1 C dX3_ifOpen_1 rfl ?_
  obtain ⟨v1, e2, hf⟩ := b1_e hf
  refine z_callV (st := []) (ws2 := (MW (gk G) ad s sv tx cu ho mf)) [0, 1, 2, 3, 4, 5] C dX3_ifOpen_2 w_X3_93 (c_X3_isBoard ad a1 s sv tx cu ho mf e2) (by decide) rfl rfl rfl rfl rfl rfl rfl (Nat.le_of_ble_eq_true rfl) rfl ?_
  refine z_if_ne (tgt := 10) C dX3_ifOpen_5 rfl (fun hc => ?_) (fun hc => ?_)
  · have hf := ifn hc hf
    refine z_iconst (v := 0) C dX3_ifOpen_10 kc_0 ?_
    refine z_istore_n (ls' := [(2, _), (0, _), (1, _)]) C dX3_ifOpen_11 (by decide) rfl ?_
    refine z_iconst (v := 0) C dX3_ifOpen_12 kc_0 ?_
    refine z_istore_n (ls' := [(3, _), (2, _), (0, _), (1, _)]) C dX3_ifOpen_13 (by decide) rfl ?_
    refine z_sub (ls' := [(0, .ref (ad 0)), (1, .int a1), (2, .int 0), (3, .int 0)]) [2, 3, 1, 0] rfl ?_
    exact tb_X3_ifOpen_14 ad s sv tx cu ho mf C F _ _ _ _ hf
  have hf := ifp hc hf
  refine z_iconst (v := -1) C dX3_ifOpen_8 kc_m1 ?_
  cases hf
  exact z_iret C dX3_ifOpen_9 F
set_option maxHeartbeats 400000 in
set_option maxRecDepth 100000 in
theorem tb_X3_charactersOf_40 {G : GT}   {v : Int32}  (C : zC G cX3_charactersOf 5 RX3 (some .int) 1) (F : zF G (some (.int v)) ([] : va_W)) : ∀ (l2 : Int64) (l4 : Int32), B_X3_charactersOf_40 l2 l4 = some v → zV G 5 40 [(2, .long l2), (4, .int l4)] [] ([] : va_W) := by
  intro l2 l4 hf
  unfold B_X3_charactersOf_40 at hf
  refine z_lload_n 0 C dX3_charactersOf_40 rfl ?_
  refine z_lconst (v := 0) C dX3_charactersOf_41 kl_0 ?_
  refine z_lcmp C dX3_charactersOf_42 ?_
  refine z_if_ne (tgt := 51) C dX3_charactersOf_43 rfl (fun hc => ?_) (fun hc => ?_)
  · have hf := ifn hc hf
    refine z_iconst (v := 0) C dX3_charactersOf_51 kc_0 ?_
    cases hf
    exact z_iret C dX3_charactersOf_52 F
  have hf := ifp hc hf
  refine z_iload 1 C dX3_charactersOf_46 rfl ?_
  refine z_goto (tgt := 52) C dX3_charactersOf_48 rfl ?_
  cases hf
  exact z_iret C dX3_charactersOf_52 F
set_option maxHeartbeats 400000 in
set_option maxRecDepth 100000 in
theorem tb_X3_charactersOf_5 {G : GT}   {v : Int32}  (C : zC G cX3_charactersOf 5 RX3 (some .int) 1) (F : zF G (some (.int v)) ([] : va_W)) : ∀ (n : Nat) (l2 : Int64) (l4 : Int32), B_X3_charactersOf_5 n l2 l4 = some v → zV G 5 5 [(2, .long l2), (4, .int l4)] [] ([] : va_W) := by
  intro n
  induction n with
  | zero => intro _ _ hf; rw [B_X3_charactersOf_5] at hf; cases hf
  | succ n ih =>
    intro l2 l4 hf
    rw [B_X3_charactersOf_5] at hf
    refine z_iload 1 C dX3_charactersOf_5 rfl ?_
    refine z_bipush (v := 8) C dX3_charactersOf_7 kb_8 ?_
    refine z_icmp_ge (tgt := 40) C dX3_charactersOf_9 rfl (fun hc => ?_) (fun hc => ?_)
    · have hf := ifp hc hf
      exact tb_X3_charactersOf_40  C F _ _ hf
    have hf := ifn hc hf
    refine z_lload_n 0 C dX3_charactersOf_12 rfl ?_
    refine z_ldc2 C dX3_charactersOf_13 tw_564 ?_
    refine z_land C dX3_charactersOf_16 ?_
    refine z_ldc2 C dX3_charactersOf_17 tw_568 ?_
    refine z_ldc2 C dX3_charactersOf_20 tw_569 ?_
    obtain ⟨v1, e2, hf⟩ := b1_e hf
    refine z_callS (st := []) (ws2 := ([] : va_W)) [] C dX3_charactersOf_23 w_X3_85 (c_X3_in (l2 &&& 255) 33 126 e2) (by decide) rfl rfl rfl  rfl rfl (Nat.le_of_ble_eq_true rfl) rfl ?_
    refine z_if_eq (tgt := 40) C dX3_charactersOf_26 rfl (fun hc => ?_) (fun hc => ?_)
    · have hf := ifp hc hf
      exact tb_X3_charactersOf_40  C F _ _ hf
    have hf := ifn hc hf
    refine z_lload_n 0 C dX3_charactersOf_29 rfl ?_
    refine z_bipush (v := 8) C dX3_charactersOf_30 kb_8 ?_
    refine z_lushr C dX3_charactersOf_32 ?_
    obtain ⟨x3, e4, hf⟩ := nm_g hf
    refine z_topl e4 ?_
    refine z_lstore_n (ls' := [(2, _), (4, _)]) C dX3_charactersOf_33 (by decide) rfl ?_
    obtain ⟨x5, e6, hf⟩ := nm_g hf
    refine z_iinc (ls' := [(4, _), (2, _)]) 1 C dX3_charactersOf_34 rfl kc_1 e6 (by decide) rfl ?_
    refine z_goto (tgt := 5) C dX3_charactersOf_37 rfl ?_
    refine z_sub (ls' := [(2, .long x3), (4, .int x5)]) [1, 0] rfl ?_
    exact ih _ _ hf
set_option maxHeartbeats 400000 in
set_option maxRecDepth 100000 in
theorem c_X3_charactersOf {l : Launch} {D : va_G} {cs : ClassId × ClassId × ClassId}  (a0 : Int64)  {v : Int32}  (e : f_X3_charactersOf a0 = some v) : zM l D cs yX3_charactersOf cX3_charactersOf 5 (some .int) 1 [.long a0] ([] : va_W) v ([] : va_W) := by
  refine zM_of (show plainName RX3 = true by decide +kernel) (Nat.le_of_ble_eq_true rfl) ?_
  rintro G rfl rfl rfl C F
  have hf := e
  clear e
  unfold f_X3_charactersOf at hf
  show zV G 5 0 [(0, .long a0)] [] ([] : va_W)
  refine z_lload_n 0 C dX3_charactersOf_0 rfl ?_
  refine z_lstore_n (ls' := [(2, _), (0, _)]) C dX3_charactersOf_1 (by decide) rfl ?_
  refine z_iconst (v := 0) C dX3_charactersOf_2 kc_0 ?_
  refine z_istore (ls' := [(4, _), (2, _), (0, _)]) C dX3_charactersOf_3 (by decide) rfl ?_
  refine z_sub (ls' := [(2, .long a0), (4, .int 0)]) [1, 0] rfl ?_
  exact tb_X3_charactersOf_5  C F _ _ _ hf
set_option maxHeartbeats 400000 in
set_option maxRecDepth 100000 in
theorem tb_X3_put_29 {G : GT} (ad : Nat → Nat) (s : zA) (sv : zA) (cu : zA) (ho : zA) {v : Int32} {tx' : zA} {mf' : zA} (C : zC G cX3_put 5 RX3 (some .int) 2) (F : zF G (some (.int v)) (MW (gk G) ad s sv tx' cu ho mf')) : ∀ (n : Nat) (l1 : Int64) (l3 : Int32) (l4 : Int32) (tx : zA) (mf : zA), B_X3_put_29 n l1 l3 l4 tx mf = some (v, tx', mf') → zV G 5 29 [(0, .ref (ad 0)), (1, .long l1), (3, .int l3), (4, .int l4)] [] (MW (gk G) ad s sv tx cu ho mf) := by
  intro n
  induction n with
  | zero => intro _ _ _ _ _ hf; rw [B_X3_put_29] at hf; cases hf
  | succ n ih =>
    intro l1 l3 l4 tx mf hf
    rw [B_X3_put_29] at hf
    refine z_iload 3 C dX3_put_29 rfl ?_
    refine z_iload_n 2 C dX3_put_31 rfl ?_
    refine z_icmp_ge (tgt := 69) C dX3_put_32 rfl (fun hc => ?_) (fun hc => ?_)
    · have hf := ifp hc hf
      refine z_aload_n 0 C dX3_put_69 rfl ?_
      refine z_dup C dX3_put_70 rfl ?_
      refine gf_X3_165 0 C dX3_put_71 rfl rfl ?_
      refine z_iload_n 2 C dX3_put_74 rfl ?_
      refine z_iadd C dX3_put_75 ?_
      obtain ⟨mf1, e2, hf⟩ := nm_g hf
      refine pf_X3_165 (ws' := (MW (gk G) ad s sv tx cu ho mf1)) 0 C dX3_put_76 rfl (Nat.le_of_ble_eq_true rfl) (by subst e2; rfl) ?_
      refine z_aload_n 0 C dX3_put_79 rfl ?_
      refine gf_X3_165 0 C dX3_put_80 rfl rfl ?_
      cases hf
      exact z_iret C dX3_put_83 F
    have hf := ifn hc hf
    refine z_aload_n 0 C dX3_put_35 rfl ?_
    refine gf_X3_17 0 C dX3_put_36 rfl rfl ?_
    refine z_aload_n 0 C dX3_put_39 rfl ?_
    refine gf_X3_165 0 C dX3_put_40 rfl rfl ?_
    refine z_iload 3 C dX3_put_43 rfl ?_
    refine z_iadd C dX3_put_45 ?_
    refine z_lload_n 1 C dX3_put_46 rfl ?_
    refine z_bipush (v := 8) C dX3_put_47 kb_8 ?_
    refine z_iload_n 2 C dX3_put_49 rfl ?_
    refine z_iconst (v := 1) C dX3_put_50 kc_1 ?_
    refine z_isub C dX3_put_51 ?_
    refine z_iload 3 C dX3_put_52 rfl ?_
    refine z_isub C dX3_put_54 ?_
    refine z_imul C dX3_put_55 ?_
    refine z_lushr C dX3_put_56 ?_
    refine z_ldc2 C dX3_put_57 tw_564 ?_
    refine z_land C dX3_put_60 ?_
    refine z_l2i C dX3_put_61 ?_
    obtain ⟨k3, h4, hf⟩ := gd_e hf
    obtain ⟨tx5, e6, hf⟩ := nm_g hf
    refine z_iast (ws' := (MW (gk G) ad s sv tx5 cu ho mf)) 3 C dX3_put_62 h4 rfl e6 rfl ?_
    obtain ⟨x7, e8, hf⟩ := nm_g hf
    refine z_iinc (ls' := [(4, _), (0, _), (1, _), (3, _)]) 3 C dX3_put_63 rfl kc_1 e8 (by decide) rfl ?_
    refine z_goto (tgt := 29) C dX3_put_66 rfl ?_
    refine z_sub (ls' := [(0, .ref (ad 0)), (1, .long l1), (3, .int l3), (4, .int x7)]) [1, 2, 3, 0] rfl ?_
    exact ih _ _ _ _ _ hf
set_option maxHeartbeats 400000 in
set_option maxRecDepth 100000 in
theorem c_X3_put {l : Launch} {D : va_G} {cs : ClassId × ClassId × ClassId} (ad : Nat → Nat) (a1 : Int64) (s : zA) (sv : zA) (tx : zA) (cu : zA) (ho : zA) (mf : zA) {v : Int32} {tx' : zA} {mf' : zA} (e : f_X3_put a1 tx mf = some (v, tx', mf')) : zM l D cs yX3_put cX3_put 5 (some .int) 2 [.ref (ad 0), .long a1] (MW cs ad s sv tx cu ho mf) v (MW cs ad s sv tx' cu ho mf') := by
  refine zM_of (show plainName RX3 = true by decide +kernel) (Nat.le_of_ble_eq_true rfl) ?_
  rintro G rfl rfl rfl C F
  have hf := e
  clear e
  unfold f_X3_put at hf
  show zV G 5 0 [(0, .ref (ad 0)), (1, .long a1)] [] (MW (gk G) ad s sv tx cu ho mf)
  refine z_lload_n 1 C dX3_put_0 rfl ?_
  obtain ⟨v1, e2, hf⟩ := b1_e hf
  refine z_callS (st := []) (ws2 := (MW (gk G) ad s sv tx cu ho mf)) [] C dX3_put_1 w_X3_187 (c_X3_charactersOf a1 e2) (by decide) rfl rfl rfl  rfl rfl (Nat.le_of_ble_eq_true rfl) rfl ?_
  refine z_istore_n (ls' := [(3, _), (0, _), (1, _)]) C dX3_put_4 (by decide) rfl ?_
  refine z_iload_n 0 C dX3_put_5 rfl ?_
  refine z_if_ne (tgt := 12) C dX3_put_6 rfl (fun hc => ?_) (fun hc => ?_)
  · have hf := ifn hc hf
    refine z_aload_n 1 C dX3_put_12 rfl ?_
    refine gf_X3_165 0 C dX3_put_13 rfl rfl ?_
    refine z_iload_n 0 C dX3_put_16 rfl ?_
    refine z_iadd C dX3_put_17 ?_
    refine z_bipush (v := 80) C dX3_put_18 kb_80 ?_
    refine z_icmp_le (tgt := 26) C dX3_put_20 rfl (fun hc => ?_) (fun hc => ?_)
    · have hf := ifp hc hf
      refine z_iconst (v := 0) C dX3_put_26 kc_0 ?_
      refine z_istore (ls' := [(4, _), (3, _), (0, _), (1, _)]) C dX3_put_27 (by decide) rfl ?_
      refine z_sub (ls' := [(0, .ref (ad 0)), (1, .long a1), (3, .int v1), (4, .int 0)]) [2, 3, 1, 0] rfl ?_
      exact tb_X3_put_29 ad s sv cu ho C F _ _ _ _ _ _ hf
    have hf := ifn hc hf
    refine z_bipush (v := -4) C dX3_put_23 kb_m4 ?_
    cases hf
    exact z_iret C dX3_put_25 F
  have hf := ifp hc hf
  refine z_bipush (v := -2) C dX3_put_9 kb_m2 ?_
  cases hf
  exact z_iret C dX3_put_11 F
set_option maxHeartbeats 400000 in
set_option maxRecDepth 100000 in
theorem c_X3_wipe {l : Launch} {D : va_G} {cs : ClassId × ClassId × ClassId} (ad : Nat → Nat)  (s : zA) (sv : zA) (tx : zA) (cu : zA) (ho : zA) (mf : zA) {v : Int32} {mf' : zA} (e : f_X3_wipe mf = some (v, mf')) : zM l D cs yX3_wipe cX3_wipe 2 (some .int) 0 [.ref (ad 0)] (MW cs ad s sv tx cu ho mf) v (MW cs ad s sv tx cu ho mf') := by
  refine zM_of (show plainName RX3 = true by decide +kernel) (Nat.le_of_ble_eq_true rfl) ?_
  rintro G rfl rfl rfl C F
  have hf := e
  clear e
  unfold f_X3_wipe at hf
  show zV G 2 0 [(0, .ref (ad 0))] [] (MW (gk G) ad s sv tx cu ho mf)
  refine z_aload_n 0 C dX3_wipe_0 rfl ?_
  refine gf_X3_165 0 C dX3_wipe_1 rfl rfl ?_
  refine z_istore_n (ls' := [(1, _), (0, _)]) C dX3_wipe_4 (by decide) rfl ?_
  refine z_aload_n 1 C dX3_wipe_5 rfl ?_
  refine z_iconst (v := 0) C dX3_wipe_6 kc_0 ?_
  obtain ⟨mf1, e2, hf⟩ := nm_g hf
  refine pf_X3_165 (ws' := (MW (gk G) ad s sv tx cu ho mf1)) 0 C dX3_wipe_7 rfl (Nat.le_of_ble_eq_true rfl) (by subst e2; rfl) ?_
  refine z_iload_n 0 C dX3_wipe_10 rfl ?_
  cases hf
  exact z_iret C dX3_wipe_11 F
set_option maxHeartbeats 400000 in
set_option maxRecDepth 100000 in
theorem c_X3_isHere {l : Launch} {D : va_G} {cs : ClassId × ClassId × ClassId} (ad : Nat → Nat) (a1 : Int32) (a2 : Int32) (s : zA) (sv : zA) (tx : zA) (cu : zA) (ho : zA) (mf : zA) {v : Int32}  (e : f_X3_isHere a1 a2 tx mf = some v) : zM l D cs yX3_isHere cX3_isHere 3 (some .boolean) 1 [.ref (ad 0), .int a1, .int a2] (MW cs ad s sv tx cu ho mf) v (MW cs ad s sv tx cu ho mf) := by
  refine zM_of (show plainName RX3 = true by decide +kernel) (Nat.le_of_ble_eq_true rfl) ?_
  rintro G rfl rfl rfl C F
  have hf := e
  clear e
  unfold f_X3_isHere at hf
  show zV G 3 0 [(0, .ref (ad 0)), (1, .int a1), (2, .int a2)] [] (MW (gk G) ad s sv tx cu ho mf)
  refine z_aload_n 0 C dX3_isHere_0 rfl ?_
  refine gf_X3_191 0 C dX3_isHere_1 rfl rfl ?_
  refine z_aload_n 0 C dX3_isHere_4 rfl ?_
  refine gf_X3_165 0 C dX3_isHere_5 rfl rfl ?_
  refine z_icmp_ge (tgt := 35) C dX3_isHere_8 rfl (fun hc => ?_) (fun hc => ?_)
  · have hf := ifp hc hf
    refine z_iconst (v := 0) C dX3_isHere_35 kc_0 ?_
    cases hf
    exact z_zret C dX3_isHere_36 rfl F
  have hf := ifn hc hf
  refine z_aload_n 0 C dX3_isHere_11 rfl ?_
  refine gf_X3_17 0 C dX3_isHere_12 rfl rfl ?_
  refine z_aload_n 0 C dX3_isHere_15 rfl ?_
  refine gf_X3_191 0 C dX3_isHere_16 rfl rfl ?_
  obtain ⟨k1, h2, hf⟩ := gd_e hf
  refine z_iald 3 C dX3_isHere_19 h2 rfl ?_
  refine z_i2l C dX3_isHere_20 ?_
  refine z_iload_n 1 C dX3_isHere_21 rfl ?_
  refine z_i2l C dX3_isHere_22 ?_
  refine z_iload_n 2 C dX3_isHere_23 rfl ?_
  refine z_i2l C dX3_isHere_24 ?_
  obtain ⟨v3, e4, hf⟩ := b1_e hf
  refine z_callS (st := []) (ws2 := (MW (gk G) ad s sv tx cu ho mf)) [] C dX3_isHere_25 w_X3_85 (c_X3_in (Int32.toInt64 (tx k1)) (Int32.toInt64 a1) (Int32.toInt64 a2) e4) (by decide) rfl rfl rfl  rfl rfl (Nat.le_of_ble_eq_true rfl) rfl ?_
  refine z_if_eq (tgt := 35) C dX3_isHere_28 rfl (fun hc => ?_) (fun hc => ?_)
  · have hf := ifp hc hf
    refine z_iconst (v := 0) C dX3_isHere_35 kc_0 ?_
    cases hf
    exact z_zret C dX3_isHere_36 rfl F
  have hf := ifn hc hf
  refine z_iconst (v := 1) C dX3_isHere_31 kc_1 ?_
  refine z_goto (tgt := 36) C dX3_isHere_32 rfl ?_
  cases hf
  exact z_zret C dX3_isHere_36 rfl F
set_option maxHeartbeats 400000 in
set_option maxRecDepth 100000 in
theorem c_X3_takes {l : Launch} {D : va_G} {cs : ClassId × ClassId × ClassId} (ad : Nat → Nat) (a1 : Int32) (s : zA) (sv : zA) (tx : zA) (cu : zA) (ho : zA) (mf : zA) {v : Int32} {mf' : zA} (e : f_X3_takes a1 tx mf = some (v, mf')) : zM l D cs yX3_takes cX3_takes 3 (some .boolean) 2 [.ref (ad 0), .int a1] (MW cs ad s sv tx cu ho mf) v (MW cs ad s sv tx cu ho mf') := by
  refine zM_of (show plainName RX3 = true by decide +kernel) (Nat.le_of_ble_eq_true rfl) ?_
  rintro G rfl rfl rfl C F
  have hf := e
  clear e
  unfold f_X3_takes at hf
  show zV G 3 0 [(0, .ref (ad 0)), (1, .int a1)] [] (MW (gk G) ad s sv tx cu ho mf)
  refine z_aload_n 0 C dX3_takes_0 rfl ?_
  refine z_iload_n 1 C dX3_takes_1 rfl ?_
  refine z_iload_n 1 C dX3_takes_2 rfl ?_
  obtain ⟨v1, e2, hf⟩ := b1_e hf
  refine z_callV (st := []) (ws2 := (MW (gk G) ad s sv tx cu ho mf)) [0, 1, 2, 3, 4, 5] C dX3_takes_3 w_X3_194 (c_X3_isHere ad a1 a1 s sv tx cu ho mf e2) (by decide) rfl rfl rfl rfl rfl rfl rfl (Nat.le_of_ble_eq_true rfl) rfl ?_
  refine z_istore_n (ls' := [(2, _), (0, _), (1, _)]) C dX3_takes_6 (by decide) rfl ?_
  refine z_aload_n 1 C dX3_takes_7 rfl ?_
  refine z_dup C dX3_takes_8 rfl ?_
  refine gf_X3_191 0 C dX3_takes_9 rfl rfl ?_
  refine z_iload_n 0 C dX3_takes_12 rfl ?_
  obtain ⟨v3, e4, hf⟩ := b1_e hf
  refine z_callS (st := [.int (mf 9), .ref (ad 0)]) (ws2 := (MW (gk G) ad s sv tx cu ho mf)) [] C dX3_takes_13 w_X3_56 (c_X3_flag v1 e4) (by decide) rfl rfl rfl  rfl rfl (Nat.le_of_ble_eq_true rfl) rfl ?_
  refine z_iadd C dX3_takes_16 ?_
  obtain ⟨mf5, e6, hf⟩ := nm_g hf
  refine pf_X3_191 (ws' := (MW (gk G) ad s sv tx cu ho mf5)) 0 C dX3_takes_17 rfl (Nat.le_of_ble_eq_true rfl) (by subst e6; rfl) ?_
  refine z_iload_n 0 C dX3_takes_20 rfl ?_
  obtain ⟨hn, hf⟩ := zbo_e hf
  cases hf
  exact z_zret C dX3_takes_21 hn F
set_option maxHeartbeats 400000 in
set_option maxRecDepth 100000 in
theorem tb_X3_digit_45 {G : GT} (ad : Nat → Nat) (s : zA) (sv : zA) (tx : zA) (cu : zA) (ho : zA) {v : Int32} {mf' : zA} (C : zC G cX3_digit 2 RX3 (some .int) 2) (F : zF G (some (.int v)) (MW (gk G) ad s sv tx cu ho mf')) : ∀ (s0 : Int32) (s1 : Int32) (l1 : Int32) (mf : zA), B_X3_digit_45 s0 s1 l1 tx mf = some (v, mf') → zV G 2 45 [(1, .int l1)] [.int s0, .int s1, .ref (ad 0)] (MW (gk G) ad s sv tx cu ho mf) := by
  intro s0 s1 l1 mf hf
  unfold B_X3_digit_45 at hf
  obtain ⟨v1, e2, hf⟩ := b1_e hf
  refine z_callS (st := [.int s1, .ref (ad 0)]) (ws2 := (MW (gk G) ad s sv tx cu ho mf)) [] C dX3_digit_45 w_X3_56 (c_X3_flag s0 e2) (by decide) rfl rfl rfl  rfl rfl (Nat.le_of_ble_eq_true rfl) rfl ?_
  refine z_iadd C dX3_digit_48 ?_
  obtain ⟨mf3, e4, hf⟩ := nm_g hf
  refine pf_X3_191 (ws' := (MW (gk G) ad s sv tx cu ho mf3)) 0 C dX3_digit_49 rfl (Nat.le_of_ble_eq_true rfl) (by subst e4; rfl) ?_
  refine z_iload_n 0 C dX3_digit_52 rfl ?_
  cases hf
  exact z_iret C dX3_digit_53 F
set_option maxHeartbeats 400000 in
set_option maxRecDepth 100000 in
theorem tb_X3_digit_28 {G : GT} (ad : Nat → Nat) (s : zA) (sv : zA) (tx : zA) (cu : zA) (ho : zA) {v : Int32} {mf' : zA} (C : zC G cX3_digit 2 RX3 (some .int) 2) (F : zF G (some (.int v)) (MW (gk G) ad s sv tx cu ho mf')) : ∀ (s0 : Int32) (mf : zA), B_X3_digit_28 s0 tx mf = some (v, mf') → zV G 2 28 [(0, .ref (ad 0))] [.int s0] (MW (gk G) ad s sv tx cu ho mf) := by
  intro s0 mf hf
  unfold B_X3_digit_28 at hf
  refine z_istore_n (ls' := [(1, _), (0, _)]) C dX3_digit_28 (by decide) rfl ?_
  refine z_aload_n 1 C dX3_digit_29 rfl ?_
  refine z_dup C dX3_digit_30 rfl ?_
  refine gf_X3_191 0 C dX3_digit_31 rfl rfl ?_
  refine z_iload_n 0 C dX3_digit_34 rfl ?_
  refine z_bipush (v := -6) C dX3_digit_35 kb_m6 ?_
  refine z_icmp_eq (tgt := 44) C dX3_digit_37 rfl (fun hc => ?_) (fun hc => ?_)
  · have hf := ifp hc hf
    refine z_iconst (v := 0) C dX3_digit_44 kc_0 ?_
    refine z_sub (ls' := [(1, .int s0)]) [0] rfl ?_
    exact tb_X3_digit_45 ad s sv tx cu ho C F _ _ _ _ hf
  have hf := ifn hc hf
  refine z_iconst (v := 1) C dX3_digit_40 kc_1 ?_
  refine z_goto (tgt := 45) C dX3_digit_41 rfl ?_
  refine z_sub (ls' := [(1, .int s0)]) [0] rfl ?_
  exact tb_X3_digit_45 ad s sv tx cu ho C F _ _ _ _ hf
set_option maxHeartbeats 400000 in
set_option maxRecDepth 100000 in
theorem c_X3_digit {l : Launch} {D : va_G} {cs : ClassId × ClassId × ClassId} (ad : Nat → Nat)  (s : zA) (sv : zA) (tx : zA) (cu : zA) (ho : zA) (mf : zA) {v : Int32} {mf' : zA} (e : f_X3_digit tx mf = some (v, mf')) : zM l D cs yX3_digit cX3_digit 2 (some .int) 2 [.ref (ad 0)] (MW cs ad s sv tx cu ho mf) v (MW cs ad s sv tx cu ho mf') := by
  refine zM_of (show plainName RX3 = true by decide +kernel) (Nat.le_of_ble_eq_true rfl) ?_
  rintro G rfl rfl rfl C F
  have hf := e
  clear e
  unfold f_X3_digit at hf
  show zV G 2 0 [(0, .ref (ad 0))] [] (MW (gk G) ad s sv tx cu ho mf)
  refine z_aload_n 0 C dX3_digit_0 rfl ?_
  refine z_bipush (v := 48) C dX3_digit_1 kb_48 ?_
  refine z_bipush (v := 57) C dX3_digit_3 kb_57 ?_
  obtain ⟨v1, e2, hf⟩ := b1_e hf
  refine z_callV (st := []) (ws2 := (MW (gk G) ad s sv tx cu ho mf)) [0, 1, 2, 3, 4, 5] C dX3_digit_5 w_X3_194 (c_X3_isHere ad 48 57 s sv tx cu ho mf e2) (by decide) rfl rfl rfl rfl rfl rfl rfl (Nat.le_of_ble_eq_true rfl) rfl ?_
  refine z_if_eq (tgt := 26) C dX3_digit_8 rfl (fun hc => ?_) (fun hc => ?_)
  · have hf := ifp hc hf
    refine z_bipush (v := -6) C dX3_digit_26 kb_m6 ?_
    exact tb_X3_digit_28 ad s sv tx cu ho C F _ _ hf
  have hf := ifn hc hf
  refine z_aload_n 0 C dX3_digit_11 rfl ?_
  refine gf_X3_17 0 C dX3_digit_12 rfl rfl ?_
  refine z_aload_n 0 C dX3_digit_15 rfl ?_
  refine gf_X3_191 0 C dX3_digit_16 rfl rfl ?_
  obtain ⟨k3, h4, hf⟩ := gd_e hf
  refine z_iald 3 C dX3_digit_19 h4 rfl ?_
  refine z_bipush (v := 48) C dX3_digit_20 kb_48 ?_
  refine z_isub C dX3_digit_22 ?_
  refine z_goto (tgt := 28) C dX3_digit_23 rfl ?_
  exact tb_X3_digit_28 ad s sv tx cu ho C F _ _ hf
set_option maxHeartbeats 400000 in
set_option maxRecDepth 100000 in
theorem tb_X3_number_5 {G : GT} (ad : Nat → Nat) (s : zA) (sv : zA) (tx : zA) (cu : zA) (ho : zA) {v : Int32} {mf' : zA} (C : zC G cX3_number 2 RX3 (some .int) 3) (F : zF G (some (.int v)) (MW (gk G) ad s sv tx cu ho mf')) : ∀ (n : Nat) (l1 : Int32) (mf : zA), B_X3_number_5 n l1 tx mf = some (v, mf') → zV G 2 5 [(0, .ref (ad 0)), (1, .int l1)] [] (MW (gk G) ad s sv tx cu ho mf) := by
  intro n
  induction n with
  | zero => intro _ _ hf; rw [B_X3_number_5] at hf; cases hf
  | succ n ih =>
    intro l1 mf hf
    rw [B_X3_number_5] at hf
    refine z_iload_n 1 C dX3_number_5 rfl ?_
    refine z_i2l C dX3_number_6 ?_
    refine z_lconst (v := 1) C dX3_number_7 kl_1 ?_
    refine z_ldc2 C dX3_number_8 tw_314 ?_
    obtain ⟨v1, e2, hf⟩ := b1_e hf
    refine z_callS (st := []) (ws2 := (MW (gk G) ad s sv tx cu ho mf)) [] C dX3_number_11 w_X3_85 (c_X3_in (Int32.toInt64 l1) 1 99 e2) (by decide) rfl rfl rfl  rfl rfl (Nat.le_of_ble_eq_true rfl) rfl ?_
    refine z_if_eq (tgt := 59) C dX3_number_14 rfl (fun hc => ?_) (fun hc => ?_)
    · have hf := ifp hc hf
      refine z_iload_n 1 C dX3_number_59 rfl ?_
      cases hf
      exact z_iret C dX3_number_60 F
    have hf := ifn hc hf
    refine z_aload_n 0 C dX3_number_17 rfl ?_
    refine z_bipush (v := 48) C dX3_number_18 kb_48 ?_
    refine z_bipush (v := 57) C dX3_number_20 kb_57 ?_
    obtain ⟨v3, e4, hf⟩ := b1_e hf
    refine z_callV (st := []) (ws2 := (MW (gk G) ad s sv tx cu ho mf)) [0, 1, 2, 3, 4, 5] C dX3_number_22 w_X3_194 (c_X3_isHere ad 48 57 s sv tx cu ho mf e4) (by decide) rfl rfl rfl rfl rfl rfl rfl (Nat.le_of_ble_eq_true rfl) rfl ?_
    refine z_if_eq (tgt := 59) C dX3_number_25 rfl (fun hc => ?_) (fun hc => ?_)
    · have hf := ifp hc hf
      refine z_iload_n 1 C dX3_number_59 rfl ?_
      cases hf
      exact z_iret C dX3_number_60 F
    have hf := ifn hc hf
    refine z_bipush (v := 10) C dX3_number_28 kb_10 ?_
    refine z_iload_n 1 C dX3_number_30 rfl ?_
    refine z_imul C dX3_number_31 ?_
    refine z_aload_n 0 C dX3_number_32 rfl ?_
    refine gf_X3_17 0 C dX3_number_33 rfl rfl ?_
    refine z_aload_n 0 C dX3_number_36 rfl ?_
    refine gf_X3_191 0 C dX3_number_37 rfl rfl ?_
    obtain ⟨k5, h6, hf⟩ := gd_e hf
    refine z_iald 3 C dX3_number_40 h6 rfl ?_
    refine z_iadd C dX3_number_41 ?_
    refine z_bipush (v := 48) C dX3_number_42 kb_48 ?_
    refine z_isub C dX3_number_44 ?_
    obtain ⟨x7, e8, hf⟩ := nm_g hf
    refine z_top e8 ?_
    refine z_istore_n (ls' := [(1, _), (0, _)]) C dX3_number_45 (by decide) rfl ?_
    refine z_aload_n 1 C dX3_number_46 rfl ?_
    refine z_dup C dX3_number_47 rfl ?_
    refine gf_X3_191 0 C dX3_number_48 rfl rfl ?_
    refine z_iconst (v := 1) C dX3_number_51 kc_1 ?_
    refine z_iadd C dX3_number_52 ?_
    obtain ⟨mf9, e10, hf⟩ := nm_g hf
    refine pf_X3_191 (ws' := (MW (gk G) ad s sv tx cu ho mf9)) 0 C dX3_number_53 rfl (Nat.le_of_ble_eq_true rfl) (by subst e10; rfl) ?_
    refine z_goto (tgt := 5) C dX3_number_56 rfl ?_
    refine z_sub (ls' := [(0, .ref (ad 0)), (1, .int x7)]) [1, 0] rfl ?_
    exact ih _ _ hf
set_option maxHeartbeats 400000 in
set_option maxRecDepth 100000 in
theorem c_X3_number {l : Launch} {D : va_G} {cs : ClassId × ClassId × ClassId} (ad : Nat → Nat)  (s : zA) (sv : zA) (tx : zA) (cu : zA) (ho : zA) (mf : zA) {v : Int32} {mf' : zA} (e : f_X3_number tx mf = some (v, mf')) : zM l D cs yX3_number cX3_number 2 (some .int) 3 [.ref (ad 0)] (MW cs ad s sv tx cu ho mf) v (MW cs ad s sv tx cu ho mf') := by
  refine zM_of (show plainName RX3 = true by decide +kernel) (Nat.le_of_ble_eq_true rfl) ?_
  rintro G rfl rfl rfl C F
  have hf := e
  clear e
  unfold f_X3_number at hf
  show zV G 2 0 [(0, .ref (ad 0))] [] (MW (gk G) ad s sv tx cu ho mf)
  refine z_aload_n 0 C dX3_number_0 rfl ?_
  obtain ⟨v1, mf2, e3, hf⟩ := b2_e hf
  refine z_callV (st := []) (ws2 := (MW (gk G) ad s sv tx cu ho mf2)) [0, 1, 2, 3, 4, 5] C dX3_number_1 w_X3_197 (c_X3_digit ad s sv tx cu ho mf e3) (by decide) rfl rfl rfl rfl rfl rfl rfl (Nat.le_of_ble_eq_true rfl) rfl ?_
  refine z_istore_n (ls' := [(1, _), (0, _)]) C dX3_number_4 (by decide) rfl ?_
  refine z_sub (ls' := [(0, .ref (ad 0)), (1, .int v1)]) [1, 0] rfl ?_
  exact tb_X3_number_5 ad s sv tx cu ho C F _ _ _ hf
set_option maxHeartbeats 400000 in
set_option maxRecDepth 100000 in
theorem tb_X3_readsKind_42 {G : GT} (ad : Nat → Nat) (s : zA) (sv : zA) (tx : zA) (cu : zA) (ho : zA) {v : Int32} {mf' : zA} (C : zC G cX3_readsKind 1 RX3 (some .boolean) 3) (F : zF G (some (.int v)) (MW (gk G) ad s sv tx cu ho mf')) : ∀ (s0 : Int32) (mf : zA), B_X3_readsKind_42 s0 tx mf = some (v, mf') → zV G 1 42 [(0, .ref (ad 0))] [.int s0, .ref (ad 0)] (MW (gk G) ad s sv tx cu ho mf) := by
  intro s0 mf hf
  unfold B_X3_readsKind_42 at hf
  obtain ⟨mf1, e2, hf⟩ := nm_g hf
  refine pf_X3_203 (ws' := (MW (gk G) ad s sv tx cu ho mf1)) 0 C dX3_readsKind_42 rfl (Nat.le_of_ble_eq_true rfl) (by subst e2; rfl) ?_
  refine z_aload_n 0 C dX3_readsKind_45 rfl ?_
  refine gf_X3_203 0 C dX3_readsKind_46 rfl rfl ?_
  refine z_bipush (v := -6) C dX3_readsKind_49 kb_m6 ?_
  refine z_icmp_eq (tgt := 58) C dX3_readsKind_51 rfl (fun hc => ?_) (fun hc => ?_)
  · have hf := ifp hc hf
    refine z_iconst (v := 0) C dX3_readsKind_58 kc_0 ?_
    cases hf
    exact z_zret C dX3_readsKind_59 rfl F
  have hf := ifn hc hf
  refine z_iconst (v := 1) C dX3_readsKind_54 kc_1 ?_
  refine z_goto (tgt := 59) C dX3_readsKind_55 rfl ?_
  cases hf
  exact z_zret C dX3_readsKind_59 rfl F
set_option maxHeartbeats 400000 in
set_option maxRecDepth 100000 in
theorem c_X3_readsKind {l : Launch} {D : va_G} {cs : ClassId × ClassId × ClassId} (ad : Nat → Nat)  (s : zA) (sv : zA) (tx : zA) (cu : zA) (ho : zA) (mf : zA) {v : Int32} {mf' : zA} (e : f_X3_readsKind tx mf = some (v, mf')) : zM l D cs yX3_readsKind cX3_readsKind 1 (some .boolean) 3 [.ref (ad 0)] (MW cs ad s sv tx cu ho mf) v (MW cs ad s sv tx cu ho mf') := by
  refine zM_of (show plainName RX3 = true by decide +kernel) (Nat.le_of_ble_eq_true rfl) ?_
  rintro G rfl rfl rfl C F
  have hf := e
  clear e
  unfold f_X3_readsKind at hf
  show zV G 1 0 [(0, .ref (ad 0))] [] (MW (gk G) ad s sv tx cu ho mf)
  refine z_aload_n 0 C dX3_readsKind_0 rfl ?_
  refine z_aload_n 0 C dX3_readsKind_1 rfl ?_
  refine z_bipush (v := 113) C dX3_readsKind_2 kb_113 ?_
  obtain ⟨v1, mf2, e3, hf⟩ := b2_e hf
  refine z_callV (st := [.ref (ad 0)]) (ws2 := (MW (gk G) ad s sv tx cu ho mf2)) [0, 1, 2, 3, 4, 5] C dX3_readsKind_4 w_X3_200 (c_X3_takes ad 113 s sv tx cu ho mf e3) (by decide) rfl rfl rfl rfl rfl rfl rfl (Nat.le_of_ble_eq_true rfl) rfl ?_
  refine z_if_eq (tgt := 14) C dX3_readsKind_7 rfl (fun hc => ?_) (fun hc => ?_)
  · have hf := ifp hc hf
    refine z_aload_n 0 C dX3_readsKind_14 rfl ?_
    refine z_bipush (v := 115) C dX3_readsKind_15 kb_115 ?_
    obtain ⟨v4, mf5, e6, hf⟩ := b2_e hf
    refine z_callV (st := [.ref (ad 0)]) (ws2 := (MW (gk G) ad s sv tx cu ho mf5)) [0, 1, 2, 3, 4, 5] C dX3_readsKind_17 w_X3_200 (c_X3_takes ad 115 s sv tx cu ho mf2 e6) (by decide) rfl rfl rfl rfl rfl rfl rfl (Nat.le_of_ble_eq_true rfl) rfl ?_
    refine z_if_eq (tgt := 27) C dX3_readsKind_20 rfl (fun hc => ?_) (fun hc => ?_)
    · have hf := ifp hc hf
      refine z_aload_n 0 C dX3_readsKind_27 rfl ?_
      refine z_bipush (v := 111) C dX3_readsKind_28 kb_111 ?_
      obtain ⟨v7, mf8, e9, hf⟩ := b2_e hf
      refine z_callV (st := [.ref (ad 0)]) (ws2 := (MW (gk G) ad s sv tx cu ho mf8)) [0, 1, 2, 3, 4, 5] C dX3_readsKind_30 w_X3_200 (c_X3_takes ad 111 s sv tx cu ho mf5 e9) (by decide) rfl rfl rfl rfl rfl rfl rfl (Nat.le_of_ble_eq_true rfl) rfl ?_
      refine z_if_eq (tgt := 40) C dX3_readsKind_33 rfl (fun hc => ?_) (fun hc => ?_)
      · have hf := ifp hc hf
        refine z_bipush (v := -6) C dX3_readsKind_40 kb_m6 ?_
        exact tb_X3_readsKind_42 ad s sv tx cu ho C F _ _ hf
      have hf := ifn hc hf
      refine z_iconst (v := 2) C dX3_readsKind_36 kc_2 ?_
      refine z_goto (tgt := 42) C dX3_readsKind_37 rfl ?_
      exact tb_X3_readsKind_42 ad s sv tx cu ho C F _ _ hf
    have hf := ifn hc hf
    refine z_iconst (v := 1) C dX3_readsKind_23 kc_1 ?_
    refine z_goto (tgt := 42) C dX3_readsKind_24 rfl ?_
    exact tb_X3_readsKind_42 ad s sv tx cu ho C F _ _ hf
  have hf := ifn hc hf
  refine z_iconst (v := 0) C dX3_readsKind_10 kc_0 ?_
  refine z_goto (tgt := 42) C dX3_readsKind_11 rfl ?_
  exact tb_X3_readsKind_42 ad s sv tx cu ho C F _ _ hf
set_option maxHeartbeats 400000 in
set_option maxRecDepth 100000 in
theorem tb_X3_readsFuse_36 {G : GT} (ad : Nat → Nat) (s : zA) (sv : zA) (tx : zA) (cu : zA) (ho : zA) {v : Int32} {mf' : zA} (C : zC G cX3_readsFuse 1 RX3 (some .boolean) 4) (F : zF G (some (.int v)) (MW (gk G) ad s sv tx cu ho mf')) : ∀ (s0 : Int32) (mf : zA), B_X3_readsFuse_36 s0 tx mf = some (v, mf') → zV G 1 36 [(0, .ref (ad 0))] [.int s0, .ref (ad 0)] (MW (gk G) ad s sv tx cu ho mf) := by
  intro s0 mf hf
  unfold B_X3_readsFuse_36 at hf
  obtain ⟨mf1, e2, hf⟩ := nm_g hf
  refine pf_X3_212 (ws' := (MW (gk G) ad s sv tx cu ho mf1)) 0 C dX3_readsFuse_36 rfl (Nat.le_of_ble_eq_true rfl) (by subst e2; rfl) ?_
  refine z_aload_n 0 C dX3_readsFuse_39 rfl ?_
  refine gf_X3_212 0 C dX3_readsFuse_40 rfl rfl ?_
  refine z_bipush (v := -6) C dX3_readsFuse_43 kb_m6 ?_
  refine z_icmp_eq (tgt := 59) C dX3_readsFuse_45 rfl (fun hc => ?_) (fun hc => ?_)
  · have hf := ifp hc hf
    refine z_iconst (v := 0) C dX3_readsFuse_59 kc_0 ?_
    cases hf
    exact z_zret C dX3_readsFuse_60 rfl F
  have hf := ifn hc hf
  refine z_aload_n 0 C dX3_readsFuse_48 rfl ?_
  obtain ⟨v3, mf4, e5, hf⟩ := b2_e hf
  refine z_callV (st := []) (ws2 := (MW (gk G) ad s sv tx cu ho mf4)) [0, 1, 2, 3, 4, 5] C dX3_readsFuse_49 w_X3_215 (c_X3_readsKind ad s sv tx cu ho mf1 e5) (by decide) rfl rfl rfl rfl rfl rfl rfl (Nat.le_of_ble_eq_true rfl) rfl ?_
  refine z_if_eq (tgt := 59) C dX3_readsFuse_52 rfl (fun hc => ?_) (fun hc => ?_)
  · have hf := ifp hc hf
    refine z_iconst (v := 0) C dX3_readsFuse_59 kc_0 ?_
    cases hf
    exact z_zret C dX3_readsFuse_60 rfl F
  have hf := ifn hc hf
  refine z_iconst (v := 1) C dX3_readsFuse_55 kc_1 ?_
  refine z_goto (tgt := 60) C dX3_readsFuse_56 rfl ?_
  cases hf
  exact z_zret C dX3_readsFuse_60 rfl F
set_option maxHeartbeats 400000 in
set_option maxRecDepth 100000 in
theorem tb_X3_readsFuse_34 {G : GT} (ad : Nat → Nat) (s : zA) (sv : zA) (tx : zA) (cu : zA) (ho : zA) {v : Int32} {mf' : zA} (C : zC G cX3_readsFuse 1 RX3 (some .boolean) 4) (F : zF G (some (.int v)) (MW (gk G) ad s sv tx cu ho mf')) : ∀ (mf : zA), B_X3_readsFuse_34 tx mf = some (v, mf') → zV G 1 34 [(0, .ref (ad 0))] [.ref (ad 0)] (MW (gk G) ad s sv tx cu ho mf) := by
  intro mf hf
  unfold B_X3_readsFuse_34 at hf
  refine z_bipush (v := -6) C dX3_readsFuse_34 kb_m6 ?_
  exact tb_X3_readsFuse_36 ad s sv tx cu ho C F _ _ hf
set_option maxHeartbeats 400000 in
set_option maxRecDepth 100000 in
theorem c_X3_readsFuse {l : Launch} {D : va_G} {cs : ClassId × ClassId × ClassId} (ad : Nat → Nat)  (s : zA) (sv : zA) (tx : zA) (cu : zA) (ho : zA) (mf : zA) {v : Int32} {mf' : zA} (e : f_X3_readsFuse tx mf = some (v, mf')) : zM l D cs yX3_readsFuse cX3_readsFuse 1 (some .boolean) 4 [.ref (ad 0)] (MW cs ad s sv tx cu ho mf) v (MW cs ad s sv tx cu ho mf') := by
  refine zM_of (show plainName RX3 = true by decide +kernel) (Nat.le_of_ble_eq_true rfl) ?_
  rintro G rfl rfl rfl C F
  have hf := e
  clear e
  unfold f_X3_readsFuse at hf
  show zV G 1 0 [(0, .ref (ad 0))] [] (MW (gk G) ad s sv tx cu ho mf)
  refine z_aload_n 0 C dX3_readsFuse_0 rfl ?_
  refine z_aload_n 0 C dX3_readsFuse_1 rfl ?_
  obtain ⟨v1, mf2, e3, hf⟩ := b2_e hf
  refine z_callV (st := [.ref (ad 0)]) (ws2 := (MW (gk G) ad s sv tx cu ho mf2)) [0, 1, 2, 3, 4, 5] C dX3_readsFuse_2 w_X3_197 (c_X3_digit ad s sv tx cu ho mf e3) (by decide) rfl rfl rfl rfl rfl rfl rfl (Nat.le_of_ble_eq_true rfl) rfl ?_
  obtain ⟨mf4, e5, hf⟩ := nm_g hf
  refine pf_X3_206 (ws' := (MW (gk G) ad s sv tx cu ho mf4)) 0 C dX3_readsFuse_5 rfl (Nat.le_of_ble_eq_true rfl) (by subst e5; rfl) ?_
  refine z_aload_n 0 C dX3_readsFuse_8 rfl ?_
  refine z_aload_n 0 C dX3_readsFuse_9 rfl ?_
  refine gf_X3_206 0 C dX3_readsFuse_10 rfl rfl ?_
  refine z_bipush (v := -6) C dX3_readsFuse_13 kb_m6 ?_
  refine z_icmp_eq (tgt := 34) C dX3_readsFuse_15 rfl (fun hc => ?_) (fun hc => ?_)
  · have hf := ifp hc hf
    exact tb_X3_readsFuse_34 ad s sv tx cu ho C F _ hf
  have hf := ifn hc hf
  refine z_aload_n 0 C dX3_readsFuse_18 rfl ?_
  refine z_bipush (v := 46) C dX3_readsFuse_19 kb_46 ?_
  obtain ⟨v6, mf7, e8, hf⟩ := b2_e hf
  refine z_callV (st := [.ref (ad 0)]) (ws2 := (MW (gk G) ad s sv tx cu ho mf7)) [0, 1, 2, 3, 4, 5] C dX3_readsFuse_21 w_X3_200 (c_X3_takes ad 46 s sv tx cu ho mf4 e8) (by decide) rfl rfl rfl rfl rfl rfl rfl (Nat.le_of_ble_eq_true rfl) rfl ?_
  refine z_if_eq (tgt := 34) C dX3_readsFuse_24 rfl (fun hc => ?_) (fun hc => ?_)
  · have hf := ifp hc hf
    exact tb_X3_readsFuse_34 ad s sv tx cu ho C F _ hf
  have hf := ifn hc hf
  refine z_aload_n 0 C dX3_readsFuse_27 rfl ?_
  obtain ⟨v9, mf10, e11, hf⟩ := b2_e hf
  refine z_callV (st := [.ref (ad 0)]) (ws2 := (MW (gk G) ad s sv tx cu ho mf10)) [0, 1, 2, 3, 4, 5] C dX3_readsFuse_28 w_X3_209 (c_X3_number ad s sv tx cu ho mf7 e11) (by decide) rfl rfl rfl rfl rfl rfl rfl (Nat.le_of_ble_eq_true rfl) rfl ?_
  refine z_goto (tgt := 36) C dX3_readsFuse_31 rfl ?_
  exact tb_X3_readsFuse_36 ad s sv tx cu ho C F _ _ hf
set_option maxHeartbeats 400000 in
set_option maxRecDepth 100000 in
theorem tb_X3_readsLoad_36 {G : GT} (ad : Nat → Nat) (s : zA) (sv : zA) (tx : zA) (cu : zA) (ho : zA) {v : Int32} {mf' : zA} (C : zC G cX3_readsLoad 1 RX3 (some .boolean) 4) (F : zF G (some (.int v)) (MW (gk G) ad s sv tx cu ho mf')) : ∀ (s0 : Int32) (mf : zA), B_X3_readsLoad_36 s0 tx mf = some (v, mf') → zV G 1 36 [(0, .ref (ad 0))] [.int s0, .ref (ad 0)] (MW (gk G) ad s sv tx cu ho mf) := by
  intro s0 mf hf
  unfold B_X3_readsLoad_36 at hf
  obtain ⟨mf1, e2, hf⟩ := nm_g hf
  refine pf_X3_212 (ws' := (MW (gk G) ad s sv tx cu ho mf1)) 0 C dX3_readsLoad_36 rfl (Nat.le_of_ble_eq_true rfl) (by subst e2; rfl) ?_
  refine z_aload_n 0 C dX3_readsLoad_39 rfl ?_
  refine gf_X3_212 0 C dX3_readsLoad_40 rfl rfl ?_
  refine z_bipush (v := -6) C dX3_readsLoad_43 kb_m6 ?_
  refine z_icmp_eq (tgt := 52) C dX3_readsLoad_45 rfl (fun hc => ?_) (fun hc => ?_)
  · have hf := ifp hc hf
    refine z_iconst (v := 0) C dX3_readsLoad_52 kc_0 ?_
    cases hf
    exact z_zret C dX3_readsLoad_53 rfl F
  have hf := ifn hc hf
  refine z_iconst (v := 1) C dX3_readsLoad_48 kc_1 ?_
  refine z_goto (tgt := 53) C dX3_readsLoad_49 rfl ?_
  cases hf
  exact z_zret C dX3_readsLoad_53 rfl F
set_option maxHeartbeats 400000 in
set_option maxRecDepth 100000 in
theorem tb_X3_readsLoad_34 {G : GT} (ad : Nat → Nat) (s : zA) (sv : zA) (tx : zA) (cu : zA) (ho : zA) {v : Int32} {mf' : zA} (C : zC G cX3_readsLoad 1 RX3 (some .boolean) 4) (F : zF G (some (.int v)) (MW (gk G) ad s sv tx cu ho mf')) : ∀ (mf : zA), B_X3_readsLoad_34 tx mf = some (v, mf') → zV G 1 34 [(0, .ref (ad 0))] [.ref (ad 0)] (MW (gk G) ad s sv tx cu ho mf) := by
  intro mf hf
  unfold B_X3_readsLoad_34 at hf
  refine z_bipush (v := -6) C dX3_readsLoad_34 kb_m6 ?_
  exact tb_X3_readsLoad_36 ad s sv tx cu ho C F _ _ hf
set_option maxHeartbeats 400000 in
set_option maxRecDepth 100000 in
theorem c_X3_readsLoad {l : Launch} {D : va_G} {cs : ClassId × ClassId × ClassId} (ad : Nat → Nat)  (s : zA) (sv : zA) (tx : zA) (cu : zA) (ho : zA) (mf : zA) {v : Int32} {mf' : zA} (e : f_X3_readsLoad tx mf = some (v, mf')) : zM l D cs yX3_readsLoad cX3_readsLoad 1 (some .boolean) 4 [.ref (ad 0)] (MW cs ad s sv tx cu ho mf) v (MW cs ad s sv tx cu ho mf') := by
  refine zM_of (show plainName RX3 = true by decide +kernel) (Nat.le_of_ble_eq_true rfl) ?_
  rintro G rfl rfl rfl C F
  have hf := e
  clear e
  unfold f_X3_readsLoad at hf
  show zV G 1 0 [(0, .ref (ad 0))] [] (MW (gk G) ad s sv tx cu ho mf)
  refine z_aload_n 0 C dX3_readsLoad_0 rfl ?_
  refine z_aload_n 0 C dX3_readsLoad_1 rfl ?_
  obtain ⟨v1, mf2, e3, hf⟩ := b2_e hf
  refine z_callV (st := [.ref (ad 0)]) (ws2 := (MW (gk G) ad s sv tx cu ho mf2)) [0, 1, 2, 3, 4, 5] C dX3_readsLoad_2 w_X3_197 (c_X3_digit ad s sv tx cu ho mf e3) (by decide) rfl rfl rfl rfl rfl rfl rfl (Nat.le_of_ble_eq_true rfl) rfl ?_
  obtain ⟨mf4, e5, hf⟩ := nm_g hf
  refine pf_X3_206 (ws' := (MW (gk G) ad s sv tx cu ho mf4)) 0 C dX3_readsLoad_5 rfl (Nat.le_of_ble_eq_true rfl) (by subst e5; rfl) ?_
  refine z_aload_n 0 C dX3_readsLoad_8 rfl ?_
  refine z_aload_n 0 C dX3_readsLoad_9 rfl ?_
  refine gf_X3_206 0 C dX3_readsLoad_10 rfl rfl ?_
  refine z_bipush (v := -6) C dX3_readsLoad_13 kb_m6 ?_
  refine z_icmp_eq (tgt := 34) C dX3_readsLoad_15 rfl (fun hc => ?_) (fun hc => ?_)
  · have hf := ifp hc hf
    exact tb_X3_readsLoad_34 ad s sv tx cu ho C F _ hf
  have hf := ifn hc hf
  refine z_aload_n 0 C dX3_readsLoad_18 rfl ?_
  refine z_bipush (v := 61) C dX3_readsLoad_19 kb_61 ?_
  obtain ⟨v6, mf7, e8, hf⟩ := b2_e hf
  refine z_callV (st := [.ref (ad 0)]) (ws2 := (MW (gk G) ad s sv tx cu ho mf7)) [0, 1, 2, 3, 4, 5] C dX3_readsLoad_21 w_X3_200 (c_X3_takes ad 61 s sv tx cu ho mf4 e8) (by decide) rfl rfl rfl rfl rfl rfl rfl (Nat.le_of_ble_eq_true rfl) rfl ?_
  refine z_if_eq (tgt := 34) C dX3_readsLoad_24 rfl (fun hc => ?_) (fun hc => ?_)
  · have hf := ifp hc hf
    exact tb_X3_readsLoad_34 ad s sv tx cu ho C F _ hf
  have hf := ifn hc hf
  refine z_aload_n 0 C dX3_readsLoad_27 rfl ?_
  obtain ⟨v9, mf10, e11, hf⟩ := b2_e hf
  refine z_callV (st := [.ref (ad 0)]) (ws2 := (MW (gk G) ad s sv tx cu ho mf10)) [0, 1, 2, 3, 4, 5] C dX3_readsLoad_28 w_X3_209 (c_X3_number ad s sv tx cu ho mf7 e11) (by decide) rfl rfl rfl rfl rfl rfl rfl (Nat.le_of_ble_eq_true rfl) rfl ?_
  refine z_goto (tgt := 36) C dX3_readsLoad_31 rfl ?_
  exact tb_X3_readsLoad_36 ad s sv tx cu ho C F _ _ hf
set_option maxHeartbeats 400000 in
set_option maxRecDepth 100000 in
theorem tb_X3_readsOrder_25 {G : GT} (ad : Nat → Nat) (s : zA) (sv : zA) (tx : zA) (cu : zA) (ho : zA) {v : Int32} {mf' : zA} (C : zC G cX3_readsOrder 1 RX3 (some .boolean) 5) (F : zF G (some (.int v)) (MW (gk G) ad s sv tx cu ho mf')) : ∀ (s0 : Int32) (mf : zA), B_X3_readsOrder_25 s0 tx mf = some (v, mf') → zV G 1 25 [(0, .ref (ad 0))] [.int s0, .ref (ad 0)] (MW (gk G) ad s sv tx cu ho mf) := by
  intro s0 mf hf
  unfold B_X3_readsOrder_25 at hf
  obtain ⟨mf1, e2, hf⟩ := nm_g hf
  refine pf_X3_219 (ws' := (MW (gk G) ad s sv tx cu ho mf1)) 0 C dX3_readsOrder_25 rfl (Nat.le_of_ble_eq_true rfl) (by subst e2; rfl) ?_
  refine z_aload_n 0 C dX3_readsOrder_28 rfl ?_
  refine z_dup C dX3_readsOrder_29 rfl ?_
  refine gf_X3_191 0 C dX3_readsOrder_30 rfl rfl ?_
  refine z_iconst (v := 1) C dX3_readsOrder_33 kc_1 ?_
  refine z_iadd C dX3_readsOrder_34 ?_
  obtain ⟨mf3, e4, hf⟩ := nm_g hf
  refine pf_X3_191 (ws' := (MW (gk G) ad s sv tx cu ho mf3)) 0 C dX3_readsOrder_35 rfl (Nat.le_of_ble_eq_true rfl) (by subst e4; rfl) ?_
  refine z_aload_n 0 C dX3_readsOrder_38 rfl ?_
  refine gf_X3_219 0 C dX3_readsOrder_39 rfl rfl ?_
  by_cases hs5 : (mf3 10) = 98
  · have hf := ifp hs5 hf
    refine z_look (off := 50) (tgt := 92) C dX3_readsOrder_42 (by decide) (by rw [hs5]; decide) rfl ?_
    refine z_aload_n 0 C dX3_readsOrder_92 rfl ?_
    obtain ⟨v6, mf7, e8, hf⟩ := b2_e hf
    refine z_callV (st := []) (ws2 := (MW (gk G) ad s sv tx cu ho mf7)) [0, 1, 2, 3, 4, 5] C dX3_readsOrder_93 w_X3_222 (c_X3_readsFuse ad s sv tx cu ho mf3 e8) (by decide) rfl rfl rfl rfl rfl rfl rfl (Nat.le_of_ble_eq_true rfl) rfl ?_
    obtain ⟨hn, hf⟩ := zbo_e hf
    cases hf
    exact z_zret C dX3_readsOrder_96 hn F
  have hf := ifn hs5 hf
  by_cases hs9 : (mf3 10) = 102
  · have hf := ifp hs9 hf
    refine z_look (off := 50) (tgt := 92) C dX3_readsOrder_42 (by decide) (by rw [hs9]; decide) rfl ?_
    refine z_aload_n 0 C dX3_readsOrder_92 rfl ?_
    obtain ⟨v10, mf11, e12, hf⟩ := b2_e hf
    refine z_callV (st := []) (ws2 := (MW (gk G) ad s sv tx cu ho mf11)) [0, 1, 2, 3, 4, 5] C dX3_readsOrder_93 w_X3_222 (c_X3_readsFuse ad s sv tx cu ho mf3 e12) (by decide) rfl rfl rfl rfl rfl rfl rfl (Nat.le_of_ble_eq_true rfl) rfl ?_
    obtain ⟨hn, hf⟩ := zbo_e hf
    cases hf
    exact z_zret C dX3_readsOrder_96 hn F
  have hf := ifn hs9 hf
  by_cases hs13 : (mf3 10) = 108
  · have hf := ifp hs13 hf
    refine z_look (off := 55) (tgt := 97) C dX3_readsOrder_42 (by decide) (by rw [hs13]; decide) rfl ?_
    refine z_aload_n 0 C dX3_readsOrder_97 rfl ?_
    obtain ⟨v14, mf15, e16, hf⟩ := b2_e hf
    refine z_callV (st := []) (ws2 := (MW (gk G) ad s sv tx cu ho mf15)) [0, 1, 2, 3, 4, 5] C dX3_readsOrder_98 w_X3_225 (c_X3_readsLoad ad s sv tx cu ho mf3 e16) (by decide) rfl rfl rfl rfl rfl rfl rfl (Nat.le_of_ble_eq_true rfl) rfl ?_
    obtain ⟨hn, hf⟩ := zbo_e hf
    cases hf
    exact z_zret C dX3_readsOrder_101 hn F
  have hf := ifn hs13 hf
  by_cases hs17 : (mf3 10) = 115
  · have hf := ifp hs17 hf
    refine z_look (off := 60) (tgt := 102) C dX3_readsOrder_42 (by decide) (by rw [hs17]; decide) rfl ?_
    refine z_aload_n 0 C dX3_readsOrder_102 rfl ?_
    refine z_aload_n 0 C dX3_readsOrder_103 rfl ?_
    obtain ⟨v18, mf19, e20, hf⟩ := b2_e hf
    refine z_callV (st := [.ref (ad 0)]) (ws2 := (MW (gk G) ad s sv tx cu ho mf19)) [0, 1, 2, 3, 4, 5] C dX3_readsOrder_104 w_X3_209 (c_X3_number ad s sv tx cu ho mf3 e20) (by decide) rfl rfl rfl rfl rfl rfl rfl (Nat.le_of_ble_eq_true rfl) rfl ?_
    obtain ⟨mf21, e22, hf⟩ := nm_g hf
    refine pf_X3_212 (ws' := (MW (gk G) ad s sv tx cu ho mf21)) 0 C dX3_readsOrder_107 rfl (Nat.le_of_ble_eq_true rfl) (by subst e22; rfl) ?_
    refine z_aload_n 0 C dX3_readsOrder_110 rfl ?_
    refine gf_X3_212 0 C dX3_readsOrder_111 rfl rfl ?_
    refine z_bipush (v := -6) C dX3_readsOrder_114 kb_m6 ?_
    refine z_icmp_eq (tgt := 123) C dX3_readsOrder_116 rfl (fun hc => ?_) (fun hc => ?_)
    · have hf := ifp hc hf
      refine z_iconst (v := 0) C dX3_readsOrder_123 kc_0 ?_
      cases hf
      exact z_zret C dX3_readsOrder_124 rfl F
    have hf := ifn hc hf
    refine z_iconst (v := 1) C dX3_readsOrder_119 kc_1 ?_
    refine z_goto (tgt := 124) C dX3_readsOrder_120 rfl ?_
    cases hf
    exact z_zret C dX3_readsOrder_124 rfl F
  have hf := ifn hs17 hf
  by_cases hs23 : (mf3 10) = 116
  · have hf := ifp hs23 hf
    refine z_look (off := 60) (tgt := 102) C dX3_readsOrder_42 (by decide) (by rw [hs23]; decide) rfl ?_
    refine z_aload_n 0 C dX3_readsOrder_102 rfl ?_
    refine z_aload_n 0 C dX3_readsOrder_103 rfl ?_
    obtain ⟨v24, mf25, e26, hf⟩ := b2_e hf
    refine z_callV (st := [.ref (ad 0)]) (ws2 := (MW (gk G) ad s sv tx cu ho mf25)) [0, 1, 2, 3, 4, 5] C dX3_readsOrder_104 w_X3_209 (c_X3_number ad s sv tx cu ho mf3 e26) (by decide) rfl rfl rfl rfl rfl rfl rfl (Nat.le_of_ble_eq_true rfl) rfl ?_
    obtain ⟨mf27, e28, hf⟩ := nm_g hf
    refine pf_X3_212 (ws' := (MW (gk G) ad s sv tx cu ho mf27)) 0 C dX3_readsOrder_107 rfl (Nat.le_of_ble_eq_true rfl) (by subst e28; rfl) ?_
    refine z_aload_n 0 C dX3_readsOrder_110 rfl ?_
    refine gf_X3_212 0 C dX3_readsOrder_111 rfl rfl ?_
    refine z_bipush (v := -6) C dX3_readsOrder_114 kb_m6 ?_
    refine z_icmp_eq (tgt := 123) C dX3_readsOrder_116 rfl (fun hc => ?_) (fun hc => ?_)
    · have hf := ifp hc hf
      refine z_iconst (v := 0) C dX3_readsOrder_123 kc_0 ?_
      cases hf
      exact z_zret C dX3_readsOrder_124 rfl F
    have hf := ifn hc hf
    refine z_iconst (v := 1) C dX3_readsOrder_119 kc_1 ?_
    refine z_goto (tgt := 124) C dX3_readsOrder_120 rfl ?_
    cases hf
    exact z_zret C dX3_readsOrder_124 rfl F
  have hf := ifn hs23 hf
  refine z_look (off := 83) (tgt := 125) C dX3_readsOrder_42 (by decide) (by have q0 := ti_ne (z := 98) (by decide) hs5; have q1 := ti_ne (z := 102) (by decide) hs9; have q2 := ti_ne (z := 108) (by decide) hs13; have q3 := ti_ne (z := 115) (by decide) hs17; have q4 := ti_ne (z := 116) (by decide) hs23; simp [Op.lookupswitch.offset, zne q0, q0, zne q1, q1, zne q2, q2, zne q3, q3, zne q4, q4]) rfl ?_
  refine z_aload_n 0 C dX3_readsOrder_125 rfl ?_
  refine z_dup C dX3_readsOrder_126 rfl ?_
  refine gf_X3_191 0 C dX3_readsOrder_127 rfl rfl ?_
  refine z_iconst (v := 1) C dX3_readsOrder_130 kc_1 ?_
  refine z_isub C dX3_readsOrder_131 ?_
  obtain ⟨mf29, e30, hf⟩ := nm_g hf
  refine pf_X3_191 (ws' := (MW (gk G) ad s sv tx cu ho mf29)) 0 C dX3_readsOrder_132 rfl (Nat.le_of_ble_eq_true rfl) (by subst e30; rfl) ?_
  refine z_iconst (v := 0) C dX3_readsOrder_135 kc_0 ?_
  cases hf
  exact z_zret C dX3_readsOrder_136 rfl F
set_option maxHeartbeats 400000 in
set_option maxRecDepth 100000 in
theorem c_X3_readsOrder {l : Launch} {D : va_G} {cs : ClassId × ClassId × ClassId} (ad : Nat → Nat)  (s : zA) (sv : zA) (tx : zA) (cu : zA) (ho : zA) (mf : zA) {v : Int32} {mf' : zA} (e : f_X3_readsOrder tx mf = some (v, mf')) : zM l D cs yX3_readsOrder cX3_readsOrder 1 (some .boolean) 5 [.ref (ad 0)] (MW cs ad s sv tx cu ho mf) v (MW cs ad s sv tx cu ho mf') := by
  refine zM_of (show plainName RX3 = true by decide +kernel) (Nat.le_of_ble_eq_true rfl) ?_
  rintro G rfl rfl rfl C F
  have hf := e
  clear e
  unfold f_X3_readsOrder at hf
  show zV G 1 0 [(0, .ref (ad 0))] [] (MW (gk G) ad s sv tx cu ho mf)
  refine z_aload_n 0 C dX3_readsOrder_0 rfl ?_
  refine z_aload_n 0 C dX3_readsOrder_1 rfl ?_
  refine gf_X3_191 0 C dX3_readsOrder_2 rfl rfl ?_
  refine z_aload_n 0 C dX3_readsOrder_5 rfl ?_
  refine gf_X3_165 0 C dX3_readsOrder_6 rfl rfl ?_
  refine z_icmp_ge (tgt := 24) C dX3_readsOrder_9 rfl (fun hc => ?_) (fun hc => ?_)
  · have hf := ifp hc hf
    refine z_iconst (v := 0) C dX3_readsOrder_24 kc_0 ?_
    exact tb_X3_readsOrder_25 ad s sv tx cu ho C F _ _ hf
  have hf := ifn hc hf
  refine z_aload_n 0 C dX3_readsOrder_12 rfl ?_
  refine gf_X3_17 0 C dX3_readsOrder_13 rfl rfl ?_
  refine z_aload_n 0 C dX3_readsOrder_16 rfl ?_
  refine gf_X3_191 0 C dX3_readsOrder_17 rfl rfl ?_
  obtain ⟨k1, h2, hf⟩ := gd_e hf
  refine z_iald 3 C dX3_readsOrder_20 h2 rfl ?_
  refine z_goto (tgt := 25) C dX3_readsOrder_21 rfl ?_
  exact tb_X3_readsOrder_25 ad s sv tx cu ho C F _ _ hf
set_option maxHeartbeats 400000 in
set_option maxRecDepth 100000 in
theorem tb_X3_fault_7 {G : GT} (ad : Nat → Nat) (s : zA) (sv : zA) (tx : zA) (cu : zA) (ho : zA) {v : Int32} {mf' : zA} (C : zC G cX3_fault 2 RX3 (some .int) 6) (F : zF G (some (.int v)) (MW (gk G) ad s sv tx cu ho mf')) : ∀ (n : Nat) (l1 : Int32) (mf : zA), B_X3_fault_7 n l1 tx mf = some (v, mf') → zV G 2 7 [(0, .ref (ad 0)), (1, .int l1)] [] (MW (gk G) ad s sv tx cu ho mf) := by
  intro n
  induction n with
  | zero => intro _ _ hf; rw [B_X3_fault_7] at hf; cases hf
  | succ n ih =>
    intro l1 mf hf
    rw [B_X3_fault_7] at hf
    refine z_iload_n 1 C dX3_fault_7 rfl ?_
    refine z_if_eq (tgt := 33) C dX3_fault_8 rfl (fun hc => ?_) (fun hc => ?_)
    · have hf := ifp hc hf
      refine z_aload_n 0 C dX3_fault_33 rfl ?_
      refine gf_X3_191 0 C dX3_fault_34 rfl rfl ?_
      refine z_aload_n 0 C dX3_fault_37 rfl ?_
      refine gf_X3_165 0 C dX3_fault_38 rfl rfl ?_
      refine z_icmp_ne (tgt := 49) C dX3_fault_41 rfl (fun hc => ?_) (fun hc => ?_)
      · have hf := ifn hc hf
        refine z_aload_n 0 C dX3_fault_49 rfl ?_
        refine gf_X3_191 0 C dX3_fault_50 rfl rfl ?_
        cases hf
        exact z_iret C dX3_fault_53 F
      have hf := ifp hc hf
      refine z_bipush (v := -6) C dX3_fault_44 kb_m6 ?_
      refine z_goto (tgt := 53) C dX3_fault_46 rfl ?_
      cases hf
      exact z_iret C dX3_fault_53 F
    have hf := ifn hc hf
    refine z_aload_n 0 C dX3_fault_11 rfl ?_
    obtain ⟨v1, mf2, e3, hf⟩ := b2_e hf
    refine z_callV (st := []) (ws2 := (MW (gk G) ad s sv tx cu ho mf2)) [0, 1, 2, 3, 4, 5] C dX3_fault_12 w_X3_228 (c_X3_readsOrder ad s sv tx cu ho mf e3) (by decide) rfl rfl rfl rfl rfl rfl rfl (Nat.le_of_ble_eq_true rfl) rfl ?_
    refine z_if_ne (tgt := 23) C dX3_fault_15 rfl (fun hc => ?_) (fun hc => ?_)
    · have hf := ifn hc hf
      refine z_aload_n 0 C dX3_fault_23 rfl ?_
      refine z_bipush (v := 59) C dX3_fault_24 kb_59 ?_
      obtain ⟨v4, mf5, e6, hf⟩ := b2_e hf
      refine z_callV (st := []) (ws2 := (MW (gk G) ad s sv tx cu ho mf5)) [0, 1, 2, 3, 4, 5] C dX3_fault_26 w_X3_200 (c_X3_takes ad 59 s sv tx cu ho mf2 e6) (by decide) rfl rfl rfl rfl rfl rfl rfl (Nat.le_of_ble_eq_true rfl) rfl ?_
      refine z_istore_n (ls' := [(1, _), (0, _)]) C dX3_fault_29 (by decide) rfl ?_
      refine z_goto (tgt := 7) C dX3_fault_30 rfl ?_
      refine z_sub (ls' := [(0, .ref (ad 0)), (1, .int v4)]) [1, 0] rfl ?_
      exact ih _ _ hf
    have hf := ifp hc hf
    refine z_aload_n 0 C dX3_fault_18 rfl ?_
    refine gf_X3_191 0 C dX3_fault_19 rfl rfl ?_
    cases hf
    exact z_iret C dX3_fault_22 F
set_option maxHeartbeats 400000 in
set_option maxRecDepth 100000 in
theorem c_X3_fault {l : Launch} {D : va_G} {cs : ClassId × ClassId × ClassId} (ad : Nat → Nat)  (s : zA) (sv : zA) (tx : zA) (cu : zA) (ho : zA) (mf : zA) {v : Int32} {mf' : zA} (e : f_X3_fault tx mf = some (v, mf')) : zM l D cs yX3_fault cX3_fault 2 (some .int) 6 [.ref (ad 0)] (MW cs ad s sv tx cu ho mf) v (MW cs ad s sv tx cu ho mf') := by
  refine zM_of (show plainName RX3 = true by decide +kernel) (Nat.le_of_ble_eq_true rfl) ?_
  rintro G rfl rfl rfl C F
  have hf := e
  clear e
  unfold f_X3_fault at hf
  show zV G 2 0 [(0, .ref (ad 0))] [] (MW (gk G) ad s sv tx cu ho mf)
  refine z_aload_n 0 C dX3_fault_0 rfl ?_
  refine z_iconst (v := 0) C dX3_fault_1 kc_0 ?_
  obtain ⟨mf1, e2, hf⟩ := nm_g hf
  refine pf_X3_191 (ws' := (MW (gk G) ad s sv tx cu ho mf1)) 0 C dX3_fault_2 rfl (Nat.le_of_ble_eq_true rfl) (by subst e2; rfl) ?_
  refine z_iconst (v := 1) C dX3_fault_5 kc_1 ?_
  refine z_istore_n (ls' := [(1, _), (0, _)]) C dX3_fault_6 (by decide) rfl ?_
  refine z_sub (ls' := [(0, .ref (ad 0)), (1, .int 1)]) [1, 0] rfl ?_
  exact tb_X3_fault_7 ad s sv tx cu ho C F _ _ _ hf
set_option maxHeartbeats 400000 in
set_option maxRecDepth 100000 in
theorem c_X3_orderError {l : Launch} {D : va_G} {cs : ClassId × ClassId × ClassId} (ad : Nat → Nat)  (s : zA) (sv : zA) (tx : zA) (cu : zA) (ho : zA) (mf : zA) {v : Int32}  (e : f_X3_orderError s mf = some v) : zM l D cs yX3_orderError cX3_orderError 1 (some .int) 3 [.ref (ad 0)] (MW cs ad s sv tx cu ho mf) v (MW cs ad s sv tx cu ho mf) := by
  refine zM_of (show plainName RX3 = true by decide +kernel) (Nat.le_of_ble_eq_true rfl) ?_
  rintro G rfl rfl rfl C F
  have hf := e
  clear e
  unfold f_X3_orderError at hf
  show zV G 1 0 [(0, .ref (ad 0))] [] (MW (gk G) ad s sv tx cu ho mf)
  refine z_aload_n 0 C dX3_orderError_0 rfl ?_
  refine gf_X3_219 0 C dX3_orderError_1 rfl rfl ?_
  by_cases hs1 : (mf 10) = 98
  · have hf := ifp hs1 hf
    refine z_look (off := 44) (tgt := 48) C dX3_orderError_4 (by decide) (by rw [hs1]; decide) rfl ?_
    refine z_aload_n 0 C dX3_orderError_48 rfl ?_
    refine z_aload_n 0 C dX3_orderError_49 rfl ?_
    refine gf_X3_206 0 C dX3_orderError_50 rfl rfl ?_
    refine z_aload_n 0 C dX3_orderError_53 rfl ?_
    refine gf_X3_212 0 C dX3_orderError_54 rfl rfl ?_
    refine z_aload_n 0 C dX3_orderError_57 rfl ?_
    refine gf_X3_203 0 C dX3_orderError_58 rfl rfl ?_
    obtain ⟨v2, e3, hf⟩ := b1_e hf
    refine z_callV (st := []) (ws2 := (MW (gk G) ad s sv tx cu ho mf)) [0, 1, 2, 3, 4, 5] C dX3_orderError_61 w_X3_121 (c_X3_boardError ad (mf 11) (mf 12) (mf 13) s sv tx cu ho mf e3) (by decide) rfl rfl rfl rfl rfl rfl rfl (Nat.le_of_ble_eq_true rfl) rfl ?_
    cases hf
    exact z_iret C dX3_orderError_64 F
  have hf := ifn hs1 hf
  by_cases hs4 : (mf 10) = 102
  · have hf := ifp hs4 hf
    refine z_look (off := 83) (tgt := 87) C dX3_orderError_4 (by decide) (by rw [hs4]; decide) rfl ?_
    refine z_aload_n 0 C dX3_orderError_87 rfl ?_
    refine z_aload_n 0 C dX3_orderError_88 rfl ?_
    refine gf_X3_206 0 C dX3_orderError_89 rfl rfl ?_
    refine z_aload_n 0 C dX3_orderError_92 rfl ?_
    refine gf_X3_212 0 C dX3_orderError_93 rfl rfl ?_
    refine z_aload_n 0 C dX3_orderError_96 rfl ?_
    refine gf_X3_203 0 C dX3_orderError_97 rfl rfl ?_
    obtain ⟨v5, e6, hf⟩ := b1_e hf
    refine z_callV (st := []) (ws2 := (MW (gk G) ad s sv tx cu ho mf)) [0, 1, 2, 3, 4, 5] C dX3_orderError_100 w_X3_140 (c_X3_fuseError ad (mf 11) (mf 12) (mf 13) s sv tx cu ho mf e6) (by decide) rfl rfl rfl rfl rfl rfl rfl (Nat.le_of_ble_eq_true rfl) rfl ?_
    cases hf
    exact z_iret C dX3_orderError_103 F
  have hf := ifn hs4 hf
  by_cases hs7 : (mf 10) = 108
  · have hf := ifp hs7 hf
    refine z_look (off := 61) (tgt := 65) C dX3_orderError_4 (by decide) (by rw [hs7]; decide) rfl ?_
    refine z_aload_n 0 C dX3_orderError_65 rfl ?_
    refine z_aload_n 0 C dX3_orderError_66 rfl ?_
    refine gf_X3_206 0 C dX3_orderError_67 rfl rfl ?_
    refine z_aload_n 0 C dX3_orderError_70 rfl ?_
    refine gf_X3_212 0 C dX3_orderError_71 rfl rfl ?_
    obtain ⟨v8, e9, hf⟩ := b1_e hf
    refine z_callV (st := []) (ws2 := (MW (gk G) ad s sv tx cu ho mf)) [0, 1, 2, 3, 4, 5] C dX3_orderError_74 w_X3_128 (c_X3_loadError ad (mf 11) (mf 12) s sv tx cu ho mf e9) (by decide) rfl rfl rfl rfl rfl rfl rfl (Nat.le_of_ble_eq_true rfl) rfl ?_
    cases hf
    exact z_iret C dX3_orderError_77 F
  have hf := ifn hs7 hf
  by_cases hs10 : (mf 10) = 115
  · have hf := ifp hs10 hf
    refine z_look (off := 74) (tgt := 78) C dX3_orderError_4 (by decide) (by rw [hs10]; decide) rfl ?_
    refine z_aload_n 0 C dX3_orderError_78 rfl ?_
    refine z_aload_n 0 C dX3_orderError_79 rfl ?_
    refine gf_X3_212 0 C dX3_orderError_80 rfl rfl ?_
    obtain ⟨v11, e12, hf⟩ := b1_e hf
    refine z_callV (st := []) (ws2 := (MW (gk G) ad s sv tx cu ho mf)) [0, 1, 2, 3, 4, 5] C dX3_orderError_83 w_X3_134 (c_X3_turnError ad (mf 12) s sv tx cu ho mf e12) (by decide) rfl rfl rfl rfl rfl rfl rfl (Nat.le_of_ble_eq_true rfl) rfl ?_
    cases hf
    exact z_iret C dX3_orderError_86 F
  have hf := ifn hs10 hf
  refine z_look (off := 100) (tgt := 104) C dX3_orderError_4 (by decide) (by have q0 := ti_ne (z := 98) (by decide) hs1; have q1 := ti_ne (z := 102) (by decide) hs4; have q2 := ti_ne (z := 108) (by decide) hs7; have q3 := ti_ne (z := 115) (by decide) hs10; simp [Op.lookupswitch.offset, zne q0, q0, zne q1, q1, zne q2, q2, zne q3, q3]) rfl ?_
  refine z_aload_n 0 C dX3_orderError_104 rfl ?_
  refine z_aload_n 0 C dX3_orderError_105 rfl ?_
  refine gf_X3_212 0 C dX3_orderError_106 rfl rfl ?_
  obtain ⟨v13, e14, hf⟩ := b1_e hf
  refine z_callV (st := []) (ws2 := (MW (gk G) ad s sv tx cu ho mf)) [0, 1, 2, 3, 4, 5] C dX3_orderError_109 w_X3_146 (c_X3_passError ad (mf 12) s sv tx cu ho mf e14) (by decide) rfl rfl rfl rfl rfl rfl rfl (Nat.le_of_ble_eq_true rfl) rfl ?_
  cases hf
  exact z_iret C dX3_orderError_112 F
set_option maxHeartbeats 400000 in
set_option maxRecDepth 100000 in
theorem c_X3_does {l : Launch} {D : va_G} {cs : ClassId × ClassId × ClassId} (ad : Nat → Nat)  (s : zA) (sv : zA) (tx : zA) (cu : zA) (ho : zA) (mf : zA) {v : Int32} {s' : zA} {cu' : zA} {ho' : zA} (e : f_X3_does s cu ho mf = some (v, s', cu', ho')) : zM l D cs yX3_does cX3_does 1 (some .int) 5 [.ref (ad 0)] (MW cs ad s sv tx cu ho mf) v (MW cs ad s' sv tx cu' ho' mf) := by
  refine zM_of (show plainName RX3 = true by decide +kernel) (Nat.le_of_ble_eq_true rfl) ?_
  rintro G rfl rfl rfl C F
  have hf := e
  clear e
  unfold f_X3_does at hf
  show zV G 1 0 [(0, .ref (ad 0))] [] (MW (gk G) ad s sv tx cu ho mf)
  refine z_aload_n 0 C dX3_does_0 rfl ?_
  refine gf_X3_219 0 C dX3_does_1 rfl rfl ?_
  by_cases hs1 : (mf 10) = 98
  · have hf := ifp hs1 hf
    refine z_look (off := 44) (tgt := 48) C dX3_does_4 (by decide) (by rw [hs1]; decide) rfl ?_
    refine z_aload_n 0 C dX3_does_48 rfl ?_
    refine z_aload_n 0 C dX3_does_49 rfl ?_
    refine gf_X3_206 0 C dX3_does_50 rfl rfl ?_
    refine z_aload_n 0 C dX3_does_53 rfl ?_
    refine gf_X3_212 0 C dX3_does_54 rfl rfl ?_
    refine z_aload_n 0 C dX3_does_57 rfl ?_
    refine gf_X3_203 0 C dX3_does_58 rfl rfl ?_
    obtain ⟨v2, s3, e4, hf⟩ := b2_e hf
    refine z_callV (st := []) (ws2 := (MW (gk G) ad s3 sv tx cu ho mf)) [0, 1, 2, 3, 4, 5] C dX3_does_61 w_X3_125 (c_X3_builds ad (mf 11) (mf 12) (mf 13) s sv tx cu ho mf e4) (by decide) rfl rfl rfl rfl rfl rfl rfl (Nat.le_of_ble_eq_true rfl) rfl ?_
    cases hf
    exact z_iret C dX3_does_64 F
  have hf := ifn hs1 hf
  by_cases hs5 : (mf 10) = 102
  · have hf := ifp hs5 hf
    refine z_look (off := 83) (tgt := 87) C dX3_does_4 (by decide) (by rw [hs5]; decide) rfl ?_
    refine z_aload_n 0 C dX3_does_87 rfl ?_
    refine z_aload_n 0 C dX3_does_88 rfl ?_
    refine gf_X3_206 0 C dX3_does_89 rfl rfl ?_
    refine z_aload_n 0 C dX3_does_92 rfl ?_
    refine gf_X3_212 0 C dX3_does_93 rfl rfl ?_
    refine z_aload_n 0 C dX3_does_96 rfl ?_
    refine gf_X3_203 0 C dX3_does_97 rfl rfl ?_
    obtain ⟨v6, s7, e8, hf⟩ := b2_e hf
    refine z_callV (st := []) (ws2 := (MW (gk G) ad s7 sv tx cu ho mf)) [0, 1, 2, 3, 4, 5] C dX3_does_100 w_X3_143 (c_X3_fuses ad (mf 11) (mf 12) (mf 13) s sv tx cu ho mf e8) (by decide) rfl rfl rfl rfl rfl rfl rfl (Nat.le_of_ble_eq_true rfl) rfl ?_
    cases hf
    exact z_iret C dX3_does_103 F
  have hf := ifn hs5 hf
  by_cases hs9 : (mf 10) = 108
  · have hf := ifp hs9 hf
    refine z_look (off := 61) (tgt := 65) C dX3_does_4 (by decide) (by rw [hs9]; decide) rfl ?_
    refine z_aload_n 0 C dX3_does_65 rfl ?_
    refine z_aload_n 0 C dX3_does_66 rfl ?_
    refine gf_X3_206 0 C dX3_does_67 rfl rfl ?_
    refine z_aload_n 0 C dX3_does_70 rfl ?_
    refine gf_X3_212 0 C dX3_does_71 rfl rfl ?_
    obtain ⟨v10, s11, e12, hf⟩ := b2_e hf
    refine z_callV (st := []) (ws2 := (MW (gk G) ad s11 sv tx cu ho mf)) [0, 1, 2, 3, 4, 5] C dX3_does_74 w_X3_131 (c_X3_connects ad (mf 11) (mf 12) s sv tx cu ho mf e12) (by decide) rfl rfl rfl rfl rfl rfl rfl (Nat.le_of_ble_eq_true rfl) rfl ?_
    cases hf
    exact z_iret C dX3_does_77 F
  have hf := ifn hs9 hf
  by_cases hs13 : (mf 10) = 115
  · have hf := ifp hs13 hf
    refine z_look (off := 74) (tgt := 78) C dX3_does_4 (by decide) (by rw [hs13]; decide) rfl ?_
    refine z_aload_n 0 C dX3_does_78 rfl ?_
    refine z_aload_n 0 C dX3_does_79 rfl ?_
    refine gf_X3_212 0 C dX3_does_80 rfl rfl ?_
    obtain ⟨v14, s15, e16, hf⟩ := b2_e hf
    refine z_callV (st := []) (ws2 := (MW (gk G) ad s15 sv tx cu ho mf)) [0, 1, 2, 3, 4, 5] C dX3_does_83 w_X3_137 (c_X3_turns ad (mf 12) s sv tx cu ho mf e16) (by decide) rfl rfl rfl rfl rfl rfl rfl (Nat.le_of_ble_eq_true rfl) rfl ?_
    cases hf
    exact z_iret C dX3_does_86 F
  have hf := ifn hs13 hf
  refine z_look (off := 100) (tgt := 104) C dX3_does_4 (by decide) (by have q0 := ti_ne (z := 98) (by decide) hs1; have q1 := ti_ne (z := 102) (by decide) hs5; have q2 := ti_ne (z := 108) (by decide) hs9; have q3 := ti_ne (z := 115) (by decide) hs13; simp [Op.lookupswitch.offset, zne q0, q0, zne q1, q1, zne q2, q2, zne q3, q3]) rfl ?_
  refine z_aload_n 0 C dX3_does_104 rfl ?_
  refine z_iconst (v := 0) C dX3_does_105 kc_0 ?_
  refine z_aload_n 0 C dX3_does_106 rfl ?_
  refine gf_X3_212 0 C dX3_does_107 rfl rfl ?_
  obtain ⟨v17, s18, cu19, ho20, e21, hf⟩ := b4_e hf
  refine z_callV (st := []) (ws2 := (MW (gk G) ad s18 sv tx cu19 ho20 mf)) [0, 1, 2, 3, 4, 5] C dX3_does_110 w_X3_149 (c_X3_ticks ad 0 (mf 12) s sv tx cu ho mf e21) (by decide) rfl rfl rfl rfl rfl rfl rfl (Nat.le_of_ble_eq_true rfl) rfl ?_
  cases hf
  exact z_iret C dX3_does_113 F
set_option maxHeartbeats 400000 in
set_option maxRecDepth 100000 in
theorem tb_X3_carryOut_62 {G : GT} (ad : Nat → Nat) (sv : zA) (tx : zA) {v : Int32} {s' : zA} {cu' : zA} {ho' : zA} {mf' : zA} (C : zC G cX3_carryOut 5 RX3 (some .int) 7) (F : zF G (some (.int v)) (MW (gk G) ad s' sv tx cu' ho' mf')) (K : Int32 → Int32 → zA → zA → zA → zA → zA → Option (Int32 × zA × zA × zA × zA)) (hK : ∀ (l1 : Int32) (l2 : Int32) (s : zA) (cu : zA) (ho : zA) (mf : zA), K l1 l2 s tx cu ho mf = some (v, s', cu', ho', mf') → zV G 5 25 [(0, .ref (ad 0)), (1, .int l1), (2, .int l2)] [] (MW (gk G) ad s sv tx cu ho mf)) : ∀ (s0 : Int32) (l1 : Int32) (l3 : Int32) (s : zA) (cu : zA) (ho : zA) (mf : zA), B_X3_carryOut_62 K s0 l1 l3 s tx cu ho mf = some (v, s', cu', ho', mf') → zV G 5 62 [(0, .ref (ad 0)), (1, .int l1), (3, .int l3)] [.int s0] (MW (gk G) ad s sv tx cu ho mf) := by
  intro s0 l1 l3 s cu ho mf hf
  unfold B_X3_carryOut_62 at hf
  refine z_istore (ls' := [(4, _), (0, _), (1, _), (3, _)]) C dX3_carryOut_62 (by decide) rfl ?_
  refine z_iload_n 2 C dX3_carryOut_64 rfl ?_
  refine z_iload_n 3 C dX3_carryOut_65 rfl ?_
  obtain ⟨v1, e2, hf⟩ := b1_e hf
  refine z_callS (st := [.int l1]) (ws2 := (MW (gk G) ad s sv tx cu ho mf)) [] C dX3_carryOut_66 w_X3_56 (c_X3_flag l3 e2) (by decide) rfl rfl rfl  rfl rfl (Nat.le_of_ble_eq_true rfl) rfl ?_
  refine z_iadd C dX3_carryOut_69 ?_
  obtain ⟨x3, e4, hf⟩ := nm_g hf
  refine z_top e4 ?_
  refine z_istore_n (ls' := [(1, _), (4, _), (0, _), (3, _)]) C dX3_carryOut_70 (by decide) rfl ?_
  refine z_iload_n 3 C dX3_carryOut_71 rfl ?_
  refine z_if_eq (tgt := 88) C dX3_carryOut_72 rfl (fun hc => ?_) (fun hc => ?_)
  · have hf := ifp hc hf
    refine z_iconst (v := 0) C dX3_carryOut_88 kc_0 ?_
    refine z_istore_n (ls' := [(2, _), (1, _), (4, _), (0, _), (3, _)]) C dX3_carryOut_89 (by decide) rfl ?_
    refine z_goto (tgt := 25) C dX3_carryOut_90 rfl ?_
    refine z_sub (ls' := [(0, .ref (ad 0)), (1, .int x3), (2, .int 0)]) [3, 1, 0] rfl ?_
    exact hK _ _ _ _ _ _ hf
  have hf := ifn hc hf
  refine z_aload_n 2 C dX3_carryOut_75 rfl ?_
  refine z_bipush (v := 59) C dX3_carryOut_76 kb_59 ?_
  obtain ⟨v5, mf6, e7, hf⟩ := b2_e hf
  refine z_callV (st := []) (ws2 := (MW (gk G) ad s sv tx cu ho mf6)) [0, 1, 2, 3, 4, 5] C dX3_carryOut_78 w_X3_200 (c_X3_takes ad 59 s sv tx cu ho mf e7) (by decide) rfl rfl rfl rfl rfl rfl rfl (Nat.le_of_ble_eq_true rfl) rfl ?_
  refine z_if_eq (tgt := 88) C dX3_carryOut_81 rfl (fun hc => ?_) (fun hc => ?_)
  · have hf := ifp hc hf
    refine z_iconst (v := 0) C dX3_carryOut_88 kc_0 ?_
    refine z_istore_n (ls' := [(2, _), (1, _), (4, _), (0, _), (3, _)]) C dX3_carryOut_89 (by decide) rfl ?_
    refine z_goto (tgt := 25) C dX3_carryOut_90 rfl ?_
    refine z_sub (ls' := [(0, .ref (ad 0)), (1, .int x3), (2, .int 0)]) [3, 1, 0] rfl ?_
    exact hK _ _ _ _ _ _ hf
  have hf := ifn hc hf
  refine z_iconst (v := 1) C dX3_carryOut_84 kc_1 ?_
  refine z_goto (tgt := 89) C dX3_carryOut_85 rfl ?_
  refine z_istore_n (ls' := [(2, _), (1, _), (4, _), (0, _), (3, _)]) C dX3_carryOut_89 (by decide) rfl ?_
  refine z_goto (tgt := 25) C dX3_carryOut_90 rfl ?_
  refine z_sub (ls' := [(0, .ref (ad 0)), (1, .int x3), (2, .int 1)]) [3, 1, 0] rfl ?_
  exact hK _ _ _ _ _ _ hf
set_option maxHeartbeats 400000 in
set_option maxRecDepth 100000 in
theorem tb_X3_carryOut_48 {G : GT} (ad : Nat → Nat) (sv : zA) (tx : zA) {v : Int32} {s' : zA} {cu' : zA} {ho' : zA} {mf' : zA} (C : zC G cX3_carryOut 5 RX3 (some .int) 7) (F : zF G (some (.int v)) (MW (gk G) ad s' sv tx cu' ho' mf')) (K : Int32 → Int32 → zA → zA → zA → zA → zA → Option (Int32 × zA × zA × zA × zA)) (hK : ∀ (l1 : Int32) (l2 : Int32) (s : zA) (cu : zA) (ho : zA) (mf : zA), K l1 l2 s tx cu ho mf = some (v, s', cu', ho', mf') → zV G 5 25 [(0, .ref (ad 0)), (1, .int l1), (2, .int l2)] [] (MW (gk G) ad s sv tx cu ho mf)) : ∀ (s0 : Int32) (l1 : Int32) (s : zA) (cu : zA) (ho : zA) (mf : zA), B_X3_carryOut_48 K s0 l1 s tx cu ho mf = some (v, s', cu', ho', mf') → zV G 5 48 [(0, .ref (ad 0)), (1, .int l1)] [.int s0] (MW (gk G) ad s sv tx cu ho mf) := by
  intro s0 l1 s cu ho mf hf
  unfold B_X3_carryOut_48 at hf
  refine z_istore_n (ls' := [(3, _), (0, _), (1, _)]) C dX3_carryOut_48 (by decide) rfl ?_
  refine z_iload_n 0 C dX3_carryOut_49 rfl ?_
  refine z_if_eq (tgt := 60) C dX3_carryOut_50 rfl (fun hc => ?_) (fun hc => ?_)
  · have hf := ifp hc hf
    refine z_bipush (v := -6) C dX3_carryOut_60 kb_m6 ?_
    refine z_sub (ls' := [(0, .ref (ad 0)), (1, .int l1), (3, .int s0)]) [1, 2, 0] rfl ?_
    exact tb_X3_carryOut_62 ad sv tx C F K hK _ _ _ _ _ _ _ hf
  have hf := ifn hc hf
  refine z_aload_n 1 C dX3_carryOut_53 rfl ?_
  obtain ⟨v1, s2, cu3, ho4, e5, hf⟩ := b4_e hf
  refine z_callV (st := []) (ws2 := (MW (gk G) ad s2 sv tx cu3 ho4 mf)) [0, 1, 2, 3, 4, 5] C dX3_carryOut_54 w_X3_237 (c_X3_does ad s sv tx cu ho mf e5) (by decide) rfl rfl rfl rfl rfl rfl rfl (Nat.le_of_ble_eq_true rfl) rfl ?_
  refine z_goto (tgt := 62) C dX3_carryOut_57 rfl ?_
  refine z_sub (ls' := [(0, .ref (ad 0)), (1, .int l1), (3, .int s0)]) [1, 2, 0] rfl ?_
  exact tb_X3_carryOut_62 ad sv tx C F K hK _ _ _ _ _ _ _ hf
set_option maxHeartbeats 400000 in
set_option maxRecDepth 100000 in
theorem tb_X3_carryOut_47 {G : GT} (ad : Nat → Nat) (sv : zA) (tx : zA) {v : Int32} {s' : zA} {cu' : zA} {ho' : zA} {mf' : zA} (C : zC G cX3_carryOut 5 RX3 (some .int) 7) (F : zF G (some (.int v)) (MW (gk G) ad s' sv tx cu' ho' mf')) (K : Int32 → Int32 → zA → zA → zA → zA → zA → Option (Int32 × zA × zA × zA × zA)) (hK : ∀ (l1 : Int32) (l2 : Int32) (s : zA) (cu : zA) (ho : zA) (mf : zA), K l1 l2 s tx cu ho mf = some (v, s', cu', ho', mf') → zV G 5 25 [(0, .ref (ad 0)), (1, .int l1), (2, .int l2)] [] (MW (gk G) ad s sv tx cu ho mf)) : ∀ (l1 : Int32) (s : zA) (cu : zA) (ho : zA) (mf : zA), B_X3_carryOut_47 K l1 s tx cu ho mf = some (v, s', cu', ho', mf') → zV G 5 47 [(0, .ref (ad 0)), (1, .int l1)] [] (MW (gk G) ad s sv tx cu ho mf) := by
  intro l1 s cu ho mf hf
  unfold B_X3_carryOut_47 at hf
  refine z_iconst (v := 0) C dX3_carryOut_47 kc_0 ?_
  exact tb_X3_carryOut_48 ad sv tx C F K hK _ _ _ _ _ _ hf
set_option maxHeartbeats 400000 in
set_option maxRecDepth 100000 in
theorem tb_X3_carryOut_25 {G : GT} (ad : Nat → Nat) (sv : zA) (tx : zA) {v : Int32} {s' : zA} {cu' : zA} {ho' : zA} {mf' : zA} (C : zC G cX3_carryOut 5 RX3 (some .int) 7) (F : zF G (some (.int v)) (MW (gk G) ad s' sv tx cu' ho' mf')) : ∀ (n : Nat) (l1 : Int32) (l2 : Int32) (s : zA) (cu : zA) (ho : zA) (mf : zA), B_X3_carryOut_25 n l1 l2 s tx cu ho mf = some (v, s', cu', ho', mf') → zV G 5 25 [(0, .ref (ad 0)), (1, .int l1), (2, .int l2)] [] (MW (gk G) ad s sv tx cu ho mf) := by
  intro n
  induction n with
  | zero => intro _ _ _ _ _ _ hf; rw [B_X3_carryOut_25] at hf; cases hf
  | succ n ih =>
    intro l1 l2 s cu ho mf hf
    rw [B_X3_carryOut_25] at hf
    refine z_iload_n 2 C dX3_carryOut_25 rfl ?_
    refine z_if_eq (tgt := 93) C dX3_carryOut_26 rfl (fun hc => ?_) (fun hc => ?_)
    · have hf := ifp hc hf
      refine z_aload_n 0 C dX3_carryOut_93 rfl ?_
      refine z_iconst (v := 0) C dX3_carryOut_94 kc_0 ?_
      obtain ⟨mf1, e2, hf⟩ := nm_g hf
      refine pf_X3_165 (ws' := (MW (gk G) ad s sv tx cu ho mf1)) 0 C dX3_carryOut_95 rfl (Nat.le_of_ble_eq_true rfl) (by subst e2; rfl) ?_
      refine z_iload_n 1 C dX3_carryOut_98 rfl ?_
      cases hf
      exact z_iret C dX3_carryOut_99 F
    have hf := ifn hc hf
    refine z_aload_n 0 C dX3_carryOut_29 rfl ?_
    obtain ⟨v3, mf4, e5, hf⟩ := b2_e hf
    refine z_callV (st := []) (ws2 := (MW (gk G) ad s sv tx cu ho mf4)) [0, 1, 2, 3, 4, 5] C dX3_carryOut_30 w_X3_228 (c_X3_readsOrder ad s sv tx cu ho mf e5) (by decide) rfl rfl rfl rfl rfl rfl rfl (Nat.le_of_ble_eq_true rfl) rfl ?_
    refine z_if_eq (tgt := 47) C dX3_carryOut_33 rfl (fun hc => ?_) (fun hc => ?_)
    · have hf := ifp hc hf
      refine z_sub (ls' := [(0, .ref (ad 0)), (1, .int l1)]) [0, 1] rfl ?_
      exact tb_X3_carryOut_47 ad sv tx C F _ ih _ _ _ _ _ hf
    have hf := ifn hc hf
    refine z_aload_n 0 C dX3_carryOut_36 rfl ?_
    obtain ⟨v6, e7, hf⟩ := b1_e hf
    refine z_callV (st := []) (ws2 := (MW (gk G) ad s sv tx cu ho mf4)) [0, 1, 2, 3, 4, 5] C dX3_carryOut_37 w_X3_234 (c_X3_orderError ad s sv tx cu ho mf4 e7) (by decide) rfl rfl rfl rfl rfl rfl rfl (Nat.le_of_ble_eq_true rfl) rfl ?_
    refine z_if_ne (tgt := 47) C dX3_carryOut_40 rfl (fun hc => ?_) (fun hc => ?_)
    · have hf := ifn hc hf
      refine z_sub (ls' := [(0, .ref (ad 0)), (1, .int l1)]) [0, 1] rfl ?_
      exact tb_X3_carryOut_47 ad sv tx C F _ ih _ _ _ _ _ hf
    have hf := ifp hc hf
    refine z_iconst (v := 1) C dX3_carryOut_43 kc_1 ?_
    refine z_goto (tgt := 48) C dX3_carryOut_44 rfl ?_
    refine z_sub (ls' := [(0, .ref (ad 0)), (1, .int l1)]) [0, 1] rfl ?_
    exact tb_X3_carryOut_48 ad sv tx C F _ ih _ _ _ _ _ _ hf
set_option maxHeartbeats 400000 in
set_option maxRecDepth 100000 in
theorem c_X3_carryOut {l : Launch} {D : va_G} {cs : ClassId × ClassId × ClassId} (ad : Nat → Nat)  (s : zA) (sv : zA) (tx : zA) (cu : zA) (ho : zA) (mf : zA) {v : Int32} {s' : zA} {cu' : zA} {ho' : zA} {mf' : zA} (e : f_X3_carryOut s tx cu ho mf = some (v, s', cu', ho', mf')) : zM l D cs yX3_carryOut cX3_carryOut 5 (some .int) 7 [.ref (ad 0)] (MW cs ad s sv tx cu ho mf) v (MW cs ad s' sv tx cu' ho' mf') := by
  refine zM_of (show plainName RX3 = true by decide +kernel) (Nat.le_of_ble_eq_true rfl) ?_
  rintro G rfl rfl rfl C F
  have hf := e
  clear e
  unfold f_X3_carryOut at hf
  show zV G 5 0 [(0, .ref (ad 0))] [] (MW (gk G) ad s sv tx cu ho mf)
  refine z_aload_n 0 C dX3_carryOut_0 rfl ?_
  obtain ⟨v1, mf2, e3, hf⟩ := b2_e hf
  refine z_callV (st := []) (ws2 := (MW (gk G) ad s sv tx cu ho mf2)) [0, 1, 2, 3, 4, 5] C dX3_carryOut_1 w_X3_231 (c_X3_fault ad s sv tx cu ho mf e3) (by decide) rfl rfl rfl rfl rfl rfl rfl (Nat.le_of_ble_eq_true rfl) rfl ?_
  refine z_bipush (v := -6) C dX3_carryOut_4 kb_m6 ?_
  refine z_icmp_eq (tgt := 12) C dX3_carryOut_6 rfl (fun hc => ?_) (fun hc => ?_)
  · have hf := ifp hc hf
    refine z_aload_n 0 C dX3_carryOut_12 rfl ?_
    obtain ⟨s4, mf5, e6, hf⟩ := b2_e hf
    refine z_callVv (st := []) (ws2 := (MW (gk G) ad s4 sv tx cu ho mf5)) [0, 1, 2, 3, 4, 5] C dX3_carryOut_13 w_X3_118 (c_X3_changes ad s sv tx cu ho mf2 e6) (by decide) rfl rfl rfl rfl rfl rfl rfl (Nat.le_of_ble_eq_true rfl) rfl ?_
    refine z_aload_n 0 C dX3_carryOut_16 rfl ?_
    refine z_iconst (v := 0) C dX3_carryOut_17 kc_0 ?_
    obtain ⟨mf7, e8, hf⟩ := nm_g hf
    refine pf_X3_191 (ws' := (MW (gk G) ad s4 sv tx cu ho mf7)) 0 C dX3_carryOut_18 rfl (Nat.le_of_ble_eq_true rfl) (by subst e8; rfl) ?_
    refine z_iconst (v := 0) C dX3_carryOut_21 kc_0 ?_
    refine z_istore_n (ls' := [(1, _), (0, _)]) C dX3_carryOut_22 (by decide) rfl ?_
    refine z_iconst (v := 1) C dX3_carryOut_23 kc_1 ?_
    refine z_istore_n (ls' := [(2, _), (1, _), (0, _)]) C dX3_carryOut_24 (by decide) rfl ?_
    refine z_sub (ls' := [(0, .ref (ad 0)), (1, .int 0), (2, .int 1)]) [2, 1, 0] rfl ?_
    exact tb_X3_carryOut_25 ad sv tx C F _ _ _ _ _ _ _ hf
  have hf := ifn hc hf
  refine z_bipush (v := -3) C dX3_carryOut_9 kb_m3 ?_
  cases hf
  exact z_iret C dX3_carryOut_11 F
set_option maxHeartbeats 400000 in
set_option maxRecDepth 100000 in
theorem c_X3_undo {l : Launch} {D : va_G} {cs : ClassId × ClassId × ClassId} (ad : Nat → Nat)  (s : zA) (sv : zA) (tx : zA) (cu : zA) (ho : zA) (mf : zA) {v : Int32} {s' : zA} {mf' : zA} (e : f_X3_undo s mf = some (v, s', mf')) : zM l D cs yX3_undo cX3_undo 1 (some .int) 1 [.ref (ad 0)] (MW cs ad s sv tx cu ho mf) v (MW cs ad s' sv tx cu ho mf') := by
  refine zM_of (show plainName RX3 = true by decide +kernel) (Nat.le_of_ble_eq_true rfl) ?_
  rintro G rfl rfl rfl C F
  have hf := e
  clear e
  unfold f_X3_undo at hf
  show zV G 1 0 [(0, .ref (ad 0))] [] (MW (gk G) ad s sv tx cu ho mf)
  refine z_aload_n 0 C dX3_undo_0 rfl ?_
  refine gf_X3_30 0 C dX3_undo_1 rfl rfl ?_
  refine z_if_ne (tgt := 10) C dX3_undo_4 rfl (fun hc => ?_) (fun hc => ?_)
  · have hf := ifn hc hf
    refine z_aload_n 0 C dX3_undo_10 rfl ?_
    refine z_aload_n 0 C dX3_undo_11 rfl ?_
    refine gf_X3_30 0 C dX3_undo_12 rfl rfl ?_
    refine z_iconst (v := 0) C dX3_undo_15 kc_0 ?_
    obtain ⟨s1, e2, hf⟩ := b1_e hf
    refine z_callVv (st := []) (ws2 := (MW (gk G) ad s1 sv tx cu ho mf)) [0, 1, 2, 3, 4, 5] C dX3_undo_16 w_X3_33 (c_X3_copies ad (mf 1) 0 s sv tx cu ho mf e2) (by decide) rfl rfl rfl rfl rfl rfl rfl (Nat.le_of_ble_eq_true rfl) rfl ?_
    refine z_aload_n 0 C dX3_undo_19 rfl ?_
    refine z_dup C dX3_undo_20 rfl ?_
    refine gf_X3_30 0 C dX3_undo_21 rfl rfl ?_
    refine z_iconst (v := 1) C dX3_undo_24 kc_1 ?_
    refine z_isub C dX3_undo_25 ?_
    obtain ⟨mf3, e4, hf⟩ := nm_g hf
    refine pf_X3_30 (ws' := (MW (gk G) ad s1 sv tx cu ho mf3)) 0 C dX3_undo_26 rfl (Nat.le_of_ble_eq_true rfl) (by subst e4; rfl) ?_
    refine z_aload_n 0 C dX3_undo_29 rfl ?_
    refine gf_X3_30 0 C dX3_undo_30 rfl rfl ?_
    cases hf
    exact z_iret C dX3_undo_33 F
  have hf := ifp hc hf
  refine z_bipush (v := -5) C dX3_undo_7 kb_m5 ?_
  cases hf
  exact z_iret C dX3_undo_9 F
set_option maxHeartbeats 400000 in
set_option maxRecDepth 100000 in
theorem c_X3_isSlot {l : Launch} {D : va_G} {cs : ClassId × ClassId × ClassId}  (a0 : Int32)  {v : Int32}  (e : f_X3_isSlot a0 = some v) : zM l D cs yX3_isSlot cX3_isSlot 1 (some .boolean) 0 [.int a0] ([] : va_W) v ([] : va_W) := by
  refine zM_of (show plainName RX3 = true by decide +kernel) (Nat.le_of_ble_eq_true rfl) ?_
  rintro G rfl rfl rfl C F
  have hf := e
  clear e
  unfold f_X3_isSlot at hf
  show zV G 1 0 [(0, .int a0)] [] ([] : va_W)
  refine z_iload_n 0 C dX3_isSlot_0 rfl ?_
  refine z_if_eq (tgt := 9) C dX3_isSlot_1 rfl (fun hc => ?_) (fun hc => ?_)
  · have hf := ifp hc hf
    refine z_iconst (v := 1) C dX3_isSlot_9 kc_1 ?_
    refine z_goto (tgt := 14) C dX3_isSlot_10 rfl ?_
    cases hf
    exact z_zret C dX3_isSlot_14 rfl F
  have hf := ifn hc hf
  refine z_iload_n 0 C dX3_isSlot_4 rfl ?_
  refine z_iconst (v := 1) C dX3_isSlot_5 kc_1 ?_
  refine z_icmp_ne (tgt := 13) C dX3_isSlot_6 rfl (fun hc => ?_) (fun hc => ?_)
  · have hf := ifn hc hf
    refine z_iconst (v := 0) C dX3_isSlot_13 kc_0 ?_
    cases hf
    exact z_zret C dX3_isSlot_14 rfl F
  have hf := ifp hc hf
  refine z_iconst (v := 1) C dX3_isSlot_9 kc_1 ?_
  refine z_goto (tgt := 14) C dX3_isSlot_10 rfl ?_
  cases hf
  exact z_zret C dX3_isSlot_14 rfl F
set_option maxHeartbeats 400000 in
set_option maxRecDepth 100000 in
theorem c_X3_save {l : Launch} {D : va_G} {cs : ClassId × ClassId × ClassId} (ad : Nat → Nat) (a1 : Int32) (s : zA) (sv : zA) (tx : zA) (cu : zA) (ho : zA) (mf : zA) {v : Int32} {s' : zA} {sv' : zA} (e : f_X3_save a1 s sv = some (v, s', sv')) : zM l D cs yX3_save cX3_save 2 (some .int) 1 [.ref (ad 0), .int a1] (MW cs ad s sv tx cu ho mf) v (MW cs ad s' sv' tx cu ho mf) := by
  refine zM_of (show plainName RX3 = true by decide +kernel) (Nat.le_of_ble_eq_true rfl) ?_
  rintro G rfl rfl rfl C F
  have hf := e
  clear e
  unfold f_X3_save at hf
  show zV G 2 0 [(0, .ref (ad 0)), (1, .int a1)] [] (MW (gk G) ad s sv tx cu ho mf)
  refine z_iload_n 1 C dX3_save_0 rfl ?_
  obtain ⟨v1, e2, hf⟩ := b1_e hf
  refine z_callS (st := []) (ws2 := (MW (gk G) ad s sv tx cu ho mf)) [] C dX3_save_1 w_X3_240 (c_X3_isSlot a1 e2) (by decide) rfl rfl rfl  rfl rfl (Nat.le_of_ble_eq_true rfl) rfl ?_
  refine z_if_ne (tgt := 10) C dX3_save_4 rfl (fun hc => ?_) (fun hc => ?_)
  · have hf := ifn hc hf
    refine z_aload_n 0 C dX3_save_10 rfl ?_
    refine z_iconst (v := 0) C dX3_save_11 kc_0 ?_
    refine z_bipush (v := 7) C dX3_save_12 kb_7 ?_
    refine z_iload_n 1 C dX3_save_14 rfl ?_
    refine z_iadd C dX3_save_15 ?_
    obtain ⟨s3, e4, hf⟩ := b1_e hf
    refine z_callVv (st := []) (ws2 := (MW (gk G) ad s3 sv tx cu ho mf)) [0, 1, 2, 3, 4, 5] C dX3_save_16 w_X3_33 (c_X3_copies ad 0 (7 + a1) s sv tx cu ho mf e4) (by decide) rfl rfl rfl rfl rfl rfl rfl (Nat.le_of_ble_eq_true rfl) rfl ?_
    refine z_aload_n 0 C dX3_save_19 rfl ?_
    refine gf_X3_13 0 C dX3_save_20 rfl rfl ?_
    refine z_iload_n 1 C dX3_save_23 rfl ?_
    refine z_iconst (v := 1) C dX3_save_24 kc_1 ?_
    obtain ⟨k5, h6, hf⟩ := gd_e hf
    obtain ⟨sv7, e8, hf⟩ := nm_g hf
    refine z_zast (ws' := (MW (gk G) ad s3 sv7 tx cu ho mf)) 2 C dX3_save_25 h6 rfl e8 rfl ?_
    refine z_aload_n 0 C dX3_save_26 rfl ?_
    refine gf_X3_7 0 C dX3_save_27 rfl rfl ?_
    refine z_iconst (v := 4) C dX3_save_30 kc_4 ?_
    refine z_iald 1 C dX3_save_31 ix_4_1480 rfl ?_
    cases hf
    exact z_iret C dX3_save_32 F
  have hf := ifp hc hf
  refine z_bipush (v := -2) C dX3_save_7 kb_m2 ?_
  cases hf
  exact z_iret C dX3_save_9 F
set_option maxHeartbeats 400000 in
set_option maxRecDepth 100000 in
theorem c_X3_restore {l : Launch} {D : va_G} {cs : ClassId × ClassId × ClassId} (ad : Nat → Nat) (a1 : Int32) (s : zA) (sv : zA) (tx : zA) (cu : zA) (ho : zA) (mf : zA) {v : Int32} {s' : zA} {mf' : zA} (e : f_X3_restore a1 s sv mf = some (v, s', mf')) : zM l D cs yX3_restore cX3_restore 2 (some .int) 2 [.ref (ad 0), .int a1] (MW cs ad s sv tx cu ho mf) v (MW cs ad s' sv tx cu ho mf') := by
  refine zM_of (show plainName RX3 = true by decide +kernel) (Nat.le_of_ble_eq_true rfl) ?_
  rintro G rfl rfl rfl C F
  have hf := e
  clear e
  unfold f_X3_restore at hf
  show zV G 2 0 [(0, .ref (ad 0)), (1, .int a1)] [] (MW (gk G) ad s sv tx cu ho mf)
  refine z_iload_n 1 C dX3_restore_0 rfl ?_
  obtain ⟨v1, e2, hf⟩ := b1_e hf
  refine z_callS (st := []) (ws2 := (MW (gk G) ad s sv tx cu ho mf)) [] C dX3_restore_1 w_X3_240 (c_X3_isSlot a1 e2) (by decide) rfl rfl rfl  rfl rfl (Nat.le_of_ble_eq_true rfl) rfl ?_
  refine z_if_ne (tgt := 10) C dX3_restore_4 rfl (fun hc => ?_) (fun hc => ?_)
  · have hf := ifn hc hf
    refine z_aload_n 0 C dX3_restore_10 rfl ?_
    refine gf_X3_13 0 C dX3_restore_11 rfl rfl ?_
    refine z_iload_n 1 C dX3_restore_14 rfl ?_
    obtain ⟨k3, h4, hf⟩ := gd_e hf
    refine z_zald 2 C dX3_restore_15 h4 rfl ?_
    refine z_if_ne (tgt := 22) C dX3_restore_16 rfl (fun hc => ?_) (fun hc => ?_)
    · have hf := ifn hc hf
      refine z_aload_n 0 C dX3_restore_22 rfl ?_
      obtain ⟨s5, mf6, e7, hf⟩ := b2_e hf
      refine z_callVv (st := []) (ws2 := (MW (gk G) ad s5 sv tx cu ho mf6)) [0, 1, 2, 3, 4, 5] C dX3_restore_23 w_X3_118 (c_X3_changes ad s sv tx cu ho mf e7) (by decide) rfl rfl rfl rfl rfl rfl rfl (Nat.le_of_ble_eq_true rfl) rfl ?_
      refine z_aload_n 0 C dX3_restore_26 rfl ?_
      refine z_bipush (v := 7) C dX3_restore_27 kb_7 ?_
      refine z_iload_n 1 C dX3_restore_29 rfl ?_
      refine z_iadd C dX3_restore_30 ?_
      refine z_iconst (v := 0) C dX3_restore_31 kc_0 ?_
      obtain ⟨s8, e9, hf⟩ := b1_e hf
      refine z_callVv (st := []) (ws2 := (MW (gk G) ad s8 sv tx cu ho mf6)) [0, 1, 2, 3, 4, 5] C dX3_restore_32 w_X3_33 (c_X3_copies ad (7 + a1) 0 s5 sv tx cu ho mf6 e9) (by decide) rfl rfl rfl rfl rfl rfl rfl (Nat.le_of_ble_eq_true rfl) rfl ?_
      refine z_aload_n 0 C dX3_restore_35 rfl ?_
      refine gf_X3_7 0 C dX3_restore_36 rfl rfl ?_
      refine z_iconst (v := 4) C dX3_restore_39 kc_4 ?_
      refine z_iald 1 C dX3_restore_40 ix_4_1480 rfl ?_
      cases hf
      exact z_iret C dX3_restore_41 F
    have hf := ifp hc hf
    refine z_bipush (v := -5) C dX3_restore_19 kb_m5 ?_
    cases hf
    exact z_iret C dX3_restore_21 F
  have hf := ifp hc hf
  refine z_bipush (v := -2) C dX3_restore_7 kb_m2 ?_
  cases hf
  exact z_iret C dX3_restore_9 F
