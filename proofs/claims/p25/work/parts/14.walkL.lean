set_option maxHeartbeats 400000 in
set_option maxRecDepth 100000 in
theorem c_L_low {l : Launch} {D : va_G} {cs : ClassId × ClassId × ClassId}  (a0 : Int32) (a1 : Int32)  {v : Int32}  (e : f_L_low a0 a1 = some v) : zM l D cs yL_low cL_low 2 (some .int) 0 [.int a0, .int a1] ([] : va_W) v ([] : va_W) := by
  refine zM_of (show plainName RL = true by decide +kernel) (Nat.le_of_ble_eq_true rfl) ?_
  rintro G rfl rfl rfl C F
  have hf := e
  clear e
  unfold f_L_low at hf
  show zV G 2 0 [(0, .int a0), (1, .int a1)] [] ([] : va_W)
  refine z_iload_n 0 C dL_low_0 rfl ?_
  refine z_ldc C dL_low_1 tw_4 ?_
  refine z_iand C dL_low_3 ?_
  refine z_iload_n 1 C dL_low_4 rfl ?_
  obtain ⟨h1, hf⟩ := zdv_e hf
  refine z_irem C dL_low_5 h1 ?_
  cases hf
  exact z_iret C dL_low_6 F
set_option maxHeartbeats 400000 in
set_option maxRecDepth 100000 in
theorem tb_L_act_90 {G : GT} (ad : Nat → Nat) (tr : zA) (tf : zA) (co : zA) (pf : zA) (sl : Nat → zA) (sv : zA) {v : Int32} {nr' : zA} {nf' : zA} {hi' : Nat → zA} {ff' : zA} (C : zC G cL_act 5 RL (some .int) 6) (F : zF G (some (.int v)) (FW (gk G) ad nr' nf' tr tf co pf hi' sl sv ff')) : ∀ (s0 : Int32) (s1 : Int32) (s2 : Int32) (s3 : Int32) (l2 : Int32) (nr : zA) (nf : zA) (hi : Nat → zA) (ff : zA), B_L_act_90 s0 s1 s2 s3 l2 nr nf hi ff = some (v, nr', nf', hi', ff') → zV G 5 90 [(2, .int l2)] [.int s0, .int s1, .int s2, .int s3, .ref (ad 0)] (FW (gk G) ad nr nf tr tf co pf hi sl sv ff) := by
  intro s0 s1 s2 s3 l2 nr nf hi ff hf
  unfold B_L_act_90 at hf
  obtain ⟨v1, e2, hf⟩ := b1_e hf
  refine z_callS (st := [.int s2, .int s3, .ref (ad 0)]) (ws2 := (FW (gk G) ad nr nf tr tf co pf hi sl sv ff)) [] C dL_act_90 w_L_10 (c_L_low s1 s0 e2) (by decide) rfl rfl rfl  rfl rfl (Nat.le_of_ble_eq_true rfl) rfl ?_
  refine z_iadd C dL_act_93 ?_
  refine z_iload_n 0 C dL_act_94 rfl ?_
  refine z_iconst (v := 4) C dL_act_95 kc_4 ?_
  refine z_ishr C dL_act_96 ?_
  refine z_iconst (v := 3) C dL_act_97 kc_3 ?_
  obtain ⟨v3, e4, hf⟩ := b1_e hf
  refine z_callS (st := [.int (s2 + v1), .int s3, .ref (ad 0)]) (ws2 := (FW (gk G) ad nr nf tr tf co pf hi sl sv ff)) [] C dL_act_98 w_L_10 (c_L_low (l2 >>> (4 &&& 31)) 3 e4) (by decide) rfl rfl rfl  rfl rfl (Nat.le_of_ble_eq_true rfl) rfl ?_
  obtain ⟨v5, nr6, hi7, ff8, e9, hf⟩ := b4_e hf
  refine z_callVs (st := []) C dL_act_101 w_L_16 (c_X2_board ad s3 (s2 + v1) v3 nr nf tr tf co pf hi sl sv ff e9) (by decide) (FWf _ _ _ _ _ _ _ _ _ _ _ _ _ _ _ _ _ _ _ _ _ _) rfl rfl rfl rfl (Nat.le_of_ble_eq_true rfl) ?_
  cases hf
  exact z_iret C dL_act_104 F
set_option maxHeartbeats 400000 in
set_option maxRecDepth 100000 in
theorem tb_L_act_128 {G : GT} (ad : Nat → Nat) (tr : zA) (tf : zA) (co : zA) (pf : zA) (sl : Nat → zA) (sv : zA) {v : Int32} {nr' : zA} {nf' : zA} {hi' : Nat → zA} {ff' : zA} (C : zC G cL_act 5 RL (some .int) 6) (F : zF G (some (.int v)) (FW (gk G) ad nr' nf' tr tf co pf hi' sl sv ff')) : ∀ (s0 : Int32) (s1 : Int32) (s2 : Int32) (s3 : Int32) (nr : zA) (nf : zA) (hi : Nat → zA) (ff : zA), B_L_act_128 s0 s1 s2 s3 nr nf hi ff = some (v, nr', nf', hi', ff') → zV G 5 128 [] [.int s0, .int s1, .int s2, .int s3, .ref (ad 0)] (FW (gk G) ad nr nf tr tf co pf hi sl sv ff) := by
  intro s0 s1 s2 s3 nr nf hi ff hf
  unfold B_L_act_128 at hf
  obtain ⟨v1, e2, hf⟩ := b1_e hf
  refine z_callS (st := [.int s2, .int s3, .ref (ad 0)]) (ws2 := (FW (gk G) ad nr nf tr tf co pf hi sl sv ff)) [] C dL_act_128 w_L_10 (c_L_low s1 s0 e2) (by decide) rfl rfl rfl  rfl rfl (Nat.le_of_ble_eq_true rfl) rfl ?_
  refine z_iadd C dL_act_131 ?_
  obtain ⟨v3, nr4, hi5, ff6, e7, hf⟩ := b4_e hf
  refine z_callVs (st := []) C dL_act_132 w_L_22 (c_X2_load ad s3 (s2 + v1) nr nf tr tf co pf hi sl sv ff e7) (by decide) (FWf _ _ _ _ _ _ _ _ _ _ _ _ _ _ _ _ _ _ _ _ _ _) rfl rfl rfl rfl (Nat.le_of_ble_eq_true rfl) ?_
  cases hf
  exact z_iret C dL_act_135 F
set_option maxHeartbeats 400000 in
set_option maxRecDepth 100000 in
theorem tb_L_act_184 {G : GT} (ad : Nat → Nat) (tr : zA) (tf : zA) (co : zA) (pf : zA) (sl : Nat → zA) (sv : zA) {v : Int32} {nr' : zA} {nf' : zA} {hi' : Nat → zA} {ff' : zA} (C : zC G cL_act 5 RL (some .int) 6) (F : zF G (some (.int v)) (FW (gk G) ad nr' nf' tr tf co pf hi' sl sv ff')) : ∀ (s0 : Int32) (s1 : Int32) (s2 : Int32) (s3 : Int32) (nr : zA) (nf : zA) (hi : Nat → zA) (ff : zA), B_L_act_184 s0 s1 s2 s3 nr nf hi ff = some (v, nr', nf', hi', ff') → zV G 5 184 [] [.int s0, .int s1, .int s2, .int s3, .ref (ad 0)] (FW (gk G) ad nr nf tr tf co pf hi sl sv ff) := by
  intro s0 s1 s2 s3 nr nf hi ff hf
  unfold B_L_act_184 at hf
  obtain ⟨v1, e2, hf⟩ := b1_e hf
  refine z_callS (st := [.int s2, .int s3, .ref (ad 0)]) (ws2 := (FW (gk G) ad nr nf tr tf co pf hi sl sv ff)) [] C dL_act_184 w_L_10 (c_L_low s1 s0 e2) (by decide) rfl rfl rfl  rfl rfl (Nat.le_of_ble_eq_true rfl) rfl ?_
  refine z_iadd C dL_act_187 ?_
  obtain ⟨v3, nr4, hi5, ff6, e7, hf⟩ := b4_e hf
  refine z_callVs (st := []) C dL_act_188 w_L_28 (c_X2_set ad s3 (s2 + v1) nr nf tr tf co pf hi sl sv ff e7) (by decide) (FWf _ _ _ _ _ _ _ _ _ _ _ _ _ _ _ _ _ _ _ _ _ _) rfl rfl rfl rfl (Nat.le_of_ble_eq_true rfl) ?_
  cases hf
  exact z_iret C dL_act_191 F
set_option maxHeartbeats 400000 in
set_option maxRecDepth 100000 in
theorem c_L_act {l : Launch} {D : va_G} {cs : ClassId × ClassId × ClassId} (ad : Nat → Nat) (a1 : Int32) (a2 : Int32) (nr : zA) (nf : zA) (tr : zA) (tf : zA) (co : zA) (pf : zA) (hi : Nat → zA) (sl : Nat → zA) (sv : zA) (ff : zA) {v : Int32} {nr' : zA} {nf' : zA} {hi' : Nat → zA} {ff' : zA} (e : f_L_act a1 a2 nr nf hi ff = some (v, nr', nf', hi', ff')) : zM l D cs yL_act cL_act 5 (some .int) 6 [.ref (ad 0), .int a1, .int a2] (FW cs ad nr nf tr tf co pf hi sl sv ff) v (FW cs ad nr' nf' tr tf co pf hi' sl sv ff') := by
  refine zM_of (show plainName RL = true by decide +kernel) (Nat.le_of_ble_eq_true rfl) ?_
  rintro G rfl rfl rfl C F
  have hf := e
  clear e
  unfold f_L_act at hf
  show zV G 5 0 [(0, .ref (ad 0)), (1, .int a1), (2, .int a2)] [] (FW (gk G) ad nr nf tr tf co pf hi sl sv ff)
  refine z_iload_n 1 C dL_act_0 rfl ?_
  refine z_iconst (v := 4) C dL_act_1 kc_4 ?_
  refine z_ishr C dL_act_2 ?_
  refine z_iconst (v := 5) C dL_act_3 kc_5 ?_
  obtain ⟨v1, e2, hf⟩ := b1_e hf
  refine z_callS (st := []) (ws2 := (FW (gk G) ad nr nf tr tf co pf hi sl sv ff)) [] C dL_act_4 w_L_10 (c_L_low (a1 >>> (4 &&& 31)) 5 e2) (by decide) rfl rfl rfl  rfl rfl (Nat.le_of_ble_eq_true rfl) rfl ?_
  refine z_istore_n (ls' := [(3, _), (0, _), (1, _), (2, _)]) C dL_act_7 (by decide) rfl ?_
  refine z_iload_n 2 C dL_act_8 rfl ?_
  refine z_bipush (v := 13) C dL_act_9 kb_13 ?_
  obtain ⟨v3, e4, hf⟩ := b1_e hf
  refine z_callS (st := []) (ws2 := (FW (gk G) ad nr nf tr tf co pf hi sl sv ff)) [] C dL_act_11 w_L_10 (c_L_low a1 13 e4) (by decide) rfl rfl rfl  rfl rfl (Nat.le_of_ble_eq_true rfl) rfl ?_
  by_cases hs5 : v3 = 0
  · have hf := ifp hs5 hf
    refine z_tabIn (tgt := 68) C dL_act_14 hs5 (by decide) (by decide) rfl rfl ?_
    refine z_aload_n 1 C dL_act_68 rfl ?_
    refine z_iload_n 0 C dL_act_69 rfl ?_
    refine z_iconst (v := 1) C dL_act_70 kc_1 ?_
    refine z_iload_n 3 C dL_act_71 rfl ?_
    refine z_iload_n 3 C dL_act_72 rfl ?_
    refine z_bipush (v := 8) C dL_act_73 kb_8 ?_
    refine z_ishr C dL_act_75 ?_
    refine z_iconst (v := 5) C dL_act_76 kc_5 ?_
    obtain ⟨v6, e7, hf⟩ := b1_e hf
    refine z_callS (st := [.int a2, .int 1, .int v1, .ref (ad 0)]) (ws2 := (FW (gk G) ad nr nf tr tf co pf hi sl sv ff)) [] C dL_act_77 w_L_10 (c_L_low (a2 >>> (8 &&& 31)) 5 e7) (by decide) rfl rfl rfl  rfl rfl (Nat.le_of_ble_eq_true rfl) rfl ?_
    refine z_if_ne (tgt := 88) C dL_act_80 rfl (fun hc => ?_) (fun hc => ?_)
    · have hf := ifn hc hf
      refine z_bipush (v := 9) C dL_act_88 kb_9 ?_
      refine z_sub (ls' := [(2, .int a2)]) [3] rfl ?_
      exact tb_L_act_90 ad tr tf co pf sl sv C F _ _ _ _ _ _ _ _ _ hf
    have hf := ifp hc hf
    refine z_bipush (v := 100) C dL_act_83 kb_100 ?_
    refine z_goto (tgt := 90) C dL_act_85 rfl ?_
    refine z_sub (ls' := [(2, .int a2)]) [3] rfl ?_
    exact tb_L_act_90 ad tr tf co pf sl sv C F _ _ _ _ _ _ _ _ _ hf
  have hf := ifn hs5 hf
  by_cases hs8 : v3 = 1
  · have hf := ifp hs8 hf
    refine z_tabIn (tgt := 68) C dL_act_14 hs8 (by decide) (by decide) rfl rfl ?_
    refine z_aload_n 1 C dL_act_68 rfl ?_
    refine z_iload_n 0 C dL_act_69 rfl ?_
    refine z_iconst (v := 1) C dL_act_70 kc_1 ?_
    refine z_iload_n 3 C dL_act_71 rfl ?_
    refine z_iload_n 3 C dL_act_72 rfl ?_
    refine z_bipush (v := 8) C dL_act_73 kb_8 ?_
    refine z_ishr C dL_act_75 ?_
    refine z_iconst (v := 5) C dL_act_76 kc_5 ?_
    obtain ⟨v9, e10, hf⟩ := b1_e hf
    refine z_callS (st := [.int a2, .int 1, .int v1, .ref (ad 0)]) (ws2 := (FW (gk G) ad nr nf tr tf co pf hi sl sv ff)) [] C dL_act_77 w_L_10 (c_L_low (a2 >>> (8 &&& 31)) 5 e10) (by decide) rfl rfl rfl  rfl rfl (Nat.le_of_ble_eq_true rfl) rfl ?_
    refine z_if_ne (tgt := 88) C dL_act_80 rfl (fun hc => ?_) (fun hc => ?_)
    · have hf := ifn hc hf
      refine z_bipush (v := 9) C dL_act_88 kb_9 ?_
      refine z_sub (ls' := [(2, .int a2)]) [3] rfl ?_
      exact tb_L_act_90 ad tr tf co pf sl sv C F _ _ _ _ _ _ _ _ _ hf
    have hf := ifp hc hf
    refine z_bipush (v := 100) C dL_act_83 kb_100 ?_
    refine z_goto (tgt := 90) C dL_act_85 rfl ?_
    refine z_sub (ls' := [(2, .int a2)]) [3] rfl ?_
    exact tb_L_act_90 ad tr tf co pf sl sv C F _ _ _ _ _ _ _ _ _ hf
  have hf := ifn hs8 hf
  by_cases hs11 : v3 = 2
  · have hf := ifp hs11 hf
    refine z_tabIn (tgt := 105) C dL_act_14 hs11 (by decide) (by decide) rfl rfl ?_
    refine z_aload_n 1 C dL_act_105 rfl ?_
    refine z_iload_n 0 C dL_act_106 rfl ?_
    refine z_iconst (v := 1) C dL_act_107 kc_1 ?_
    refine z_iload_n 3 C dL_act_108 rfl ?_
    refine z_iload_n 3 C dL_act_109 rfl ?_
    refine z_bipush (v := 8) C dL_act_110 kb_8 ?_
    refine z_ishr C dL_act_112 ?_
    refine z_iconst (v := 5) C dL_act_113 kc_5 ?_
    obtain ⟨v12, e13, hf⟩ := b1_e hf
    refine z_callS (st := [.int a2, .int 1, .int v1, .ref (ad 0)]) (ws2 := (FW (gk G) ad nr nf tr tf co pf hi sl sv ff)) [] C dL_act_114 w_L_10 (c_L_low (a2 >>> (8 &&& 31)) 5 e13) (by decide) rfl rfl rfl  rfl rfl (Nat.le_of_ble_eq_true rfl) rfl ?_
    refine z_if_ne (tgt := 126) C dL_act_117 rfl (fun hc => ?_) (fun hc => ?_)
    · have hf := ifn hc hf
      refine z_bipush (v := 12) C dL_act_126 kb_12 ?_
      refine z_sub (ls' := []) [] rfl ?_
      exact tb_L_act_128 ad tr tf co pf sl sv C F _ _ _ _ _ _ _ _ hf
    have hf := ifp hc hf
    refine z_sipush (v := 200) C dL_act_120 ks_200 ?_
    refine z_goto (tgt := 128) C dL_act_123 rfl ?_
    refine z_sub (ls' := []) [] rfl ?_
    exact tb_L_act_128 ad tr tf co pf sl sv C F _ _ _ _ _ _ _ _ hf
  have hf := ifn hs11 hf
  by_cases hs14 : v3 = 3
  · have hf := ifp hs14 hf
    refine z_tabIn (tgt := 105) C dL_act_14 hs14 (by decide) (by decide) rfl rfl ?_
    refine z_aload_n 1 C dL_act_105 rfl ?_
    refine z_iload_n 0 C dL_act_106 rfl ?_
    refine z_iconst (v := 1) C dL_act_107 kc_1 ?_
    refine z_iload_n 3 C dL_act_108 rfl ?_
    refine z_iload_n 3 C dL_act_109 rfl ?_
    refine z_bipush (v := 8) C dL_act_110 kb_8 ?_
    refine z_ishr C dL_act_112 ?_
    refine z_iconst (v := 5) C dL_act_113 kc_5 ?_
    obtain ⟨v15, e16, hf⟩ := b1_e hf
    refine z_callS (st := [.int a2, .int 1, .int v1, .ref (ad 0)]) (ws2 := (FW (gk G) ad nr nf tr tf co pf hi sl sv ff)) [] C dL_act_114 w_L_10 (c_L_low (a2 >>> (8 &&& 31)) 5 e16) (by decide) rfl rfl rfl  rfl rfl (Nat.le_of_ble_eq_true rfl) rfl ?_
    refine z_if_ne (tgt := 126) C dL_act_117 rfl (fun hc => ?_) (fun hc => ?_)
    · have hf := ifn hc hf
      refine z_bipush (v := 12) C dL_act_126 kb_12 ?_
      refine z_sub (ls' := []) [] rfl ?_
      exact tb_L_act_128 ad tr tf co pf sl sv C F _ _ _ _ _ _ _ _ hf
    have hf := ifp hc hf
    refine z_sipush (v := 200) C dL_act_120 ks_200 ?_
    refine z_goto (tgt := 128) C dL_act_123 rfl ?_
    refine z_sub (ls' := []) [] rfl ?_
    exact tb_L_act_128 ad tr tf co pf sl sv C F _ _ _ _ _ _ _ _ hf
  have hf := ifn hs14 hf
  by_cases hs17 : v3 = 4
  · have hf := ifp hs17 hf
    refine z_tabIn (tgt := 136) C dL_act_14 hs17 (by decide) (by decide) rfl rfl ?_
    refine z_aload_n 1 C dL_act_136 rfl ?_
    refine z_iload_n 0 C dL_act_137 rfl ?_
    refine z_iconst (v := 1) C dL_act_138 kc_1 ?_
    refine z_iload_n 3 C dL_act_139 rfl ?_
    refine z_bipush (v := 9) C dL_act_140 kb_9 ?_
    obtain ⟨v18, e19, hf⟩ := b1_e hf
    refine z_callS (st := [.int 1, .int v1, .ref (ad 0)]) (ws2 := (FW (gk G) ad nr nf tr tf co pf hi sl sv ff)) [] C dL_act_142 w_L_10 (c_L_low a2 9 e19) (by decide) rfl rfl rfl  rfl rfl (Nat.le_of_ble_eq_true rfl) rfl ?_
    refine z_iadd C dL_act_145 ?_
    refine z_iload_n 3 C dL_act_146 rfl ?_
    refine z_iconst (v := 4) C dL_act_147 kc_4 ?_
    refine z_ishr C dL_act_148 ?_
    refine z_iconst (v := 3) C dL_act_149 kc_3 ?_
    obtain ⟨v20, e21, hf⟩ := b1_e hf
    refine z_callS (st := [.int (1 + v18), .int v1, .ref (ad 0)]) (ws2 := (FW (gk G) ad nr nf tr tf co pf hi sl sv ff)) [] C dL_act_150 w_L_10 (c_L_low (a2 >>> (4 &&& 31)) 3 e21) (by decide) rfl rfl rfl  rfl rfl (Nat.le_of_ble_eq_true rfl) rfl ?_
    obtain ⟨v22, nr23, hi24, ff25, e26, hf⟩ := b4_e hf
    refine z_callVs (st := []) C dL_act_153 w_L_25 (c_X2_fuse ad v1 (1 + v18) v20 nr nf tr tf co pf hi sl sv ff e26) (by decide) (FWf _ _ _ _ _ _ _ _ _ _ _ _ _ _ _ _ _ _ _ _ _ _) rfl rfl rfl rfl (Nat.le_of_ble_eq_true rfl) ?_
    cases hf
    exact z_iret C dL_act_156 F
  have hf := ifn hs17 hf
  by_cases hs27 : v3 = 5
  · have hf := ifp hs27 hf
    refine z_tabIn (tgt := 157) C dL_act_14 hs27 (by decide) (by decide) rfl rfl ?_
    refine z_iload_n 3 C dL_act_157 rfl ?_
    refine z_iconst (v := 3) C dL_act_158 kc_3 ?_
    obtain ⟨v28, e29, hf⟩ := b1_e hf
    refine z_callS (st := []) (ws2 := (FW (gk G) ad nr nf tr tf co pf hi sl sv ff)) [] C dL_act_159 w_L_10 (c_L_low a2 3 e29) (by decide) rfl rfl rfl  rfl rfl (Nat.le_of_ble_eq_true rfl) rfl ?_
    refine z_istore (ls' := [(4, _), (3, _), (0, _), (1, _), (2, _)]) C dL_act_162 (by decide) rfl ?_
    refine z_aload_n 2 C dL_act_164 rfl ?_
    refine z_iload 0 C dL_act_165 rfl ?_
    refine z_iconst (v := 1) C dL_act_167 kc_1 ?_
    refine z_iload_n 4 C dL_act_168 rfl ?_
    refine z_iconst (v := 2) C dL_act_169 kc_2 ?_
    refine z_ishr C dL_act_170 ?_
    refine z_iload 0 C dL_act_171 rfl ?_
    refine z_iconst (v := 2) C dL_act_173 kc_2 ?_
    refine z_icmp_ne (tgt := 182) C dL_act_174 rfl (fun hc => ?_) (fun hc => ?_)
    · have hf := ifn hc hf
      refine z_bipush (v := 9) C dL_act_182 kb_9 ?_
      refine z_sub (ls' := []) [] rfl ?_
      exact tb_L_act_184 ad tr tf co pf sl sv C F _ _ _ _ _ _ _ _ hf
    have hf := ifp hc hf
    refine z_bipush (v := 6) C dL_act_177 kb_6 ?_
    refine z_goto (tgt := 184) C dL_act_179 rfl ?_
    refine z_sub (ls' := []) [] rfl ?_
    exact tb_L_act_184 ad tr tf co pf sl sv C F _ _ _ _ _ _ _ _ hf
  have hf := ifn hs27 hf
  by_cases hs30 : v3 = 6
  · have hf := ifp hs30 hf
    refine z_tabIn (tgt := 192) C dL_act_14 hs30 (by decide) (by decide) rfl rfl ?_
    refine z_aload_n 1 C dL_act_192 rfl ?_
    refine z_iload_n 2 C dL_act_193 rfl ?_
    refine z_iconst (v := 4) C dL_act_194 kc_4 ?_
    refine z_ishr C dL_act_195 ?_
    refine z_bipush (v := 6) C dL_act_196 kb_6 ?_
    obtain ⟨v31, e32, hf⟩ := b1_e hf
    refine z_callS (st := [.ref (ad 0)]) (ws2 := (FW (gk G) ad nr nf tr tf co pf hi sl sv ff)) [] C dL_act_198 w_L_10 (c_L_low (a1 >>> (4 &&& 31)) 6 e32) (by decide) rfl rfl rfl  rfl rfl (Nat.le_of_ble_eq_true rfl) rfl ?_
    obtain ⟨v33, nr34, hi35, ff36, e37, hf⟩ := b4_e hf
    refine z_callVs (st := []) C dL_act_201 w_L_31 (c_X2_turn ad v31 nr nf tr tf co pf hi sl sv ff e37) (by decide) (FWf _ _ _ _ _ _ _ _ _ _ _ _ _ _ _ _ _ _ _ _ _ _) rfl rfl rfl rfl (Nat.le_of_ble_eq_true rfl) ?_
    cases hf
    exact z_iret C dL_act_204 F
  have hf := ifn hs30 hf
  by_cases hs38 : v3 = 7
  · have hf := ifp hs38 hf
    refine z_tabIn (tgt := 192) C dL_act_14 hs38 (by decide) (by decide) rfl rfl ?_
    refine z_aload_n 1 C dL_act_192 rfl ?_
    refine z_iload_n 2 C dL_act_193 rfl ?_
    refine z_iconst (v := 4) C dL_act_194 kc_4 ?_
    refine z_ishr C dL_act_195 ?_
    refine z_bipush (v := 6) C dL_act_196 kb_6 ?_
    obtain ⟨v39, e40, hf⟩ := b1_e hf
    refine z_callS (st := [.ref (ad 0)]) (ws2 := (FW (gk G) ad nr nf tr tf co pf hi sl sv ff)) [] C dL_act_198 w_L_10 (c_L_low (a1 >>> (4 &&& 31)) 6 e40) (by decide) rfl rfl rfl  rfl rfl (Nat.le_of_ble_eq_true rfl) rfl ?_
    obtain ⟨v41, nr42, hi43, ff44, e45, hf⟩ := b4_e hf
    refine z_callVs (st := []) C dL_act_201 w_L_31 (c_X2_turn ad v39 nr nf tr tf co pf hi sl sv ff e45) (by decide) (FWf _ _ _ _ _ _ _ _ _ _ _ _ _ _ _ _ _ _ _ _ _ _) rfl rfl rfl rfl (Nat.le_of_ble_eq_true rfl) ?_
    cases hf
    exact z_iret C dL_act_204 F
  have hf := ifn hs38 hf
  by_cases hs46 : v3 = 8
  · have hf := ifp hs46 hf
    refine z_tabIn (tgt := 192) C dL_act_14 hs46 (by decide) (by decide) rfl rfl ?_
    refine z_aload_n 1 C dL_act_192 rfl ?_
    refine z_iload_n 2 C dL_act_193 rfl ?_
    refine z_iconst (v := 4) C dL_act_194 kc_4 ?_
    refine z_ishr C dL_act_195 ?_
    refine z_bipush (v := 6) C dL_act_196 kb_6 ?_
    obtain ⟨v47, e48, hf⟩ := b1_e hf
    refine z_callS (st := [.ref (ad 0)]) (ws2 := (FW (gk G) ad nr nf tr tf co pf hi sl sv ff)) [] C dL_act_198 w_L_10 (c_L_low (a1 >>> (4 &&& 31)) 6 e48) (by decide) rfl rfl rfl  rfl rfl (Nat.le_of_ble_eq_true rfl) rfl ?_
    obtain ⟨v49, nr50, hi51, ff52, e53, hf⟩ := b4_e hf
    refine z_callVs (st := []) C dL_act_201 w_L_31 (c_X2_turn ad v47 nr nf tr tf co pf hi sl sv ff e53) (by decide) (FWf _ _ _ _ _ _ _ _ _ _ _ _ _ _ _ _ _ _ _ _ _ _) rfl rfl rfl rfl (Nat.le_of_ble_eq_true rfl) ?_
    cases hf
    exact z_iret C dL_act_204 F
  have hf := ifn hs46 hf
  by_cases hs54 : v3 = 9
  · have hf := ifp hs54 hf
    refine z_tabIn (tgt := 192) C dL_act_14 hs54 (by decide) (by decide) rfl rfl ?_
    refine z_aload_n 1 C dL_act_192 rfl ?_
    refine z_iload_n 2 C dL_act_193 rfl ?_
    refine z_iconst (v := 4) C dL_act_194 kc_4 ?_
    refine z_ishr C dL_act_195 ?_
    refine z_bipush (v := 6) C dL_act_196 kb_6 ?_
    obtain ⟨v55, e56, hf⟩ := b1_e hf
    refine z_callS (st := [.ref (ad 0)]) (ws2 := (FW (gk G) ad nr nf tr tf co pf hi sl sv ff)) [] C dL_act_198 w_L_10 (c_L_low (a1 >>> (4 &&& 31)) 6 e56) (by decide) rfl rfl rfl  rfl rfl (Nat.le_of_ble_eq_true rfl) rfl ?_
    obtain ⟨v57, nr58, hi59, ff60, e61, hf⟩ := b4_e hf
    refine z_callVs (st := []) C dL_act_201 w_L_31 (c_X2_turn ad v55 nr nf tr tf co pf hi sl sv ff e61) (by decide) (FWf _ _ _ _ _ _ _ _ _ _ _ _ _ _ _ _ _ _ _ _ _ _) rfl rfl rfl rfl (Nat.le_of_ble_eq_true rfl) ?_
    cases hf
    exact z_iret C dL_act_204 F
  have hf := ifn hs54 hf
  refine z_tabOut (tgt := 205) C dL_act_14 (by have q0 := ti_ne (z := 0) (by decide) hs5; have q1 := ti_ne (z := 1) (by decide) hs8; have q2 := ti_ne (z := 2) (by decide) hs11; have q3 := ti_ne (z := 3) (by decide) hs14; have q4 := ti_ne (z := 4) (by decide) hs17; have q5 := ti_ne (z := 5) (by decide) hs27; have q6 := ti_ne (z := 6) (by decide) hs30; have q7 := ti_ne (z := 7) (by decide) hs38; have q8 := ti_ne (z := 8) (by decide) hs46; have q9 := ti_ne (z := 9) (by decide) hs54; omega) rfl ?_
  refine z_aload_n 1 C dL_act_205 rfl ?_
  refine z_iconst (v := 1) C dL_act_206 kc_1 ?_
  refine z_iload_n 3 C dL_act_207 rfl ?_
  refine z_bipush (v := 7) C dL_act_208 kb_7 ?_
  obtain ⟨v62, e63, hf⟩ := b1_e hf
  refine z_callS (st := [.int 1, .ref (ad 0)]) (ws2 := (FW (gk G) ad nr nf tr tf co pf hi sl sv ff)) [] C dL_act_210 w_L_10 (c_L_low a2 7 e63) (by decide) rfl rfl rfl  rfl rfl (Nat.le_of_ble_eq_true rfl) rfl ?_
  refine z_iadd C dL_act_213 ?_
  obtain ⟨v64, nr65, nf66, hi67, ff68, e69, hf⟩ := b5_e hf
  refine z_callVs (st := []) C dL_act_214 w_L_35 (c_X2_pass ad (1 + v62) nr nf tr tf co pf hi sl sv ff e69) (by decide) (FWf _ _ _ _ _ _ _ _ _ _ _ _ _ _ _ _ _ _ _ _ _ _) rfl rfl rfl rfl (Nat.le_of_ble_eq_true rfl) ?_
  cases hf
  exact z_iret C dL_act_217 F
set_option maxHeartbeats 400000 in
set_option maxRecDepth 100000 in
theorem tb_L_boards_580 {G : GT} (ad : Nat → Nat) (nr : zA) (tr : zA) (tf : zA) (co : zA) (pf : zA) (hi : Nat → zA) (sl : Nat → zA) (sv : zA) (ff : zA) {v : Int32} {nf' : zA} (C : zC G cL_boards 11 RL (some .boolean) 5) (F : zF G (some (.int v)) (FW (gk G) ad nr nf' tr tf co pf hi sl sv ff)) : ∀ (s0 : Int32) (s1 : Int32) (nf : zA), B_L_boards_580 s0 s1 nr nf pf ff = some (v, nf') → zV G 11 580 [] [.int s0, .int s1] (FW (gk G) ad nr nf tr tf co pf hi sl sv ff) := by
  intro s0 s1 nf hf
  unfold B_L_boards_580 at hf
  refine z_icmp_ne (tgt := 587) C dL_boards_580 rfl (fun hc => ?_) (fun hc => ?_)
  · have hf := ifn hc hf
    refine z_iconst (v := 0) C dL_boards_587 kc_0 ?_
    cases hf
    exact z_zret C dL_boards_588 rfl F
  have hf := ifp hc hf
  refine z_iconst (v := 1) C dL_boards_583 kc_1 ?_
  refine z_goto (tgt := 588) C dL_boards_584 rfl ?_
  cases hf
  exact z_zret C dL_boards_588 rfl F
set_option maxHeartbeats 400000 in
set_option maxRecDepth 100000 in
theorem tb_L_boards_487 {G : GT} (ad : Nat → Nat) (nr : zA) (tr : zA) (tf : zA) (co : zA) (pf : zA) (hi : Nat → zA) (sl : Nat → zA) (sv : zA) (ff : zA) {v : Int32} {nf' : zA} (C : zC G cL_boards 11 RL (some .boolean) 5) (F : zF G (some (.int v)) (FW (gk G) ad nr nf' tr tf co pf hi sl sv ff)) (K : Int32 → Int32 → Int32 → Int32 → Int32 → zA → zA → zA → zA → Option (Int32 × zA)) (hK : ∀ (l1 : Int32) (l2 : Int32) (l3 : Int32) (l4 : Int32) (l5 : Int32) (nf : zA), K l1 l2 l3 l4 l5 nr nf pf ff = some (v, nf') → zV G 11 12 [(0, .ref (ad 0)), (1, .int l1), (2, .int l2), (3, .int l3), (4, .int l4), (5, .int l5)] [] (FW (gk G) ad nr nf tr tf co pf hi sl sv ff)) : ∀ (l1 : Int32) (l2 : Int32) (l3 : Int32) (l4 : Int32) (l5 : Int32) (nf : zA), B_L_boards_487 K l1 l2 l3 l4 l5 nr nf pf ff = some (v, nf') → zV G 11 487 [(0, .ref (ad 0)), (1, .int l1), (2, .int l2), (3, .int l3), (4, .int l4), (5, .int l5)] [] (FW (gk G) ad nr nf tr tf co pf hi sl sv ff) := by
  intro l1 l2 l3 l4 l5 nf hf
  unfold B_L_boards_487 at hf
  refine z_aload_n 0 C dL_boards_487 rfl ?_
  refine z_iload 5 C dL_boards_488 rfl ?_
  refine z_iconst (v := 2) C dL_boards_490 kc_2 ?_
  obtain ⟨v1, nf2, e3, hf⟩ := b2_e hf
  refine z_callVs (st := []) C dL_boards_491 w_L_41 (c_X2_of ad l5 2 nr nf tr tf co pf hi sl sv ff e3) (by decide) (FWf _ _ _ _ _ _ _ _ _ _ _ _ _ _ _ _ _ _ _ _ _ _) rfl rfl rfl rfl (Nat.le_of_ble_eq_true rfl) ?_
  refine z_iconst (v := 2) C dL_boards_494 kc_2 ?_
  refine z_icmp_eq (tgt := 511) C dL_boards_495 rfl (fun hc => ?_) (fun hc => ?_)
  · have hf := ifp hc hf
    obtain ⟨x4, e5, hf⟩ := nm_g hf
    refine z_iinc (ls' := [(5, _), (0, _), (1, _), (2, _), (3, _), (4, _)]) 5 C dL_boards_511 rfl kc_1 e5 (by decide) rfl ?_
    refine z_goto (tgt := 12) C dL_boards_514 rfl ?_
    refine z_sub (ls' := [(0, .ref (ad 0)), (1, .int l1), (2, .int l2), (3, .int l3), (4, .int l4), (5, .int x4)]) [1, 2, 3, 4, 5, 0] rfl ?_
    exact hK _ _ _ _ _ _ hf
  have hf := ifn hc hf
  refine z_aload_n 0 C dL_boards_498 rfl ?_
  refine z_iload 5 C dL_boards_499 rfl ?_
  refine z_bipush (v := 7) C dL_boards_501 kb_7 ?_
  obtain ⟨v6, nf7, e8, hf⟩ := b2_e hf
  refine z_callVs (st := []) C dL_boards_503 w_L_41 (c_X2_of ad l5 7 nr nf2 tr tf co pf hi sl sv ff e8) (by decide) (FWf _ _ _ _ _ _ _ _ _ _ _ _ _ _ _ _ _ _ _ _ _ _) rfl rfl rfl rfl (Nat.le_of_ble_eq_true rfl) ?_
  refine z_if_eq (tgt := 511) C dL_boards_506 rfl (fun hc => ?_) (fun hc => ?_)
  · have hf := ifp hc hf
    obtain ⟨x9, e10, hf⟩ := nm_g hf
    refine z_iinc (ls' := [(5, _), (0, _), (1, _), (2, _), (3, _), (4, _)]) 5 C dL_boards_511 rfl kc_1 e10 (by decide) rfl ?_
    refine z_goto (tgt := 12) C dL_boards_514 rfl ?_
    refine z_sub (ls' := [(0, .ref (ad 0)), (1, .int l1), (2, .int l2), (3, .int l3), (4, .int l4), (5, .int x9)]) [1, 2, 3, 4, 5, 0] rfl ?_
    exact hK _ _ _ _ _ _ hf
  have hf := ifn hc hf
  refine z_iconst (v := 0) C dL_boards_509 kc_0 ?_
  cases hf
  exact z_zret C dL_boards_510 rfl F
set_option maxHeartbeats 400000 in
set_option maxRecDepth 100000 in
theorem tb_L_boards_463 {G : GT} (ad : Nat → Nat) (nr : zA) (tr : zA) (tf : zA) (co : zA) (pf : zA) (hi : Nat → zA) (sl : Nat → zA) (sv : zA) (ff : zA) {v : Int32} {nf' : zA} (C : zC G cL_boards 11 RL (some .boolean) 5) (F : zF G (some (.int v)) (FW (gk G) ad nr nf' tr tf co pf hi sl sv ff)) (K : Int32 → Int32 → Int32 → Int32 → Int32 → zA → zA → zA → zA → Option (Int32 × zA)) (hK : ∀ (l1 : Int32) (l2 : Int32) (l3 : Int32) (l4 : Int32) (l5 : Int32) (nf : zA), K l1 l2 l3 l4 l5 nr nf pf ff = some (v, nf') → zV G 11 12 [(0, .ref (ad 0)), (1, .int l1), (2, .int l2), (3, .int l3), (4, .int l4), (5, .int l5)] [] (FW (gk G) ad nr nf tr tf co pf hi sl sv ff)) : ∀ (s0 : Int32) (s1 : Int32) (l1 : Int32) (l2 : Int32) (l3 : Int32) (l4 : Int32) (l5 : Int32) (nf : zA), B_L_boards_463 K s0 s1 l1 l2 l3 l4 l5 nr nf pf ff = some (v, nf') → zV G 11 463 [(0, .ref (ad 0)), (1, .int l1), (2, .int l2), (3, .int l3), (4, .int l4), (5, .int l5)] [.int s0, .int s1] (FW (gk G) ad nr nf tr tf co pf hi sl sv ff) := by
  intro s0 s1 l1 l2 l3 l4 l5 nf hf
  unfold B_L_boards_463 at hf
  refine z_icmp_ne (tgt := 509) C dL_boards_463 rfl (fun hc => ?_) (fun hc => ?_)
  · have hf := ifn hc hf
    refine z_iconst (v := 0) C dL_boards_509 kc_0 ?_
    cases hf
    exact z_zret C dL_boards_510 rfl F
  have hf := ifp hc hf
  refine z_aload_n 0 C dL_boards_466 rfl ?_
  refine z_iload 5 C dL_boards_467 rfl ?_
  refine z_iconst (v := 3) C dL_boards_469 kc_3 ?_
  obtain ⟨v1, nf2, e3, hf⟩ := b2_e hf
  refine z_callVs (st := []) C dL_boards_470 w_L_41 (c_X2_of ad l5 3 nr nf tr tf co pf hi sl sv ff e3) (by decide) (FWf _ _ _ _ _ _ _ _ _ _ _ _ _ _ _ _ _ _ _ _ _ _) rfl rfl rfl rfl (Nat.le_of_ble_eq_true rfl) ?_
  refine z_if_eq (tgt := 487) C dL_boards_473 rfl (fun hc => ?_) (fun hc => ?_)
  · have hf := ifp hc hf
    exact tb_L_boards_487 ad nr tr tf co pf hi sl sv ff C F K hK _ _ _ _ _ _ hf
  have hf := ifn hc hf
  refine z_aload_n 0 C dL_boards_476 rfl ?_
  refine z_iload 5 C dL_boards_477 rfl ?_
  refine z_bipush (v := 11) C dL_boards_479 kb_11 ?_
  obtain ⟨v4, nf5, e6, hf⟩ := b2_e hf
  refine z_callVs (st := []) C dL_boards_481 w_L_41 (c_X2_of ad l5 11 nr nf2 tr tf co pf hi sl sv ff e6) (by decide) (FWf _ _ _ _ _ _ _ _ _ _ _ _ _ _ _ _ _ _ _ _ _ _) rfl rfl rfl rfl (Nat.le_of_ble_eq_true rfl) ?_
  refine z_if_eq (tgt := 509) C dL_boards_484 rfl (fun hc => ?_) (fun hc => ?_)
  · have hf := ifp hc hf
    refine z_iconst (v := 0) C dL_boards_509 kc_0 ?_
    cases hf
    exact z_zret C dL_boards_510 rfl F
  have hf := ifn hc hf
  exact tb_L_boards_487 ad nr tr tf co pf hi sl sv ff C F K hK _ _ _ _ _ _ hf
set_option maxHeartbeats 400000 in
set_option maxRecDepth 100000 in
theorem tb_L_boards_447 {G : GT} (ad : Nat → Nat) (nr : zA) (tr : zA) (tf : zA) (co : zA) (pf : zA) (hi : Nat → zA) (sl : Nat → zA) (sv : zA) (ff : zA) {v : Int32} {nf' : zA} (C : zC G cL_boards 11 RL (some .boolean) 5) (F : zF G (some (.int v)) (FW (gk G) ad nr nf' tr tf co pf hi sl sv ff)) (K : Int32 → Int32 → Int32 → Int32 → Int32 → zA → zA → zA → zA → Option (Int32 × zA)) (hK : ∀ (l1 : Int32) (l2 : Int32) (l3 : Int32) (l4 : Int32) (l5 : Int32) (nf : zA), K l1 l2 l3 l4 l5 nr nf pf ff = some (v, nf') → zV G 11 12 [(0, .ref (ad 0)), (1, .int l1), (2, .int l2), (3, .int l3), (4, .int l4), (5, .int l5)] [] (FW (gk G) ad nr nf tr tf co pf hi sl sv ff)) : ∀ (s0 : Int32) (l1 : Int32) (l2 : Int32) (l3 : Int32) (l4 : Int32) (l5 : Int32) (nf : zA), B_L_boards_447 K s0 l1 l2 l3 l4 l5 nr nf pf ff = some (v, nf') → zV G 11 447 [(0, .ref (ad 0)), (1, .int l1), (2, .int l2), (3, .int l3), (4, .int l4), (5, .int l5)] [.int s0] (FW (gk G) ad nr nf tr tf co pf hi sl sv ff) := by
  intro s0 l1 l2 l3 l4 l5 nf hf
  unfold B_L_boards_447 at hf
  refine z_aload_n 0 C dL_boards_447 rfl ?_
  refine z_iload 5 C dL_boards_448 rfl ?_
  refine z_bipush (v := 10) C dL_boards_450 kb_10 ?_
  obtain ⟨v1, nf2, e3, hf⟩ := b2_e hf
  refine z_callVs (st := [.int s0]) C dL_boards_452 w_L_41 (c_X2_of ad l5 10 nr nf tr tf co pf hi sl sv ff e3) (by decide) (FWf _ _ _ _ _ _ _ _ _ _ _ _ _ _ _ _ _ _ _ _ _ _) rfl rfl rfl rfl (Nat.le_of_ble_eq_true rfl) ?_
  refine z_if_le (tgt := 462) C dL_boards_455 rfl (fun hc => ?_) (fun hc => ?_)
  · have hf := ifp hc hf
    refine z_iconst (v := 0) C dL_boards_462 kc_0 ?_
    exact tb_L_boards_463 ad nr tr tf co pf hi sl sv ff C F K hK _ _ _ _ _ _ _ _ hf
  have hf := ifn hc hf
  refine z_iconst (v := 1) C dL_boards_458 kc_1 ?_
  refine z_goto (tgt := 463) C dL_boards_459 rfl ?_
  exact tb_L_boards_463 ad nr tr tf co pf hi sl sv ff C F K hK _ _ _ _ _ _ _ _ hf
set_option maxHeartbeats 400000 in
set_option maxRecDepth 100000 in
theorem tb_L_boards_386 {G : GT} (ad : Nat → Nat) (nr : zA) (tr : zA) (tf : zA) (co : zA) (pf : zA) (hi : Nat → zA) (sl : Nat → zA) (sv : zA) (ff : zA) {v : Int32} {nf' : zA} (C : zC G cL_boards 11 RL (some .boolean) 5) (F : zF G (some (.int v)) (FW (gk G) ad nr nf' tr tf co pf hi sl sv ff)) (K : Int32 → Int32 → Int32 → Int32 → Int32 → zA → zA → zA → zA → Option (Int32 × zA)) (hK : ∀ (l1 : Int32) (l2 : Int32) (l3 : Int32) (l4 : Int32) (l5 : Int32) (nf : zA), K l1 l2 l3 l4 l5 nr nf pf ff = some (v, nf') → zV G 11 12 [(0, .ref (ad 0)), (1, .int l1), (2, .int l2), (3, .int l3), (4, .int l4), (5, .int l5)] [] (FW (gk G) ad nr nf tr tf co pf hi sl sv ff)) : ∀ (l1 : Int32) (l2 : Int32) (l3 : Int32) (l4 : Int32) (l5 : Int32) (l9 : Int32) (nf : zA), B_L_boards_386 K l1 l2 l3 l4 l5 l9 nr nf pf ff = some (v, nf') → zV G 11 386 [(0, .ref (ad 0)), (1, .int l1), (2, .int l2), (3, .int l3), (4, .int l4), (5, .int l5), (9, .int l9)] [] (FW (gk G) ad nr nf tr tf co pf hi sl sv ff) := by
  intro l1 l2 l3 l4 l5 l9 nf hf
  unfold B_L_boards_386 at hf
  refine z_aload_n 0 C dL_boards_386 rfl ?_
  refine z_iload 5 C dL_boards_387 rfl ?_
  obtain ⟨v1, e2, hf⟩ := b1_e hf
  refine z_callVs (st := []) C dL_boards_389 w_L_44 (c_X2_fed ad l5 nr nf tr tf co pf hi sl sv ff e2) (by decide) (FWf _ _ _ _ _ _ _ _ _ _ _ _ _ _ _ _ _ _ _ _ _ _) rfl rfl rfl rfl (Nat.le_of_ble_eq_true rfl) ?_
  refine z_iload 6 C dL_boards_392 rfl ?_
  refine z_icmp_ne (tgt := 509) C dL_boards_394 rfl (fun hc => ?_) (fun hc => ?_)
  · have hf := ifn hc hf
    refine z_iconst (v := 0) C dL_boards_509 kc_0 ?_
    cases hf
    exact z_zret C dL_boards_510 rfl F
  have hf := ifp hc hf
  refine z_aload_n 0 C dL_boards_397 rfl ?_
  refine z_iload 5 C dL_boards_398 rfl ?_
  refine z_iconst (v := 5) C dL_boards_400 kc_5 ?_
  obtain ⟨v3, nf4, e5, hf⟩ := b2_e hf
  refine z_callVs (st := []) C dL_boards_401 w_L_41 (c_X2_of ad l5 5 nr nf tr tf co pf hi sl sv ff e5) (by decide) (FWf _ _ _ _ _ _ _ _ _ _ _ _ _ _ _ _ _ _ _ _ _ _) rfl rfl rfl rfl (Nat.le_of_ble_eq_true rfl) ?_
  refine z_if_lt (tgt := 509) C dL_boards_404 rfl (fun hc => ?_) (fun hc => ?_)
  · have hf := ifp hc hf
    refine z_iconst (v := 0) C dL_boards_509 kc_0 ?_
    cases hf
    exact z_zret C dL_boards_510 rfl F
  have hf := ifn hc hf
  refine z_aload_n 0 C dL_boards_407 rfl ?_
  refine z_iload 5 C dL_boards_408 rfl ?_
  refine z_iconst (v := 5) C dL_boards_410 kc_5 ?_
  obtain ⟨v6, nf7, e8, hf⟩ := b2_e hf
  refine z_callVs (st := []) C dL_boards_411 w_L_41 (c_X2_of ad l5 5 nr nf4 tr tf co pf hi sl sv ff e8) (by decide) (FWf _ _ _ _ _ _ _ _ _ _ _ _ _ _ _ _ _ _ _ _ _ _) rfl rfl rfl rfl (Nat.le_of_ble_eq_true rfl) ?_
  refine z_ldc C dL_boards_414 tw_173 ?_
  refine z_icmp_gt (tgt := 509) C dL_boards_416 rfl (fun hc => ?_) (fun hc => ?_)
  · have hf := ifp hc hf
    refine z_iconst (v := 0) C dL_boards_509 kc_0 ?_
    cases hf
    exact z_zret C dL_boards_510 rfl F
  have hf := ifn hc hf
  refine z_aload_n 0 C dL_boards_419 rfl ?_
  refine z_iload 5 C dL_boards_420 rfl ?_
  refine z_bipush (v := 6) C dL_boards_422 kb_6 ?_
  obtain ⟨v9, nf10, e11, hf⟩ := b2_e hf
  refine z_callVs (st := []) C dL_boards_424 w_L_41 (c_X2_of ad l5 6 nr nf7 tr tf co pf hi sl sv ff e11) (by decide) (FWf _ _ _ _ _ _ _ _ _ _ _ _ _ _ _ _ _ _ _ _ _ _) rfl rfl rfl rfl (Nat.le_of_ble_eq_true rfl) ?_
  refine z_iconst (v := 1) C dL_boards_427 kc_1 ?_
  refine z_icmp_lt (tgt := 509) C dL_boards_428 rfl (fun hc => ?_) (fun hc => ?_)
  · have hf := ifp hc hf
    refine z_iconst (v := 0) C dL_boards_509 kc_0 ?_
    cases hf
    exact z_zret C dL_boards_510 rfl F
  have hf := ifn hc hf
  refine z_aload_n 0 C dL_boards_431 rfl ?_
  refine z_iload 5 C dL_boards_432 rfl ?_
  refine z_iconst (v := 3) C dL_boards_434 kc_3 ?_
  obtain ⟨v12, nf13, e14, hf⟩ := b2_e hf
  refine z_callVs (st := []) C dL_boards_435 w_L_41 (c_X2_of ad l5 3 nr nf10 tr tf co pf hi sl sv ff e14) (by decide) (FWf _ _ _ _ _ _ _ _ _ _ _ _ _ _ _ _ _ _ _ _ _ _) rfl rfl rfl rfl (Nat.le_of_ble_eq_true rfl) ?_
  refine z_iconst (v := 1) C dL_boards_438 kc_1 ?_
  refine z_icmp_ne (tgt := 446) C dL_boards_439 rfl (fun hc => ?_) (fun hc => ?_)
  · have hf := ifn hc hf
    refine z_iconst (v := 0) C dL_boards_446 kc_0 ?_
    refine z_sub (ls' := [(0, .ref (ad 0)), (1, .int l1), (2, .int l2), (3, .int l3), (4, .int l4), (5, .int l5)]) [0, 1, 2, 3, 4, 5] rfl ?_
    exact tb_L_boards_447 ad nr tr tf co pf hi sl sv ff C F K hK _ _ _ _ _ _ _ hf
  have hf := ifp hc hf
  refine z_iconst (v := 1) C dL_boards_442 kc_1 ?_
  refine z_goto (tgt := 447) C dL_boards_443 rfl ?_
  refine z_sub (ls' := [(0, .ref (ad 0)), (1, .int l1), (2, .int l2), (3, .int l3), (4, .int l4), (5, .int l5)]) [0, 1, 2, 3, 4, 5] rfl ?_
  exact tb_L_boards_447 ad nr tr tf co pf hi sl sv ff C F K hK _ _ _ _ _ _ _ hf
set_option maxHeartbeats 400000 in
set_option maxRecDepth 100000 in
theorem tb_L_boards_361 {G : GT} (ad : Nat → Nat) (nr : zA) (tr : zA) (tf : zA) (co : zA) (pf : zA) (hi : Nat → zA) (sl : Nat → zA) (sv : zA) (ff : zA) {v : Int32} {nf' : zA} (C : zC G cL_boards 11 RL (some .boolean) 5) (F : zF G (some (.int v)) (FW (gk G) ad nr nf' tr tf co pf hi sl sv ff)) (K : Int32 → Int32 → Int32 → Int32 → Int32 → zA → zA → zA → zA → Option (Int32 × zA)) (hK : ∀ (l1 : Int32) (l2 : Int32) (l3 : Int32) (l4 : Int32) (l5 : Int32) (nf : zA), K l1 l2 l3 l4 l5 nr nf pf ff = some (v, nf') → zV G 11 12 [(0, .ref (ad 0)), (1, .int l1), (2, .int l2), (3, .int l3), (4, .int l4), (5, .int l5)] [] (FW (gk G) ad nr nf tr tf co pf hi sl sv ff)) : ∀ (s0 : Int32) (s1 : Int32) (l1 : Int32) (l2 : Int32) (l3 : Int32) (l4 : Int32) (l5 : Int32) (l7 : Int32) (l8 : Int32) (l9 : Int32) (nf : zA), B_L_boards_361 K s0 s1 l1 l2 l3 l4 l5 l7 l8 l9 nr nf pf ff = some (v, nf') → zV G 11 361 [(0, .ref (ad 0)), (1, .int l1), (2, .int l2), (3, .int l3), (4, .int l4), (5, .int l5), (7, .int l7), (8, .int l8), (9, .int l9)] [.int s0, .int s1] (FW (gk G) ad nr nf tr tf co pf hi sl sv ff) := by
  intro s0 s1 l1 l2 l3 l4 l5 l7 l8 l9 nf hf
  unfold B_L_boards_361 at hf
  refine z_icmp_ne (tgt := 509) C dL_boards_361 rfl (fun hc => ?_) (fun hc => ?_)
  · have hf := ifn hc hf
    refine z_iconst (v := 0) C dL_boards_509 kc_0 ?_
    cases hf
    exact z_zret C dL_boards_510 rfl F
  have hf := ifp hc hf
  refine z_aload_n 0 C dL_boards_364 rfl ?_
  refine z_iload 5 C dL_boards_365 rfl ?_
  refine z_iconst (v := 4) C dL_boards_367 kc_4 ?_
  obtain ⟨v1, nf2, e3, hf⟩ := b2_e hf
  refine z_callVs (st := []) C dL_boards_368 w_L_41 (c_X2_of ad l5 4 nr nf tr tf co pf hi sl sv ff e3) (by decide) (FWf _ _ _ _ _ _ _ _ _ _ _ _ _ _ _ _ _ _ _ _ _ _) rfl rfl rfl rfl (Nat.le_of_ble_eq_true rfl) ?_
  refine z_iload 7 C dL_boards_371 rfl ?_
  refine z_icmp_ne (tgt := 509) C dL_boards_373 rfl (fun hc => ?_) (fun hc => ?_)
  · have hf := ifn hc hf
    refine z_iconst (v := 0) C dL_boards_509 kc_0 ?_
    cases hf
    exact z_zret C dL_boards_510 rfl F
  have hf := ifp hc hf
  refine z_iload 6 C dL_boards_376 rfl ?_
  refine z_if_eq (tgt := 386) C dL_boards_378 rfl (fun hc => ?_) (fun hc => ?_)
  · have hf := ifp hc hf
    refine z_sub (ls' := [(0, .ref (ad 0)), (1, .int l1), (2, .int l2), (3, .int l3), (4, .int l4), (5, .int l5), (9, .int l9)]) [0, 1, 2, 3, 4, 5, 8] rfl ?_
    exact tb_L_boards_386 ad nr tr tf co pf hi sl sv ff C F K hK _ _ _ _ _ _ _ hf
  have hf := ifn hc hf
  refine z_iload 7 C dL_boards_381 rfl ?_
  refine z_if_ne (tgt := 509) C dL_boards_383 rfl (fun hc => ?_) (fun hc => ?_)
  · have hf := ifn hc hf
    refine z_iconst (v := 0) C dL_boards_509 kc_0 ?_
    cases hf
    exact z_zret C dL_boards_510 rfl F
  have hf := ifp hc hf
  refine z_sub (ls' := [(0, .ref (ad 0)), (1, .int l1), (2, .int l2), (3, .int l3), (4, .int l4), (5, .int l5), (9, .int l9)]) [0, 1, 2, 3, 4, 5, 8] rfl ?_
  exact tb_L_boards_386 ad nr tr tf co pf hi sl sv ff C F K hK _ _ _ _ _ _ _ hf
set_option maxHeartbeats 400000 in
set_option maxRecDepth 100000 in
theorem tb_L_boards_343 {G : GT} (ad : Nat → Nat) (nr : zA) (tr : zA) (tf : zA) (co : zA) (pf : zA) (hi : Nat → zA) (sl : Nat → zA) (sv : zA) (ff : zA) {v : Int32} {nf' : zA} (C : zC G cL_boards 11 RL (some .boolean) 5) (F : zF G (some (.int v)) (FW (gk G) ad nr nf' tr tf co pf hi sl sv ff)) (K : Int32 → Int32 → Int32 → Int32 → Int32 → zA → zA → zA → zA → Option (Int32 × zA)) (hK : ∀ (l1 : Int32) (l2 : Int32) (l3 : Int32) (l4 : Int32) (l5 : Int32) (nf : zA), K l1 l2 l3 l4 l5 nr nf pf ff = some (v, nf') → zV G 11 12 [(0, .ref (ad 0)), (1, .int l1), (2, .int l2), (3, .int l3), (4, .int l4), (5, .int l5)] [] (FW (gk G) ad nr nf tr tf co pf hi sl sv ff)) : ∀ (l1 : Int32) (l2 : Int32) (l3 : Int32) (l4 : Int32) (l5 : Int32) (l7 : Int32) (l8 : Int32) (l9 : Int32) (nf : zA), B_L_boards_343 K l1 l2 l3 l4 l5 l7 l8 l9 nr nf pf ff = some (v, nf') → zV G 11 343 [(0, .ref (ad 0)), (1, .int l1), (2, .int l2), (3, .int l3), (4, .int l4), (5, .int l5), (7, .int l7), (8, .int l8), (9, .int l9)] [] (FW (gk G) ad nr nf tr tf co pf hi sl sv ff) := by
  intro l1 l2 l3 l4 l5 l7 l8 l9 nf hf
  unfold B_L_boards_343 at hf
  refine z_aload_n 0 C dL_boards_343 rfl ?_
  refine z_iload 5 C dL_boards_344 rfl ?_
  refine z_bipush (v := 8) C dL_boards_346 kb_8 ?_
  obtain ⟨v1, nf2, e3, hf⟩ := b2_e hf
  refine z_callVs (st := []) C dL_boards_348 w_L_41 (c_X2_of ad l5 8 nr nf tr tf co pf hi sl sv ff e3) (by decide) (FWf _ _ _ _ _ _ _ _ _ _ _ _ _ _ _ _ _ _ _ _ _ _) rfl rfl rfl rfl (Nat.le_of_ble_eq_true rfl) ?_
  refine z_iload 6 C dL_boards_351 rfl ?_
  refine z_if_eq (tgt := 360) C dL_boards_353 rfl (fun hc => ?_) (fun hc => ?_)
  · have hf := ifp hc hf
    refine z_iconst (v := 0) C dL_boards_360 kc_0 ?_
    exact tb_L_boards_361 ad nr tr tf co pf hi sl sv ff C F K hK _ _ _ _ _ _ _ _ _ _ _ hf
  have hf := ifn hc hf
  refine z_iconst (v := 1) C dL_boards_356 kc_1 ?_
  refine z_goto (tgt := 361) C dL_boards_357 rfl ?_
  exact tb_L_boards_361 ad nr tr tf co pf hi sl sv ff C F K hK _ _ _ _ _ _ _ _ _ _ _ hf
set_option maxHeartbeats 400000 in
set_option maxRecDepth 100000 in
theorem tb_L_boards_302 {G : GT} (ad : Nat → Nat) (nr : zA) (tr : zA) (tf : zA) (co : zA) (pf : zA) (hi : Nat → zA) (sl : Nat → zA) (sv : zA) (ff : zA) {v : Int32} {nf' : zA} (C : zC G cL_boards 11 RL (some .boolean) 5) (F : zF G (some (.int v)) (FW (gk G) ad nr nf' tr tf co pf hi sl sv ff)) (K : Int32 → Int32 → Int32 → Int32 → Int32 → zA → zA → zA → zA → Option (Int32 × zA)) (hK : ∀ (l1 : Int32) (l2 : Int32) (l3 : Int32) (l4 : Int32) (l5 : Int32) (nf : zA), K l1 l2 l3 l4 l5 nr nf pf ff = some (v, nf') → zV G 11 12 [(0, .ref (ad 0)), (1, .int l1), (2, .int l2), (3, .int l3), (4, .int l4), (5, .int l5)] [] (FW (gk G) ad nr nf tr tf co pf hi sl sv ff)) : ∀ (s0 : Int32) (s1 : Int32) (l1 : Int32) (l2 : Int32) (l3 : Int32) (l4 : Int32) (l5 : Int32) (l6 : Int32) (l7 : Int32) (l8 : Int32) (l9 : Int32) (nf : zA), B_L_boards_302 K s0 s1 l1 l2 l3 l4 l5 l6 l7 l8 l9 nr nf pf ff = some (v, nf') → zV G 11 302 [(0, .ref (ad 0)), (1, .int l1), (2, .int l2), (3, .int l3), (4, .int l4), (5, .int l5), (6, .int l6), (7, .int l7), (8, .int l8), (9, .int l9)] [.int s0, .int s1] (FW (gk G) ad nr nf tr tf co pf hi sl sv ff) := by
  intro s0 s1 l1 l2 l3 l4 l5 l6 l7 l8 l9 nf hf
  unfold B_L_boards_302 at hf
  refine z_icmp_ne (tgt := 509) C dL_boards_302 rfl (fun hc => ?_) (fun hc => ?_)
  · have hf := ifn hc hf
    refine z_iconst (v := 0) C dL_boards_509 kc_0 ?_
    cases hf
    exact z_zret C dL_boards_510 rfl F
  have hf := ifp hc hf
  refine z_iload 5 C dL_boards_305 rfl ?_
  refine z_if_le (tgt := 343) C dL_boards_307 rfl (fun hc => ?_) (fun hc => ?_)
  · have hf := ifp hc hf
    refine z_sub (ls' := [(0, .ref (ad 0)), (1, .int l1), (2, .int l2), (3, .int l3), (4, .int l4), (5, .int l5), (7, .int l7), (8, .int l8), (9, .int l9)]) [0, 1, 2, 3, 4, 5, 7, 8, 9] rfl ?_
    exact tb_L_boards_343 ad nr tr tf co pf hi sl sv ff C F K hK _ _ _ _ _ _ _ _ _ hf
  have hf := ifn hc hf
  refine z_iload 6 C dL_boards_310 rfl ?_
  refine z_if_lt (tgt := 509) C dL_boards_312 rfl (fun hc => ?_) (fun hc => ?_)
  · have hf := ifp hc hf
    refine z_iconst (v := 0) C dL_boards_509 kc_0 ?_
    cases hf
    exact z_zret C dL_boards_510 rfl F
  have hf := ifn hc hf
  refine z_iload 6 C dL_boards_315 rfl ?_
  refine z_iload 5 C dL_boards_317 rfl ?_
  refine z_icmp_ge (tgt := 509) C dL_boards_319 rfl (fun hc => ?_) (fun hc => ?_)
  · have hf := ifp hc hf
    refine z_iconst (v := 0) C dL_boards_509 kc_0 ?_
    cases hf
    exact z_zret C dL_boards_510 rfl F
  have hf := ifn hc hf
  refine z_aload_n 0 C dL_boards_322 rfl ?_
  refine z_iload 5 C dL_boards_323 rfl ?_
  refine z_bipush (v := 9) C dL_boards_325 kb_9 ?_
  obtain ⟨v1, nf2, e3, hf⟩ := b2_e hf
  refine z_callVs (st := []) C dL_boards_327 w_L_41 (c_X2_of ad l5 9 nr nf tr tf co pf hi sl sv ff e3) (by decide) (FWf _ _ _ _ _ _ _ _ _ _ _ _ _ _ _ _ _ _ _ _ _ _) rfl rfl rfl rfl (Nat.le_of_ble_eq_true rfl) ?_
  refine z_aload_n 0 C dL_boards_330 rfl ?_
  refine z_iload 6 C dL_boards_331 rfl ?_
  refine z_bipush (v := 9) C dL_boards_333 kb_9 ?_
  obtain ⟨v4, nf5, e6, hf⟩ := b2_e hf
  refine z_callVs (st := [.int v1]) C dL_boards_335 w_L_41 (c_X2_of ad l6 9 nr nf2 tr tf co pf hi sl sv ff e6) (by decide) (FWf _ _ _ _ _ _ _ _ _ _ _ _ _ _ _ _ _ _ _ _ _ _) rfl rfl rfl rfl (Nat.le_of_ble_eq_true rfl) ?_
  refine z_iconst (v := 1) C dL_boards_338 kc_1 ?_
  refine z_iadd C dL_boards_339 ?_
  refine z_icmp_ne (tgt := 509) C dL_boards_340 rfl (fun hc => ?_) (fun hc => ?_)
  · have hf := ifn hc hf
    refine z_iconst (v := 0) C dL_boards_509 kc_0 ?_
    cases hf
    exact z_zret C dL_boards_510 rfl F
  have hf := ifp hc hf
  refine z_sub (ls' := [(0, .ref (ad 0)), (1, .int l1), (2, .int l2), (3, .int l3), (4, .int l4), (5, .int l5), (7, .int l7), (8, .int l8), (9, .int l9)]) [0, 1, 2, 3, 4, 5, 7, 8, 9] rfl ?_
  exact tb_L_boards_343 ad nr tr tf co pf hi sl sv ff C F K hK _ _ _ _ _ _ _ _ _ hf
set_option maxHeartbeats 400000 in
set_option maxRecDepth 100000 in
theorem tb_L_boards_290 {G : GT} (ad : Nat → Nat) (nr : zA) (tr : zA) (tf : zA) (co : zA) (pf : zA) (hi : Nat → zA) (sl : Nat → zA) (sv : zA) (ff : zA) {v : Int32} {nf' : zA} (C : zC G cL_boards 11 RL (some .boolean) 5) (F : zF G (some (.int v)) (FW (gk G) ad nr nf' tr tf co pf hi sl sv ff)) (K : Int32 → Int32 → Int32 → Int32 → Int32 → zA → zA → zA → zA → Option (Int32 × zA)) (hK : ∀ (l1 : Int32) (l2 : Int32) (l3 : Int32) (l4 : Int32) (l5 : Int32) (nf : zA), K l1 l2 l3 l4 l5 nr nf pf ff = some (v, nf') → zV G 11 12 [(0, .ref (ad 0)), (1, .int l1), (2, .int l2), (3, .int l3), (4, .int l4), (5, .int l5)] [] (FW (gk G) ad nr nf tr tf co pf hi sl sv ff)) : ∀ (s0 : Int32) (l1 : Int32) (l2 : Int32) (l3 : Int32) (l4 : Int32) (l5 : Int32) (l6 : Int32) (l7 : Int32) (l8 : Int32) (l9 : Int32) (nf : zA), B_L_boards_290 K s0 l1 l2 l3 l4 l5 l6 l7 l8 l9 nr nf pf ff = some (v, nf') → zV G 11 290 [(0, .ref (ad 0)), (1, .int l1), (2, .int l2), (3, .int l3), (4, .int l4), (5, .int l5), (6, .int l6), (7, .int l7), (8, .int l8), (9, .int l9)] [.int s0] (FW (gk G) ad nr nf tr tf co pf hi sl sv ff) := by
  intro s0 l1 l2 l3 l4 l5 l6 l7 l8 l9 nf hf
  unfold B_L_boards_290 at hf
  refine z_iload 6 C dL_boards_290 rfl ?_
  refine z_bipush (v := -6) C dL_boards_292 kb_m6 ?_
  refine z_icmp_ne (tgt := 301) C dL_boards_294 rfl (fun hc => ?_) (fun hc => ?_)
  · have hf := ifn hc hf
    refine z_iconst (v := 0) C dL_boards_301 kc_0 ?_
    exact tb_L_boards_302 ad nr tr tf co pf hi sl sv ff C F K hK _ _ _ _ _ _ _ _ _ _ _ _ hf
  have hf := ifp hc hf
  refine z_iconst (v := 1) C dL_boards_297 kc_1 ?_
  refine z_goto (tgt := 302) C dL_boards_298 rfl ?_
  exact tb_L_boards_302 ad nr tr tf co pf hi sl sv ff C F K hK _ _ _ _ _ _ _ _ _ _ _ _ hf
set_option maxHeartbeats 400000 in
set_option maxRecDepth 100000 in
theorem tb_L_boards_228 {G : GT} (ad : Nat → Nat) (nr : zA) (tr : zA) (tf : zA) (co : zA) (pf : zA) (hi : Nat → zA) (sl : Nat → zA) (sv : zA) (ff : zA) {v : Int32} {nf' : zA} (C : zC G cL_boards 11 RL (some .boolean) 5) (F : zF G (some (.int v)) (FW (gk G) ad nr nf' tr tf co pf hi sl sv ff)) (K : Int32 → Int32 → Int32 → Int32 → Int32 → zA → zA → zA → zA → Option (Int32 × zA)) (hK : ∀ (l1 : Int32) (l2 : Int32) (l3 : Int32) (l4 : Int32) (l5 : Int32) (nf : zA), K l1 l2 l3 l4 l5 nr nf pf ff = some (v, nf') → zV G 11 12 [(0, .ref (ad 0)), (1, .int l1), (2, .int l2), (3, .int l3), (4, .int l4), (5, .int l5)] [] (FW (gk G) ad nr nf tr tf co pf hi sl sv ff)) : ∀ (n : Nat) (l1 : Int32) (l2 : Int32) (l3 : Int32) (l4 : Int32) (l5 : Int32) (l6 : Int32) (l7 : Int32) (l8 : Int32) (l9 : Int32) (l10 : Int32) (nf : zA), B_L_boards_228 K n l1 l2 l3 l4 l5 l6 l7 l8 l9 l10 nr nf pf ff = some (v, nf') → zV G 11 228 [(0, .ref (ad 0)), (1, .int l1), (2, .int l2), (3, .int l3), (4, .int l4), (5, .int l5), (6, .int l6), (7, .int l7), (8, .int l8), (9, .int l9), (10, .int l10)] [] (FW (gk G) ad nr nf tr tf co pf hi sl sv ff) := by
  intro n
  induction n with
  | zero => intro _ _ _ _ _ _ _ _ _ _ _ hf; rw [B_L_boards_228] at hf; cases hf
  | succ n ih =>
    intro l1 l2 l3 l4 l5 l6 l7 l8 l9 l10 nf hf
    rw [B_L_boards_228] at hf
    refine z_iload 10 C dL_boards_228 rfl ?_
    refine z_aload_n 0 C dL_boards_230 rfl ?_
    refine z_iconst (v := 2) C dL_boards_231 kc_2 ?_
    obtain ⟨v1, nf2, e3, hf⟩ := b2_e hf
    refine z_callVs (st := [.int l10]) C dL_boards_232 w_L_38 (c_X2_count ad 2 nr nf tr tf co pf hi sl sv ff e3) (by decide) (FWf _ _ _ _ _ _ _ _ _ _ _ _ _ _ _ _ _ _ _ _ _ _) rfl rfl rfl rfl (Nat.le_of_ble_eq_true rfl) ?_
    refine z_icmp_ge (tgt := 280) C dL_boards_235 rfl (fun hc => ?_) (fun hc => ?_)
    · have hf := ifp hc hf
      refine z_iload 5 C dL_boards_280 rfl ?_
      refine z_if_ne (tgt := 289) C dL_boards_282 rfl (fun hc => ?_) (fun hc => ?_)
      · have hf := ifn hc hf
        refine z_iconst (v := 0) C dL_boards_289 kc_0 ?_
        refine z_sub (ls' := [(0, .ref (ad 0)), (1, .int l1), (2, .int l2), (3, .int l3), (4, .int l4), (5, .int l5), (6, .int l6), (7, .int l7), (8, .int l8), (9, .int l9)]) [0, 1, 2, 3, 4, 5, 6, 7, 8, 9] rfl ?_
        exact tb_L_boards_290 ad nr tr tf co pf hi sl sv ff C F K hK _ _ _ _ _ _ _ _ _ _ _ hf
      have hf := ifp hc hf
      refine z_iconst (v := 1) C dL_boards_285 kc_1 ?_
      refine z_goto (tgt := 290) C dL_boards_286 rfl ?_
      refine z_sub (ls' := [(0, .ref (ad 0)), (1, .int l1), (2, .int l2), (3, .int l3), (4, .int l4), (5, .int l5), (6, .int l6), (7, .int l7), (8, .int l8), (9, .int l9)]) [0, 1, 2, 3, 4, 5, 6, 7, 8, 9] rfl ?_
      exact tb_L_boards_290 ad nr tr tf co pf hi sl sv ff C F K hK _ _ _ _ _ _ _ _ _ _ _ hf
    have hf := ifn hc hf
    refine z_iload 8 C dL_boards_238 rfl ?_
    refine z_aload_n 0 C dL_boards_240 rfl ?_
    refine z_iload 10 C dL_boards_241 rfl ?_
    refine z_iconst (v := 0) C dL_boards_243 kc_0 ?_
    obtain ⟨v4, e5, hf⟩ := b1_e hf
    refine z_callVs (st := [.int l8]) C dL_boards_244 w_L_47 (c_X2_ofLoad ad l10 0 nr nf2 tr tf co pf hi sl sv ff e5) (by decide) (FWf _ _ _ _ _ _ _ _ _ _ _ _ _ _ _ _ _ _ _ _ _ _) rfl rfl rfl rfl (Nat.le_of_ble_eq_true rfl) ?_
    refine z_iload 5 C dL_boards_247 rfl ?_
    refine z_icmp_ne (tgt := 270) C dL_boards_249 rfl (fun hc => ?_) (fun hc => ?_)
    · have hf := ifn hc hf
      refine z_iconst (v := 0) C dL_boards_270 kc_0 ?_
      refine z_iadd C dL_boards_271 ?_
      obtain ⟨x6, e7, hf⟩ := nm_g hf
      refine z_top e7 ?_
      refine z_istore (ls' := [(8, _), (0, _), (1, _), (2, _), (3, _), (4, _), (5, _), (6, _), (7, _), (9, _), (10, _)]) C dL_boards_272 (by decide) rfl ?_
      obtain ⟨x8, e9, hf⟩ := nm_g hf
      refine z_iinc (ls' := [(10, _), (8, _), (0, _), (1, _), (2, _), (3, _), (4, _), (5, _), (6, _), (7, _), (9, _)]) 10 C dL_boards_274 rfl kc_1 e9 (by decide) rfl ?_
      refine z_goto (tgt := 228) C dL_boards_277 rfl ?_
      refine z_sub (ls' := [(0, .ref (ad 0)), (1, .int l1), (2, .int l2), (3, .int l3), (4, .int l4), (5, .int l5), (6, .int l6), (7, .int l7), (8, .int x6), (9, .int l9), (10, .int x8)]) [2, 3, 4, 5, 6, 7, 8, 9, 1, 10, 0] rfl ?_
      exact ih _ _ _ _ _ _ _ _ _ _ _ hf
    have hf := ifp hc hf
    refine z_aload_n 0 C dL_boards_252 rfl ?_
    refine z_iload 10 C dL_boards_253 rfl ?_
    refine z_iconst (v := 1) C dL_boards_255 kc_1 ?_
    obtain ⟨v10, e11, hf⟩ := b1_e hf
    refine z_callVs (st := [.int l8]) C dL_boards_256 w_L_47 (c_X2_ofLoad ad l10 1 nr nf2 tr tf co pf hi sl sv ff e11) (by decide) (FWf _ _ _ _ _ _ _ _ _ _ _ _ _ _ _ _ _ _ _ _ _ _) rfl rfl rfl rfl (Nat.le_of_ble_eq_true rfl) ?_
    refine z_aload_n 0 C dL_boards_259 rfl ?_
    refine z_iload 10 C dL_boards_260 rfl ?_
    refine z_iconst (v := 3) C dL_boards_262 kc_3 ?_
    obtain ⟨v12, e13, hf⟩ := b1_e hf
    refine z_callVs (st := [.int v10, .int l8]) C dL_boards_263 w_L_47 (c_X2_ofLoad ad l10 3 nr nf2 tr tf co pf hi sl sv ff e13) (by decide) (FWf _ _ _ _ _ _ _ _ _ _ _ _ _ _ _ _ _ _ _ _ _ _) rfl rfl rfl rfl (Nat.le_of_ble_eq_true rfl) ?_
    refine z_imul C dL_boards_266 ?_
    refine z_goto (tgt := 271) C dL_boards_267 rfl ?_
    refine z_iadd C dL_boards_271 ?_
    obtain ⟨x14, e15, hf⟩ := nm_g hf
    refine z_top e15 ?_
    refine z_istore (ls' := [(8, _), (0, _), (1, _), (2, _), (3, _), (4, _), (5, _), (6, _), (7, _), (9, _), (10, _)]) C dL_boards_272 (by decide) rfl ?_
    obtain ⟨x16, e17, hf⟩ := nm_g hf
    refine z_iinc (ls' := [(10, _), (8, _), (0, _), (1, _), (2, _), (3, _), (4, _), (5, _), (6, _), (7, _), (9, _)]) 10 C dL_boards_274 rfl kc_1 e17 (by decide) rfl ?_
    refine z_goto (tgt := 228) C dL_boards_277 rfl ?_
    refine z_sub (ls' := [(0, .ref (ad 0)), (1, .int l1), (2, .int l2), (3, .int l3), (4, .int l4), (5, .int l5), (6, .int l6), (7, .int l7), (8, .int x14), (9, .int l9), (10, .int x16)]) [2, 3, 4, 5, 6, 7, 8, 9, 1, 10, 0] rfl ?_
    exact ih _ _ _ _ _ _ _ _ _ _ _ hf
set_option maxHeartbeats 400000 in
set_option maxRecDepth 100000 in
theorem tb_L_boards_189 {G : GT} (ad : Nat → Nat) (nr : zA) (tr : zA) (tf : zA) (co : zA) (pf : zA) (hi : Nat → zA) (sl : Nat → zA) (sv : zA) (ff : zA) {v : Int32} {nf' : zA} (C : zC G cL_boards 11 RL (some .boolean) 5) (F : zF G (some (.int v)) (FW (gk G) ad nr nf' tr tf co pf hi sl sv ff)) (K : Int32 → Int32 → Int32 → Int32 → Int32 → Int32 → Int32 → Int32 → Int32 → Int32 → zA → zA → zA → zA → Option (Int32 × zA)) (hK : ∀ (l1 : Int32) (l2 : Int32) (l3 : Int32) (l4 : Int32) (l5 : Int32) (l6 : Int32) (l7 : Int32) (l8 : Int32) (l9 : Int32) (l10 : Int32) (nf : zA), K l1 l2 l3 l4 l5 l6 l7 l8 l9 l10 nr nf pf ff = some (v, nf') → zV G 11 154 [(0, .ref (ad 0)), (1, .int l1), (2, .int l2), (3, .int l3), (4, .int l4), (5, .int l5), (6, .int l6), (7, .int l7), (8, .int l8), (9, .int l9), (10, .int l10)] [] (FW (gk G) ad nr nf tr tf co pf hi sl sv ff)) : ∀ (s0 : Int32) (s1 : Int32) (l1 : Int32) (l2 : Int32) (l3 : Int32) (l4 : Int32) (l5 : Int32) (l6 : Int32) (l7 : Int32) (l9 : Int32) (l10 : Int32) (nf : zA), B_L_boards_189 K s0 s1 l1 l2 l3 l4 l5 l6 l7 l9 l10 nr nf pf ff = some (v, nf') → zV G 11 189 [(0, .ref (ad 0)), (1, .int l1), (2, .int l2), (3, .int l3), (4, .int l4), (5, .int l5), (6, .int l6), (7, .int l7), (9, .int l9), (10, .int l10)] [.int s0, .int s1] (FW (gk G) ad nr nf tr tf co pf hi sl sv ff) := by
  intro s0 s1 l1 l2 l3 l4 l5 l6 l7 l9 l10 nf hf
  unfold B_L_boards_189 at hf
  refine z_iadd C dL_boards_189 ?_
  obtain ⟨x1, e2, hf⟩ := nm_g hf
  refine z_top e2 ?_
  refine z_istore (ls' := [(8, _), (0, _), (1, _), (2, _), (3, _), (4, _), (5, _), (6, _), (7, _), (9, _), (10, _)]) C dL_boards_190 (by decide) rfl ?_
  refine z_iload 9 C dL_boards_192 rfl ?_
  refine z_aload_n 1 C dL_boards_194 rfl ?_
  refine z_iload 10 C dL_boards_195 rfl ?_
  refine z_iconst (v := 0) C dL_boards_197 kc_0 ?_
  obtain ⟨v3, nf4, e5, hf⟩ := b2_e hf
  refine z_callVs (st := [.int l9]) C dL_boards_198 w_L_41 (c_X2_of ad l10 0 nr nf tr tf co pf hi sl sv ff e5) (by decide) (FWf _ _ _ _ _ _ _ _ _ _ _ _ _ _ _ _ _ _ _ _ _ _) rfl rfl rfl rfl (Nat.le_of_ble_eq_true rfl) ?_
  refine z_iload 6 C dL_boards_201 rfl ?_
  refine z_icmp_ne (tgt := 215) C dL_boards_203 rfl (fun hc => ?_) (fun hc => ?_)
  · have hf := ifn hc hf
    refine z_iconst (v := 0) C dL_boards_215 kc_0 ?_
    refine z_ior C dL_boards_216 ?_
    obtain ⟨x6, e7, hf⟩ := nm_g hf
    refine z_top e7 ?_
    refine z_istore (ls' := [(9, _), (8, _), (0, _), (1, _), (2, _), (3, _), (4, _), (5, _), (6, _), (7, _), (10, _)]) C dL_boards_217 (by decide) rfl ?_
    obtain ⟨x8, e9, hf⟩ := nm_g hf
    refine z_iinc (ls' := [(10, _), (9, _), (8, _), (0, _), (1, _), (2, _), (3, _), (4, _), (5, _), (6, _), (7, _)]) 10 C dL_boards_219 rfl kc_1 e9 (by decide) rfl ?_
    refine z_goto (tgt := 154) C dL_boards_222 rfl ?_
    refine z_sub (ls' := [(0, .ref (ad 0)), (1, .int l1), (2, .int l2), (3, .int l3), (4, .int l4), (5, .int l5), (6, .int l6), (7, .int l7), (8, .int x1), (9, .int x6), (10, .int x8)]) [3, 4, 5, 6, 7, 8, 9, 10, 2, 1, 0] rfl ?_
    exact hK _ _ _ _ _ _ _ _ _ _ _ hf
  have hf := ifp hc hf
  refine z_aload_n 1 C dL_boards_206 rfl ?_
  refine z_iload 10 C dL_boards_207 rfl ?_
  obtain ⟨v10, e11, hf⟩ := b1_e hf
  refine z_callVs (st := [.int l9]) C dL_boards_209 w_L_44 (c_X2_fed ad l10 nr nf4 tr tf co pf hi sl sv ff e11) (by decide) (FWf _ _ _ _ _ _ _ _ _ _ _ _ _ _ _ _ _ _ _ _ _ _) rfl rfl rfl rfl (Nat.le_of_ble_eq_true rfl) ?_
  refine z_goto (tgt := 216) C dL_boards_212 rfl ?_
  refine z_ior C dL_boards_216 ?_
  obtain ⟨x12, e13, hf⟩ := nm_g hf
  refine z_top e13 ?_
  refine z_istore (ls' := [(9, _), (8, _), (0, _), (1, _), (2, _), (3, _), (4, _), (5, _), (6, _), (7, _), (10, _)]) C dL_boards_217 (by decide) rfl ?_
  obtain ⟨x14, e15, hf⟩ := nm_g hf
  refine z_iinc (ls' := [(10, _), (9, _), (8, _), (0, _), (1, _), (2, _), (3, _), (4, _), (5, _), (6, _), (7, _)]) 10 C dL_boards_219 rfl kc_1 e15 (by decide) rfl ?_
  refine z_goto (tgt := 154) C dL_boards_222 rfl ?_
  refine z_sub (ls' := [(0, .ref (ad 0)), (1, .int l1), (2, .int l2), (3, .int l3), (4, .int l4), (5, .int l5), (6, .int l6), (7, .int l7), (8, .int x1), (9, .int x12), (10, .int x14)]) [3, 4, 5, 6, 7, 8, 9, 10, 2, 1, 0] rfl ?_
  exact hK _ _ _ _ _ _ _ _ _ _ _ hf
set_option maxHeartbeats 400000 in
set_option maxRecDepth 100000 in
theorem tb_L_boards_154 {G : GT} (ad : Nat → Nat) (nr : zA) (tr : zA) (tf : zA) (co : zA) (pf : zA) (hi : Nat → zA) (sl : Nat → zA) (sv : zA) (ff : zA) {v : Int32} {nf' : zA} (C : zC G cL_boards 11 RL (some .boolean) 5) (F : zF G (some (.int v)) (FW (gk G) ad nr nf' tr tf co pf hi sl sv ff)) (K : Int32 → Int32 → Int32 → Int32 → Int32 → zA → zA → zA → zA → Option (Int32 × zA)) (hK : ∀ (l1 : Int32) (l2 : Int32) (l3 : Int32) (l4 : Int32) (l5 : Int32) (nf : zA), K l1 l2 l3 l4 l5 nr nf pf ff = some (v, nf') → zV G 11 12 [(0, .ref (ad 0)), (1, .int l1), (2, .int l2), (3, .int l3), (4, .int l4), (5, .int l5)] [] (FW (gk G) ad nr nf tr tf co pf hi sl sv ff)) : ∀ (n : Nat) (l1 : Int32) (l2 : Int32) (l3 : Int32) (l4 : Int32) (l5 : Int32) (l6 : Int32) (l7 : Int32) (l8 : Int32) (l9 : Int32) (l10 : Int32) (nf : zA), B_L_boards_154 K n l1 l2 l3 l4 l5 l6 l7 l8 l9 l10 nr nf pf ff = some (v, nf') → zV G 11 154 [(0, .ref (ad 0)), (1, .int l1), (2, .int l2), (3, .int l3), (4, .int l4), (5, .int l5), (6, .int l6), (7, .int l7), (8, .int l8), (9, .int l9), (10, .int l10)] [] (FW (gk G) ad nr nf tr tf co pf hi sl sv ff) := by
  intro n
  induction n with
  | zero => intro _ _ _ _ _ _ _ _ _ _ _ hf; rw [B_L_boards_154] at hf; cases hf
  | succ n ih =>
    intro l1 l2 l3 l4 l5 l6 l7 l8 l9 l10 nf hf
    rw [B_L_boards_154] at hf
    refine z_iload 10 C dL_boards_154 rfl ?_
    refine z_aload_n 0 C dL_boards_156 rfl ?_
    refine z_iconst (v := 1) C dL_boards_157 kc_1 ?_
    obtain ⟨v1, nf2, e3, hf⟩ := b2_e hf
    refine z_callVs (st := [.int l10]) C dL_boards_158 w_L_38 (c_X2_count ad 1 nr nf tr tf co pf hi sl sv ff e3) (by decide) (FWf _ _ _ _ _ _ _ _ _ _ _ _ _ _ _ _ _ _ _ _ _ _) rfl rfl rfl rfl (Nat.le_of_ble_eq_true rfl) ?_
    refine z_icmp_ge (tgt := 225) C dL_boards_161 rfl (fun hc => ?_) (fun hc => ?_)
    · have hf := ifp hc hf
      refine z_iconst (v := 0) C dL_boards_225 kc_0 ?_
      refine z_istore (ls' := [(10, _), (0, _), (1, _), (2, _), (3, _), (4, _), (5, _), (6, _), (7, _), (8, _), (9, _)]) C dL_boards_226 (by decide) rfl ?_
      refine z_sub (ls' := [(0, .ref (ad 0)), (1, .int l1), (2, .int l2), (3, .int l3), (4, .int l4), (5, .int l5), (6, .int l6), (7, .int l7), (8, .int l8), (9, .int l9), (10, .int 0)]) [1, 2, 3, 4, 5, 6, 7, 8, 9, 10, 0] rfl ?_
      exact tb_L_boards_228 ad nr tr tf co pf hi sl sv ff C F K hK _ _ _ _ _ _ _ _ _ _ _ _ hf
    have hf := ifn hc hf
    refine z_iload 8 C dL_boards_164 rfl ?_
    refine z_aload_n 0 C dL_boards_166 rfl ?_
    refine z_iload 10 C dL_boards_167 rfl ?_
    refine z_iconst (v := 0) C dL_boards_169 kc_0 ?_
    obtain ⟨v4, nf5, e6, hf⟩ := b2_e hf
    refine z_callVs (st := [.int l8]) C dL_boards_170 w_L_41 (c_X2_of ad l10 0 nr nf2 tr tf co pf hi sl sv ff e6) (by decide) (FWf _ _ _ _ _ _ _ _ _ _ _ _ _ _ _ _ _ _ _ _ _ _) rfl rfl rfl rfl (Nat.le_of_ble_eq_true rfl) ?_
    refine z_iload 5 C dL_boards_173 rfl ?_
    refine z_icmp_ne (tgt := 188) C dL_boards_175 rfl (fun hc => ?_) (fun hc => ?_)
    · have hf := ifn hc hf
      refine z_iconst (v := 0) C dL_boards_188 kc_0 ?_
      refine z_sub (ls' := [(0, .ref (ad 0)), (1, .int l1), (2, .int l2), (3, .int l3), (4, .int l4), (5, .int l5), (6, .int l6), (7, .int l7), (9, .int l9), (10, .int l10)]) [0, 1, 2, 3, 4, 5, 6, 7, 9, 10] rfl ?_
      exact tb_L_boards_189 ad nr tr tf co pf hi sl sv ff C F _ ih _ _ _ _ _ _ _ _ _ _ _ _ hf
    have hf := ifp hc hf
    refine z_aload_n 0 C dL_boards_178 rfl ?_
    refine z_iload 10 C dL_boards_179 rfl ?_
    refine z_iconst (v := 4) C dL_boards_181 kc_4 ?_
    obtain ⟨v7, nf8, e9, hf⟩ := b2_e hf
    refine z_callVs (st := [.int l8]) C dL_boards_182 w_L_41 (c_X2_of ad l10 4 nr nf5 tr tf co pf hi sl sv ff e9) (by decide) (FWf _ _ _ _ _ _ _ _ _ _ _ _ _ _ _ _ _ _ _ _ _ _) rfl rfl rfl rfl (Nat.le_of_ble_eq_true rfl) ?_
    refine z_goto (tgt := 189) C dL_boards_185 rfl ?_
    refine z_sub (ls' := [(0, .ref (ad 0)), (1, .int l1), (2, .int l2), (3, .int l3), (4, .int l4), (5, .int l5), (6, .int l6), (7, .int l7), (9, .int l9), (10, .int l10)]) [0, 1, 2, 3, 4, 5, 6, 7, 9, 10] rfl ?_
    exact tb_L_boards_189 ad nr tr tf co pf hi sl sv ff C F _ ih _ _ _ _ _ _ _ _ _ _ _ _ hf
set_option maxHeartbeats 400000 in
set_option maxRecDepth 100000 in
theorem tb_L_boards_124 {G : GT} (ad : Nat → Nat) (nr : zA) (tr : zA) (tf : zA) (co : zA) (pf : zA) (hi : Nat → zA) (sl : Nat → zA) (sv : zA) (ff : zA) {v : Int32} {nf' : zA} (C : zC G cL_boards 11 RL (some .boolean) 5) (F : zF G (some (.int v)) (FW (gk G) ad nr nf' tr tf co pf hi sl sv ff)) (K : Int32 → Int32 → Int32 → Int32 → Int32 → zA → zA → zA → zA → Option (Int32 × zA)) (hK : ∀ (l1 : Int32) (l2 : Int32) (l3 : Int32) (l4 : Int32) (l5 : Int32) (nf : zA), K l1 l2 l3 l4 l5 nr nf pf ff = some (v, nf') → zV G 11 12 [(0, .ref (ad 0)), (1, .int l1), (2, .int l2), (3, .int l3), (4, .int l4), (5, .int l5)] [] (FW (gk G) ad nr nf tr tf co pf hi sl sv ff)) : ∀ (s0 : Int32) (s1 : Int32) (l1 : Int32) (l2 : Int32) (l4 : Int32) (l5 : Int32) (l6 : Int32) (l7 : Int32) (nf : zA), B_L_boards_124 K s0 s1 l1 l2 l4 l5 l6 l7 nr nf pf ff = some (v, nf') → zV G 11 124 [(0, .ref (ad 0)), (1, .int l1), (2, .int l2), (4, .int l4), (5, .int l5), (6, .int l6), (7, .int l7)] [.int s0, .int s1] (FW (gk G) ad nr nf tr tf co pf hi sl sv ff) := by
  intro s0 s1 l1 l2 l4 l5 l6 l7 nf hf
  unfold B_L_boards_124 at hf
  refine z_ior C dL_boards_124 ?_
  obtain ⟨x1, e2, hf⟩ := nm_g hf
  refine z_top e2 ?_
  refine z_istore_n (ls' := [(3, _), (0, _), (1, _), (2, _), (4, _), (5, _), (6, _), (7, _)]) C dL_boards_125 (by decide) rfl ?_
  refine z_iload 4 C dL_boards_126 rfl ?_
  refine z_aload_n 1 C dL_boards_128 rfl ?_
  refine z_iload 5 C dL_boards_129 rfl ?_
  refine z_bipush (v := 11) C dL_boards_131 kb_11 ?_
  obtain ⟨v3, nf4, e5, hf⟩ := b2_e hf
  refine z_callVs (st := [.int l4]) C dL_boards_133 w_L_41 (c_X2_of ad l5 11 nr nf tr tf co pf hi sl sv ff e5) (by decide) (FWf _ _ _ _ _ _ _ _ _ _ _ _ _ _ _ _ _ _ _ _ _ _) rfl rfl rfl rfl (Nat.le_of_ble_eq_true rfl) ?_
  refine z_iadd C dL_boards_136 ?_
  obtain ⟨x6, e7, hf⟩ := nm_g hf
  refine z_top e7 ?_
  refine z_istore (ls' := [(4, _), (3, _), (0, _), (1, _), (2, _), (5, _), (6, _), (7, _)]) C dL_boards_137 (by decide) rfl ?_
  refine z_iconst (v := 0) C dL_boards_139 kc_0 ?_
  refine z_istore (ls' := [(8, _), (4, _), (3, _), (0, _), (1, _), (2, _), (5, _), (6, _), (7, _)]) C dL_boards_140 (by decide) rfl ?_
  refine z_iconst (v := 1) C dL_boards_142 kc_1 ?_
  refine z_iload 6 C dL_boards_143 rfl ?_
  refine z_ishl C dL_boards_145 ?_
  obtain ⟨x8, e9, hf⟩ := nm_g hf
  refine z_top e9 ?_
  refine z_istore (ls' := [(9, _), (8, _), (4, _), (3, _), (0, _), (1, _), (2, _), (5, _), (6, _), (7, _)]) C dL_boards_146 (by decide) rfl ?_
  refine z_iload 7 C dL_boards_148 rfl ?_
  refine z_iconst (v := 1) C dL_boards_150 kc_1 ?_
  refine z_iadd C dL_boards_151 ?_
  obtain ⟨x10, e11, hf⟩ := nm_g hf
  refine z_top e11 ?_
  refine z_istore (ls' := [(10, _), (9, _), (8, _), (4, _), (3, _), (0, _), (1, _), (2, _), (5, _), (6, _), (7, _)]) C dL_boards_152 (by decide) rfl ?_
  refine z_sub (ls' := [(0, .ref (ad 0)), (1, .int l1), (2, .int l2), (3, .int x1), (4, .int x6), (5, .int l5), (6, .int l6), (7, .int l7), (8, .int 0), (9, .int x8), (10, .int x10)]) [5, 6, 7, 4, 3, 8, 9, 10, 2, 1, 0] rfl ?_
  exact tb_L_boards_154 ad nr tr tf co pf hi sl sv ff C F K hK _ _ _ _ _ _ _ _ _ _ _ _ hf
set_option maxHeartbeats 400000 in
set_option maxRecDepth 100000 in
theorem tb_L_boards_102 {G : GT} (ad : Nat → Nat) (nr : zA) (tr : zA) (tf : zA) (co : zA) (pf : zA) (hi : Nat → zA) (sl : Nat → zA) (sv : zA) (ff : zA) {v : Int32} {nf' : zA} (C : zC G cL_boards 11 RL (some .boolean) 5) (F : zF G (some (.int v)) (FW (gk G) ad nr nf' tr tf co pf hi sl sv ff)) (K : Int32 → Int32 → Int32 → Int32 → Int32 → zA → zA → zA → zA → Option (Int32 × zA)) (hK : ∀ (l1 : Int32) (l2 : Int32) (l3 : Int32) (l4 : Int32) (l5 : Int32) (nf : zA), K l1 l2 l3 l4 l5 nr nf pf ff = some (v, nf') → zV G 11 12 [(0, .ref (ad 0)), (1, .int l1), (2, .int l2), (3, .int l3), (4, .int l4), (5, .int l5)] [] (FW (gk G) ad nr nf tr tf co pf hi sl sv ff)) : ∀ (s0 : Int32) (s1 : Int32) (l1 : Int32) (l3 : Int32) (l4 : Int32) (l5 : Int32) (l6 : Int32) (l7 : Int32) (nf : zA), B_L_boards_102 K s0 s1 l1 l3 l4 l5 l6 l7 nr nf pf ff = some (v, nf') → zV G 11 102 [(0, .ref (ad 0)), (1, .int l1), (3, .int l3), (4, .int l4), (5, .int l5), (6, .int l6), (7, .int l7)] [.int s0, .int s1] (FW (gk G) ad nr nf tr tf co pf hi sl sv ff) := by
  intro s0 s1 l1 l3 l4 l5 l6 l7 nf hf
  unfold B_L_boards_102 at hf
  refine z_ior C dL_boards_102 ?_
  obtain ⟨x1, e2, hf⟩ := nm_g hf
  refine z_top e2 ?_
  refine z_istore_n (ls' := [(2, _), (0, _), (1, _), (3, _), (4, _), (5, _), (6, _), (7, _)]) C dL_boards_103 (by decide) rfl ?_
  refine z_iload_n 3 C dL_boards_104 rfl ?_
  refine z_aload_n 1 C dL_boards_105 rfl ?_
  refine z_iload 5 C dL_boards_106 rfl ?_
  refine z_iconst (v := 3) C dL_boards_108 kc_3 ?_
  obtain ⟨v3, nf4, e5, hf⟩ := b2_e hf
  refine z_callVs (st := [.int l3]) C dL_boards_109 w_L_41 (c_X2_of ad l5 3 nr nf tr tf co pf hi sl sv ff e5) (by decide) (FWf _ _ _ _ _ _ _ _ _ _ _ _ _ _ _ _ _ _ _ _ _ _) rfl rfl rfl rfl (Nat.le_of_ble_eq_true rfl) ?_
  refine z_iconst (v := 1) C dL_boards_112 kc_1 ?_
  refine z_icmp_ne (tgt := 123) C dL_boards_113 rfl (fun hc => ?_) (fun hc => ?_)
  · have hf := ifn hc hf
    refine z_iconst (v := 0) C dL_boards_123 kc_0 ?_
    refine z_sub (ls' := [(0, .ref (ad 0)), (1, .int l1), (2, .int x1), (4, .int l4), (5, .int l5), (6, .int l6), (7, .int l7)]) [1, 2, 0, 4, 5, 6, 7] rfl ?_
    exact tb_L_boards_124 ad nr tr tf co pf hi sl sv ff C F K hK _ _ _ _ _ _ _ _ _ hf
  have hf := ifp hc hf
  refine z_iconst (v := 1) C dL_boards_116 kc_1 ?_
  refine z_iload 5 C dL_boards_117 rfl ?_
  refine z_ishl C dL_boards_119 ?_
  refine z_goto (tgt := 124) C dL_boards_120 rfl ?_
  refine z_sub (ls' := [(0, .ref (ad 0)), (1, .int l1), (2, .int x1), (4, .int l4), (5, .int l5), (6, .int l6), (7, .int l7)]) [1, 2, 0, 4, 5, 6, 7] rfl ?_
  exact tb_L_boards_124 ad nr tr tf co pf hi sl sv ff C F K hK _ _ _ _ _ _ _ _ _ hf
set_option maxHeartbeats 400000 in
set_option maxRecDepth 100000 in
theorem tb_L_boards_80 {G : GT} (ad : Nat → Nat) (nr : zA) (tr : zA) (tf : zA) (co : zA) (pf : zA) (hi : Nat → zA) (sl : Nat → zA) (sv : zA) (ff : zA) {v : Int32} {nf' : zA} (C : zC G cL_boards 11 RL (some .boolean) 5) (F : zF G (some (.int v)) (FW (gk G) ad nr nf' tr tf co pf hi sl sv ff)) (K : Int32 → Int32 → Int32 → Int32 → Int32 → zA → zA → zA → zA → Option (Int32 × zA)) (hK : ∀ (l1 : Int32) (l2 : Int32) (l3 : Int32) (l4 : Int32) (l5 : Int32) (nf : zA), K l1 l2 l3 l4 l5 nr nf pf ff = some (v, nf') → zV G 11 12 [(0, .ref (ad 0)), (1, .int l1), (2, .int l2), (3, .int l3), (4, .int l4), (5, .int l5)] [] (FW (gk G) ad nr nf tr tf co pf hi sl sv ff)) : ∀ (s0 : Int32) (s1 : Int32) (l2 : Int32) (l3 : Int32) (l4 : Int32) (l5 : Int32) (l6 : Int32) (l7 : Int32) (nf : zA), B_L_boards_80 K s0 s1 l2 l3 l4 l5 l6 l7 nr nf pf ff = some (v, nf') → zV G 11 80 [(0, .ref (ad 0)), (2, .int l2), (3, .int l3), (4, .int l4), (5, .int l5), (6, .int l6), (7, .int l7)] [.int s0, .int s1] (FW (gk G) ad nr nf tr tf co pf hi sl sv ff) := by
  intro s0 s1 l2 l3 l4 l5 l6 l7 nf hf
  unfold B_L_boards_80 at hf
  refine z_ior C dL_boards_80 ?_
  obtain ⟨x1, e2, hf⟩ := nm_g hf
  refine z_top e2 ?_
  refine z_istore_n (ls' := [(1, _), (0, _), (2, _), (3, _), (4, _), (5, _), (6, _), (7, _)]) C dL_boards_81 (by decide) rfl ?_
  refine z_iload_n 2 C dL_boards_82 rfl ?_
  refine z_aload_n 1 C dL_boards_83 rfl ?_
  refine z_iload 5 C dL_boards_84 rfl ?_
  refine z_iconst (v := 3) C dL_boards_86 kc_3 ?_
  obtain ⟨v3, nf4, e5, hf⟩ := b2_e hf
  refine z_callVs (st := [.int l2]) C dL_boards_87 w_L_41 (c_X2_of ad l5 3 nr nf tr tf co pf hi sl sv ff e5) (by decide) (FWf _ _ _ _ _ _ _ _ _ _ _ _ _ _ _ _ _ _ _ _ _ _) rfl rfl rfl rfl (Nat.le_of_ble_eq_true rfl) ?_
  refine z_iconst (v := 2) C dL_boards_90 kc_2 ?_
  refine z_icmp_ne (tgt := 101) C dL_boards_91 rfl (fun hc => ?_) (fun hc => ?_)
  · have hf := ifn hc hf
    refine z_iconst (v := 0) C dL_boards_101 kc_0 ?_
    refine z_sub (ls' := [(0, .ref (ad 0)), (1, .int x1), (3, .int l3), (4, .int l4), (5, .int l5), (6, .int l6), (7, .int l7)]) [1, 0, 3, 4, 5, 6, 7] rfl ?_
    exact tb_L_boards_102 ad nr tr tf co pf hi sl sv ff C F K hK _ _ _ _ _ _ _ _ _ hf
  have hf := ifp hc hf
  refine z_iconst (v := 1) C dL_boards_94 kc_1 ?_
  refine z_iload 5 C dL_boards_95 rfl ?_
  refine z_ishl C dL_boards_97 ?_
  refine z_goto (tgt := 102) C dL_boards_98 rfl ?_
  refine z_sub (ls' := [(0, .ref (ad 0)), (1, .int x1), (3, .int l3), (4, .int l4), (5, .int l5), (6, .int l6), (7, .int l7)]) [1, 0, 3, 4, 5, 6, 7] rfl ?_
  exact tb_L_boards_102 ad nr tr tf co pf hi sl sv ff C F K hK _ _ _ _ _ _ _ _ _ hf
set_option maxHeartbeats 400000 in
set_option maxRecDepth 100000 in
theorem tb_L_boards_64 {G : GT} (ad : Nat → Nat) (nr : zA) (tr : zA) (tf : zA) (co : zA) (pf : zA) (hi : Nat → zA) (sl : Nat → zA) (sv : zA) (ff : zA) {v : Int32} {nf' : zA} (C : zC G cL_boards 11 RL (some .boolean) 5) (F : zF G (some (.int v)) (FW (gk G) ad nr nf' tr tf co pf hi sl sv ff)) (K : Int32 → Int32 → Int32 → Int32 → Int32 → zA → zA → zA → zA → Option (Int32 × zA)) (hK : ∀ (l1 : Int32) (l2 : Int32) (l3 : Int32) (l4 : Int32) (l5 : Int32) (nf : zA), K l1 l2 l3 l4 l5 nr nf pf ff = some (v, nf') → zV G 11 12 [(0, .ref (ad 0)), (1, .int l1), (2, .int l2), (3, .int l3), (4, .int l4), (5, .int l5)] [] (FW (gk G) ad nr nf tr tf co pf hi sl sv ff)) : ∀ (s0 : Int32) (l1 : Int32) (l2 : Int32) (l3 : Int32) (l4 : Int32) (l5 : Int32) (l6 : Int32) (nf : zA), B_L_boards_64 K s0 l1 l2 l3 l4 l5 l6 nr nf pf ff = some (v, nf') → zV G 11 64 [(0, .ref (ad 0)), (1, .int l1), (2, .int l2), (3, .int l3), (4, .int l4), (5, .int l5), (6, .int l6)] [.int s0] (FW (gk G) ad nr nf tr tf co pf hi sl sv ff) := by
  intro s0 l1 l2 l3 l4 l5 l6 nf hf
  unfold B_L_boards_64 at hf
  refine z_istore (ls' := [(7, _), (0, _), (1, _), (2, _), (3, _), (4, _), (5, _), (6, _)]) C dL_boards_64 (by decide) rfl ?_
  refine z_iload_n 2 C dL_boards_66 rfl ?_
  refine z_iload 0 C dL_boards_67 rfl ?_
  refine z_if_eq (tgt := 79) C dL_boards_69 rfl (fun hc => ?_) (fun hc => ?_)
  · have hf := ifp hc hf
    refine z_iconst (v := 0) C dL_boards_79 kc_0 ?_
    refine z_sub (ls' := [(0, .ref (ad 0)), (2, .int l2), (3, .int l3), (4, .int l4), (5, .int l5), (6, .int l6), (7, .int s0)]) [1, 3, 4, 5, 6, 7, 0] rfl ?_
    exact tb_L_boards_80 ad nr tr tf co pf hi sl sv ff C F K hK _ _ _ _ _ _ _ _ _ hf
  have hf := ifn hc hf
  refine z_iconst (v := 1) C dL_boards_72 kc_1 ?_
  refine z_iload 6 C dL_boards_73 rfl ?_
  refine z_ishl C dL_boards_75 ?_
  refine z_goto (tgt := 80) C dL_boards_76 rfl ?_
  refine z_sub (ls' := [(0, .ref (ad 0)), (2, .int l2), (3, .int l3), (4, .int l4), (5, .int l5), (6, .int l6), (7, .int s0)]) [1, 3, 4, 5, 6, 7, 0] rfl ?_
  exact tb_L_boards_80 ad nr tr tf co pf hi sl sv ff C F K hK _ _ _ _ _ _ _ _ _ hf
set_option maxHeartbeats 400000 in
set_option maxRecDepth 100000 in
theorem tb_L_boards_59 {G : GT} (ad : Nat → Nat) (nr : zA) (tr : zA) (tf : zA) (co : zA) (pf : zA) (hi : Nat → zA) (sl : Nat → zA) (sv : zA) (ff : zA) {v : Int32} {nf' : zA} (C : zC G cL_boards 11 RL (some .boolean) 5) (F : zF G (some (.int v)) (FW (gk G) ad nr nf' tr tf co pf hi sl sv ff)) (K : Int32 → Int32 → Int32 → Int32 → Int32 → zA → zA → zA → zA → Option (Int32 × zA)) (hK : ∀ (l1 : Int32) (l2 : Int32) (l3 : Int32) (l4 : Int32) (l5 : Int32) (nf : zA), K l1 l2 l3 l4 l5 nr nf pf ff = some (v, nf') → zV G 11 12 [(0, .ref (ad 0)), (1, .int l1), (2, .int l2), (3, .int l3), (4, .int l4), (5, .int l5)] [] (FW (gk G) ad nr nf tr tf co pf hi sl sv ff)) : ∀ (l1 : Int32) (l2 : Int32) (l3 : Int32) (l4 : Int32) (l5 : Int32) (l6 : Int32) (nf : zA), B_L_boards_59 K l1 l2 l3 l4 l5 l6 nr nf pf ff = some (v, nf') → zV G 11 59 [(0, .ref (ad 0)), (1, .int l1), (2, .int l2), (3, .int l3), (4, .int l4), (5, .int l5), (6, .int l6)] [] (FW (gk G) ad nr nf tr tf co pf hi sl sv ff) := by
  intro l1 l2 l3 l4 l5 l6 nf hf
  unfold B_L_boards_59 at hf
  refine z_iconst (v := 1) C dL_boards_59 kc_1 ?_
  refine z_goto (tgt := 64) C dL_boards_60 rfl ?_
  exact tb_L_boards_64 ad nr tr tf co pf hi sl sv ff C F K hK _ _ _ _ _ _ _ _ hf
set_option maxHeartbeats 400000 in
set_option maxRecDepth 100000 in
theorem tb_L_boards_63 {G : GT} (ad : Nat → Nat) (nr : zA) (tr : zA) (tf : zA) (co : zA) (pf : zA) (hi : Nat → zA) (sl : Nat → zA) (sv : zA) (ff : zA) {v : Int32} {nf' : zA} (C : zC G cL_boards 11 RL (some .boolean) 5) (F : zF G (some (.int v)) (FW (gk G) ad nr nf' tr tf co pf hi sl sv ff)) (K : Int32 → Int32 → Int32 → Int32 → Int32 → zA → zA → zA → zA → Option (Int32 × zA)) (hK : ∀ (l1 : Int32) (l2 : Int32) (l3 : Int32) (l4 : Int32) (l5 : Int32) (nf : zA), K l1 l2 l3 l4 l5 nr nf pf ff = some (v, nf') → zV G 11 12 [(0, .ref (ad 0)), (1, .int l1), (2, .int l2), (3, .int l3), (4, .int l4), (5, .int l5)] [] (FW (gk G) ad nr nf tr tf co pf hi sl sv ff)) : ∀ (l1 : Int32) (l2 : Int32) (l3 : Int32) (l4 : Int32) (l5 : Int32) (l6 : Int32) (nf : zA), B_L_boards_63 K l1 l2 l3 l4 l5 l6 nr nf pf ff = some (v, nf') → zV G 11 63 [(0, .ref (ad 0)), (1, .int l1), (2, .int l2), (3, .int l3), (4, .int l4), (5, .int l5), (6, .int l6)] [] (FW (gk G) ad nr nf tr tf co pf hi sl sv ff) := by
  intro l1 l2 l3 l4 l5 l6 nf hf
  unfold B_L_boards_63 at hf
  refine z_iconst (v := 0) C dL_boards_63 kc_0 ?_
  exact tb_L_boards_64 ad nr tr tf co pf hi sl sv ff C F K hK _ _ _ _ _ _ _ _ hf
set_option maxHeartbeats 400000 in
set_option maxRecDepth 100000 in
theorem tb_L_boards_12 {G : GT} (ad : Nat → Nat) (nr : zA) (tr : zA) (tf : zA) (co : zA) (pf : zA) (hi : Nat → zA) (sl : Nat → zA) (sv : zA) (ff : zA) {v : Int32} {nf' : zA} (C : zC G cL_boards 11 RL (some .boolean) 5) (F : zF G (some (.int v)) (FW (gk G) ad nr nf' tr tf co pf hi sl sv ff)) : ∀ (n : Nat) (l1 : Int32) (l2 : Int32) (l3 : Int32) (l4 : Int32) (l5 : Int32) (nf : zA), B_L_boards_12 n l1 l2 l3 l4 l5 nr nf pf ff = some (v, nf') → zV G 11 12 [(0, .ref (ad 0)), (1, .int l1), (2, .int l2), (3, .int l3), (4, .int l4), (5, .int l5)] [] (FW (gk G) ad nr nf tr tf co pf hi sl sv ff) := by
  intro n
  induction n with
  | zero => intro _ _ _ _ _ _ hf; rw [B_L_boards_12] at hf; cases hf
  | succ n ih =>
    intro l1 l2 l3 l4 l5 nf hf
    rw [B_L_boards_12] at hf
    refine z_iload 5 C dL_boards_12 rfl ?_
    refine z_aload_n 0 C dL_boards_14 rfl ?_
    refine z_iconst (v := 1) C dL_boards_15 kc_1 ?_
    obtain ⟨v1, nf2, e3, hf⟩ := b2_e hf
    refine z_callVs (st := [.int l5]) C dL_boards_16 w_L_38 (c_X2_count ad 1 nr nf tr tf co pf hi sl sv ff e3) (by decide) (FWf _ _ _ _ _ _ _ _ _ _ _ _ _ _ _ _ _ _ _ _ _ _) rfl rfl rfl rfl (Nat.le_of_ble_eq_true rfl) ?_
    refine z_icmp_ge (tgt := 517) C dL_boards_19 rfl (fun hc => ?_) (fun hc => ?_)
    · have hf := ifp hc hf
      refine z_aload_n 0 C dL_boards_517 rfl ?_
      refine z_iconst (v := 3) C dL_boards_518 kc_3 ?_
      obtain ⟨v4, nf5, e6, hf⟩ := b2_e hf
      refine z_callVs (st := []) C dL_boards_519 w_L_38 (c_X2_count ad 3 nr nf2 tr tf co pf hi sl sv ff e6) (by decide) (FWf _ _ _ _ _ _ _ _ _ _ _ _ _ _ _ _ _ _ _ _ _ _) rfl rfl rfl rfl (Nat.le_of_ble_eq_true rfl) ?_
      refine z_iload_n 1 C dL_boards_522 rfl ?_
      refine z_icmp_ne (tgt := 587) C dL_boards_523 rfl (fun hc => ?_) (fun hc => ?_)
      · have hf := ifn hc hf
        refine z_iconst (v := 0) C dL_boards_587 kc_0 ?_
        cases hf
        exact z_zret C dL_boards_588 rfl F
      have hf := ifp hc hf
      refine z_aload_n 0 C dL_boards_526 rfl ?_
      refine z_iconst (v := 5) C dL_boards_527 kc_5 ?_
      obtain ⟨v7, nf8, e9, hf⟩ := b2_e hf
      refine z_callVs (st := []) C dL_boards_528 w_L_38 (c_X2_count ad 5 nr nf5 tr tf co pf hi sl sv ff e9) (by decide) (FWf _ _ _ _ _ _ _ _ _ _ _ _ _ _ _ _ _ _ _ _ _ _) rfl rfl rfl rfl (Nat.le_of_ble_eq_true rfl) ?_
      refine z_iload_n 2 C dL_boards_531 rfl ?_
      refine z_icmp_ne (tgt := 587) C dL_boards_532 rfl (fun hc => ?_) (fun hc => ?_)
      · have hf := ifn hc hf
        refine z_iconst (v := 0) C dL_boards_587 kc_0 ?_
        cases hf
        exact z_zret C dL_boards_588 rfl F
      have hf := ifp hc hf
      refine z_aload_n 0 C dL_boards_535 rfl ?_
      refine z_bipush (v := 6) C dL_boards_536 kb_6 ?_
      obtain ⟨v10, nf11, e12, hf⟩ := b2_e hf
      refine z_callVs (st := []) C dL_boards_538 w_L_38 (c_X2_count ad 6 nr nf8 tr tf co pf hi sl sv ff e12) (by decide) (FWf _ _ _ _ _ _ _ _ _ _ _ _ _ _ _ _ _ _ _ _ _ _) rfl rfl rfl rfl (Nat.le_of_ble_eq_true rfl) ?_
      refine z_iload_n 3 C dL_boards_541 rfl ?_
      refine z_icmp_ne (tgt := 587) C dL_boards_542 rfl (fun hc => ?_) (fun hc => ?_)
      · have hf := ifn hc hf
        refine z_iconst (v := 0) C dL_boards_587 kc_0 ?_
        cases hf
        exact z_zret C dL_boards_588 rfl F
      have hf := ifp hc hf
      refine z_aload_n 0 C dL_boards_545 rfl ?_
      refine z_bipush (v := 7) C dL_boards_546 kb_7 ?_
      obtain ⟨v13, nf14, e15, hf⟩ := b2_e hf
      refine z_callVs (st := []) C dL_boards_548 w_L_38 (c_X2_count ad 7 nr nf11 tr tf co pf hi sl sv ff e15) (by decide) (FWf _ _ _ _ _ _ _ _ _ _ _ _ _ _ _ _ _ _ _ _ _ _) rfl rfl rfl rfl (Nat.le_of_ble_eq_true rfl) ?_
      refine z_iload 4 C dL_boards_551 rfl ?_
      refine z_icmp_ne (tgt := 587) C dL_boards_553 rfl (fun hc => ?_) (fun hc => ?_)
      · have hf := ifn hc hf
        refine z_iconst (v := 0) C dL_boards_587 kc_0 ?_
        cases hf
        exact z_zret C dL_boards_588 rfl F
      have hf := ifp hc hf
      refine z_aload_n 0 C dL_boards_556 rfl ?_
      refine z_bipush (v := 8) C dL_boards_557 kb_8 ?_
      obtain ⟨v16, nf17, e18, hf⟩ := b2_e hf
      refine z_callVs (st := []) C dL_boards_559 w_L_38 (c_X2_count ad 8 nr nf14 tr tf co pf hi sl sv ff e18) (by decide) (FWf _ _ _ _ _ _ _ _ _ _ _ _ _ _ _ _ _ _ _ _ _ _) rfl rfl rfl rfl (Nat.le_of_ble_eq_true rfl) ?_
      refine z_aload_n 0 C dL_boards_562 rfl ?_
      refine z_iconst (v := 1) C dL_boards_563 kc_1 ?_
      obtain ⟨v19, nf20, e21, hf⟩ := b2_e hf
      refine z_callVs (st := [.int v16]) C dL_boards_564 w_L_38 (c_X2_count ad 1 nr nf17 tr tf co pf hi sl sv ff e21) (by decide) (FWf _ _ _ _ _ _ _ _ _ _ _ _ _ _ _ _ _ _ _ _ _ _) rfl rfl rfl rfl (Nat.le_of_ble_eq_true rfl) ?_
      refine z_if_ne (tgt := 574) C dL_boards_567 rfl (fun hc => ?_) (fun hc => ?_)
      · have hf := ifn hc hf
        refine z_aload_n 0 C dL_boards_574 rfl ?_
        refine z_iconst (v := 0) C dL_boards_575 kc_0 ?_
        refine z_iconst (v := 4) C dL_boards_576 kc_4 ?_
        obtain ⟨v22, nf23, e24, hf⟩ := b2_e hf
        refine z_callVs (st := [.int v16]) C dL_boards_577 w_L_41 (c_X2_of ad 0 4 nr nf20 tr tf co pf hi sl sv ff e24) (by decide) (FWf _ _ _ _ _ _ _ _ _ _ _ _ _ _ _ _ _ _ _ _ _ _) rfl rfl rfl rfl (Nat.le_of_ble_eq_true rfl) ?_
        refine z_sub (ls' := []) [] rfl ?_
        exact tb_L_boards_580 ad nr tr tf co pf hi sl sv ff C F _ _ _ hf
      have hf := ifp hc hf
      refine z_iconst (v := 0) C dL_boards_570 kc_0 ?_
      refine z_goto (tgt := 580) C dL_boards_571 rfl ?_
      refine z_sub (ls' := []) [] rfl ?_
      exact tb_L_boards_580 ad nr tr tf co pf hi sl sv ff C F _ _ _ hf
    have hf := ifn hc hf
    refine z_aload_n 0 C dL_boards_22 rfl ?_
    refine z_iload 5 C dL_boards_23 rfl ?_
    refine z_iconst (v := 0) C dL_boards_25 kc_0 ?_
    obtain ⟨v25, nf26, e27, hf⟩ := b2_e hf
    refine z_callVs (st := []) C dL_boards_26 w_L_41 (c_X2_of ad l5 0 nr nf2 tr tf co pf hi sl sv ff e27) (by decide) (FWf _ _ _ _ _ _ _ _ _ _ _ _ _ _ _ _ _ _ _ _ _ _) rfl rfl rfl rfl (Nat.le_of_ble_eq_true rfl) ?_
    refine z_istore (ls' := [(6, _), (0, _), (1, _), (2, _), (3, _), (4, _), (5, _)]) C dL_boards_29 (by decide) rfl ?_
    refine z_aload_n 1 C dL_boards_31 rfl ?_
    refine z_iload 6 C dL_boards_32 rfl ?_
    refine z_iconst (v := 3) C dL_boards_34 kc_3 ?_
    obtain ⟨v28, nf29, e30, hf⟩ := b2_e hf
    refine z_callVs (st := []) C dL_boards_35 w_L_41 (c_X2_of ad l5 3 nr nf26 tr tf co pf hi sl sv ff e30) (by decide) (FWf _ _ _ _ _ _ _ _ _ _ _ _ _ _ _ _ _ _ _ _ _ _) rfl rfl rfl rfl (Nat.le_of_ble_eq_true rfl) ?_
    refine z_iconst (v := 2) C dL_boards_38 kc_2 ?_
    refine z_icmp_eq (tgt := 59) C dL_boards_39 rfl (fun hc => ?_) (fun hc => ?_)
    · have hf := ifp hc hf
      refine z_sub (ls' := [(0, .ref (ad 0)), (1, .int l1), (2, .int l2), (3, .int l3), (4, .int l4), (5, .int l5), (6, .int v25)]) [1, 2, 3, 4, 5, 6, 0] rfl ?_
      exact tb_L_boards_59 ad nr tr tf co pf hi sl sv ff C F _ ih _ _ _ _ _ _ _ hf
    have hf := ifn hc hf
    refine z_iload 0 C dL_boards_42 rfl ?_
    refine z_if_lt (tgt := 63) C dL_boards_44 rfl (fun hc => ?_) (fun hc => ?_)
    · have hf := ifp hc hf
      refine z_sub (ls' := [(0, .ref (ad 0)), (1, .int l1), (2, .int l2), (3, .int l3), (4, .int l4), (5, .int l5), (6, .int v25)]) [1, 2, 3, 4, 5, 6, 0] rfl ?_
      exact tb_L_boards_63 ad nr tr tf co pf hi sl sv ff C F _ ih _ _ _ _ _ _ _ hf
    have hf := ifn hc hf
    refine z_aload_n 1 C dL_boards_47 rfl ?_
    refine z_iload 0 C dL_boards_48 rfl ?_
    refine z_bipush (v := 8) C dL_boards_50 kb_8 ?_
    obtain ⟨v31, nf32, e33, hf⟩ := b2_e hf
    refine z_callVs (st := []) C dL_boards_52 w_L_41 (c_X2_of ad v25 8 nr nf29 tr tf co pf hi sl sv ff e33) (by decide) (FWf _ _ _ _ _ _ _ _ _ _ _ _ _ _ _ _ _ _ _ _ _ _) rfl rfl rfl rfl (Nat.le_of_ble_eq_true rfl) ?_
    refine z_iconst (v := 1) C dL_boards_55 kc_1 ?_
    refine z_icmp_ne (tgt := 63) C dL_boards_56 rfl (fun hc => ?_) (fun hc => ?_)
    · have hf := ifn hc hf
      refine z_sub (ls' := [(0, .ref (ad 0)), (1, .int l1), (2, .int l2), (3, .int l3), (4, .int l4), (5, .int l5), (6, .int v25)]) [1, 2, 3, 4, 5, 6, 0] rfl ?_
      exact tb_L_boards_63 ad nr tr tf co pf hi sl sv ff C F _ ih _ _ _ _ _ _ _ hf
    have hf := ifp hc hf
    refine z_sub (ls' := [(0, .ref (ad 0)), (1, .int l1), (2, .int l2), (3, .int l3), (4, .int l4), (5, .int l5), (6, .int v25)]) [1, 2, 3, 4, 5, 6, 0] rfl ?_
    exact tb_L_boards_59 ad nr tr tf co pf hi sl sv ff C F _ ih _ _ _ _ _ _ _ hf
set_option maxHeartbeats 400000 in
set_option maxRecDepth 100000 in
theorem c_L_boards {l : Launch} {D : va_G} {cs : ClassId × ClassId × ClassId} (ad : Nat → Nat)  (nr : zA) (nf : zA) (tr : zA) (tf : zA) (co : zA) (pf : zA) (hi : Nat → zA) (sl : Nat → zA) (sv : zA) (ff : zA) {v : Int32} {nf' : zA} (e : f_L_boards nr nf pf ff = some (v, nf')) : zM l D cs yL_boards cL_boards 11 (some .boolean) 5 [.ref (ad 0)] (FW cs ad nr nf tr tf co pf hi sl sv ff) v (FW cs ad nr nf' tr tf co pf hi sl sv ff) := by
  refine zM_of (show plainName RL = true by decide +kernel) (Nat.le_of_ble_eq_true rfl) ?_
  rintro G rfl rfl rfl C F
  have hf := e
  clear e
  unfold f_L_boards at hf
  show zV G 11 0 [(0, .ref (ad 0))] [] (FW (gk G) ad nr nf tr tf co pf hi sl sv ff)
  refine z_iconst (v := 0) C dL_boards_0 kc_0 ?_
  refine z_istore_n (ls' := [(1, _), (0, _)]) C dL_boards_1 (by decide) rfl ?_
  refine z_iconst (v := 0) C dL_boards_2 kc_0 ?_
  refine z_istore_n (ls' := [(2, _), (1, _), (0, _)]) C dL_boards_3 (by decide) rfl ?_
  refine z_iconst (v := 0) C dL_boards_4 kc_0 ?_
  refine z_istore_n (ls' := [(3, _), (2, _), (1, _), (0, _)]) C dL_boards_5 (by decide) rfl ?_
  refine z_iconst (v := 0) C dL_boards_6 kc_0 ?_
  refine z_istore (ls' := [(4, _), (3, _), (2, _), (1, _), (0, _)]) C dL_boards_7 (by decide) rfl ?_
  refine z_iconst (v := 0) C dL_boards_9 kc_0 ?_
  refine z_istore (ls' := [(5, _), (4, _), (3, _), (2, _), (1, _), (0, _)]) C dL_boards_10 (by decide) rfl ?_
  refine z_sub (ls' := [(0, .ref (ad 0)), (1, .int 0), (2, .int 0), (3, .int 0), (4, .int 0), (5, .int 0)]) [5, 4, 3, 2, 1, 0] rfl ?_
  exact tb_L_boards_12 ad nr tr tf co pf hi sl sv ff C F _ _ _ _ _ _ _ hf
set_option maxHeartbeats 400000 in
set_option maxRecDepth 100000 in
theorem tb_L_hangs_150 {G : GT} (ad : Nat → Nat) (nr : zA) (tr : zA) (tf : zA) (co : zA) (pf : zA) (hi : Nat → zA) (sl : Nat → zA) (sv : zA) (ff : zA) {v : Int32} {nf' : zA} (C : zC G cL_hangs 5 RL (some .boolean) 6) (F : zF G (some (.int v)) (FW (gk G) ad nr nf' tr tf co pf hi sl sv ff)) : ∀ (n : Nat) (l1 : Int32) (l2 : Int32) (l3 : Int32) (nf : zA), B_L_hangs_150 n l1 l2 l3 nr nf pf ff = some (v, nf') → zV G 5 150 [(0, .ref (ad 0)), (1, .int l1), (2, .int l2), (3, .int l3)] [] (FW (gk G) ad nr nf tr tf co pf hi sl sv ff) := by
  intro n
  induction n with
  | zero => intro _ _ _ _ hf; rw [B_L_hangs_150] at hf; cases hf
  | succ n ih =>
    intro l1 l2 l3 nf hf
    rw [B_L_hangs_150] at hf
    refine z_iload_n 3 C dL_hangs_150 rfl ?_
    refine z_bipush (v := 8) C dL_hangs_151 kb_8 ?_
    refine z_icmp_ge (tgt := 211) C dL_hangs_153 rfl (fun hc => ?_) (fun hc => ?_)
    · have hf := ifp hc hf
      refine z_aload_n 0 C dL_hangs_211 rfl ?_
      refine z_iconst (v := 4) C dL_hangs_212 kc_4 ?_
      obtain ⟨v1, nf2, e3, hf⟩ := b2_e hf
      refine z_callVs (st := []) C dL_hangs_213 w_L_38 (c_X2_count ad 4 nr nf tr tf co pf hi sl sv ff e3) (by decide) (FWf _ _ _ _ _ _ _ _ _ _ _ _ _ _ _ _ _ _ _ _ _ _) rfl rfl rfl rfl (Nat.le_of_ble_eq_true rfl) ?_
      refine z_iload_n 1 C dL_hangs_216 rfl ?_
      refine z_icmp_ne (tgt := 231) C dL_hangs_217 rfl (fun hc => ?_) (fun hc => ?_)
      · have hf := ifn hc hf
        refine z_iconst (v := 0) C dL_hangs_231 kc_0 ?_
        cases hf
        exact z_zret C dL_hangs_232 rfl F
      have hf := ifp hc hf
      refine z_aload_n 0 C dL_hangs_220 rfl ?_
      obtain ⟨v4, nf5, e6, hf⟩ := b2_e hf
      refine z_callSs (st := []) C dL_hangs_221 w_L_57 (c_L_boards ad nr nf2 tr tf co pf hi sl sv ff e6) (by decide) (FWf _ _ _ _ _ _ _ _ _ _ _ _ _ _ _ _ _ _ _ _ _ _) rfl rfl (Nat.le_of_ble_eq_true rfl) ?_
      refine z_if_eq (tgt := 231) C dL_hangs_224 rfl (fun hc => ?_) (fun hc => ?_)
      · have hf := ifp hc hf
        refine z_iconst (v := 0) C dL_hangs_231 kc_0 ?_
        cases hf
        exact z_zret C dL_hangs_232 rfl F
      have hf := ifn hc hf
      refine z_iconst (v := 1) C dL_hangs_227 kc_1 ?_
      refine z_goto (tgt := 232) C dL_hangs_228 rfl ?_
      cases hf
      exact z_zret C dL_hangs_232 rfl F
    have hf := ifn hc hf
    refine z_aload_n 0 C dL_hangs_156 rfl ?_
    refine z_iload_n 3 C dL_hangs_157 rfl ?_
    obtain ⟨v7, e8, hf⟩ := b1_e hf
    refine z_callVs (st := []) C dL_hangs_158 w_L_54 (c_X2_blown ad l3 nr nf tr tf co pf hi sl sv ff e8) (by decide) (FWf _ _ _ _ _ _ _ _ _ _ _ _ _ _ _ _ _ _ _ _ _ _) rfl rfl rfl rfl (Nat.le_of_ble_eq_true rfl) ?_
    refine z_istore (ls' := [(4, _), (0, _), (1, _), (2, _), (3, _)]) C dL_hangs_161 (by decide) rfl ?_
    refine z_iload_n 4 C dL_hangs_163 rfl ?_
    refine z_iload_n 3 C dL_hangs_164 rfl ?_
    refine z_icmp_ge (tgt := 197) C dL_hangs_165 rfl (fun hc => ?_) (fun hc => ?_)
    · have hf := ifp hc hf
      refine z_iload 0 C dL_hangs_197 rfl ?_
      refine z_iconst (v := -1) C dL_hangs_199 kc_m1 ?_
      refine z_icmp_eq (tgt := 205) C dL_hangs_200 rfl (fun hc => ?_) (fun hc => ?_)
      · have hf := ifp hc hf
        obtain ⟨x9, e10, hf⟩ := nm_g hf
        refine z_iinc (ls' := [(3, _), (4, _), (0, _), (1, _), (2, _)]) 4 C dL_hangs_205 rfl kc_1 e10 (by decide) rfl ?_
        refine z_goto (tgt := 150) C dL_hangs_208 rfl ?_
        refine z_sub (ls' := [(0, .ref (ad 0)), (1, .int l1), (2, .int l2), (3, .int x9)]) [2, 3, 4, 0] rfl ?_
        exact ih _ _ _ _ hf
      have hf := ifn hc hf
      refine z_iconst (v := 0) C dL_hangs_203 kc_0 ?_
      cases hf
      exact z_zret C dL_hangs_204 rfl F
    have hf := ifn hc hf
    refine z_iload 0 C dL_hangs_168 rfl ?_
    refine z_if_lt (tgt := 203) C dL_hangs_170 rfl (fun hc => ?_) (fun hc => ?_)
    · have hf := ifp hc hf
      refine z_iconst (v := 0) C dL_hangs_203 kc_0 ?_
      cases hf
      exact z_zret C dL_hangs_204 rfl F
    have hf := ifn hc hf
    refine z_iload 0 C dL_hangs_173 rfl ?_
    refine z_aload_n 1 C dL_hangs_175 rfl ?_
    refine z_iconst (v := 1) C dL_hangs_176 kc_1 ?_
    obtain ⟨v11, nf12, e13, hf⟩ := b2_e hf
    refine z_callVs (st := [.int v7]) C dL_hangs_177 w_L_38 (c_X2_count ad 1 nr nf tr tf co pf hi sl sv ff e13) (by decide) (FWf _ _ _ _ _ _ _ _ _ _ _ _ _ _ _ _ _ _ _ _ _ _) rfl rfl rfl rfl (Nat.le_of_ble_eq_true rfl) ?_
    refine z_icmp_ge (tgt := 203) C dL_hangs_180 rfl (fun hc => ?_) (fun hc => ?_)
    · have hf := ifp hc hf
      refine z_iconst (v := 0) C dL_hangs_203 kc_0 ?_
      cases hf
      exact z_zret C dL_hangs_204 rfl F
    have hf := ifn hc hf
    refine z_aload_n 1 C dL_hangs_183 rfl ?_
    refine z_iload 0 C dL_hangs_184 rfl ?_
    refine z_bipush (v := 11) C dL_hangs_186 kb_11 ?_
    obtain ⟨v14, nf15, e16, hf⟩ := b2_e hf
    refine z_callVs (st := []) C dL_hangs_188 w_L_41 (c_X2_of ad v7 11 nr nf12 tr tf co pf hi sl sv ff e16) (by decide) (FWf _ _ _ _ _ _ _ _ _ _ _ _ _ _ _ _ _ _ _ _ _ _) rfl rfl rfl rfl (Nat.le_of_ble_eq_true rfl) ?_
    refine z_if_ne (tgt := 205) C dL_hangs_191 rfl (fun hc => ?_) (fun hc => ?_)
    · have hf := ifn hc hf
      obtain ⟨x17, e18, hf⟩ := nm_g hf
      refine z_iinc (ls' := [(3, _), (4, _), (0, _), (1, _), (2, _)]) 4 C dL_hangs_205 rfl kc_1 e18 (by decide) rfl ?_
      refine z_goto (tgt := 150) C dL_hangs_208 rfl ?_
      refine z_sub (ls' := [(0, .ref (ad 0)), (1, .int l1), (2, .int l2), (3, .int x17)]) [2, 3, 4, 0] rfl ?_
      exact ih _ _ _ _ hf
    have hf := ifp hc hf
    refine z_goto (tgt := 203) C dL_hangs_194 rfl ?_
    refine z_iconst (v := 0) C dL_hangs_203 kc_0 ?_
    cases hf
    exact z_zret C dL_hangs_204 rfl F
set_option maxHeartbeats 400000 in
set_option maxRecDepth 100000 in
theorem tb_L_hangs_108 {G : GT} (ad : Nat → Nat) (nr : zA) (tr : zA) (tf : zA) (co : zA) (pf : zA) (hi : Nat → zA) (sl : Nat → zA) (sv : zA) (ff : zA) {v : Int32} {nf' : zA} (C : zC G cL_hangs 5 RL (some .boolean) 6) (F : zF G (some (.int v)) (FW (gk G) ad nr nf' tr tf co pf hi sl sv ff)) (K : Int32 → Int32 → zA → zA → zA → zA → Option (Int32 × zA)) (hK : ∀ (l1 : Int32) (l2 : Int32) (nf : zA), K l1 l2 nr nf pf ff = some (v, nf') → zV G 5 70 [(0, .ref (ad 0)), (1, .int l1), (2, .int l2)] [] (FW (gk G) ad nr nf tr tf co pf hi sl sv ff)) : ∀ (l1 : Int32) (l2 : Int32) (l3 : Int32) (nf : zA), B_L_hangs_108 K l1 l2 l3 nr nf pf ff = some (v, nf') → zV G 5 108 [(0, .ref (ad 0)), (1, .int l1), (2, .int l2), (3, .int l3)] [] (FW (gk G) ad nr nf tr tf co pf hi sl sv ff) := by
  intro l1 l2 l3 nf hf
  unfold B_L_hangs_108 at hf
  refine z_iload_n 2 C dL_hangs_108 rfl ?_
  refine z_if_ne (tgt := 119) C dL_hangs_109 rfl (fun hc => ?_) (fun hc => ?_)
  · have hf := ifn hc hf
    obtain ⟨x1, e2, hf⟩ := nm_g hf
    refine z_iinc (ls' := [(2, _), (0, _), (1, _), (3, _)]) 2 C dL_hangs_119 rfl kc_1 e2 (by decide) rfl ?_
    refine z_goto (tgt := 70) C dL_hangs_122 rfl ?_
    refine z_sub (ls' := [(0, .ref (ad 0)), (1, .int l1), (2, .int x1)]) [1, 2, 0] rfl ?_
    exact hK _ _ _ hf
  have hf := ifp hc hf
  refine z_iload_n 3 C dL_hangs_112 rfl ?_
  refine z_iload_n 1 C dL_hangs_113 rfl ?_
  refine z_icmp_eq (tgt := 119) C dL_hangs_114 rfl (fun hc => ?_) (fun hc => ?_)
  · have hf := ifp hc hf
    obtain ⟨x3, e4, hf⟩ := nm_g hf
    refine z_iinc (ls' := [(2, _), (0, _), (1, _), (3, _)]) 2 C dL_hangs_119 rfl kc_1 e4 (by decide) rfl ?_
    refine z_goto (tgt := 70) C dL_hangs_122 rfl ?_
    refine z_sub (ls' := [(0, .ref (ad 0)), (1, .int l1), (2, .int x3)]) [1, 2, 0] rfl ?_
    exact hK _ _ _ hf
  have hf := ifn hc hf
  refine z_iconst (v := 0) C dL_hangs_117 kc_0 ?_
  cases hf
  exact z_zret C dL_hangs_118 rfl F
set_option maxHeartbeats 400000 in
set_option maxRecDepth 100000 in
theorem tb_L_hangs_70 {G : GT} (ad : Nat → Nat) (nr : zA) (tr : zA) (tf : zA) (co : zA) (pf : zA) (hi : Nat → zA) (sl : Nat → zA) (sv : zA) (ff : zA) {v : Int32} {nf' : zA} (C : zC G cL_hangs 5 RL (some .boolean) 6) (F : zF G (some (.int v)) (FW (gk G) ad nr nf' tr tf co pf hi sl sv ff)) : ∀ (n : Nat) (l1 : Int32) (l2 : Int32) (nf : zA), B_L_hangs_70 n l1 l2 nr nf pf ff = some (v, nf') → zV G 5 70 [(0, .ref (ad 0)), (1, .int l1), (2, .int l2)] [] (FW (gk G) ad nr nf tr tf co pf hi sl sv ff) := by
  intro n
  induction n with
  | zero => intro _ _ _ hf; rw [B_L_hangs_70] at hf; cases hf
  | succ n ih =>
    intro l1 l2 nf hf
    rw [B_L_hangs_70] at hf
    refine z_iload_n 2 C dL_hangs_70 rfl ?_
    refine z_aload_n 0 C dL_hangs_71 rfl ?_
    refine z_iconst (v := 1) C dL_hangs_72 kc_1 ?_
    obtain ⟨v1, nf2, e3, hf⟩ := b2_e hf
    refine z_callVs (st := [.int l2]) C dL_hangs_73 w_L_38 (c_X2_count ad 1 nr nf tr tf co pf hi sl sv ff e3) (by decide) (FWf _ _ _ _ _ _ _ _ _ _ _ _ _ _ _ _ _ _ _ _ _ _) rfl rfl rfl rfl (Nat.le_of_ble_eq_true rfl) ?_
    refine z_icmp_ge (tgt := 125) C dL_hangs_76 rfl (fun hc => ?_) (fun hc => ?_)
    · have hf := ifp hc hf
      refine z_aload_n 0 C dL_hangs_125 rfl ?_
      refine z_bipush (v := 7) C dL_hangs_126 kb_7 ?_
      obtain ⟨v4, nf5, e6, hf⟩ := b2_e hf
      refine z_callVs (st := []) C dL_hangs_128 w_L_38 (c_X2_count ad 7 nr nf2 tr tf co pf hi sl sv ff e6) (by decide) (FWf _ _ _ _ _ _ _ _ _ _ _ _ _ _ _ _ _ _ _ _ _ _) rfl rfl rfl rfl (Nat.le_of_ble_eq_true rfl) ?_
      refine z_bipush (v := 8) C dL_hangs_131 kb_8 ?_
      refine z_icmp_ge (tgt := 145) C dL_hangs_133 rfl (fun hc => ?_) (fun hc => ?_)
      · have hf := ifp hc hf
        refine z_bipush (v := 8) C dL_hangs_145 kb_8 ?_
        refine z_istore_n (ls' := [(2, _), (0, _), (1, _)]) C dL_hangs_147 (by decide) rfl ?_
        refine z_iconst (v := 0) C dL_hangs_148 kc_0 ?_
        refine z_istore_n (ls' := [(3, _), (2, _), (0, _), (1, _)]) C dL_hangs_149 (by decide) rfl ?_
        refine z_sub (ls' := [(0, .ref (ad 0)), (1, .int l1), (2, .int 8), (3, .int 0)]) [2, 3, 1, 0] rfl ?_
        exact tb_L_hangs_150 ad nr tr tf co pf hi sl sv ff C F _ _ _ _ _ hf
      have hf := ifn hc hf
      refine z_aload_n 0 C dL_hangs_136 rfl ?_
      refine z_bipush (v := 7) C dL_hangs_137 kb_7 ?_
      obtain ⟨v7, nf8, e9, hf⟩ := b2_e hf
      refine z_callVs (st := []) C dL_hangs_139 w_L_38 (c_X2_count ad 7 nr nf5 tr tf co pf hi sl sv ff e9) (by decide) (FWf _ _ _ _ _ _ _ _ _ _ _ _ _ _ _ _ _ _ _ _ _ _) rfl rfl rfl rfl (Nat.le_of_ble_eq_true rfl) ?_
      refine z_goto (tgt := 147) C dL_hangs_142 rfl ?_
      refine z_istore_n (ls' := [(2, _), (0, _), (1, _)]) C dL_hangs_147 (by decide) rfl ?_
      refine z_iconst (v := 0) C dL_hangs_148 kc_0 ?_
      refine z_istore_n (ls' := [(3, _), (2, _), (0, _), (1, _)]) C dL_hangs_149 (by decide) rfl ?_
      refine z_sub (ls' := [(0, .ref (ad 0)), (1, .int l1), (2, .int v7), (3, .int 0)]) [2, 3, 1, 0] rfl ?_
      exact tb_L_hangs_150 ad nr tr tf co pf hi sl sv ff C F _ _ _ _ _ hf
    have hf := ifn hc hf
    refine z_aload_n 0 C dL_hangs_79 rfl ?_
    refine z_iload_n 2 C dL_hangs_80 rfl ?_
    obtain ⟨v10, e11, hf⟩ := b1_e hf
    refine z_callVs (st := []) C dL_hangs_81 w_L_51 (c_X2_ifOpen ad l2 nr nf2 tr tf co pf hi sl sv ff e11) (by decide) (FWf _ _ _ _ _ _ _ _ _ _ _ _ _ _ _ _ _ _ _ _ _ _) rfl rfl rfl rfl (Nat.le_of_ble_eq_true rfl) ?_
    refine z_istore_n (ls' := [(3, _), (0, _), (1, _), (2, _)]) C dL_hangs_84 (by decide) rfl ?_
    refine z_iload_n 0 C dL_hangs_85 rfl ?_
    refine z_iload_n 2 C dL_hangs_86 rfl ?_
    refine z_iconst (v := -1) C dL_hangs_87 kc_m1 ?_
    refine z_ixor C dL_hangs_88 ?_
    refine z_iand C dL_hangs_89 ?_
    refine z_if_ne (tgt := 117) C dL_hangs_90 rfl (fun hc => ?_) (fun hc => ?_)
    · have hf := ifn hc hf
      refine z_iconst (v := 0) C dL_hangs_117 kc_0 ?_
      cases hf
      exact z_zret C dL_hangs_118 rfl F
    have hf := ifp hc hf
    refine z_aload_n 1 C dL_hangs_93 rfl ?_
    refine z_iload_n 3 C dL_hangs_94 rfl ?_
    refine z_bipush (v := 8) C dL_hangs_95 kb_8 ?_
    obtain ⟨v12, nf13, e14, hf⟩ := b2_e hf
    refine z_callVs (st := []) C dL_hangs_97 w_L_41 (c_X2_of ad l2 8 nr nf2 tr tf co pf hi sl sv ff e14) (by decide) (FWf _ _ _ _ _ _ _ _ _ _ _ _ _ _ _ _ _ _ _ _ _ _) rfl rfl rfl rfl (Nat.le_of_ble_eq_true rfl) ?_
    refine z_iconst (v := 1) C dL_hangs_100 kc_1 ?_
    refine z_icmp_ne (tgt := 108) C dL_hangs_101 rfl (fun hc => ?_) (fun hc => ?_)
    · have hf := ifn hc hf
      refine z_sub (ls' := [(0, .ref (ad 0)), (1, .int l1), (2, .int l2), (3, .int v10)]) [1, 2, 3, 0] rfl ?_
      exact tb_L_hangs_108 ad nr tr tf co pf hi sl sv ff C F _ ih _ _ _ _ hf
    have hf := ifp hc hf
    refine z_iload_n 0 C dL_hangs_104 rfl ?_
    refine z_if_ne (tgt := 117) C dL_hangs_105 rfl (fun hc => ?_) (fun hc => ?_)
    · have hf := ifn hc hf
      refine z_iconst (v := 0) C dL_hangs_117 kc_0 ?_
      cases hf
      exact z_zret C dL_hangs_118 rfl F
    have hf := ifp hc hf
    refine z_sub (ls' := [(0, .ref (ad 0)), (1, .int l1), (2, .int l2), (3, .int v10)]) [1, 2, 3, 0] rfl ?_
    exact tb_L_hangs_108 ad nr tr tf co pf hi sl sv ff C F _ ih _ _ _ _ hf
set_option maxHeartbeats 400000 in
set_option maxRecDepth 100000 in
theorem tb_L_hangs_43 {G : GT} (ad : Nat → Nat) (nr : zA) (tr : zA) (tf : zA) (co : zA) (pf : zA) (hi : Nat → zA) (sl : Nat → zA) (sv : zA) (ff : zA) {v : Int32} {nf' : zA} (C : zC G cL_hangs 5 RL (some .boolean) 6) (F : zF G (some (.int v)) (FW (gk G) ad nr nf' tr tf co pf hi sl sv ff)) (K : Int32 → Int32 → zA → zA → zA → zA → Option (Int32 × zA)) (hK : ∀ (l1 : Int32) (l2 : Int32) (nf : zA), K l1 l2 nr nf pf ff = some (v, nf') → zV G 5 4 [(0, .ref (ad 0)), (1, .int l1), (2, .int l2)] [] (FW (gk G) ad nr nf tr tf co pf hi sl sv ff)) : ∀ (s0 : Int32) (l1 : Int32) (l2 : Int32) (nf : zA), B_L_hangs_43 K s0 l1 l2 nr nf pf ff = some (v, nf') → zV G 5 43 [(0, .ref (ad 0)), (1, .int l1), (2, .int l2)] [.int s0] (FW (gk G) ad nr nf tr tf co pf hi sl sv ff) := by
  intro s0 l1 l2 nf hf
  unfold B_L_hangs_43 at hf
  refine z_istore_n (ls' := [(3, _), (0, _), (1, _), (2, _)]) C dL_hangs_43 (by decide) rfl ?_
  refine z_iload_n 2 C dL_hangs_44 rfl ?_
  refine z_iload_n 0 C dL_hangs_45 rfl ?_
  refine z_iload_n 3 C dL_hangs_46 rfl ?_
  refine z_ishl C dL_hangs_47 ?_
  refine z_ior C dL_hangs_48 ?_
  obtain ⟨x1, e2, hf⟩ := nm_g hf
  refine z_top e2 ?_
  refine z_istore_n (ls' := [(1, _), (3, _), (0, _), (2, _)]) C dL_hangs_49 (by decide) rfl ?_
  refine z_aload_n 2 C dL_hangs_50 rfl ?_
  refine z_iload_n 3 C dL_hangs_51 rfl ?_
  refine z_iconst (v := 3) C dL_hangs_52 kc_3 ?_
  obtain ⟨v3, e4, hf⟩ := b1_e hf
  refine z_callVs (st := []) C dL_hangs_53 w_L_47 (c_X2_ofLoad ad l2 3 nr nf tr tf co pf hi sl sv ff e4) (by decide) (FWf _ _ _ _ _ _ _ _ _ _ _ _ _ _ _ _ _ _ _ _ _ _) rfl rfl rfl rfl (Nat.le_of_ble_eq_true rfl) ?_
  refine z_iload_n 1 C dL_hangs_56 rfl ?_
  refine z_icmp_eq (tgt := 62) C dL_hangs_57 rfl (fun hc => ?_) (fun hc => ?_)
  · have hf := ifp hc hf
    obtain ⟨x5, e6, hf⟩ := nm_g hf
    refine z_iinc (ls' := [(2, _), (1, _), (3, _), (0, _)]) 3 C dL_hangs_62 rfl kc_1 e6 (by decide) rfl ?_
    refine z_goto (tgt := 4) C dL_hangs_65 rfl ?_
    refine z_sub (ls' := [(0, .ref (ad 0)), (1, .int x1), (2, .int x5)]) [3, 1, 0] rfl ?_
    exact hK _ _ _ hf
  have hf := ifn hc hf
  refine z_iconst (v := 0) C dL_hangs_60 kc_0 ?_
  cases hf
  exact z_zret C dL_hangs_61 rfl F
set_option maxHeartbeats 400000 in
set_option maxRecDepth 100000 in
theorem tb_L_hangs_42 {G : GT} (ad : Nat → Nat) (nr : zA) (tr : zA) (tf : zA) (co : zA) (pf : zA) (hi : Nat → zA) (sl : Nat → zA) (sv : zA) (ff : zA) {v : Int32} {nf' : zA} (C : zC G cL_hangs 5 RL (some .boolean) 6) (F : zF G (some (.int v)) (FW (gk G) ad nr nf' tr tf co pf hi sl sv ff)) (K : Int32 → Int32 → zA → zA → zA → zA → Option (Int32 × zA)) (hK : ∀ (l1 : Int32) (l2 : Int32) (nf : zA), K l1 l2 nr nf pf ff = some (v, nf') → zV G 5 4 [(0, .ref (ad 0)), (1, .int l1), (2, .int l2)] [] (FW (gk G) ad nr nf tr tf co pf hi sl sv ff)) : ∀ (l1 : Int32) (l2 : Int32) (nf : zA), B_L_hangs_42 K l1 l2 nr nf pf ff = some (v, nf') → zV G 5 42 [(0, .ref (ad 0)), (1, .int l1), (2, .int l2)] [] (FW (gk G) ad nr nf tr tf co pf hi sl sv ff) := by
  intro l1 l2 nf hf
  unfold B_L_hangs_42 at hf
  refine z_iconst (v := 0) C dL_hangs_42 kc_0 ?_
  exact tb_L_hangs_43 ad nr tr tf co pf hi sl sv ff C F K hK _ _ _ _ hf
set_option maxHeartbeats 400000 in
set_option maxRecDepth 100000 in
theorem tb_L_hangs_4 {G : GT} (ad : Nat → Nat) (nr : zA) (tr : zA) (tf : zA) (co : zA) (pf : zA) (hi : Nat → zA) (sl : Nat → zA) (sv : zA) (ff : zA) {v : Int32} {nf' : zA} (C : zC G cL_hangs 5 RL (some .boolean) 6) (F : zF G (some (.int v)) (FW (gk G) ad nr nf' tr tf co pf hi sl sv ff)) : ∀ (n : Nat) (l1 : Int32) (l2 : Int32) (nf : zA), B_L_hangs_4 n l1 l2 nr nf pf ff = some (v, nf') → zV G 5 4 [(0, .ref (ad 0)), (1, .int l1), (2, .int l2)] [] (FW (gk G) ad nr nf tr tf co pf hi sl sv ff) := by
  intro n
  induction n with
  | zero => intro _ _ _ hf; rw [B_L_hangs_4] at hf; cases hf
  | succ n ih =>
    intro l1 l2 nf hf
    rw [B_L_hangs_4] at hf
    refine z_iload_n 2 C dL_hangs_4 rfl ?_
    refine z_aload_n 0 C dL_hangs_5 rfl ?_
    refine z_iconst (v := 2) C dL_hangs_6 kc_2 ?_
    obtain ⟨v1, nf2, e3, hf⟩ := b2_e hf
    refine z_callVs (st := [.int l2]) C dL_hangs_7 w_L_38 (c_X2_count ad 2 nr nf tr tf co pf hi sl sv ff e3) (by decide) (FWf _ _ _ _ _ _ _ _ _ _ _ _ _ _ _ _ _ _ _ _ _ _) rfl rfl rfl rfl (Nat.le_of_ble_eq_true rfl) ?_
    refine z_icmp_ge (tgt := 68) C dL_hangs_10 rfl (fun hc => ?_) (fun hc => ?_)
    · have hf := ifp hc hf
      refine z_iconst (v := 0) C dL_hangs_68 kc_0 ?_
      refine z_istore_n (ls' := [(2, _), (0, _), (1, _)]) C dL_hangs_69 (by decide) rfl ?_
      refine z_sub (ls' := [(0, .ref (ad 0)), (1, .int l1), (2, .int 0)]) [1, 2, 0] rfl ?_
      exact tb_L_hangs_70 ad nr tr tf co pf hi sl sv ff C F _ _ _ _ hf
    have hf := ifn hc hf
    refine z_aload_n 0 C dL_hangs_13 rfl ?_
    refine z_iload_n 2 C dL_hangs_14 rfl ?_
    refine z_iconst (v := 2) C dL_hangs_15 kc_2 ?_
    obtain ⟨v4, e5, hf⟩ := b1_e hf
    refine z_callVs (st := []) C dL_hangs_16 w_L_47 (c_X2_ofLoad ad l2 2 nr nf2 tr tf co pf hi sl sv ff e5) (by decide) (FWf _ _ _ _ _ _ _ _ _ _ _ _ _ _ _ _ _ _ _ _ _ _) rfl rfl rfl rfl (Nat.le_of_ble_eq_true rfl) ?_
    refine z_iconst (v := 1) C dL_hangs_19 kc_1 ?_
    refine z_icmp_ne (tgt := 42) C dL_hangs_20 rfl (fun hc => ?_) (fun hc => ?_)
    · have hf := ifn hc hf
      exact tb_L_hangs_42 ad nr tr tf co pf hi sl sv ff C F _ ih _ _ _ hf
    have hf := ifp hc hf
    refine z_aload_n 0 C dL_hangs_23 rfl ?_
    refine z_aload_n 0 C dL_hangs_24 rfl ?_
    refine z_iload_n 2 C dL_hangs_25 rfl ?_
    refine z_iconst (v := 0) C dL_hangs_26 kc_0 ?_
    obtain ⟨v6, e7, hf⟩ := b1_e hf
    refine z_callVs (st := [.ref (ad 0)]) C dL_hangs_27 w_L_47 (c_X2_ofLoad ad l2 0 nr nf2 tr tf co pf hi sl sv ff e7) (by decide) (FWf _ _ _ _ _ _ _ _ _ _ _ _ _ _ _ _ _ _ _ _ _ _) rfl rfl rfl rfl (Nat.le_of_ble_eq_true rfl) ?_
    refine z_bipush (v := 8) C dL_hangs_30 kb_8 ?_
    obtain ⟨v8, nf9, e10, hf⟩ := b2_e hf
    refine z_callVs (st := []) C dL_hangs_32 w_L_41 (c_X2_of ad v6 8 nr nf2 tr tf co pf hi sl sv ff e10) (by decide) (FWf _ _ _ _ _ _ _ _ _ _ _ _ _ _ _ _ _ _ _ _ _ _) rfl rfl rfl rfl (Nat.le_of_ble_eq_true rfl) ?_
    refine z_if_ne (tgt := 42) C dL_hangs_35 rfl (fun hc => ?_) (fun hc => ?_)
    · have hf := ifn hc hf
      exact tb_L_hangs_42 ad nr tr tf co pf hi sl sv ff C F _ ih _ _ _ hf
    have hf := ifp hc hf
    refine z_iconst (v := 1) C dL_hangs_38 kc_1 ?_
    refine z_goto (tgt := 43) C dL_hangs_39 rfl ?_
    exact tb_L_hangs_43 ad nr tr tf co pf hi sl sv ff C F _ ih _ _ _ _ hf
set_option maxHeartbeats 400000 in
set_option maxRecDepth 100000 in
theorem c_L_hangs {l : Launch} {D : va_G} {cs : ClassId × ClassId × ClassId} (ad : Nat → Nat)  (nr : zA) (nf : zA) (tr : zA) (tf : zA) (co : zA) (pf : zA) (hi : Nat → zA) (sl : Nat → zA) (sv : zA) (ff : zA) {v : Int32} {nf' : zA} (e : f_L_hangs nr nf pf ff = some (v, nf')) : zM l D cs yL_hangs cL_hangs 5 (some .boolean) 6 [.ref (ad 0)] (FW cs ad nr nf tr tf co pf hi sl sv ff) v (FW cs ad nr nf' tr tf co pf hi sl sv ff) := by
  refine zM_of (show plainName RL = true by decide +kernel) (Nat.le_of_ble_eq_true rfl) ?_
  rintro G rfl rfl rfl C F
  have hf := e
  clear e
  unfold f_L_hangs at hf
  show zV G 5 0 [(0, .ref (ad 0))] [] (FW (gk G) ad nr nf tr tf co pf hi sl sv ff)
  refine z_iconst (v := 0) C dL_hangs_0 kc_0 ?_
  refine z_istore_n (ls' := [(1, _), (0, _)]) C dL_hangs_1 (by decide) rfl ?_
  refine z_iconst (v := 0) C dL_hangs_2 kc_0 ?_
  refine z_istore_n (ls' := [(2, _), (1, _), (0, _)]) C dL_hangs_3 (by decide) rfl ?_
  refine z_sub (ls' := [(0, .ref (ad 0)), (1, .int 0), (2, .int 0)]) [2, 1, 0] rfl ?_
  exact tb_L_hangs_4 ad nr tr tf co pf hi sl sv ff C F _ _ _ _ hf
set_option maxHeartbeats 400000 in
set_option maxRecDepth 100000 in
theorem tb_L_print_110 {G : GT} (ad : Nat → Nat) (nr : zA) (tr : zA) (tf : zA) (co : zA) (pf : zA) (hi : Nat → zA) (sl : Nat → zA) (sv : zA) (ff : zA) {v : Int64} {nf' : zA} (C : zC G cL_print 4 RL (some .long) 5) (F : zF G (some (.long v)) (FW (gk G) ad nr nf' tr tf co pf hi sl sv ff)) : ∀ (n : Nat) (l1 : Int64) (l3 : Int32) (nf : zA), B_L_print_110 n l1 l3 nr nf pf ff = some (v, nf') → zV G 4 110 [(0, .ref (ad 0)), (1, .long l1), (3, .int l3)] [] (FW (gk G) ad nr nf tr tf co pf hi sl sv ff) := by
  intro n
  induction n with
  | zero => intro _ _ _ hf; rw [B_L_print_110] at hf; cases hf
  | succ n ih =>
    intro l1 l3 nf hf
    rw [B_L_print_110] at hf
    refine z_iload_n 2 C dL_print_110 rfl ?_
    refine z_bipush (v := 8) C dL_print_111 kb_8 ?_
    refine z_icmp_ge (tgt := 135) C dL_print_113 rfl (fun hc => ?_) (fun hc => ?_)
    · have hf := ifp hc hf
      refine z_lload_n 1 C dL_print_135 rfl ?_
      cases hf
      exact z_lret C dL_print_136 F
    have hf := ifn hc hf
    refine z_ldc2 C dL_print_116 tw_250 ?_
    refine z_lload_n 1 C dL_print_119 rfl ?_
    refine z_lmul C dL_print_120 ?_
    refine z_aload_n 0 C dL_print_121 rfl ?_
    refine z_iload_n 2 C dL_print_122 rfl ?_
    obtain ⟨v1, e2, hf⟩ := b1_e hf
    refine z_callVs (st := [.long (31 * l1)]) C dL_print_123 w_L_54 (c_X2_blown ad l3 nr nf tr tf co pf hi sl sv ff e2) (by decide) (FWf _ _ _ _ _ _ _ _ _ _ _ _ _ _ _ _ _ _ _ _ _ _) rfl rfl rfl rfl (Nat.le_of_ble_eq_true rfl) ?_
    refine z_i2l C dL_print_126 ?_
    refine z_ladd C dL_print_127 ?_
    obtain ⟨x3, e4, hf⟩ := nm_g hf
    refine z_topl e4 ?_
    refine z_lstore_n (ls' := [(1, _), (0, _), (3, _)]) C dL_print_128 (by decide) rfl ?_
    obtain ⟨x5, e6, hf⟩ := nm_g hf
    refine z_iinc (ls' := [(3, _), (1, _), (0, _)]) 2 C dL_print_129 rfl kc_1 e6 (by decide) rfl ?_
    refine z_goto (tgt := 110) C dL_print_132 rfl ?_
    refine z_sub (ls' := [(0, .ref (ad 0)), (1, .long x3), (3, .int x5)]) [2, 1, 0] rfl ?_
    exact ih _ _ _ hf
set_option maxHeartbeats 400000 in
set_option maxRecDepth 100000 in
theorem tb_L_print_73 {G : GT} (ad : Nat → Nat) (nr : zA) (tr : zA) (tf : zA) (co : zA) (pf : zA) (hi : Nat → zA) (sl : Nat → zA) (sv : zA) (ff : zA) {v : Int64} {nf' : zA} (C : zC G cL_print 4 RL (some .long) 5) (F : zF G (some (.long v)) (FW (gk G) ad nr nf' tr tf co pf hi sl sv ff)) : ∀ (n : Nat) (l1 : Int64) (l3 : Int32) (nf : zA), B_L_print_73 n l1 l3 nr nf pf ff = some (v, nf') → zV G 4 73 [(0, .ref (ad 0)), (1, .long l1), (3, .int l3)] [] (FW (gk G) ad nr nf tr tf co pf hi sl sv ff) := by
  intro n
  induction n with
  | zero => intro _ _ _ hf; rw [B_L_print_73] at hf; cases hf
  | succ n ih =>
    intro l1 l3 nf hf
    rw [B_L_print_73] at hf
    refine z_iload_n 2 C dL_print_73 rfl ?_
    refine z_iconst (v := 3) C dL_print_74 kc_3 ?_
    refine z_aload_n 0 C dL_print_75 rfl ?_
    refine z_iconst (v := 2) C dL_print_76 kc_2 ?_
    obtain ⟨v1, nf2, e3, hf⟩ := b2_e hf
    refine z_callVs (st := [.int 3, .int l3]) C dL_print_77 w_L_38 (c_X2_count ad 2 nr nf tr tf co pf hi sl sv ff e3) (by decide) (FWf _ _ _ _ _ _ _ _ _ _ _ _ _ _ _ _ _ _ _ _ _ _) rfl rfl rfl rfl (Nat.le_of_ble_eq_true rfl) ?_
    refine z_imul C dL_print_80 ?_
    refine z_icmp_ge (tgt := 108) C dL_print_81 rfl (fun hc => ?_) (fun hc => ?_)
    · have hf := ifp hc hf
      refine z_iconst (v := 0) C dL_print_108 kc_0 ?_
      refine z_istore_n (ls' := [(3, _), (0, _), (1, _)]) C dL_print_109 (by decide) rfl ?_
      refine z_sub (ls' := [(0, .ref (ad 0)), (1, .long l1), (3, .int 0)]) [1, 2, 0] rfl ?_
      exact tb_L_print_110 ad nr tr tf co pf hi sl sv ff C F _ _ _ _ hf
    have hf := ifn hc hf
    refine z_ldc2 C dL_print_84 tw_250 ?_
    refine z_lload_n 1 C dL_print_87 rfl ?_
    refine z_lmul C dL_print_88 ?_
    refine z_aload_n 0 C dL_print_89 rfl ?_
    refine z_iload_n 2 C dL_print_90 rfl ?_
    refine z_iconst (v := 3) C dL_print_91 kc_3 ?_
    refine z_idiv C dL_print_92 (by decide) ?_
    refine z_iload_n 2 C dL_print_93 rfl ?_
    refine z_iconst (v := 3) C dL_print_94 kc_3 ?_
    refine z_irem C dL_print_95 (by decide) ?_
    obtain ⟨v4, e5, hf⟩ := b1_e hf
    refine z_callVs (st := [.long (31 * l1)]) C dL_print_96 w_L_47 (c_X2_ofLoad ad (l3 / 3) (l3 - l3 / 3 * 3) nr nf2 tr tf co pf hi sl sv ff e5) (by decide) (FWf _ _ _ _ _ _ _ _ _ _ _ _ _ _ _ _ _ _ _ _ _ _) rfl rfl rfl rfl (Nat.le_of_ble_eq_true rfl) ?_
    refine z_i2l C dL_print_99 ?_
    refine z_ladd C dL_print_100 ?_
    obtain ⟨x6, e7, hf⟩ := nm_g hf
    refine z_topl e7 ?_
    refine z_lstore_n (ls' := [(1, _), (0, _), (3, _)]) C dL_print_101 (by decide) rfl ?_
    obtain ⟨x8, e9, hf⟩ := nm_g hf
    refine z_iinc (ls' := [(3, _), (1, _), (0, _)]) 2 C dL_print_102 rfl kc_1 e9 (by decide) rfl ?_
    refine z_goto (tgt := 73) C dL_print_105 rfl ?_
    refine z_sub (ls' := [(0, .ref (ad 0)), (1, .long x6), (3, .int x8)]) [2, 1, 0] rfl ?_
    exact ih _ _ _ hf
set_option maxHeartbeats 400000 in
set_option maxRecDepth 100000 in
theorem tb_L_print_33 {G : GT} (ad : Nat → Nat) (nr : zA) (tr : zA) (tf : zA) (co : zA) (pf : zA) (hi : Nat → zA) (sl : Nat → zA) (sv : zA) (ff : zA) {v : Int64} {nf' : zA} (C : zC G cL_print 4 RL (some .long) 5) (F : zF G (some (.long v)) (FW (gk G) ad nr nf' tr tf co pf hi sl sv ff)) : ∀ (n : Nat) (l1 : Int64) (l3 : Int32) (nf : zA), B_L_print_33 n l1 l3 nr nf pf ff = some (v, nf') → zV G 4 33 [(0, .ref (ad 0)), (1, .long l1), (3, .int l3)] [] (FW (gk G) ad nr nf tr tf co pf hi sl sv ff) := by
  intro n
  induction n with
  | zero => intro _ _ _ hf; rw [B_L_print_33] at hf; cases hf
  | succ n ih =>
    intro l1 l3 nf hf
    rw [B_L_print_33] at hf
    refine z_iload_n 2 C dL_print_33 rfl ?_
    refine z_bipush (v := 12) C dL_print_34 kb_12 ?_
    refine z_aload_n 0 C dL_print_36 rfl ?_
    refine z_iconst (v := 1) C dL_print_37 kc_1 ?_
    obtain ⟨v1, nf2, e3, hf⟩ := b2_e hf
    refine z_callVs (st := [.int 12, .int l3]) C dL_print_38 w_L_38 (c_X2_count ad 1 nr nf tr tf co pf hi sl sv ff e3) (by decide) (FWf _ _ _ _ _ _ _ _ _ _ _ _ _ _ _ _ _ _ _ _ _ _) rfl rfl rfl rfl (Nat.le_of_ble_eq_true rfl) ?_
    refine z_imul C dL_print_41 ?_
    refine z_icmp_ge (tgt := 71) C dL_print_42 rfl (fun hc => ?_) (fun hc => ?_)
    · have hf := ifp hc hf
      refine z_iconst (v := 0) C dL_print_71 kc_0 ?_
      refine z_istore_n (ls' := [(3, _), (0, _), (1, _)]) C dL_print_72 (by decide) rfl ?_
      refine z_sub (ls' := [(0, .ref (ad 0)), (1, .long l1), (3, .int 0)]) [1, 2, 0] rfl ?_
      exact tb_L_print_73 ad nr tr tf co pf hi sl sv ff C F _ _ _ _ hf
    have hf := ifn hc hf
    refine z_ldc2 C dL_print_45 tw_250 ?_
    refine z_lload_n 1 C dL_print_48 rfl ?_
    refine z_lmul C dL_print_49 ?_
    refine z_aload_n 0 C dL_print_50 rfl ?_
    refine z_iload_n 2 C dL_print_51 rfl ?_
    refine z_bipush (v := 12) C dL_print_52 kb_12 ?_
    refine z_idiv C dL_print_54 (by decide) ?_
    refine z_iload_n 2 C dL_print_55 rfl ?_
    refine z_bipush (v := 12) C dL_print_56 kb_12 ?_
    refine z_irem C dL_print_58 (by decide) ?_
    obtain ⟨v4, nf5, e6, hf⟩ := b2_e hf
    refine z_callVs (st := [.long (31 * l1)]) C dL_print_59 w_L_41 (c_X2_of ad (l3 / 12) (l3 - l3 / 12 * 12) nr nf2 tr tf co pf hi sl sv ff e6) (by decide) (FWf _ _ _ _ _ _ _ _ _ _ _ _ _ _ _ _ _ _ _ _ _ _) rfl rfl rfl rfl (Nat.le_of_ble_eq_true rfl) ?_
    refine z_i2l C dL_print_62 ?_
    refine z_ladd C dL_print_63 ?_
    obtain ⟨x7, e8, hf⟩ := nm_g hf
    refine z_topl e8 ?_
    refine z_lstore_n (ls' := [(1, _), (0, _), (3, _)]) C dL_print_64 (by decide) rfl ?_
    obtain ⟨x9, e10, hf⟩ := nm_g hf
    refine z_iinc (ls' := [(3, _), (1, _), (0, _)]) 2 C dL_print_65 rfl kc_1 e10 (by decide) rfl ?_
    refine z_goto (tgt := 33) C dL_print_68 rfl ?_
    refine z_sub (ls' := [(0, .ref (ad 0)), (1, .long x7), (3, .int x9)]) [2, 1, 0] rfl ?_
    exact ih _ _ _ hf
set_option maxHeartbeats 400000 in
set_option maxRecDepth 100000 in
theorem tb_L_print_6 {G : GT} (ad : Nat → Nat) (nr : zA) (tr : zA) (tf : zA) (co : zA) (pf : zA) (hi : Nat → zA) (sl : Nat → zA) (sv : zA) (ff : zA) {v : Int64} {nf' : zA} (C : zC G cL_print 4 RL (some .long) 5) (F : zF G (some (.long v)) (FW (gk G) ad nr nf' tr tf co pf hi sl sv ff)) : ∀ (n : Nat) (l1 : Int64) (l3 : Int32) (nf : zA), B_L_print_6 n l1 l3 nr nf pf ff = some (v, nf') → zV G 4 6 [(0, .ref (ad 0)), (1, .long l1), (3, .int l3)] [] (FW (gk G) ad nr nf tr tf co pf hi sl sv ff) := by
  intro n
  induction n with
  | zero => intro _ _ _ hf; rw [B_L_print_6] at hf; cases hf
  | succ n ih =>
    intro l1 l3 nf hf
    rw [B_L_print_6] at hf
    refine z_iload_n 2 C dL_print_6 rfl ?_
    refine z_bipush (v := 12) C dL_print_7 kb_12 ?_
    refine z_icmp_ge (tgt := 31) C dL_print_9 rfl (fun hc => ?_) (fun hc => ?_)
    · have hf := ifp hc hf
      refine z_iconst (v := 0) C dL_print_31 kc_0 ?_
      refine z_istore_n (ls' := [(3, _), (0, _), (1, _)]) C dL_print_32 (by decide) rfl ?_
      refine z_sub (ls' := [(0, .ref (ad 0)), (1, .long l1), (3, .int 0)]) [1, 2, 0] rfl ?_
      exact tb_L_print_33 ad nr tr tf co pf hi sl sv ff C F _ _ _ _ hf
    have hf := ifn hc hf
    refine z_ldc2 C dL_print_12 tw_250 ?_
    refine z_lload_n 1 C dL_print_15 rfl ?_
    refine z_lmul C dL_print_16 ?_
    refine z_aload_n 0 C dL_print_17 rfl ?_
    refine z_iload_n 2 C dL_print_18 rfl ?_
    obtain ⟨v1, nf2, e3, hf⟩ := b2_e hf
    refine z_callVs (st := [.long (31 * l1)]) C dL_print_19 w_L_38 (c_X2_count ad l3 nr nf tr tf co pf hi sl sv ff e3) (by decide) (FWf _ _ _ _ _ _ _ _ _ _ _ _ _ _ _ _ _ _ _ _ _ _) rfl rfl rfl rfl (Nat.le_of_ble_eq_true rfl) ?_
    refine z_i2l C dL_print_22 ?_
    refine z_ladd C dL_print_23 ?_
    obtain ⟨x4, e5, hf⟩ := nm_g hf
    refine z_topl e5 ?_
    refine z_lstore_n (ls' := [(1, _), (0, _), (3, _)]) C dL_print_24 (by decide) rfl ?_
    obtain ⟨x6, e7, hf⟩ := nm_g hf
    refine z_iinc (ls' := [(3, _), (1, _), (0, _)]) 2 C dL_print_25 rfl kc_1 e7 (by decide) rfl ?_
    refine z_goto (tgt := 6) C dL_print_28 rfl ?_
    refine z_sub (ls' := [(0, .ref (ad 0)), (1, .long x4), (3, .int x6)]) [2, 1, 0] rfl ?_
    exact ih _ _ _ hf
set_option maxHeartbeats 400000 in
set_option maxRecDepth 100000 in
theorem c_L_print {l : Launch} {D : va_G} {cs : ClassId × ClassId × ClassId} (ad : Nat → Nat)  (nr : zA) (nf : zA) (tr : zA) (tf : zA) (co : zA) (pf : zA) (hi : Nat → zA) (sl : Nat → zA) (sv : zA) (ff : zA) {v : Int64} {nf' : zA} (e : f_L_print nr nf pf ff = some (v, nf')) : zMl l D cs yL_print cL_print 4 (some .long) 5 [.ref (ad 0)] (FW cs ad nr nf tr tf co pf hi sl sv ff) v (FW cs ad nr nf' tr tf co pf hi sl sv ff) := by
  refine zMl_of (show plainName RL = true by decide +kernel) (Nat.le_of_ble_eq_true rfl) ?_
  rintro G rfl rfl rfl C F
  have hf := e
  clear e
  unfold f_L_print at hf
  show zV G 4 0 [(0, .ref (ad 0))] [] (FW (gk G) ad nr nf tr tf co pf hi sl sv ff)
  refine z_ldc2 C dL_print_0 tw_249 ?_
  refine z_lstore_n (ls' := [(1, _), (0, _)]) C dL_print_3 (by decide) rfl ?_
  refine z_iconst (v := 0) C dL_print_4 kc_0 ?_
  refine z_istore_n (ls' := [(3, _), (1, _), (0, _)]) C dL_print_5 (by decide) rfl ?_
  refine z_sub (ls' := [(0, .ref (ad 0)), (1, .long 9), (3, .int 0)]) [2, 1, 0] rfl ?_
  exact tb_L_print_6 ad nr tr tf co pf hi sl sv ff C F _ _ _ _ hf
set_option maxHeartbeats 400000 in
set_option maxRecDepth 100000 in
theorem tb_L_goes_279 {G : GT} (ad : Nat → Nat) (co : zA) (pf : zA) {v : Int32} {nr' : zA} {nf' : zA} {tr' : zA} {tf' : zA} {hi' : Nat → zA} {sl' : Nat → zA} {sv' : zA} {ff' : zA} (C : zC G cL_goes 8 RL (some .boolean) 6) (F : zF G (some (.int v)) (FW (gk G) ad nr' nf' tr' tf' co pf hi' sl' sv' ff')) : ∀ (s0 : Int32) (l3 : Int64) (nr : zA) (nf : zA) (tr : zA) (tf : zA) (hi : Nat → zA) (sl : Nat → zA) (sv : zA) (ff : zA), B_L_goes_279 s0 l3 nr nf tr tf pf hi sl sv ff = some (v, nr', nf', tr', tf', hi', sl', sv', ff') → zV G 8 279 [(0, .ref (ad 0)), (3, .long l3)] [.int s0] (FW (gk G) ad nr nf tr tf co pf hi sl sv ff) := by
  intro s0 l3 nr nf tr tf hi sl sv ff hf
  unfold B_L_goes_279 at hf
  refine z_istore (ls' := [(6, _), (0, _), (3, _)]) C dL_goes_279 (by decide) rfl ?_
  refine z_iload 0 C dL_goes_281 rfl ?_
  refine z_if_eq (tgt := 307) C dL_goes_283 rfl (fun hc => ?_) (fun hc => ?_)
  · have hf := ifp hc hf
    refine z_iconst (v := 0) C dL_goes_307 kc_0 ?_
    cases hf
    exact z_zret C dL_goes_308 rfl F
  have hf := ifn hc hf
  refine z_aload_n 1 C dL_goes_286 rfl ?_
  refine z_iconst (v := 1) C dL_goes_287 kc_1 ?_
  obtain ⟨v1, nr2, hi3, ff4, e5, hf⟩ := b4_e hf
  refine z_callVs (st := []) C dL_goes_288 w_L_75 (c_X2_restore ad 1 nr nf tr tf co pf hi sl sv ff e5) (by decide) (FWf _ _ _ _ _ _ _ _ _ _ _ _ _ _ _ _ _ _ _ _ _ _) rfl rfl rfl rfl (Nat.le_of_ble_eq_true rfl) ?_
  refine z_if_lt (tgt := 307) C dL_goes_291 rfl (fun hc => ?_) (fun hc => ?_)
  · have hf := ifp hc hf
    refine z_iconst (v := 0) C dL_goes_307 kc_0 ?_
    cases hf
    exact z_zret C dL_goes_308 rfl F
  have hf := ifn hc hf
  refine z_aload_n 1 C dL_goes_294 rfl ?_
  obtain ⟨v6, nf7, e8, hf⟩ := b2_e hf
  refine z_callSsl (st := []) C dL_goes_295 w_L_68 (c_L_print ad nr2 nf tr tf co pf hi3 sl sv ff4 e8) (by decide) (FWf _ _ _ _ _ _ _ _ _ _ _ _ _ _ _ _ _ _ _ _ _ _) rfl rfl (Nat.le_of_ble_eq_true rfl) ?_
  refine z_lload_n 2 C dL_goes_298 rfl ?_
  refine z_lcmp C dL_goes_299 ?_
  refine z_if_ne (tgt := 307) C dL_goes_300 rfl (fun hc => ?_) (fun hc => ?_)
  · have hf := ifn hc hf
    refine z_iconst (v := 0) C dL_goes_307 kc_0 ?_
    cases hf
    exact z_zret C dL_goes_308 rfl F
  have hf := ifp hc hf
  refine z_iconst (v := 1) C dL_goes_303 kc_1 ?_
  refine z_goto (tgt := 308) C dL_goes_304 rfl ?_
  cases hf
  exact z_zret C dL_goes_308 rfl F
set_option maxHeartbeats 400000 in
set_option maxRecDepth 100000 in
theorem tb_L_goes_278 {G : GT} (ad : Nat → Nat) (co : zA) (pf : zA) {v : Int32} {nr' : zA} {nf' : zA} {tr' : zA} {tf' : zA} {hi' : Nat → zA} {sl' : Nat → zA} {sv' : zA} {ff' : zA} (C : zC G cL_goes 8 RL (some .boolean) 6) (F : zF G (some (.int v)) (FW (gk G) ad nr' nf' tr' tf' co pf hi' sl' sv' ff')) : ∀ (l3 : Int64) (nr : zA) (nf : zA) (tr : zA) (tf : zA) (hi : Nat → zA) (sl : Nat → zA) (sv : zA) (ff : zA), B_L_goes_278 l3 nr nf tr tf pf hi sl sv ff = some (v, nr', nf', tr', tf', hi', sl', sv', ff') → zV G 8 278 [(0, .ref (ad 0)), (3, .long l3)] [] (FW (gk G) ad nr nf tr tf co pf hi sl sv ff) := by
  intro l3 nr nf tr tf hi sl sv ff hf
  unfold B_L_goes_278 at hf
  refine z_iconst (v := 0) C dL_goes_278 kc_0 ?_
  exact tb_L_goes_279 ad co pf C F _ _ _ _ _ _ _ _ _ _ hf
set_option maxHeartbeats 400000 in
set_option maxRecDepth 100000 in
theorem tb_L_goes_239 {G : GT} (ad : Nat → Nat) (co : zA) (pf : zA) {v : Int32} {nr' : zA} {nf' : zA} {tr' : zA} {tf' : zA} {hi' : Nat → zA} {sl' : Nat → zA} {sv' : zA} {ff' : zA} (C : zC G cL_goes 8 RL (some .boolean) 6) (F : zF G (some (.int v)) (FW (gk G) ad nr' nf' tr' tf' co pf hi' sl' sv' ff')) : ∀ (s0 : Int32) (s1 : Int32) (l2 : Int32) (l3 : Int64) (nr : zA) (nf : zA) (tr : zA) (tf : zA) (hi : Nat → zA) (sl : Nat → zA) (sv : zA) (ff : zA), B_L_goes_239 s0 s1 l2 l3 nr nf tr tf pf hi sl sv ff = some (v, nr', nf', tr', tf', hi', sl', sv', ff') → zV G 8 239 [(0, .ref (ad 0)), (2, .int l2), (3, .long l3)] [.int s0, .int s1] (FW (gk G) ad nr nf tr tf co pf hi sl sv ff) := by
  intro s0 s1 l2 l3 nr nf tr tf hi sl sv ff hf
  unfold B_L_goes_239 at hf
  refine z_icmp_ne (tgt := 278) C dL_goes_239 rfl (fun hc => ?_) (fun hc => ?_)
  · have hf := ifn hc hf
    refine z_sub (ls' := [(0, .ref (ad 0)), (3, .long l3)]) [0, 2] rfl ?_
    exact tb_L_goes_278 ad co pf C F _ _ _ _ _ _ _ _ _ hf
  have hf := ifp hc hf
  refine z_aload_n 0 C dL_goes_242 rfl ?_
  refine z_iload_n 1 C dL_goes_243 rfl ?_
  refine z_bipush (v := 10) C dL_goes_244 kb_10 ?_
  obtain ⟨v1, nf2, e3, hf⟩ := b2_e hf
  refine z_callVs (st := []) C dL_goes_246 w_L_41 (c_X2_of ad l2 10 nr nf tr tf co pf hi sl sv ff e3) (by decide) (FWf _ _ _ _ _ _ _ _ _ _ _ _ _ _ _ _ _ _ _ _ _ _) rfl rfl rfl rfl (Nat.le_of_ble_eq_true rfl) ?_
  refine z_aload_n 0 C dL_goes_249 rfl ?_
  refine z_bipush (v := 9) C dL_goes_250 kb_9 ?_
  obtain ⟨v4, nf5, e6, hf⟩ := b2_e hf
  refine z_callVs (st := [.int v1]) C dL_goes_252 w_L_38 (c_X2_count ad 9 nr nf2 tr tf co pf hi sl sv ff e6) (by decide) (FWf _ _ _ _ _ _ _ _ _ _ _ _ _ _ _ _ _ _ _ _ _ _) rfl rfl rfl rfl (Nat.le_of_ble_eq_true rfl) ?_
  refine z_icmp_ne (tgt := 278) C dL_goes_255 rfl (fun hc => ?_) (fun hc => ?_)
  · have hf := ifn hc hf
    refine z_sub (ls' := [(0, .ref (ad 0)), (3, .long l3)]) [0, 2] rfl ?_
    exact tb_L_goes_278 ad co pf C F _ _ _ _ _ _ _ _ _ hf
  have hf := ifp hc hf
  refine z_aload_n 0 C dL_goes_258 rfl ?_
  refine z_iload_n 1 C dL_goes_259 rfl ?_
  refine z_iconst (v := 5) C dL_goes_260 kc_5 ?_
  obtain ⟨v7, nf8, e9, hf⟩ := b2_e hf
  refine z_callVs (st := []) C dL_goes_261 w_L_41 (c_X2_of ad l2 5 nr nf5 tr tf co pf hi sl sv ff e9) (by decide) (FWf _ _ _ _ _ _ _ _ _ _ _ _ _ _ _ _ _ _ _ _ _ _) rfl rfl rfl rfl (Nat.le_of_ble_eq_true rfl) ?_
  refine z_aload_n 0 C dL_goes_264 rfl ?_
  refine z_iload_n 1 C dL_goes_265 rfl ?_
  refine z_bipush (v := 6) C dL_goes_266 kb_6 ?_
  obtain ⟨v10, nf11, e12, hf⟩ := b2_e hf
  refine z_callVs (st := [.int v7]) C dL_goes_268 w_L_41 (c_X2_of ad l2 6 nr nf8 tr tf co pf hi sl sv ff e12) (by decide) (FWf _ _ _ _ _ _ _ _ _ _ _ _ _ _ _ _ _ _ _ _ _ _) rfl rfl rfl rfl (Nat.le_of_ble_eq_true rfl) ?_
  refine z_icmp_lt (tgt := 278) C dL_goes_271 rfl (fun hc => ?_) (fun hc => ?_)
  · have hf := ifp hc hf
    refine z_sub (ls' := [(0, .ref (ad 0)), (3, .long l3)]) [0, 2] rfl ?_
    exact tb_L_goes_278 ad co pf C F _ _ _ _ _ _ _ _ _ hf
  have hf := ifn hc hf
  refine z_iconst (v := 1) C dL_goes_274 kc_1 ?_
  refine z_goto (tgt := 279) C dL_goes_275 rfl ?_
  refine z_sub (ls' := [(0, .ref (ad 0)), (3, .long l3)]) [0, 2] rfl ?_
  exact tb_L_goes_279 ad co pf C F _ _ _ _ _ _ _ _ _ _ hf
set_option maxHeartbeats 400000 in
set_option maxRecDepth 100000 in
theorem tb_L_goes_161 {G : GT} (ad : Nat → Nat) (co : zA) (pf : zA) {v : Int32} {nr' : zA} {nf' : zA} {tr' : zA} {tf' : zA} {hi' : Nat → zA} {sl' : Nat → zA} {sv' : zA} {ff' : zA} (C : zC G cL_goes 8 RL (some .boolean) 6) (F : zF G (some (.int v)) (FW (gk G) ad nr' nf' tr' tf' co pf hi' sl' sv' ff')) : ∀ (s0 : Int32) (l2 : Int32) (l3 : Int64) (l5 : Int32) (l6 : Int32) (nr : zA) (nf : zA) (tr : zA) (tf : zA) (hi : Nat → zA) (sl : Nat → zA) (sv : zA) (ff : zA), B_L_goes_161 s0 l2 l3 l5 l6 nr nf tr tf pf hi sl sv ff = some (v, nr', nf', tr', tf', hi', sl', sv', ff') → zV G 8 161 [(0, .ref (ad 0)), (2, .int l2), (3, .long l3), (5, .int l5), (6, .int l6)] [.int s0] (FW (gk G) ad nr nf tr tf co pf hi sl sv ff) := by
  intro s0 l2 l3 l5 l6 nr nf tr tf hi sl sv ff hf
  unfold B_L_goes_161 at hf
  refine z_istore (ls' := [(7, _), (0, _), (2, _), (3, _), (5, _), (6, _)]) C dL_goes_161 (by decide) rfl ?_
  refine z_iload 5 C dL_goes_163 rfl ?_
  refine z_if_eq (tgt := 278) C dL_goes_165 rfl (fun hc => ?_) (fun hc => ?_)
  · have hf := ifp hc hf
    refine z_sub (ls' := [(0, .ref (ad 0)), (3, .long l3)]) [1, 3] rfl ?_
    exact tb_L_goes_278 ad co pf C F _ _ _ _ _ _ _ _ _ hf
  have hf := ifn hc hf
  refine z_aload_n 1 C dL_goes_168 rfl ?_
  refine z_bipush (v := 7) C dL_goes_169 kb_7 ?_
  obtain ⟨v1, nf2, e3, hf⟩ := b2_e hf
  refine z_callVs (st := []) C dL_goes_171 w_L_38 (c_X2_count ad 7 nr nf tr tf co pf hi sl sv ff e3) (by decide) (FWf _ _ _ _ _ _ _ _ _ _ _ _ _ _ _ _ _ _ _ _ _ _) rfl rfl rfl rfl (Nat.le_of_ble_eq_true rfl) ?_
  refine z_iload 4 C dL_goes_174 rfl ?_
  refine z_icmp_ne (tgt := 278) C dL_goes_176 rfl (fun hc => ?_) (fun hc => ?_)
  · have hf := ifn hc hf
    refine z_sub (ls' := [(0, .ref (ad 0)), (3, .long l3)]) [1, 3] rfl ?_
    exact tb_L_goes_278 ad co pf C F _ _ _ _ _ _ _ _ _ hf
  have hf := ifp hc hf
  refine z_aload_n 1 C dL_goes_179 rfl ?_
  refine z_iconst (v := 0) C dL_goes_180 kc_0 ?_
  obtain ⟨v4, tr5, tf6, e7, hf⟩ := b3_e hf
  refine z_callVs (st := []) C dL_goes_181 w_L_65 (c_X2_next ad 0 nr nf2 tr tf co pf hi sl sv ff e7) (by decide) (FWf _ _ _ _ _ _ _ _ _ _ _ _ _ _ _ _ _ _ _ _ _ _) rfl rfl rfl rfl (Nat.le_of_ble_eq_true rfl) ?_
  refine z_iconst (v := 1) C dL_goes_184 kc_1 ?_
  refine z_icmp_ne (tgt := 278) C dL_goes_185 rfl (fun hc => ?_) (fun hc => ?_)
  · have hf := ifn hc hf
    refine z_sub (ls' := [(0, .ref (ad 0)), (3, .long l3)]) [1, 3] rfl ?_
    exact tb_L_goes_278 ad co pf C F _ _ _ _ _ _ _ _ _ hf
  have hf := ifp hc hf
  refine z_aload_n 1 C dL_goes_188 rfl ?_
  refine z_iconst (v := 1) C dL_goes_189 kc_1 ?_
  obtain ⟨v8, tr9, tf10, e11, hf⟩ := b3_e hf
  refine z_callVs (st := []) C dL_goes_190 w_L_65 (c_X2_next ad 1 nr nf2 tr5 tf6 co pf hi sl sv ff e11) (by decide) (FWf _ _ _ _ _ _ _ _ _ _ _ _ _ _ _ _ _ _ _ _ _ _) rfl rfl rfl rfl (Nat.le_of_ble_eq_true rfl) ?_
  refine z_iload_n 2 C dL_goes_193 rfl ?_
  refine z_icmp_ne (tgt := 278) C dL_goes_194 rfl (fun hc => ?_) (fun hc => ?_)
  · have hf := ifn hc hf
    refine z_sub (ls' := [(0, .ref (ad 0)), (3, .long l3)]) [1, 3] rfl ?_
    exact tb_L_goes_278 ad co pf C F _ _ _ _ _ _ _ _ _ hf
  have hf := ifp hc hf
  refine z_aload_n 1 C dL_goes_197 rfl ?_
  refine z_iconst (v := 1) C dL_goes_198 kc_1 ?_
  obtain ⟨v12, nr13, nf14, hi15, ff16, e17, hf⟩ := b5_e hf
  refine z_callVs (st := []) C dL_goes_199 w_L_35 (c_X2_pass ad 1 nr nf2 tr9 tf10 co pf hi sl sv ff e17) (by decide) (FWf _ _ _ _ _ _ _ _ _ _ _ _ _ _ _ _ _ _ _ _ _ _) rfl rfl rfl rfl (Nat.le_of_ble_eq_true rfl) ?_
  refine z_if_le (tgt := 278) C dL_goes_202 rfl (fun hc => ?_) (fun hc => ?_)
  · have hf := ifp hc hf
    refine z_sub (ls' := [(0, .ref (ad 0)), (3, .long l3)]) [1, 3] rfl ?_
    exact tb_L_goes_278 ad co pf C F _ _ _ _ _ _ _ _ _ hf
  have hf := ifn hc hf
  refine z_aload_n 1 C dL_goes_205 rfl ?_
  refine z_iload_n 2 C dL_goes_206 rfl ?_
  refine z_bipush (v := 11) C dL_goes_207 kb_11 ?_
  obtain ⟨v18, nf19, e20, hf⟩ := b2_e hf
  refine z_callVs (st := []) C dL_goes_209 w_L_41 (c_X2_of ad l2 11 nr13 nf14 tr9 tf10 co pf hi15 sl sv ff16 e20) (by decide) (FWf _ _ _ _ _ _ _ _ _ _ _ _ _ _ _ _ _ _ _ _ _ _) rfl rfl rfl rfl (Nat.le_of_ble_eq_true rfl) ?_
  refine z_iload 0 C dL_goes_212 rfl ?_
  refine z_iconst (v := 1) C dL_goes_214 kc_1 ?_
  refine z_iadd C dL_goes_215 ?_
  refine z_icmp_ne (tgt := 278) C dL_goes_216 rfl (fun hc => ?_) (fun hc => ?_)
  · have hf := ifn hc hf
    refine z_sub (ls' := [(0, .ref (ad 0)), (3, .long l3)]) [1, 3] rfl ?_
    exact tb_L_goes_278 ad co pf C F _ _ _ _ _ _ _ _ _ hf
  have hf := ifp hc hf
  refine z_aload_n 1 C dL_goes_219 rfl ?_
  refine z_iload_n 2 C dL_goes_220 rfl ?_
  refine z_iconst (v := 3) C dL_goes_221 kc_3 ?_
  obtain ⟨v21, nf22, e23, hf⟩ := b2_e hf
  refine z_callVs (st := []) C dL_goes_222 w_L_41 (c_X2_of ad l2 3 nr13 nf19 tr9 tf10 co pf hi15 sl sv ff16 e23) (by decide) (FWf _ _ _ _ _ _ _ _ _ _ _ _ _ _ _ _ _ _ _ _ _ _) rfl rfl rfl rfl (Nat.le_of_ble_eq_true rfl) ?_
  refine z_aload_n 1 C dL_goes_225 rfl ?_
  refine z_bipush (v := 9) C dL_goes_226 kb_9 ?_
  obtain ⟨v24, nf25, e26, hf⟩ := b2_e hf
  refine z_callVs (st := [.int v21]) C dL_goes_228 w_L_38 (c_X2_count ad 9 nr13 nf22 tr9 tf10 co pf hi15 sl sv ff16 e26) (by decide) (FWf _ _ _ _ _ _ _ _ _ _ _ _ _ _ _ _ _ _ _ _ _ _) rfl rfl rfl rfl (Nat.le_of_ble_eq_true rfl) ?_
  refine z_if_ne (tgt := 238) C dL_goes_231 rfl (fun hc => ?_) (fun hc => ?_)
  · have hf := ifn hc hf
    refine z_iconst (v := 1) C dL_goes_238 kc_1 ?_
    refine z_sub (ls' := [(0, .ref (ad 0)), (2, .int l2), (3, .long l3)]) [1, 2, 3] rfl ?_
    exact tb_L_goes_239 ad co pf C F _ _ _ _ _ _ _ _ _ _ _ _ hf
  have hf := ifp hc hf
  refine z_iconst (v := 2) C dL_goes_234 kc_2 ?_
  refine z_goto (tgt := 239) C dL_goes_235 rfl ?_
  refine z_sub (ls' := [(0, .ref (ad 0)), (2, .int l2), (3, .long l3)]) [1, 2, 3] rfl ?_
  exact tb_L_goes_239 ad co pf C F _ _ _ _ _ _ _ _ _ _ _ _ hf
set_option maxHeartbeats 400000 in
set_option maxRecDepth 100000 in
theorem tb_L_goes_146 {G : GT} (ad : Nat → Nat) (co : zA) (pf : zA) {v : Int32} {nr' : zA} {nf' : zA} {tr' : zA} {tf' : zA} {hi' : Nat → zA} {sl' : Nat → zA} {sv' : zA} {ff' : zA} (C : zC G cL_goes 8 RL (some .boolean) 6) (F : zF G (some (.int v)) (FW (gk G) ad nr' nf' tr' tf' co pf hi' sl' sv' ff')) : ∀ (l2 : Int32) (l3 : Int64) (l5 : Int32) (l6 : Int32) (nr : zA) (nf : zA) (tr : zA) (tf : zA) (hi : Nat → zA) (sl : Nat → zA) (sv : zA) (ff : zA), B_L_goes_146 l2 l3 l5 l6 nr nf tr tf pf hi sl sv ff = some (v, nr', nf', tr', tf', hi', sl', sv', ff') → zV G 8 146 [(0, .ref (ad 0)), (2, .int l2), (3, .long l3), (5, .int l5), (6, .int l6)] [] (FW (gk G) ad nr nf tr tf co pf hi sl sv ff) := by
  intro l2 l3 l5 l6 nr nf tr tf hi sl sv ff hf
  unfold B_L_goes_146 at hf
  refine z_iload_n 1 C dL_goes_146 rfl ?_
  refine z_if_ge (tgt := 154) C dL_goes_147 rfl (fun hc => ?_) (fun hc => ?_)
  · have hf := ifp hc hf
    refine z_aload_n 0 C dL_goes_154 rfl ?_
    refine z_iload_n 1 C dL_goes_155 rfl ?_
    refine z_bipush (v := 11) C dL_goes_156 kb_11 ?_
    obtain ⟨v1, nf2, e3, hf⟩ := b2_e hf
    refine z_callVs (st := []) C dL_goes_158 w_L_41 (c_X2_of ad l2 11 nr nf tr tf co pf hi sl sv ff e3) (by decide) (FWf _ _ _ _ _ _ _ _ _ _ _ _ _ _ _ _ _ _ _ _ _ _) rfl rfl rfl rfl (Nat.le_of_ble_eq_true rfl) ?_
    exact tb_L_goes_161 ad co pf C F _ _ _ _ _ _ _ _ _ _ _ _ _ hf
  have hf := ifn hc hf
  refine z_iconst (v := 0) C dL_goes_150 kc_0 ?_
  refine z_goto (tgt := 161) C dL_goes_151 rfl ?_
  exact tb_L_goes_161 ad co pf C F _ _ _ _ _ _ _ _ _ _ _ _ _ hf
set_option maxHeartbeats 400000 in
set_option maxRecDepth 100000 in
theorem tb_L_goes_122 {G : GT} (ad : Nat → Nat) (co : zA) (pf : zA) {v : Int32} {nr' : zA} {nf' : zA} {tr' : zA} {tf' : zA} {hi' : Nat → zA} {sl' : Nat → zA} {sv' : zA} {ff' : zA} (C : zC G cL_goes 8 RL (some .boolean) 6) (F : zF G (some (.int v)) (FW (gk G) ad nr' nf' tr' tf' co pf hi' sl' sv' ff')) (K : Int32 → Int64 → Int32 → Int32 → Int32 → zA → zA → zA → zA → zA → (Nat → zA) → (Nat → zA) → zA → zA → Option (Int32 × zA × zA × zA × zA × (Nat → zA) × (Nat → zA) × zA × zA)) (hK : ∀ (l2 : Int32) (l3 : Int64) (l5 : Int32) (l6 : Int32) (l7 : Int32) (nr : zA) (nf : zA) (tr : zA) (tf : zA) (hi : Nat → zA) (sl : Nat → zA) (sv : zA) (ff : zA), K l2 l3 l5 l6 l7 nr nf tr tf pf hi sl sv ff = some (v, nr', nf', tr', tf', hi', sl', sv', ff') → zV G 8 86 [(0, .ref (ad 0)), (2, .int l2), (3, .long l3), (5, .int l5), (6, .int l6), (7, .int l7)] [] (FW (gk G) ad nr nf tr tf co pf hi sl sv ff)) : ∀ (s0 : Int32) (l2 : Int32) (l3 : Int64) (l5 : Int32) (l7 : Int32) (nr : zA) (nf : zA) (tr : zA) (tf : zA) (hi : Nat → zA) (sl : Nat → zA) (sv : zA) (ff : zA), B_L_goes_122 K s0 l2 l3 l5 l7 nr nf tr tf pf hi sl sv ff = some (v, nr', nf', tr', tf', hi', sl', sv', ff') → zV G 8 122 [(0, .ref (ad 0)), (2, .int l2), (3, .long l3), (5, .int l5), (7, .int l7)] [.int s0] (FW (gk G) ad nr nf tr tf co pf hi sl sv ff) := by
  intro s0 l2 l3 l5 l7 nr nf tr tf hi sl sv ff hf
  unfold B_L_goes_122 at hf
  refine z_istore (ls' := [(6, _), (0, _), (2, _), (3, _), (5, _), (7, _)]) C dL_goes_122 (by decide) rfl ?_
  refine z_iload 5 C dL_goes_124 rfl ?_
  refine z_iload 5 C dL_goes_126 rfl ?_
  refine z_bipush (v := 99) C dL_goes_128 kb_99 ?_
  refine z_icmp_le (tgt := 138) C dL_goes_130 rfl (fun hc => ?_) (fun hc => ?_)
  · have hf := ifp hc hf
    refine z_iload 5 C dL_goes_138 rfl ?_
    refine z_isub C dL_goes_140 ?_
    obtain ⟨x1, e2, hf⟩ := nm_g hf
    refine z_top e2 ?_
    refine z_istore (ls' := [(7, _), (6, _), (0, _), (2, _), (3, _), (5, _)]) C dL_goes_141 (by decide) rfl ?_
    refine z_goto (tgt := 86) C dL_goes_143 rfl ?_
    refine z_sub (ls' := [(0, .ref (ad 0)), (2, .int l2), (3, .long l3), (5, .int l5), (6, .int s0), (7, .int x1)]) [2, 3, 4, 5, 1, 0] rfl ?_
    exact hK _ _ _ _ _ _ _ _ _ _ _ _ _ hf
  have hf := ifn hc hf
  refine z_bipush (v := 99) C dL_goes_133 kb_99 ?_
  refine z_goto (tgt := 140) C dL_goes_135 rfl ?_
  refine z_isub C dL_goes_140 ?_
  obtain ⟨x3, e4, hf⟩ := nm_g hf
  refine z_top e4 ?_
  refine z_istore (ls' := [(7, _), (6, _), (0, _), (2, _), (3, _), (5, _)]) C dL_goes_141 (by decide) rfl ?_
  refine z_goto (tgt := 86) C dL_goes_143 rfl ?_
  refine z_sub (ls' := [(0, .ref (ad 0)), (2, .int l2), (3, .long l3), (5, .int l5), (6, .int s0), (7, .int x3)]) [2, 3, 4, 5, 1, 0] rfl ?_
  exact hK _ _ _ _ _ _ _ _ _ _ _ _ _ hf
set_option maxHeartbeats 400000 in
set_option maxRecDepth 100000 in
theorem tb_L_goes_111 {G : GT} (ad : Nat → Nat) (co : zA) (pf : zA) {v : Int32} {nr' : zA} {nf' : zA} {tr' : zA} {tf' : zA} {hi' : Nat → zA} {sl' : Nat → zA} {sv' : zA} {ff' : zA} (C : zC G cL_goes 8 RL (some .boolean) 6) (F : zF G (some (.int v)) (FW (gk G) ad nr' nf' tr' tf' co pf hi' sl' sv' ff')) (K : Int32 → Int64 → Int32 → Int32 → Int32 → zA → zA → zA → zA → zA → (Nat → zA) → (Nat → zA) → zA → zA → Option (Int32 × zA × zA × zA × zA × (Nat → zA) × (Nat → zA) × zA × zA)) (hK : ∀ (l2 : Int32) (l3 : Int64) (l5 : Int32) (l6 : Int32) (l7 : Int32) (nr : zA) (nf : zA) (tr : zA) (tf : zA) (hi : Nat → zA) (sl : Nat → zA) (sv : zA) (ff : zA), K l2 l3 l5 l6 l7 nr nf tr tf pf hi sl sv ff = some (v, nr', nf', tr', tf', hi', sl', sv', ff') → zV G 8 86 [(0, .ref (ad 0)), (2, .int l2), (3, .long l3), (5, .int l5), (6, .int l6), (7, .int l7)] [] (FW (gk G) ad nr nf tr tf co pf hi sl sv ff)) : ∀ (s0 : Int32) (l2 : Int32) (l3 : Int64) (l5 : Int32) (l7 : Int32) (nr : zA) (nf : zA) (tr : zA) (tf : zA) (hi : Nat → zA) (sl : Nat → zA) (sv : zA) (ff : zA), B_L_goes_111 K s0 l2 l3 l5 l7 nr nf tr tf pf hi sl sv ff = some (v, nr', nf', tr', tf', hi', sl', sv', ff') → zV G 8 111 [(0, .ref (ad 0)), (2, .int l2), (3, .long l3), (5, .int l5), (7, .int l7)] [.int s0, .ref (ad 0)] (FW (gk G) ad nr nf tr tf co pf hi sl sv ff) := by
  intro s0 l2 l3 l5 l7 nr nf tr tf hi sl sv ff hf
  unfold B_L_goes_111 at hf
  obtain ⟨v1, nr2, nf3, hi4, ff5, e6, hf⟩ := b5_e hf
  refine z_callVs (st := []) C dL_goes_111 w_L_35 (c_X2_pass ad s0 nr nf tr tf co pf hi sl sv ff e6) (by decide) (FWf _ _ _ _ _ _ _ _ _ _ _ _ _ _ _ _ _ _ _ _ _ _) rfl rfl rfl rfl (Nat.le_of_ble_eq_true rfl) ?_
  refine z_if_ne (tgt := 121) C dL_goes_114 rfl (fun hc => ?_) (fun hc => ?_)
  · have hf := ifn hc hf
    refine z_iconst (v := 0) C dL_goes_121 kc_0 ?_
    exact tb_L_goes_122 ad co pf C F K hK _ _ _ _ _ _ _ _ _ _ _ _ _ hf
  have hf := ifp hc hf
  refine z_iconst (v := 1) C dL_goes_117 kc_1 ?_
  refine z_goto (tgt := 122) C dL_goes_118 rfl ?_
  exact tb_L_goes_122 ad co pf C F K hK _ _ _ _ _ _ _ _ _ _ _ _ _ hf
set_option maxHeartbeats 400000 in
set_option maxRecDepth 100000 in
theorem tb_L_goes_86 {G : GT} (ad : Nat → Nat) (co : zA) (pf : zA) {v : Int32} {nr' : zA} {nf' : zA} {tr' : zA} {tf' : zA} {hi' : Nat → zA} {sl' : Nat → zA} {sv' : zA} {ff' : zA} (C : zC G cL_goes 8 RL (some .boolean) 6) (F : zF G (some (.int v)) (FW (gk G) ad nr' nf' tr' tf' co pf hi' sl' sv' ff')) : ∀ (n : Nat) (l2 : Int32) (l3 : Int64) (l5 : Int32) (l6 : Int32) (l7 : Int32) (nr : zA) (nf : zA) (tr : zA) (tf : zA) (hi : Nat → zA) (sl : Nat → zA) (sv : zA) (ff : zA), B_L_goes_86 n l2 l3 l5 l6 l7 nr nf tr tf pf hi sl sv ff = some (v, nr', nf', tr', tf', hi', sl', sv', ff') → zV G 8 86 [(0, .ref (ad 0)), (2, .int l2), (3, .long l3), (5, .int l5), (6, .int l6), (7, .int l7)] [] (FW (gk G) ad nr nf tr tf co pf hi sl sv ff) := by
  intro n
  induction n with
  | zero => intro _ _ _ _ _ _ _ _ _ _ _ _ _ hf; rw [B_L_goes_86] at hf; cases hf
  | succ n ih =>
    intro l2 l3 l5 l6 l7 nr nf tr tf hi sl sv ff hf
    rw [B_L_goes_86] at hf
    refine z_iload 5 C dL_goes_86 rfl ?_
    refine z_if_le (tgt := 146) C dL_goes_88 rfl (fun hc => ?_) (fun hc => ?_)
    · have hf := ifp hc hf
      refine z_sub (ls' := [(0, .ref (ad 0)), (2, .int l2), (3, .long l3), (5, .int l5), (6, .int l6)]) [0, 1, 2, 3, 4] rfl ?_
      exact tb_L_goes_146 ad co pf C F _ _ _ _ _ _ _ _ _ _ _ _ hf
    have hf := ifn hc hf
    refine z_iload 4 C dL_goes_91 rfl ?_
    refine z_if_eq (tgt := 146) C dL_goes_93 rfl (fun hc => ?_) (fun hc => ?_)
    · have hf := ifp hc hf
      refine z_sub (ls' := [(0, .ref (ad 0)), (2, .int l2), (3, .long l3), (5, .int l5), (6, .int l6)]) [0, 1, 2, 3, 4] rfl ?_
      exact tb_L_goes_146 ad co pf C F _ _ _ _ _ _ _ _ _ _ _ _ hf
    have hf := ifn hc hf
    refine z_aload_n 0 C dL_goes_96 rfl ?_
    refine z_iload 5 C dL_goes_97 rfl ?_
    refine z_bipush (v := 99) C dL_goes_99 kb_99 ?_
    refine z_icmp_le (tgt := 109) C dL_goes_101 rfl (fun hc => ?_) (fun hc => ?_)
    · have hf := ifp hc hf
      refine z_iload 5 C dL_goes_109 rfl ?_
      refine z_sub (ls' := [(0, .ref (ad 0)), (2, .int l2), (3, .long l3), (5, .int l5), (7, .int l7)]) [0, 1, 2, 3, 5] rfl ?_
      exact tb_L_goes_111 ad co pf C F _ ih _ _ _ _ _ _ _ _ _ _ _ _ _ hf
    have hf := ifn hc hf
    refine z_bipush (v := 99) C dL_goes_104 kb_99 ?_
    refine z_goto (tgt := 111) C dL_goes_106 rfl ?_
    refine z_sub (ls' := [(0, .ref (ad 0)), (2, .int l2), (3, .long l3), (5, .int l5), (7, .int l7)]) [0, 1, 2, 3, 5] rfl ?_
    exact tb_L_goes_111 ad co pf C F _ ih _ _ _ _ _ _ _ _ _ _ _ _ _ hf
set_option maxHeartbeats 400000 in
set_option maxRecDepth 100000 in
theorem tb_L_goes_78 {G : GT} (ad : Nat → Nat) (co : zA) (pf : zA) {v : Int32} {nr' : zA} {nf' : zA} {tr' : zA} {tf' : zA} {hi' : Nat → zA} {sl' : Nat → zA} {sv' : zA} {ff' : zA} (C : zC G cL_goes 8 RL (some .boolean) 6) (F : zF G (some (.int v)) (FW (gk G) ad nr' nf' tr' tf' co pf hi' sl' sv' ff')) : ∀ (l1 : Int32) (l2 : Int32) (l3 : Int64) (l5 : Int32) (nr : zA) (nf : zA) (tr : zA) (tf : zA) (hi : Nat → zA) (sl : Nat → zA) (sv : zA) (ff : zA), B_L_goes_78 l1 l2 l3 l5 nr nf tr tf pf hi sl sv ff = some (v, nr', nf', tr', tf', hi', sl', sv', ff') → zV G 8 78 [(0, .ref (ad 0)), (1, .int l1), (2, .int l2), (3, .long l3), (5, .int l5)] [] (FW (gk G) ad nr nf tr tf co pf hi sl sv ff) := by
  intro l1 l2 l3 l5 nr nf tr tf hi sl sv ff hf
  unfold B_L_goes_78 at hf
  refine z_iconst (v := 0) C dL_goes_78 kc_0 ?_
  refine z_istore (ls' := [(6, _), (0, _), (1, _), (2, _), (3, _), (5, _)]) C dL_goes_79 (by decide) rfl ?_
  refine z_iload_n 2 C dL_goes_81 rfl ?_
  refine z_iconst (v := 1) C dL_goes_82 kc_1 ?_
  refine z_isub C dL_goes_83 ?_
  obtain ⟨x1, e2, hf⟩ := nm_g hf
  refine z_top e2 ?_
  refine z_istore (ls' := [(7, _), (6, _), (0, _), (1, _), (2, _), (3, _), (5, _)]) C dL_goes_84 (by decide) rfl ?_
  refine z_sub (ls' := [(0, .ref (ad 0)), (2, .int l2), (3, .long l3), (5, .int l5), (6, .int 0), (7, .int x1)]) [2, 4, 5, 6, 1, 0] rfl ?_
  exact tb_L_goes_86 ad co pf C F _ _ _ _ _ _ _ _ _ _ _ _ _ _ hf
set_option maxHeartbeats 400000 in
set_option maxRecDepth 100000 in
theorem c_L_goes {l : Launch} {D : va_G} {cs : ClassId × ClassId × ClassId} (ad : Nat → Nat)  (nr : zA) (nf : zA) (tr : zA) (tf : zA) (co : zA) (pf : zA) (hi : Nat → zA) (sl : Nat → zA) (sv : zA) (ff : zA) {v : Int32} {nr' : zA} {nf' : zA} {tr' : zA} {tf' : zA} {hi' : Nat → zA} {sl' : Nat → zA} {sv' : zA} {ff' : zA} (e : f_L_goes nr nf tr tf pf hi sl sv ff = some (v, nr', nf', tr', tf', hi', sl', sv', ff')) : zM l D cs yL_goes cL_goes 8 (some .boolean) 6 [.ref (ad 0)] (FW cs ad nr nf tr tf co pf hi sl sv ff) v (FW cs ad nr' nf' tr' tf' co pf hi' sl' sv' ff') := by
  refine zM_of (show plainName RL = true by decide +kernel) (Nat.le_of_ble_eq_true rfl) ?_
  rintro G rfl rfl rfl C F
  have hf := e
  clear e
  unfold f_L_goes at hf
  show zV G 8 0 [(0, .ref (ad 0))] [] (FW (gk G) ad nr nf tr tf co pf hi sl sv ff)
  refine z_aload_n 0 C dL_goes_0 rfl ?_
  refine z_iconst (v := 0) C dL_goes_1 kc_0 ?_
  obtain ⟨v1, tr2, tf3, e4, hf⟩ := b3_e hf
  refine z_callVs (st := []) C dL_goes_2 w_L_65 (c_X2_next ad 0 nr nf tr tf co pf hi sl sv ff e4) (by decide) (FWf _ _ _ _ _ _ _ _ _ _ _ _ _ _ _ _ _ _ _ _ _ _) rfl rfl rfl rfl (Nat.le_of_ble_eq_true rfl) ?_
  refine z_istore_n (ls' := [(1, _), (0, _)]) C dL_goes_5 (by decide) rfl ?_
  refine z_aload_n 1 C dL_goes_6 rfl ?_
  refine z_iconst (v := 1) C dL_goes_7 kc_1 ?_
  obtain ⟨v5, tr6, tf7, e8, hf⟩ := b3_e hf
  refine z_callVs (st := []) C dL_goes_8 w_L_65 (c_X2_next ad 1 nr nf tr2 tf3 co pf hi sl sv ff e8) (by decide) (FWf _ _ _ _ _ _ _ _ _ _ _ _ _ _ _ _ _ _ _ _ _ _) rfl rfl rfl rfl (Nat.le_of_ble_eq_true rfl) ?_
  refine z_istore_n (ls' := [(2, _), (1, _), (0, _)]) C dL_goes_11 (by decide) rfl ?_
  refine z_iload_n 1 C dL_goes_12 rfl ?_
  refine z_if_ge (tgt := 33) C dL_goes_13 rfl (fun hc => ?_) (fun hc => ?_)
  · have hf := ifp hc hf
    refine z_aload_n 2 C dL_goes_33 rfl ?_
    obtain ⟨v9, nf10, e11, hf⟩ := b2_e hf
    refine z_callSsl (st := []) C dL_goes_34 w_L_68 (c_L_print ad nr nf tr6 tf7 co pf hi sl sv ff e11) (by decide) (FWf _ _ _ _ _ _ _ _ _ _ _ _ _ _ _ _ _ _ _ _ _ _) rfl rfl (Nat.le_of_ble_eq_true rfl) ?_
    refine z_lstore_n (ls' := [(3, _), (2, _), (1, _), (0, _)]) C dL_goes_37 (by decide) rfl ?_
    refine z_aload_n 3 C dL_goes_38 rfl ?_
    refine z_bipush (v := 7) C dL_goes_39 kb_7 ?_
    obtain ⟨v12, nf13, e14, hf⟩ := b2_e hf
    refine z_callVs (st := []) C dL_goes_41 w_L_38 (c_X2_count ad 7 nr nf10 tr6 tf7 co pf hi sl sv ff e14) (by decide) (FWf _ _ _ _ _ _ _ _ _ _ _ _ _ _ _ _ _ _ _ _ _ _) rfl rfl rfl rfl (Nat.le_of_ble_eq_true rfl) ?_
    refine z_istore (ls' := [(5, _), (3, _), (2, _), (1, _), (0, _)]) C dL_goes_44 (by decide) rfl ?_
    refine z_iload_n 3 C dL_goes_46 rfl ?_
    refine z_if_le (tgt := 78) C dL_goes_47 rfl (fun hc => ?_) (fun hc => ?_)
    · have hf := ifp hc hf
      refine z_sub (ls' := [(0, .ref (ad 0)), (1, .int v1), (2, .int v5), (3, .long v9), (5, .int v12)]) [4, 3, 2, 1, 0] rfl ?_
      exact tb_L_goes_78 ad co pf C F _ _ _ _ _ _ _ _ _ _ _ _ hf
    have hf := ifn hc hf
    refine z_iload_n 3 C dL_goes_50 rfl ?_
    refine z_sipush (v := 200) C dL_goes_51 ks_200 ?_
    refine z_icmp_gt (tgt := 78) C dL_goes_54 rfl (fun hc => ?_) (fun hc => ?_)
    · have hf := ifp hc hf
      refine z_sub (ls' := [(0, .ref (ad 0)), (1, .int v1), (2, .int v5), (3, .long v9), (5, .int v12)]) [4, 3, 2, 1, 0] rfl ?_
      exact tb_L_goes_78 ad co pf C F _ _ _ _ _ _ _ _ _ _ _ _ hf
    have hf := ifn hc hf
    refine z_iload_n 2 C dL_goes_57 rfl ?_
    refine z_if_lt (tgt := 78) C dL_goes_58 rfl (fun hc => ?_) (fun hc => ?_)
    · have hf := ifp hc hf
      refine z_sub (ls' := [(0, .ref (ad 0)), (1, .int v1), (2, .int v5), (3, .long v9), (5, .int v12)]) [4, 3, 2, 1, 0] rfl ?_
      exact tb_L_goes_78 ad co pf C F _ _ _ _ _ _ _ _ _ _ _ _ hf
    have hf := ifn hc hf
    refine z_aload_n 4 C dL_goes_61 rfl ?_
    refine z_iconst (v := 1) C dL_goes_62 kc_1 ?_
    obtain ⟨v15, sl16, sv17, e18, hf⟩ := b3_e hf
    refine z_callVs (st := []) C dL_goes_63 w_L_72 (c_X2_save ad 1 nr nf13 tr6 tf7 co pf hi sl sv ff e18) (by decide) (FWf _ _ _ _ _ _ _ _ _ _ _ _ _ _ _ _ _ _ _ _ _ _) rfl rfl rfl rfl (Nat.le_of_ble_eq_true rfl) ?_
    refine z_aload_n 4 C dL_goes_66 rfl ?_
    refine z_iconst (v := 1) C dL_goes_67 kc_1 ?_
    obtain ⟨v19, nf20, e21, hf⟩ := b2_e hf
    refine z_callVs (st := [.int v15]) C dL_goes_68 w_L_38 (c_X2_count ad 1 nr nf13 tr6 tf7 co pf hi sl16 sv17 ff e21) (by decide) (FWf _ _ _ _ _ _ _ _ _ _ _ _ _ _ _ _ _ _ _ _ _ _) rfl rfl rfl rfl (Nat.le_of_ble_eq_true rfl) ?_
    refine z_icmp_ne (tgt := 78) C dL_goes_71 rfl (fun hc => ?_) (fun hc => ?_)
    · have hf := ifn hc hf
      refine z_sub (ls' := [(0, .ref (ad 0)), (1, .int v1), (2, .int v5), (3, .long v9), (5, .int v12)]) [4, 3, 2, 1, 0] rfl ?_
      exact tb_L_goes_78 ad co pf C F _ _ _ _ _ _ _ _ _ _ _ _ hf
    have hf := ifp hc hf
    refine z_iconst (v := 1) C dL_goes_74 kc_1 ?_
    refine z_goto (tgt := 79) C dL_goes_75 rfl ?_
    refine z_istore (ls' := [(6, _), (5, _), (3, _), (2, _), (1, _), (0, _)]) C dL_goes_79 (by decide) rfl ?_
    refine z_iload_n 4 C dL_goes_81 rfl ?_
    refine z_iconst (v := 1) C dL_goes_82 kc_1 ?_
    refine z_isub C dL_goes_83 ?_
    obtain ⟨x22, e23, hf⟩ := nm_g hf
    refine z_top e23 ?_
    refine z_istore (ls' := [(7, _), (6, _), (5, _), (3, _), (2, _), (1, _), (0, _)]) C dL_goes_84 (by decide) rfl ?_
    refine z_sub (ls' := [(0, .ref (ad 0)), (2, .int v5), (3, .long v9), (5, .int v12), (6, .int 1), (7, .int x22)]) [6, 4, 3, 2, 1, 0] rfl ?_
    exact tb_L_goes_86 ad co pf C F _ _ _ _ _ _ _ _ _ _ _ _ _ _ hf
  have hf := ifn hc hf
  refine z_iload_n 1 C dL_goes_16 rfl ?_
  refine z_bipush (v := -6) C dL_goes_17 kb_m6 ?_
  refine z_icmp_ne (tgt := 31) C dL_goes_19 rfl (fun hc => ?_) (fun hc => ?_)
  · have hf := ifn hc hf
    refine z_iconst (v := 0) C dL_goes_31 kc_0 ?_
    cases hf
    exact z_zret C dL_goes_32 rfl F
  have hf := ifp hc hf
  refine z_iload_n 0 C dL_goes_22 rfl ?_
  refine z_iload_n 1 C dL_goes_23 rfl ?_
  refine z_icmp_ne (tgt := 31) C dL_goes_24 rfl (fun hc => ?_) (fun hc => ?_)
  · have hf := ifn hc hf
    refine z_iconst (v := 0) C dL_goes_31 kc_0 ?_
    cases hf
    exact z_zret C dL_goes_32 rfl F
  have hf := ifp hc hf
  refine z_iconst (v := 1) C dL_goes_27 kc_1 ?_
  refine z_goto (tgt := 32) C dL_goes_28 rfl ?_
  cases hf
  exact z_zret C dL_goes_32 rfl F
set_option maxHeartbeats 400000 in
set_option maxRecDepth 100000 in
theorem tb_L_tests_210 {G : GT} (ad : Nat → Nat) (nr : zA) (co : zA) (pf : zA) (hi : Nat → zA) (sl : Nat → zA) (sv : zA) (ff : zA) {v : Int32} {nf' : zA} {tr' : zA} {tf' : zA} (C : zC G cL_tests 10 RL (some .boolean) 7) (F : zF G (some (.int v)) (FW (gk G) ad nr nf' tr' tf' co pf hi sl sv ff)) : ∀ (s0 : Int32) (l5 : Int64) (nf : zA) (tr : zA) (tf : zA), B_L_tests_210 s0 l5 nr nf tr tf pf ff = some (v, nf', tr', tf') → zV G 10 210 [(0, .ref (ad 0)), (5, .long l5)] [.int s0] (FW (gk G) ad nr nf tr tf co pf hi sl sv ff) := by
  intro s0 l5 nf tr tf hf
  unfold B_L_tests_210 at hf
  refine z_istore (ls' := [(7, _), (0, _), (5, _)]) C dL_tests_210 (by decide) rfl ?_
  refine z_iload 0 C dL_tests_212 rfl ?_
  refine z_if_eq (tgt := 231) C dL_tests_214 rfl (fun hc => ?_) (fun hc => ?_)
  · have hf := ifp hc hf
    refine z_iconst (v := 0) C dL_tests_231 kc_0 ?_
    cases hf
    exact z_zret C dL_tests_232 rfl F
  have hf := ifn hc hf
  refine z_aload_n 1 C dL_tests_217 rfl ?_
  obtain ⟨v1, nf2, e3, hf⟩ := b2_e hf
  refine z_callSsl (st := []) C dL_tests_218 w_L_68 (c_L_print ad nr nf tr tf co pf hi sl sv ff e3) (by decide) (FWf _ _ _ _ _ _ _ _ _ _ _ _ _ _ _ _ _ _ _ _ _ _) rfl rfl (Nat.le_of_ble_eq_true rfl) ?_
  refine z_lload 2 C dL_tests_221 rfl ?_
  refine z_lcmp C dL_tests_223 ?_
  refine z_if_ne (tgt := 231) C dL_tests_224 rfl (fun hc => ?_) (fun hc => ?_)
  · have hf := ifn hc hf
    refine z_iconst (v := 0) C dL_tests_231 kc_0 ?_
    cases hf
    exact z_zret C dL_tests_232 rfl F
  have hf := ifp hc hf
  refine z_iconst (v := 1) C dL_tests_227 kc_1 ?_
  refine z_goto (tgt := 232) C dL_tests_228 rfl ?_
  cases hf
  exact z_zret C dL_tests_232 rfl F
set_option maxHeartbeats 400000 in
set_option maxRecDepth 100000 in
theorem tb_L_tests_209 {G : GT} (ad : Nat → Nat) (nr : zA) (co : zA) (pf : zA) (hi : Nat → zA) (sl : Nat → zA) (sv : zA) (ff : zA) {v : Int32} {nf' : zA} {tr' : zA} {tf' : zA} (C : zC G cL_tests 10 RL (some .boolean) 7) (F : zF G (some (.int v)) (FW (gk G) ad nr nf' tr' tf' co pf hi sl sv ff)) : ∀ (l5 : Int64) (nf : zA) (tr : zA) (tf : zA), B_L_tests_209 l5 nr nf tr tf pf ff = some (v, nf', tr', tf') → zV G 10 209 [(0, .ref (ad 0)), (5, .long l5)] [] (FW (gk G) ad nr nf tr tf co pf hi sl sv ff) := by
  intro l5 nf tr tf hf
  unfold B_L_tests_209 at hf
  refine z_iconst (v := 0) C dL_tests_209 kc_0 ?_
  exact tb_L_tests_210 ad nr co pf hi sl sv ff C F _ _ _ _ _ hf
set_option maxHeartbeats 400000 in
set_option maxRecDepth 100000 in
theorem tb_L_tests_205 {G : GT} (ad : Nat → Nat) (nr : zA) (co : zA) (pf : zA) (hi : Nat → zA) (sl : Nat → zA) (sv : zA) (ff : zA) {v : Int32} {nf' : zA} {tr' : zA} {tf' : zA} (C : zC G cL_tests 10 RL (some .boolean) 7) (F : zF G (some (.int v)) (FW (gk G) ad nr nf' tr' tf' co pf hi sl sv ff)) : ∀ (l5 : Int64) (nf : zA) (tr : zA) (tf : zA), B_L_tests_205 l5 nr nf tr tf pf ff = some (v, nf', tr', tf') → zV G 10 205 [(0, .ref (ad 0)), (5, .long l5)] [] (FW (gk G) ad nr nf tr tf co pf hi sl sv ff) := by
  intro l5 nf tr tf hf
  unfold B_L_tests_205 at hf
  refine z_iconst (v := 1) C dL_tests_205 kc_1 ?_
  refine z_goto (tgt := 210) C dL_tests_206 rfl ?_
  exact tb_L_tests_210 ad nr co pf hi sl sv ff C F _ _ _ _ _ hf
set_option maxHeartbeats 400000 in
set_option maxRecDepth 100000 in
theorem tb_L_tests_189 {G : GT} (ad : Nat → Nat) (nr : zA) (co : zA) (pf : zA) (hi : Nat → zA) (sl : Nat → zA) (sv : zA) (ff : zA) {v : Int32} {nf' : zA} {tr' : zA} {tf' : zA} (C : zC G cL_tests 10 RL (some .boolean) 7) (F : zF G (some (.int v)) (FW (gk G) ad nr nf' tr' tf' co pf hi sl sv ff)) : ∀ (l1 : Int32) (l3 : Int32) (l5 : Int64) (nf : zA) (tr : zA) (tf : zA), B_L_tests_189 l1 l3 l5 nr nf tr tf pf ff = some (v, nf', tr', tf') → zV G 10 189 [(0, .ref (ad 0)), (1, .int l1), (3, .int l3), (5, .long l5)] [] (FW (gk G) ad nr nf tr tf co pf hi sl sv ff) := by
  intro l1 l3 l5 nf tr tf hf
  unfold B_L_tests_189 at hf
  refine z_aload_n 0 C dL_tests_189 rfl ?_
  refine z_iload_n 1 C dL_tests_190 rfl ?_
  refine z_bipush (v := 8) C dL_tests_191 kb_8 ?_
  obtain ⟨v1, nf2, e3, hf⟩ := b2_e hf
  refine z_callVs (st := []) C dL_tests_193 w_L_41 (c_X2_of ad l1 8 nr nf tr tf co pf hi sl sv ff e3) (by decide) (FWf _ _ _ _ _ _ _ _ _ _ _ _ _ _ _ _ _ _ _ _ _ _) rfl rfl rfl rfl (Nat.le_of_ble_eq_true rfl) ?_
  refine z_if_eq (tgt := 205) C dL_tests_196 rfl (fun hc => ?_) (fun hc => ?_)
  · have hf := ifp hc hf
    refine z_sub (ls' := [(0, .ref (ad 0)), (5, .long l5)]) [0, 3] rfl ?_
    exact tb_L_tests_205 ad nr co pf hi sl sv ff C F _ _ _ _ hf
  have hf := ifn hc hf
  refine z_iload_n 2 C dL_tests_199 rfl ?_
  refine z_bipush (v := -6) C dL_tests_200 kb_m6 ?_
  refine z_icmp_ne (tgt := 209) C dL_tests_202 rfl (fun hc => ?_) (fun hc => ?_)
  · have hf := ifn hc hf
    refine z_sub (ls' := [(0, .ref (ad 0)), (5, .long l5)]) [0, 3] rfl ?_
    exact tb_L_tests_209 ad nr co pf hi sl sv ff C F _ _ _ _ hf
  have hf := ifp hc hf
  refine z_sub (ls' := [(0, .ref (ad 0)), (5, .long l5)]) [0, 3] rfl ?_
  exact tb_L_tests_205 ad nr co pf hi sl sv ff C F _ _ _ _ hf
set_option maxHeartbeats 400000 in
set_option maxRecDepth 100000 in
theorem tb_L_tests_158 {G : GT} (ad : Nat → Nat) (nr : zA) (co : zA) (pf : zA) (hi : Nat → zA) (sl : Nat → zA) (sv : zA) (ff : zA) {v : Int32} {nf' : zA} {tr' : zA} {tf' : zA} (C : zC G cL_tests 10 RL (some .boolean) 7) (F : zF G (some (.int v)) (FW (gk G) ad nr nf' tr' tf' co pf hi sl sv ff)) (K : Int32 → Int32 → Int32 → Int64 → Int32 → Int32 → Int32 → zA → zA → zA → zA → zA → zA → Option (Int32 × zA × zA × zA)) (hK : ∀ (l1 : Int32) (l2 : Int32) (l3 : Int32) (l5 : Int64) (l7 : Int32) (l8 : Int32) (l9 : Int32) (nf : zA) (tr : zA) (tf : zA), K l1 l2 l3 l5 l7 l8 l9 nr nf tr tf pf ff = some (v, nf', tr', tf') → zV G 10 129 [(0, .ref (ad 0)), (1, .int l1), (2, .int l2), (3, .int l3), (5, .long l5), (7, .int l7), (8, .int l8), (9, .int l9)] [] (FW (gk G) ad nr nf tr tf co pf hi sl sv ff)) : ∀ (s0 : Int32) (l1 : Int32) (l2 : Int32) (l3 : Int32) (l5 : Int64) (l7 : Int32) (l9 : Int32) (nf : zA) (tr : zA) (tf : zA), B_L_tests_158 K s0 l1 l2 l3 l5 l7 l9 nr nf tr tf pf ff = some (v, nf', tr', tf') → zV G 10 158 [(0, .ref (ad 0)), (1, .int l1), (2, .int l2), (3, .int l3), (5, .long l5), (7, .int l7), (9, .int l9)] [.int s0] (FW (gk G) ad nr nf tr tf co pf hi sl sv ff) := by
  intro s0 l1 l2 l3 l5 l7 l9 nf tr tf hf
  unfold B_L_tests_158 at hf
  refine z_istore (ls' := [(8, _), (0, _), (1, _), (2, _), (3, _), (5, _), (7, _), (9, _)]) C dL_tests_158 (by decide) rfl ?_
  refine z_aload_n 1 C dL_tests_160 rfl ?_
  refine z_iload 7 C dL_tests_161 rfl ?_
  refine z_iconst (v := 0) C dL_tests_163 kc_0 ?_
  obtain ⟨v1, nf2, e3, hf⟩ := b2_e hf
  refine z_callVs (st := []) C dL_tests_164 w_L_41 (c_X2_of ad l9 0 nr nf tr tf co pf hi sl sv ff e3) (by decide) (FWf _ _ _ _ _ _ _ _ _ _ _ _ _ _ _ _ _ _ _ _ _ _) rfl rfl rfl rfl (Nat.le_of_ble_eq_true rfl) ?_
  refine z_istore (ls' := [(9, _), (8, _), (0, _), (1, _), (2, _), (3, _), (5, _), (7, _)]) C dL_tests_167 (by decide) rfl ?_
  refine z_goto (tgt := 129) C dL_tests_169 rfl ?_
  refine z_sub (ls' := [(0, .ref (ad 0)), (1, .int l1), (2, .int l2), (3, .int l3), (5, .long l5), (7, .int l7), (8, .int s0), (9, .int v1)]) [2, 3, 4, 5, 6, 7, 1, 0] rfl ?_
  exact hK _ _ _ _ _ _ _ _ _ _ hf
set_option maxHeartbeats 400000 in
set_option maxRecDepth 100000 in
theorem tb_L_tests_129 {G : GT} (ad : Nat → Nat) (nr : zA) (co : zA) (pf : zA) (hi : Nat → zA) (sl : Nat → zA) (sv : zA) (ff : zA) {v : Int32} {nf' : zA} {tr' : zA} {tf' : zA} (C : zC G cL_tests 10 RL (some .boolean) 7) (F : zF G (some (.int v)) (FW (gk G) ad nr nf' tr' tf' co pf hi sl sv ff)) : ∀ (n : Nat) (l1 : Int32) (l2 : Int32) (l3 : Int32) (l5 : Int64) (l7 : Int32) (l8 : Int32) (l9 : Int32) (nf : zA) (tr : zA) (tf : zA), B_L_tests_129 n l1 l2 l3 l5 l7 l8 l9 nr nf tr tf pf ff = some (v, nf', tr', tf') → zV G 10 129 [(0, .ref (ad 0)), (1, .int l1), (2, .int l2), (3, .int l3), (5, .long l5), (7, .int l7), (8, .int l8), (9, .int l9)] [] (FW (gk G) ad nr nf tr tf co pf hi sl sv ff) := by
  intro n
  induction n with
  | zero => intro _ _ _ _ _ _ _ _ _ _ hf; rw [B_L_tests_129] at hf; cases hf
  | succ n ih =>
    intro l1 l2 l3 l5 l7 l8 l9 nf tr tf hf
    rw [B_L_tests_129] at hf
    refine z_iload 7 C dL_tests_129 rfl ?_
    refine z_if_lt (tgt := 172) C dL_tests_131 rfl (fun hc => ?_) (fun hc => ?_)
    · have hf := ifp hc hf
      refine z_iload 5 C dL_tests_172 rfl ?_
      refine z_if_eq (tgt := 209) C dL_tests_174 rfl (fun hc => ?_) (fun hc => ?_)
      · have hf := ifp hc hf
        refine z_sub (ls' := [(0, .ref (ad 0)), (5, .long l5)]) [0, 4] rfl ?_
        exact tb_L_tests_209 ad nr co pf hi sl sv ff C F _ _ _ _ hf
      have hf := ifn hc hf
      refine z_iload_n 2 C dL_tests_177 rfl ?_
      refine z_iload 6 C dL_tests_178 rfl ?_
      refine z_icmp_gt (tgt := 189) C dL_tests_180 rfl (fun hc => ?_) (fun hc => ?_)
      · have hf := ifp hc hf
        refine z_sub (ls' := [(0, .ref (ad 0)), (1, .int l1), (3, .int l3), (5, .long l5)]) [0, 1, 3, 4] rfl ?_
        exact tb_L_tests_189 ad nr co pf hi sl sv ff C F _ _ _ _ _ _ hf
      have hf := ifn hc hf
      refine z_iload_n 3 C dL_tests_183 rfl ?_
      refine z_bipush (v := -6) C dL_tests_184 kb_m6 ?_
      refine z_icmp_ne (tgt := 209) C dL_tests_186 rfl (fun hc => ?_) (fun hc => ?_)
      · have hf := ifn hc hf
        refine z_sub (ls' := [(0, .ref (ad 0)), (5, .long l5)]) [0, 4] rfl ?_
        exact tb_L_tests_209 ad nr co pf hi sl sv ff C F _ _ _ _ hf
      have hf := ifp hc hf
      refine z_sub (ls' := [(0, .ref (ad 0)), (1, .int l1), (3, .int l3), (5, .long l5)]) [0, 1, 3, 4] rfl ?_
      exact tb_L_tests_189 ad nr co pf hi sl sv ff C F _ _ _ _ _ _ hf
    have hf := ifn hc hf
    refine z_aload_n 0 C dL_tests_134 rfl ?_
    refine z_iload 7 C dL_tests_135 rfl ?_
    refine z_iconst (v := 1) C dL_tests_137 kc_1 ?_
    obtain ⟨v1, nf2, e3, hf⟩ := b2_e hf
    refine z_callVs (st := []) C dL_tests_138 w_L_41 (c_X2_of ad l9 1 nr nf tr tf co pf hi sl sv ff e3) (by decide) (FWf _ _ _ _ _ _ _ _ _ _ _ _ _ _ _ _ _ _ _ _ _ _) rfl rfl rfl rfl (Nat.le_of_ble_eq_true rfl) ?_
    refine z_iload 6 C dL_tests_141 rfl ?_
    refine z_icmp_ge (tgt := 156) C dL_tests_143 rfl (fun hc => ?_) (fun hc => ?_)
    · have hf := ifp hc hf
      refine z_iload 6 C dL_tests_156 rfl ?_
      refine z_sub (ls' := [(0, .ref (ad 0)), (1, .int l1), (2, .int l2), (3, .int l3), (5, .long l5), (7, .int l7), (9, .int l9)]) [0, 1, 2, 3, 4, 5, 7] rfl ?_
      exact tb_L_tests_158 ad nr co pf hi sl sv ff C F _ ih _ _ _ _ _ _ _ _ _ _ hf
    have hf := ifn hc hf
    refine z_aload_n 0 C dL_tests_146 rfl ?_
    refine z_iload 7 C dL_tests_147 rfl ?_
    refine z_iconst (v := 1) C dL_tests_149 kc_1 ?_
    obtain ⟨v4, nf5, e6, hf⟩ := b2_e hf
    refine z_callVs (st := []) C dL_tests_150 w_L_41 (c_X2_of ad l9 1 nr nf2 tr tf co pf hi sl sv ff e6) (by decide) (FWf _ _ _ _ _ _ _ _ _ _ _ _ _ _ _ _ _ _ _ _ _ _) rfl rfl rfl rfl (Nat.le_of_ble_eq_true rfl) ?_
    refine z_goto (tgt := 158) C dL_tests_153 rfl ?_
    refine z_sub (ls' := [(0, .ref (ad 0)), (1, .int l1), (2, .int l2), (3, .int l3), (5, .long l5), (7, .int l7), (9, .int l9)]) [0, 1, 2, 3, 4, 5, 7] rfl ?_
    exact tb_L_tests_158 ad nr co pf hi sl sv ff C F _ ih _ _ _ _ _ _ _ _ _ _ hf
set_option maxHeartbeats 400000 in
set_option maxRecDepth 100000 in
theorem tb_L_tests_119 {G : GT} (ad : Nat → Nat) (nr : zA) (co : zA) (pf : zA) (hi : Nat → zA) (sl : Nat → zA) (sv : zA) (ff : zA) {v : Int32} {nf' : zA} {tr' : zA} {tf' : zA} (C : zC G cL_tests 10 RL (some .boolean) 7) (F : zF G (some (.int v)) (FW (gk G) ad nr nf' tr' tf' co pf hi sl sv ff)) : ∀ (l1 : Int32) (l2 : Int32) (l3 : Int32) (l5 : Int64) (nf : zA) (tr : zA) (tf : zA), B_L_tests_119 l1 l2 l3 l5 nr nf tr tf pf ff = some (v, nf', tr', tf') → zV G 10 119 [(0, .ref (ad 0)), (1, .int l1), (2, .int l2), (3, .int l3), (5, .long l5)] [] (FW (gk G) ad nr nf tr tf co pf hi sl sv ff) := by
  intro l1 l2 l3 l5 nf tr tf hf
  unfold B_L_tests_119 at hf
  refine z_iconst (v := 0) C dL_tests_119 kc_0 ?_
  refine z_istore (ls' := [(7, _), (0, _), (1, _), (2, _), (3, _), (5, _)]) C dL_tests_120 (by decide) rfl ?_
  refine z_bipush (v := 100) C dL_tests_122 kb_100 ?_
  refine z_istore (ls' := [(8, _), (7, _), (0, _), (1, _), (2, _), (3, _), (5, _)]) C dL_tests_124 (by decide) rfl ?_
  refine z_iload_n 3 C dL_tests_126 rfl ?_
  refine z_istore (ls' := [(9, _), (8, _), (7, _), (0, _), (1, _), (2, _), (3, _), (5, _)]) C dL_tests_127 (by decide) rfl ?_
  refine z_sub (ls' := [(0, .ref (ad 0)), (1, .int l1), (2, .int l2), (3, .int l3), (5, .long l5), (7, .int 0), (8, .int 100), (9, .int l1)]) [3, 4, 5, 6, 7, 2, 1, 0] rfl ?_
  exact tb_L_tests_129 ad nr co pf hi sl sv ff C F _ _ _ _ _ _ _ _ _ _ _ hf
set_option maxHeartbeats 400000 in
set_option maxRecDepth 100000 in
theorem tb_L_tests_115 {G : GT} (ad : Nat → Nat) (nr : zA) (co : zA) (pf : zA) (hi : Nat → zA) (sl : Nat → zA) (sv : zA) (ff : zA) {v : Int32} {nf' : zA} {tr' : zA} {tf' : zA} (C : zC G cL_tests 10 RL (some .boolean) 7) (F : zF G (some (.int v)) (FW (gk G) ad nr nf' tr' tf' co pf hi sl sv ff)) : ∀ (l1 : Int32) (l2 : Int32) (l3 : Int32) (l5 : Int64) (nf : zA) (tr : zA) (tf : zA), B_L_tests_115 l1 l2 l3 l5 nr nf tr tf pf ff = some (v, nf', tr', tf') → zV G 10 115 [(0, .ref (ad 0)), (1, .int l1), (2, .int l2), (3, .int l3), (5, .long l5)] [] (FW (gk G) ad nr nf tr tf co pf hi sl sv ff) := by
  intro l1 l2 l3 l5 nf tr tf hf
  unfold B_L_tests_115 at hf
  refine z_iconst (v := 1) C dL_tests_115 kc_1 ?_
  refine z_goto (tgt := 120) C dL_tests_116 rfl ?_
  refine z_istore (ls' := [(7, _), (0, _), (1, _), (2, _), (3, _), (5, _)]) C dL_tests_120 (by decide) rfl ?_
  refine z_bipush (v := 100) C dL_tests_122 kb_100 ?_
  refine z_istore (ls' := [(8, _), (7, _), (0, _), (1, _), (2, _), (3, _), (5, _)]) C dL_tests_124 (by decide) rfl ?_
  refine z_iload_n 3 C dL_tests_126 rfl ?_
  refine z_istore (ls' := [(9, _), (8, _), (7, _), (0, _), (1, _), (2, _), (3, _), (5, _)]) C dL_tests_127 (by decide) rfl ?_
  refine z_sub (ls' := [(0, .ref (ad 0)), (1, .int l1), (2, .int l2), (3, .int l3), (5, .long l5), (7, .int 1), (8, .int 100), (9, .int l1)]) [3, 4, 5, 6, 7, 2, 1, 0] rfl ?_
  exact tb_L_tests_129 ad nr co pf hi sl sv ff C F _ _ _ _ _ _ _ _ _ _ _ hf
set_option maxHeartbeats 400000 in
set_option maxRecDepth 100000 in
theorem tb_L_tests_68 {G : GT} (ad : Nat → Nat) (nr : zA) (co : zA) (pf : zA) (hi : Nat → zA) (sl : Nat → zA) (sv : zA) (ff : zA) {v : Int32} {nf' : zA} {tr' : zA} {tf' : zA} (C : zC G cL_tests 10 RL (some .boolean) 7) (F : zF G (some (.int v)) (FW (gk G) ad nr nf' tr' tf' co pf hi sl sv ff)) : ∀ (s0 : Int32) (s1 : Int32) (l1 : Int32) (l2 : Int32) (l3 : Int32) (l4 : Int32) (l5 : Int64) (nf : zA) (tr : zA) (tf : zA), B_L_tests_68 s0 s1 l1 l2 l3 l4 l5 nr nf tr tf pf ff = some (v, nf', tr', tf') → zV G 10 68 [(0, .ref (ad 0)), (1, .int l1), (2, .int l2), (3, .int l3), (4, .int l4), (5, .long l5)] [.int s0, .int s1] (FW (gk G) ad nr nf tr tf co pf hi sl sv ff) := by
  intro s0 s1 l1 l2 l3 l4 l5 nf tr tf hf
  unfold B_L_tests_68 at hf
  refine z_icmp_ne (tgt := 119) C dL_tests_68 rfl (fun hc => ?_) (fun hc => ?_)
  · have hf := ifn hc hf
    refine z_sub (ls' := [(0, .ref (ad 0)), (1, .int l1), (2, .int l2), (3, .int l3), (5, .long l5)]) [0, 1, 2, 3, 5] rfl ?_
    exact tb_L_tests_119 ad nr co pf hi sl sv ff C F _ _ _ _ _ _ _ hf
  have hf := ifp hc hf
  refine z_iload_n 3 C dL_tests_71 rfl ?_
  refine z_if_ge (tgt := 84) C dL_tests_72 rfl (fun hc => ?_) (fun hc => ?_)
  · have hf := ifp hc hf
    refine z_iload_n 3 C dL_tests_84 rfl ?_
    refine z_sipush (v := 200) C dL_tests_85 ks_200 ?_
    refine z_icmp_gt (tgt := 119) C dL_tests_88 rfl (fun hc => ?_) (fun hc => ?_)
    · have hf := ifp hc hf
      refine z_sub (ls' := [(0, .ref (ad 0)), (1, .int l1), (2, .int l2), (3, .int l3), (5, .long l5)]) [0, 1, 2, 3, 5] rfl ?_
      exact tb_L_tests_119 ad nr co pf hi sl sv ff C F _ _ _ _ _ _ _ hf
    have hf := ifn hc hf
    refine z_aload_n 0 C dL_tests_91 rfl ?_
    refine z_iload 4 C dL_tests_92 rfl ?_
    obtain ⟨v1, e2, hf⟩ := b1_e hf
    refine z_callVs (st := []) C dL_tests_94 w_L_44 (c_X2_fed ad l4 nr nf tr tf co pf hi sl sv ff e2) (by decide) (FWf _ _ _ _ _ _ _ _ _ _ _ _ _ _ _ _ _ _ _ _ _ _) rfl rfl rfl rfl (Nat.le_of_ble_eq_true rfl) ?_
    refine z_iload_n 1 C dL_tests_97 rfl ?_
    refine z_ishr C dL_tests_98 ?_
    refine z_iconst (v := 1) C dL_tests_99 kc_1 ?_
    refine z_iand C dL_tests_100 ?_
    refine z_iconst (v := 1) C dL_tests_101 kc_1 ?_
    refine z_icmp_ne (tgt := 119) C dL_tests_102 rfl (fun hc => ?_) (fun hc => ?_)
    · have hf := ifn hc hf
      refine z_sub (ls' := [(0, .ref (ad 0)), (1, .int l1), (2, .int l2), (3, .int l3), (5, .long l5)]) [0, 1, 2, 3, 5] rfl ?_
      exact tb_L_tests_119 ad nr co pf hi sl sv ff C F _ _ _ _ _ _ _ hf
    have hf := ifp hc hf
    refine z_aload_n 0 C dL_tests_105 rfl ?_
    refine z_iload 4 C dL_tests_106 rfl ?_
    refine z_iconst (v := 3) C dL_tests_108 kc_3 ?_
    obtain ⟨v3, nf4, e5, hf⟩ := b2_e hf
    refine z_callVs (st := []) C dL_tests_109 w_L_41 (c_X2_of ad l4 3 nr nf tr tf co pf hi sl sv ff e5) (by decide) (FWf _ _ _ _ _ _ _ _ _ _ _ _ _ _ _ _ _ _ _ _ _ _) rfl rfl rfl rfl (Nat.le_of_ble_eq_true rfl) ?_
    refine z_if_ne (tgt := 119) C dL_tests_112 rfl (fun hc => ?_) (fun hc => ?_)
    · have hf := ifn hc hf
      refine z_sub (ls' := [(0, .ref (ad 0)), (1, .int l1), (2, .int l2), (3, .int l3), (5, .long l5)]) [0, 1, 2, 3, 5] rfl ?_
      exact tb_L_tests_119 ad nr co pf hi sl sv ff C F _ _ _ _ _ _ _ hf
    have hf := ifp hc hf
    refine z_sub (ls' := [(0, .ref (ad 0)), (1, .int l1), (2, .int l2), (3, .int l3), (5, .long l5)]) [0, 1, 2, 3, 5] rfl ?_
    exact tb_L_tests_115 ad nr co pf hi sl sv ff C F _ _ _ _ _ _ _ hf
  have hf := ifn hc hf
  refine z_iload_n 3 C dL_tests_75 rfl ?_
  refine z_bipush (v := -6) C dL_tests_76 kb_m6 ?_
  refine z_icmp_ne (tgt := 119) C dL_tests_78 rfl (fun hc => ?_) (fun hc => ?_)
  · have hf := ifn hc hf
    refine z_sub (ls' := [(0, .ref (ad 0)), (1, .int l1), (2, .int l2), (3, .int l3), (5, .long l5)]) [0, 1, 2, 3, 5] rfl ?_
    exact tb_L_tests_119 ad nr co pf hi sl sv ff C F _ _ _ _ _ _ _ hf
  have hf := ifp hc hf
  refine z_goto (tgt := 115) C dL_tests_81 rfl ?_
  refine z_sub (ls' := [(0, .ref (ad 0)), (1, .int l1), (2, .int l2), (3, .int l3), (5, .long l5)]) [0, 1, 2, 3, 5] rfl ?_
  exact tb_L_tests_115 ad nr co pf hi sl sv ff C F _ _ _ _ _ _ _ hf
set_option maxHeartbeats 400000 in
set_option maxRecDepth 100000 in
theorem tb_L_tests_58 {G : GT} (ad : Nat → Nat) (nr : zA) (co : zA) (pf : zA) (hi : Nat → zA) (sl : Nat → zA) (sv : zA) (ff : zA) {v : Int32} {nf' : zA} {tr' : zA} {tf' : zA} (C : zC G cL_tests 10 RL (some .boolean) 7) (F : zF G (some (.int v)) (FW (gk G) ad nr nf' tr' tf' co pf hi sl sv ff)) : ∀ (s0 : Int32) (l1 : Int32) (l2 : Int32) (l3 : Int32) (l4 : Int32) (l5 : Int64) (nf : zA) (tr : zA) (tf : zA), B_L_tests_58 s0 l1 l2 l3 l4 l5 nr nf tr tf pf ff = some (v, nf', tr', tf') → zV G 10 58 [(0, .ref (ad 0)), (1, .int l1), (2, .int l2), (3, .int l3), (4, .int l4), (5, .long l5)] [.int s0] (FW (gk G) ad nr nf tr tf co pf hi sl sv ff) := by
  intro s0 l1 l2 l3 l4 l5 nf tr tf hf
  unfold B_L_tests_58 at hf
  refine z_iload 4 C dL_tests_58 rfl ?_
  refine z_if_ge (tgt := 67) C dL_tests_60 rfl (fun hc => ?_) (fun hc => ?_)
  · have hf := ifp hc hf
    refine z_iconst (v := 0) C dL_tests_67 kc_0 ?_
    exact tb_L_tests_68 ad nr co pf hi sl sv ff C F _ _ _ _ _ _ _ _ _ _ hf
  have hf := ifn hc hf
  refine z_iconst (v := 1) C dL_tests_63 kc_1 ?_
  refine z_goto (tgt := 68) C dL_tests_64 rfl ?_
  exact tb_L_tests_68 ad nr co pf hi sl sv ff C F _ _ _ _ _ _ _ _ _ _ hf
set_option maxHeartbeats 400000 in
set_option maxRecDepth 100000 in
theorem c_L_tests {l : Launch} {D : va_G} {cs : ClassId × ClassId × ClassId} (ad : Nat → Nat) (a1 : Int32) (a2 : Int32) (nr : zA) (nf : zA) (tr : zA) (tf : zA) (co : zA) (pf : zA) (hi : Nat → zA) (sl : Nat → zA) (sv : zA) (ff : zA) {v : Int32} {nf' : zA} {tr' : zA} {tf' : zA} (e : f_L_tests a1 a2 nr nf tr tf pf ff = some (v, nf', tr', tf')) : zM l D cs yL_tests cL_tests 10 (some .boolean) 7 [.ref (ad 0), .int a1, .int a2] (FW cs ad nr nf tr tf co pf hi sl sv ff) v (FW cs ad nr nf' tr' tf' co pf hi sl sv ff) := by
  refine zM_of (show plainName RL = true by decide +kernel) (Nat.le_of_ble_eq_true rfl) ?_
  rintro G rfl rfl rfl C F
  have hf := e
  clear e
  unfold f_L_tests at hf
  show zV G 10 0 [(0, .ref (ad 0)), (1, .int a1), (2, .int a2)] [] (FW (gk G) ad nr nf tr tf co pf hi sl sv ff)
  refine z_aload_n 0 C dL_tests_0 rfl ?_
  refine z_iload_n 1 C dL_tests_1 rfl ?_
  refine z_iload_n 2 C dL_tests_2 rfl ?_
  refine z_iconst (v := 0) C dL_tests_3 kc_0 ?_
  obtain ⟨v1, tr2, tf3, e4, hf⟩ := b3_e hf
  refine z_callVs (st := []) C dL_tests_4 w_L_78 (c_X2_test ad a1 a2 0 nr nf tr tf co pf hi sl sv ff e4) (by decide) (FWf _ _ _ _ _ _ _ _ _ _ _ _ _ _ _ _ _ _ _ _ _ _) rfl rfl rfl rfl (Nat.le_of_ble_eq_true rfl) ?_
  refine z_istore_n (ls' := [(3, _), (0, _), (1, _), (2, _)]) C dL_tests_7 (by decide) rfl ?_
  refine z_aload_n 1 C dL_tests_8 rfl ?_
  refine z_iload_n 2 C dL_tests_9 rfl ?_
  refine z_iload_n 3 C dL_tests_10 rfl ?_
  refine z_iconst (v := 1) C dL_tests_11 kc_1 ?_
  obtain ⟨v5, tr6, tf7, e8, hf⟩ := b3_e hf
  refine z_callVs (st := []) C dL_tests_12 w_L_78 (c_X2_test ad a1 a2 1 nr nf tr2 tf3 co pf hi sl sv ff e8) (by decide) (FWf _ _ _ _ _ _ _ _ _ _ _ _ _ _ _ _ _ _ _ _ _ _) rfl rfl rfl rfl (Nat.le_of_ble_eq_true rfl) ?_
  refine z_istore (ls' := [(4, _), (3, _), (0, _), (1, _), (2, _)]) C dL_tests_15 (by decide) rfl ?_
  refine z_iload_n 3 C dL_tests_17 rfl ?_
  refine z_aload_n 2 C dL_tests_18 rfl ?_
  refine z_iconst (v := 1) C dL_tests_19 kc_1 ?_
  obtain ⟨v9, nf10, e11, hf⟩ := b2_e hf
  refine z_callVs (st := [.int a1]) C dL_tests_20 w_L_38 (c_X2_count ad 1 nr nf tr6 tf7 co pf hi sl sv ff e11) (by decide) (FWf _ _ _ _ _ _ _ _ _ _ _ _ _ _ _ _ _ _ _ _ _ _) rfl rfl rfl rfl (Nat.le_of_ble_eq_true rfl) ?_
  refine z_icmp_lt (tgt := 43) C dL_tests_23 rfl (fun hc => ?_) (fun hc => ?_)
  · have hf := ifp hc hf
    refine z_aload_n 2 C dL_tests_43 rfl ?_
    obtain ⟨v12, nf13, e14, hf⟩ := b2_e hf
    refine z_callSsl (st := []) C dL_tests_44 w_L_68 (c_L_print ad nr nf10 tr6 tf7 co pf hi sl sv ff e14) (by decide) (FWf _ _ _ _ _ _ _ _ _ _ _ _ _ _ _ _ _ _ _ _ _ _) rfl rfl (Nat.le_of_ble_eq_true rfl) ?_
    refine z_lstore (ls' := [(5, _), (4, _), (3, _), (0, _), (1, _), (2, _)]) C dL_tests_47 (by decide) rfl ?_
    refine z_iload_n 2 C dL_tests_49 rfl ?_
    refine z_if_ge (tgt := 57) C dL_tests_50 rfl (fun hc => ?_) (fun hc => ?_)
    · have hf := ifp hc hf
      refine z_iconst (v := 0) C dL_tests_57 kc_0 ?_
      refine z_sub (ls' := [(0, .ref (ad 0)), (1, .int a1), (2, .int a2), (3, .int v1), (4, .int v5), (5, .long v12)]) [3, 4, 5, 2, 1, 0] rfl ?_
      exact tb_L_tests_58 ad nr co pf hi sl sv ff C F _ _ _ _ _ _ _ _ _ hf
    have hf := ifn hc hf
    refine z_iconst (v := 1) C dL_tests_53 kc_1 ?_
    refine z_goto (tgt := 58) C dL_tests_54 rfl ?_
    refine z_sub (ls' := [(0, .ref (ad 0)), (1, .int a1), (2, .int a2), (3, .int v1), (4, .int v5), (5, .long v12)]) [3, 4, 5, 2, 1, 0] rfl ?_
    exact tb_L_tests_58 ad nr co pf hi sl sv ff C F _ _ _ _ _ _ _ _ _ hf
  have hf := ifn hc hf
  refine z_iload_n 1 C dL_tests_26 rfl ?_
  refine z_iconst (v := -1) C dL_tests_27 kc_m1 ?_
  refine z_icmp_ne (tgt := 41) C dL_tests_28 rfl (fun hc => ?_) (fun hc => ?_)
  · have hf := ifn hc hf
    refine z_iconst (v := 0) C dL_tests_41 kc_0 ?_
    cases hf
    exact z_zret C dL_tests_42 rfl F
  have hf := ifp hc hf
  refine z_iload 0 C dL_tests_31 rfl ?_
  refine z_iload_n 1 C dL_tests_33 rfl ?_
  refine z_icmp_ne (tgt := 41) C dL_tests_34 rfl (fun hc => ?_) (fun hc => ?_)
  · have hf := ifn hc hf
    refine z_iconst (v := 0) C dL_tests_41 kc_0 ?_
    cases hf
    exact z_zret C dL_tests_42 rfl F
  have hf := ifp hc hf
  refine z_iconst (v := 1) C dL_tests_37 kc_1 ?_
  refine z_goto (tgt := 42) C dL_tests_38 rfl ?_
  cases hf
  exact z_zret C dL_tests_42 rfl F
set_option maxHeartbeats 400000 in
set_option maxRecDepth 100000 in
theorem tb_L_faults_4 {G : GT} (ad : Nat → Nat) (nr : zA) (co : zA) (pf : zA) (hi : Nat → zA) (sl : Nat → zA) (sv : zA) (ff : zA) {v : Int32} {nf' : zA} {tr' : zA} {tf' : zA} (C : zC G cL_faults 5 RL (some .boolean) 7) (F : zF G (some (.int v)) (FW (gk G) ad nr nf' tr' tf' co pf hi sl sv ff)) : ∀ (n : Nat) (l1 : Int32) (l2 : Int32) (l3 : Int32) (nf : zA) (tr : zA) (tf : zA), B_L_faults_4 n l1 l2 l3 nr nf tr tf pf ff = some (v, nf', tr', tf') → zV G 5 4 [(0, .ref (ad 0)), (1, .int l1), (2, .int l2), (3, .int l3)] [] (FW (gk G) ad nr nf tr tf co pf hi sl sv ff) := by
  intro n
  induction n with
  | zero => intro _ _ _ _ _ _ hf; rw [B_L_faults_4] at hf; cases hf
  | succ n ih =>
    intro l1 l2 l3 nf tr tf hf
    rw [B_L_faults_4] at hf
    refine z_iload_n 3 C dL_faults_4 rfl ?_
    refine z_aload_n 0 C dL_faults_5 rfl ?_
    refine z_iconst (v := 1) C dL_faults_6 kc_1 ?_
    obtain ⟨v1, nf2, e3, hf⟩ := b2_e hf
    refine z_callVs (st := [.int l3]) C dL_faults_7 w_L_38 (c_X2_count ad 1 nr nf tr tf co pf hi sl sv ff e3) (by decide) (FWf _ _ _ _ _ _ _ _ _ _ _ _ _ _ _ _ _ _ _ _ _ _) rfl rfl rfl rfl (Nat.le_of_ble_eq_true rfl) ?_
    refine z_icmp_ge (tgt := 56) C dL_faults_10 rfl (fun hc => ?_) (fun hc => ?_)
    · have hf := ifp hc hf
      refine z_aload_n 0 C dL_faults_56 rfl ?_
      refine z_iload_n 1 C dL_faults_57 rfl ?_
      obtain ⟨v4, tr5, tf6, e7, hf⟩ := b3_e hf
      refine z_callVs (st := []) C dL_faults_58 w_L_81 (c_X2_unfair ad l1 nr nf2 tr tf co pf hi sl sv ff e7) (by decide) (FWf _ _ _ _ _ _ _ _ _ _ _ _ _ _ _ _ _ _ _ _ _ _) rfl rfl rfl rfl (Nat.le_of_ble_eq_true rfl) ?_
      refine z_iload_n 2 C dL_faults_61 rfl ?_
      refine z_icmp_ne (tgt := 75) C dL_faults_62 rfl (fun hc => ?_) (fun hc => ?_)
      · have hf := ifn hc hf
        refine z_iconst (v := 0) C dL_faults_75 kc_0 ?_
        cases hf
        exact z_zret C dL_faults_76 rfl F
      have hf := ifp hc hf
      refine z_iload_n 2 C dL_faults_65 rfl ?_
      refine z_iconst (v := 1) C dL_faults_66 kc_1 ?_
      refine z_iand C dL_faults_67 ?_
      refine z_if_ne (tgt := 75) C dL_faults_68 rfl (fun hc => ?_) (fun hc => ?_)
      · have hf := ifn hc hf
        refine z_iconst (v := 0) C dL_faults_75 kc_0 ?_
        cases hf
        exact z_zret C dL_faults_76 rfl F
      have hf := ifp hc hf
      refine z_iconst (v := 1) C dL_faults_71 kc_1 ?_
      refine z_goto (tgt := 76) C dL_faults_72 rfl ?_
      cases hf
      exact z_zret C dL_faults_76 rfl F
    have hf := ifn hc hf
    refine z_aload_n 0 C dL_faults_13 rfl ?_
    refine z_iload_n 3 C dL_faults_14 rfl ?_
    refine z_iload_n 1 C dL_faults_15 rfl ?_
    refine z_aload_n 0 C dL_faults_16 rfl ?_
    refine z_iload_n 3 C dL_faults_17 rfl ?_
    refine z_iconst (v := 1) C dL_faults_18 kc_1 ?_
    obtain ⟨v8, nf9, e10, hf⟩ := b2_e hf
    refine z_callVs (st := [.int l1, .int l3, .ref (ad 0)]) C dL_faults_19 w_L_41 (c_X2_of ad l3 1 nr nf2 tr tf co pf hi sl sv ff e10) (by decide) (FWf _ _ _ _ _ _ _ _ _ _ _ _ _ _ _ _ _ _ _ _ _ _) rfl rfl rfl rfl (Nat.le_of_ble_eq_true rfl) ?_
    refine z_imul C dL_faults_22 ?_
    refine z_iconst (v := 1) C dL_faults_23 kc_1 ?_
    obtain ⟨v11, tr12, tf13, e14, hf⟩ := b3_e hf
    refine z_callVs (st := []) C dL_faults_24 w_L_78 (c_X2_test ad l3 (l1 * v8) 1 nr nf9 tr tf co pf hi sl sv ff e14) (by decide) (FWf _ _ _ _ _ _ _ _ _ _ _ _ _ _ _ _ _ _ _ _ _ _) rfl rfl rfl rfl (Nat.le_of_ble_eq_true rfl) ?_
    refine z_istore (ls' := [(4, _), (0, _), (1, _), (2, _), (3, _)]) C dL_faults_27 (by decide) rfl ?_
    refine z_iload_n 3 C dL_faults_29 rfl ?_
    refine z_iload 0 C dL_faults_30 rfl ?_
    refine z_if_lt (tgt := 47) C dL_faults_32 rfl (fun hc => ?_) (fun hc => ?_)
    · have hf := ifp hc hf
      refine z_iconst (v := 0) C dL_faults_47 kc_0 ?_
      refine z_ior C dL_faults_48 ?_
      obtain ⟨x15, e16, hf⟩ := nm_g hf
      refine z_top e16 ?_
      refine z_istore_n (ls' := [(2, _), (4, _), (0, _), (1, _), (3, _)]) C dL_faults_49 (by decide) rfl ?_
      obtain ⟨x17, e18, hf⟩ := nm_g hf
      refine z_iinc (ls' := [(3, _), (2, _), (4, _), (0, _), (1, _)]) 4 C dL_faults_50 rfl kc_1 e18 (by decide) rfl ?_
      refine z_goto (tgt := 4) C dL_faults_53 rfl ?_
      refine z_sub (ls' := [(0, .ref (ad 0)), (1, .int l1), (2, .int x15), (3, .int x17)]) [3, 4, 1, 0] rfl ?_
      exact ih _ _ _ _ _ _ hf
    have hf := ifn hc hf
    refine z_iload 0 C dL_faults_35 rfl ?_
    refine z_iload_n 4 C dL_faults_37 rfl ?_
    refine z_icmp_eq (tgt := 47) C dL_faults_38 rfl (fun hc => ?_) (fun hc => ?_)
    · have hf := ifp hc hf
      refine z_iconst (v := 0) C dL_faults_47 kc_0 ?_
      refine z_ior C dL_faults_48 ?_
      obtain ⟨x19, e20, hf⟩ := nm_g hf
      refine z_top e20 ?_
      refine z_istore_n (ls' := [(2, _), (4, _), (0, _), (1, _), (3, _)]) C dL_faults_49 (by decide) rfl ?_
      obtain ⟨x21, e22, hf⟩ := nm_g hf
      refine z_iinc (ls' := [(3, _), (2, _), (4, _), (0, _), (1, _)]) 4 C dL_faults_50 rfl kc_1 e22 (by decide) rfl ?_
      refine z_goto (tgt := 4) C dL_faults_53 rfl ?_
      refine z_sub (ls' := [(0, .ref (ad 0)), (1, .int l1), (2, .int x19), (3, .int x21)]) [3, 4, 1, 0] rfl ?_
      exact ih _ _ _ _ _ _ hf
    have hf := ifn hc hf
    refine z_iconst (v := 1) C dL_faults_41 kc_1 ?_
    refine z_iload_n 4 C dL_faults_42 rfl ?_
    refine z_ishl C dL_faults_43 ?_
    refine z_goto (tgt := 48) C dL_faults_44 rfl ?_
    refine z_ior C dL_faults_48 ?_
    obtain ⟨x23, e24, hf⟩ := nm_g hf
    refine z_top e24 ?_
    refine z_istore_n (ls' := [(2, _), (4, _), (0, _), (1, _), (3, _)]) C dL_faults_49 (by decide) rfl ?_
    obtain ⟨x25, e26, hf⟩ := nm_g hf
    refine z_iinc (ls' := [(3, _), (2, _), (4, _), (0, _), (1, _)]) 4 C dL_faults_50 rfl kc_1 e26 (by decide) rfl ?_
    refine z_goto (tgt := 4) C dL_faults_53 rfl ?_
    refine z_sub (ls' := [(0, .ref (ad 0)), (1, .int l1), (2, .int x23), (3, .int x25)]) [3, 4, 1, 0] rfl ?_
    exact ih _ _ _ _ _ _ hf
set_option maxHeartbeats 400000 in
set_option maxRecDepth 100000 in
theorem c_L_faults {l : Launch} {D : va_G} {cs : ClassId × ClassId × ClassId} (ad : Nat → Nat) (a1 : Int32) (nr : zA) (nf : zA) (tr : zA) (tf : zA) (co : zA) (pf : zA) (hi : Nat → zA) (sl : Nat → zA) (sv : zA) (ff : zA) {v : Int32} {nf' : zA} {tr' : zA} {tf' : zA} (e : f_L_faults a1 nr nf tr tf pf ff = some (v, nf', tr', tf')) : zM l D cs yL_faults cL_faults 5 (some .boolean) 7 [.ref (ad 0), .int a1] (FW cs ad nr nf tr tf co pf hi sl sv ff) v (FW cs ad nr nf' tr' tf' co pf hi sl sv ff) := by
  refine zM_of (show plainName RL = true by decide +kernel) (Nat.le_of_ble_eq_true rfl) ?_
  rintro G rfl rfl rfl C F
  have hf := e
  clear e
  unfold f_L_faults at hf
  show zV G 5 0 [(0, .ref (ad 0)), (1, .int a1)] [] (FW (gk G) ad nr nf tr tf co pf hi sl sv ff)
  refine z_iconst (v := 0) C dL_faults_0 kc_0 ?_
  refine z_istore_n (ls' := [(2, _), (0, _), (1, _)]) C dL_faults_1 (by decide) rfl ?_
  refine z_iconst (v := 0) C dL_faults_2 kc_0 ?_
  refine z_istore_n (ls' := [(3, _), (2, _), (0, _), (1, _)]) C dL_faults_3 (by decide) rfl ?_
  refine z_sub (ls' := [(0, .ref (ad 0)), (1, .int a1), (2, .int 0), (3, .int 0)]) [2, 3, 1, 0] rfl ?_
  exact tb_L_faults_4 ad nr co pf hi sl sv ff C F _ _ _ _ _ _ _ hf
