set_option maxHeartbeats 400000 in
set_option maxRecDepth 100000 in
theorem c_X1_length {l : Launch} {D : va_G} {cs : ClassId × ClassId × ClassId} (h : Nat) (q : Nat)  (codes : zA) (pf : zA) {v : Int32}  (e : f_X1_length pf = some v) : zM l D cs yX1_length cX1_length 1 (some .int) 0 [.ref h] (PW cs h q codes pf) v (PW cs h q codes pf) := by
  refine zM_of (show plainName RX1 = true by decide +kernel) (Nat.le_of_ble_eq_true rfl) ?_
  rintro G rfl rfl rfl C F
  have hf := e
  clear e
  unfold f_X1_length at hf
  show zV G 1 0 [(0, .ref h)] [] (PW (gk G) h q codes pf)
  refine z_aload_n 0 C dX1_length_0 rfl ?_
  refine gf_X1_15 0 C dX1_length_1 rfl rfl ?_
  cases hf
  exact z_iret C dX1_length_4 F
set_option maxHeartbeats 400000 in
set_option maxRecDepth 100000 in
theorem c_X1_letter {l : Launch} {D : va_G} {cs : ClassId × ClassId × ClassId} (h : Nat) (q : Nat)  (codes : zA) (pf : zA) {v : Int32}  (e : f_X1_letter pf = some v) : zM l D cs yX1_letter cX1_letter 1 (some .int) 0 [.ref h] (PW cs h q codes pf) v (PW cs h q codes pf) := by
  refine zM_of (show plainName RX1 = true by decide +kernel) (Nat.le_of_ble_eq_true rfl) ?_
  rintro G rfl rfl rfl C F
  have hf := e
  clear e
  unfold f_X1_letter at hf
  show zV G 1 0 [(0, .ref h)] [] (PW (gk G) h q codes pf)
  refine z_aload_n 0 C dX1_letter_0 rfl ?_
  refine gf_X1_22 0 C dX1_letter_1 rfl rfl ?_
  cases hf
  exact z_iret C dX1_letter_4 F
set_option maxHeartbeats 400000 in
set_option maxRecDepth 100000 in
theorem c_X1_digit {l : Launch} {D : va_G} {cs : ClassId × ClassId × ClassId} (h : Nat) (q : Nat)  (codes : zA) (pf : zA) {v : Int32}  (e : f_X1_digit pf = some v) : zM l D cs yX1_digit cX1_digit 1 (some .int) 0 [.ref h] (PW cs h q codes pf) v (PW cs h q codes pf) := by
  refine zM_of (show plainName RX1 = true by decide +kernel) (Nat.le_of_ble_eq_true rfl) ?_
  rintro G rfl rfl rfl C F
  have hf := e
  clear e
  unfold f_X1_digit at hf
  show zV G 1 0 [(0, .ref h)] [] (PW (gk G) h q codes pf)
  refine z_aload_n 0 C dX1_digit_0 rfl ?_
  refine gf_X1_25 0 C dX1_digit_1 rfl rfl ?_
  cases hf
  exact z_iret C dX1_digit_4 F
set_option maxHeartbeats 400000 in
set_option maxRecDepth 100000 in
theorem c_X1_number {l : Launch} {D : va_G} {cs : ClassId × ClassId × ClassId} (h : Nat) (q : Nat)  (codes : zA) (pf : zA) {v : Int32}  (e : f_X1_number pf = some v) : zM l D cs yX1_number cX1_number 1 (some .int) 0 [.ref h] (PW cs h q codes pf) v (PW cs h q codes pf) := by
  refine zM_of (show plainName RX1 = true by decide +kernel) (Nat.le_of_ble_eq_true rfl) ?_
  rintro G rfl rfl rfl C F
  have hf := e
  clear e
  unfold f_X1_number at hf
  show zV G 1 0 [(0, .ref h)] [] (PW (gk G) h q codes pf)
  refine z_aload_n 0 C dX1_number_0 rfl ?_
  refine gf_X1_28 0 C dX1_number_1 rfl rfl ?_
  cases hf
  exact z_iret C dX1_number_4 F
set_option maxHeartbeats 400000 in
set_option maxRecDepth 100000 in
theorem c_X1_kind {l : Launch} {D : va_G} {cs : ClassId × ClassId × ClassId} (h : Nat) (q : Nat)  (codes : zA) (pf : zA) {v : Int32}  (e : f_X1_kind pf = some v) : zM l D cs yX1_kind cX1_kind 1 (some .int) 0 [.ref h] (PW cs h q codes pf) v (PW cs h q codes pf) := by
  refine zM_of (show plainName RX1 = true by decide +kernel) (Nat.le_of_ble_eq_true rfl) ?_
  rintro G rfl rfl rfl C F
  have hf := e
  clear e
  unfold f_X1_kind at hf
  show zV G 1 0 [(0, .ref h)] [] (PW (gk G) h q codes pf)
  refine z_aload_n 0 C dX1_kind_0 rfl ?_
  refine gf_X1_31 0 C dX1_kind_1 rfl rfl ?_
  cases hf
  exact z_iret C dX1_kind_4 F
set_option maxHeartbeats 400000 in
set_option maxRecDepth 100000 in
theorem c_X1_codeIn {l : Launch} {D : va_G} {cs : ClassId × ClassId × ClassId}  (a0 : Int64) (a2 : Int32)  {v : Int32}  (e : f_X1_codeIn a0 a2 = some v) : zM l D cs yX1_codeIn cX1_codeIn 3 (some .int) 0 [.long a0, .int a2] ([] : va_W) v ([] : va_W) := by
  refine zM_of (show plainName RX1 = true by decide +kernel) (Nat.le_of_ble_eq_true rfl) ?_
  rintro G rfl rfl rfl C F
  have hf := e
  clear e
  unfold f_X1_codeIn at hf
  show zV G 3 0 [(0, .long a0), (2, .int a2)] [] ([] : va_W)
  refine z_lload_n 0 C dX1_codeIn_0 rfl ?_
  refine z_bipush (v := 8) C dX1_codeIn_1 kb_8 ?_
  refine z_iload_n 1 C dX1_codeIn_3 rfl ?_
  refine z_imul C dX1_codeIn_4 ?_
  refine z_lushr C dX1_codeIn_5 ?_
  refine z_l2i C dX1_codeIn_6 ?_
  refine z_sipush (v := 255) C dX1_codeIn_7 ks_255 ?_
  refine z_iand C dX1_codeIn_10 ?_
  cases hf
  exact z_iret C dX1_codeIn_11 F
set_option maxHeartbeats 400000 in
set_option maxRecDepth 100000 in
theorem tb_X1_countCharacters_42 {G : GT}   {v : Int32}  (C : zC G cX1_countCharacters 4 RX1 (some .int) 1) (F : zF G (some (.int v)) ([] : va_W)) : ∀ (l0 : Int64) (l2 : Int32), B_X1_countCharacters_42 l0 l2 = some v → zV G 4 42 [(0, .long l0), (2, .int l2)] [] ([] : va_W) := by
  intro l0 l2 hf
  unfold B_X1_countCharacters_42 at hf
  refine z_iload_n 1 C dX1_countCharacters_42 rfl ?_
  refine z_bipush (v := 8) C dX1_countCharacters_43 kb_8 ?_
  refine z_icmp_ge (tgt := 61) C dX1_countCharacters_45 rfl (fun hc => ?_) (fun hc => ?_)
  · have hf := ifp hc hf
    refine z_iload_n 1 C dX1_countCharacters_61 rfl ?_
    cases hf
    exact z_iret C dX1_countCharacters_62 F
  have hf := ifn hc hf
  refine z_lload_n 0 C dX1_countCharacters_48 rfl ?_
  refine z_bipush (v := 8) C dX1_countCharacters_49 kb_8 ?_
  refine z_iload_n 1 C dX1_countCharacters_51 rfl ?_
  refine z_imul C dX1_countCharacters_52 ?_
  refine z_lushr C dX1_countCharacters_53 ?_
  refine z_lconst (v := 0) C dX1_countCharacters_54 kl_0 ?_
  refine z_lcmp C dX1_countCharacters_55 ?_
  refine z_if_eq (tgt := 61) C dX1_countCharacters_56 rfl (fun hc => ?_) (fun hc => ?_)
  · have hf := ifp hc hf
    refine z_iload_n 1 C dX1_countCharacters_61 rfl ?_
    cases hf
    exact z_iret C dX1_countCharacters_62 F
  have hf := ifn hc hf
  refine z_iconst (v := 0) C dX1_countCharacters_59 kc_0 ?_
  cases hf
  exact z_iret C dX1_countCharacters_60 F
set_option maxHeartbeats 400000 in
set_option maxRecDepth 100000 in
theorem tb_X1_countCharacters_2 {G : GT}   {v : Int32}  (C : zC G cX1_countCharacters 4 RX1 (some .int) 1) (F : zF G (some (.int v)) ([] : va_W)) : ∀ (n : Nat) (l0 : Int64) (l2 : Int32), B_X1_countCharacters_2 n l0 l2 = some v → zV G 4 2 [(0, .long l0), (2, .int l2)] [] ([] : va_W) := by
  intro n
  induction n with
  | zero => intro _ _ hf; rw [B_X1_countCharacters_2] at hf; cases hf
  | succ n ih =>
    intro l0 l2 hf
    rw [B_X1_countCharacters_2] at hf
    refine z_iload_n 1 C dX1_countCharacters_2 rfl ?_
    refine z_bipush (v := 8) C dX1_countCharacters_3 kb_8 ?_
    refine z_icmp_ge (tgt := 42) C dX1_countCharacters_5 rfl (fun hc => ?_) (fun hc => ?_)
    · have hf := ifp hc hf
      exact tb_X1_countCharacters_42  C F _ _ hf
    have hf := ifn hc hf
    refine z_lload_n 0 C dX1_countCharacters_8 rfl ?_
    refine z_iload_n 1 C dX1_countCharacters_9 rfl ?_
    obtain ⟨v1, e2, hf⟩ := b1_e hf
    refine z_callS (st := []) (ws2 := ([] : va_W)) [] C dX1_countCharacters_10 w_X1_38 (c_X1_codeIn l0 l2 e2) (by decide) rfl rfl rfl  rfl rfl (Nat.le_of_ble_eq_true rfl) rfl ?_
    refine z_if_eq (tgt := 42) C dX1_countCharacters_13 rfl (fun hc => ?_) (fun hc => ?_)
    · have hf := ifp hc hf
      exact tb_X1_countCharacters_42  C F _ _ hf
    have hf := ifn hc hf
    refine z_lload_n 0 C dX1_countCharacters_16 rfl ?_
    refine z_iload_n 1 C dX1_countCharacters_17 rfl ?_
    obtain ⟨v3, e4, hf⟩ := b1_e hf
    refine z_callS (st := []) (ws2 := ([] : va_W)) [] C dX1_countCharacters_18 w_X1_38 (c_X1_codeIn l0 l2 e4) (by decide) rfl rfl rfl  rfl rfl (Nat.le_of_ble_eq_true rfl) rfl ?_
    refine z_istore_n (ls' := [(3, _), (0, _), (2, _)]) C dX1_countCharacters_21 (by decide) rfl ?_
    refine z_iload_n 0 C dX1_countCharacters_22 rfl ?_
    refine z_bipush (v := 33) C dX1_countCharacters_23 kb_33 ?_
    refine z_icmp_lt (tgt := 34) C dX1_countCharacters_25 rfl (fun hc => ?_) (fun hc => ?_)
    · have hf := ifp hc hf
      refine z_iconst (v := 0) C dX1_countCharacters_34 kc_0 ?_
      cases hf
      exact z_iret C dX1_countCharacters_35 F
    have hf := ifn hc hf
    refine z_iload_n 0 C dX1_countCharacters_28 rfl ?_
    refine z_bipush (v := 126) C dX1_countCharacters_29 kb_126 ?_
    refine z_icmp_le (tgt := 36) C dX1_countCharacters_31 rfl (fun hc => ?_) (fun hc => ?_)
    · have hf := ifp hc hf
      obtain ⟨x5, e6, hf⟩ := nm_g hf
      refine z_iinc (ls' := [(2, _), (3, _), (0, _)]) 2 C dX1_countCharacters_36 rfl kc_1 e6 (by decide) rfl ?_
      refine z_goto (tgt := 2) C dX1_countCharacters_39 rfl ?_
      refine z_sub (ls' := [(0, .long l0), (2, .int x5)]) [2, 0] rfl ?_
      exact ih _ _ hf
    have hf := ifn hc hf
    refine z_iconst (v := 0) C dX1_countCharacters_34 kc_0 ?_
    cases hf
    exact z_iret C dX1_countCharacters_35 F
set_option maxHeartbeats 400000 in
set_option maxRecDepth 100000 in
theorem c_X1_countCharacters {l : Launch} {D : va_G} {cs : ClassId × ClassId × ClassId}  (a0 : Int64)  {v : Int32}  (e : f_X1_countCharacters a0 = some v) : zM l D cs yX1_countCharacters cX1_countCharacters 4 (some .int) 1 [.long a0] ([] : va_W) v ([] : va_W) := by
  refine zM_of (show plainName RX1 = true by decide +kernel) (Nat.le_of_ble_eq_true rfl) ?_
  rintro G rfl rfl rfl C F
  have hf := e
  clear e
  unfold f_X1_countCharacters at hf
  show zV G 4 0 [(0, .long a0)] [] ([] : va_W)
  refine z_iconst (v := 0) C dX1_countCharacters_0 kc_0 ?_
  refine z_istore_n (ls' := [(2, _), (0, _)]) C dX1_countCharacters_1 (by decide) rfl ?_
  refine z_sub (ls' := [(0, .long a0), (2, .int 0)]) [1, 0] rfl ?_
  exact tb_X1_countCharacters_2  C F _ _ _ hf
set_option maxHeartbeats 400000 in
set_option maxRecDepth 100000 in
theorem tb_X1_append_29 {G : GT} (h : Nat) (q : Nat)  {v : Int32} {codes' : zA} {pf' : zA} (C : zC G cX1_append 5 RX1 (some .int) 2) (F : zF G (some (.int v)) (PW (gk G) h q codes' pf')) : ∀ (n : Nat) (l1 : Int64) (l3 : Int32) (l4 : Int32) (codes : zA) (pf : zA), B_X1_append_29 n l1 l3 l4 codes pf = some (v, codes', pf') → zV G 5 29 [(0, .ref h), (1, .long l1), (3, .int l3), (4, .int l4)] [] (PW (gk G) h q codes pf) := by
  intro n
  induction n with
  | zero => intro _ _ _ _ _ hf; rw [B_X1_append_29] at hf; cases hf
  | succ n ih =>
    intro l1 l3 l4 codes pf hf
    rw [B_X1_append_29] at hf
    refine z_iload 3 C dX1_append_29 rfl ?_
    refine z_iload_n 2 C dX1_append_31 rfl ?_
    refine z_icmp_ge (tgt := 63) C dX1_append_32 rfl (fun hc => ?_) (fun hc => ?_)
    · have hf := ifp hc hf
      refine z_aload_n 0 C dX1_append_63 rfl ?_
      refine z_dup C dX1_append_64 rfl ?_
      refine gf_X1_15 0 C dX1_append_65 rfl rfl ?_
      refine z_iload_n 2 C dX1_append_68 rfl ?_
      refine z_iadd C dX1_append_69 ?_
      obtain ⟨pf1, e2, hf⟩ := nm_g hf
      refine pf_X1_15 (ws' := (PW (gk G) h q codes pf1)) 0 C dX1_append_70 rfl (Nat.le_of_ble_eq_true rfl) (by subst e2; rfl) ?_
      refine z_aload_n 0 C dX1_append_73 rfl ?_
      refine gf_X1_15 0 C dX1_append_74 rfl rfl ?_
      cases hf
      exact z_iret C dX1_append_77 F
    have hf := ifn hc hf
    refine z_aload_n 0 C dX1_append_35 rfl ?_
    refine gf_X1_11 0 C dX1_append_36 rfl rfl ?_
    refine z_aload_n 0 C dX1_append_39 rfl ?_
    refine gf_X1_15 0 C dX1_append_40 rfl rfl ?_
    refine z_iload_n 2 C dX1_append_43 rfl ?_
    refine z_iadd C dX1_append_44 ?_
    refine z_iconst (v := 1) C dX1_append_45 kc_1 ?_
    refine z_isub C dX1_append_46 ?_
    refine z_iload 3 C dX1_append_47 rfl ?_
    refine z_isub C dX1_append_49 ?_
    refine z_lload_n 1 C dX1_append_50 rfl ?_
    refine z_iload 3 C dX1_append_51 rfl ?_
    obtain ⟨v3, e4, hf⟩ := b1_e hf
    refine z_callS (st := [.int ((((pf 1) + l3) - 1) - l4), .ref q]) (ws2 := (PW (gk G) h q codes pf)) [] C dX1_append_53 w_X1_38 (c_X1_codeIn l1 l4 e4) (by decide) rfl rfl rfl  rfl rfl (Nat.le_of_ble_eq_true rfl) rfl ?_
    obtain ⟨k5, h6, hf⟩ := gd_e hf
    obtain ⟨codes7, e8, hf⟩ := nm_g hf
    refine z_iast (ws' := (PW (gk G) h q codes7 pf)) 1 C dX1_append_56 h6 rfl e8 rfl ?_
    obtain ⟨x9, e10, hf⟩ := nm_g hf
    refine z_iinc (ls' := [(4, _), (0, _), (1, _), (3, _)]) 3 C dX1_append_57 rfl kc_1 e10 (by decide) rfl ?_
    refine z_goto (tgt := 29) C dX1_append_60 rfl ?_
    refine z_sub (ls' := [(0, .ref h), (1, .long l1), (3, .int l3), (4, .int x9)]) [1, 2, 3, 0] rfl ?_
    exact ih _ _ _ _ _ hf
set_option maxHeartbeats 400000 in
set_option maxRecDepth 100000 in
theorem c_X1_append {l : Launch} {D : va_G} {cs : ClassId × ClassId × ClassId} (h : Nat) (q : Nat) (a1 : Int64) (codes : zA) (pf : zA) {v : Int32} {codes' : zA} {pf' : zA} (e : f_X1_append a1 codes pf = some (v, codes', pf')) : zM l D cs yX1_append cX1_append 5 (some .int) 2 [.ref h, .long a1] (PW cs h q codes pf) v (PW cs h q codes' pf') := by
  refine zM_of (show plainName RX1 = true by decide +kernel) (Nat.le_of_ble_eq_true rfl) ?_
  rintro G rfl rfl rfl C F
  have hf := e
  clear e
  unfold f_X1_append at hf
  show zV G 5 0 [(0, .ref h), (1, .long a1)] [] (PW (gk G) h q codes pf)
  refine z_lload_n 1 C dX1_append_0 rfl ?_
  obtain ⟨v1, e2, hf⟩ := b1_e hf
  refine z_callS (st := []) (ws2 := (PW (gk G) h q codes pf)) [] C dX1_append_1 w_X1_34 (c_X1_countCharacters a1 e2) (by decide) rfl rfl rfl  rfl rfl (Nat.le_of_ble_eq_true rfl) rfl ?_
  refine z_istore_n (ls' := [(3, _), (0, _), (1, _)]) C dX1_append_4 (by decide) rfl ?_
  refine z_iload_n 0 C dX1_append_5 rfl ?_
  refine z_if_ne (tgt := 12) C dX1_append_6 rfl (fun hc => ?_) (fun hc => ?_)
  · have hf := ifn hc hf
    refine z_aload_n 1 C dX1_append_12 rfl ?_
    refine gf_X1_15 0 C dX1_append_13 rfl rfl ?_
    refine z_iload_n 0 C dX1_append_16 rfl ?_
    refine z_iadd C dX1_append_17 ?_
    refine z_bipush (v := 80) C dX1_append_18 kb_80 ?_
    refine z_icmp_le (tgt := 26) C dX1_append_20 rfl (fun hc => ?_) (fun hc => ?_)
    · have hf := ifp hc hf
      refine z_iconst (v := 0) C dX1_append_26 kc_0 ?_
      refine z_istore (ls' := [(4, _), (3, _), (0, _), (1, _)]) C dX1_append_27 (by decide) rfl ?_
      refine z_sub (ls' := [(0, .ref h), (1, .long a1), (3, .int v1), (4, .int 0)]) [2, 3, 1, 0] rfl ?_
      exact tb_X1_append_29 h q C F _ _ _ _ _ _ hf
    have hf := ifn hc hf
    refine z_bipush (v := -4) C dX1_append_23 kb_m4 ?_
    cases hf
    exact z_iret C dX1_append_25 F
  have hf := ifp hc hf
  refine z_bipush (v := -2) C dX1_append_9 kb_m2 ?_
  cases hf
  exact z_iret C dX1_append_11 F
set_option maxHeartbeats 400000 in
set_option maxRecDepth 100000 in
theorem c_X1_clear {l : Launch} {D : va_G} {cs : ClassId × ClassId × ClassId} (h : Nat) (q : Nat)  (codes : zA) (pf : zA) {v : Int32} {pf' : zA} (e : f_X1_clear pf = some (v, pf')) : zM l D cs yX1_clear cX1_clear 2 (some .int) 0 [.ref h] (PW cs h q codes pf) v (PW cs h q codes pf') := by
  refine zM_of (show plainName RX1 = true by decide +kernel) (Nat.le_of_ble_eq_true rfl) ?_
  rintro G rfl rfl rfl C F
  have hf := e
  clear e
  unfold f_X1_clear at hf
  show zV G 2 0 [(0, .ref h)] [] (PW (gk G) h q codes pf)
  refine z_aload_n 0 C dX1_clear_0 rfl ?_
  refine gf_X1_15 0 C dX1_clear_1 rfl rfl ?_
  refine z_istore_n (ls' := [(1, _), (0, _)]) C dX1_clear_4 (by decide) rfl ?_
  refine z_aload_n 1 C dX1_clear_5 rfl ?_
  refine z_iconst (v := 0) C dX1_clear_6 kc_0 ?_
  obtain ⟨pf1, e2, hf⟩ := nm_g hf
  refine pf_X1_15 (ws' := (PW (gk G) h q codes pf1)) 0 C dX1_clear_7 rfl (Nat.le_of_ble_eq_true rfl) (by subst e2; rfl) ?_
  refine z_iload_n 0 C dX1_clear_10 rfl ?_
  cases hf
  exact z_iret C dX1_clear_11 F
set_option maxHeartbeats 400000 in
set_option maxRecDepth 100000 in
theorem c_X1_codeHere {l : Launch} {D : va_G} {cs : ClassId × ClassId × ClassId} (h : Nat) (q : Nat)  (codes : zA) (pf : zA) {v : Int32}  (e : f_X1_codeHere codes pf = some v) : zM l D cs yX1_codeHere cX1_codeHere 1 (some .int) 0 [.ref h] (PW cs h q codes pf) v (PW cs h q codes pf) := by
  refine zM_of (show plainName RX1 = true by decide +kernel) (Nat.le_of_ble_eq_true rfl) ?_
  rintro G rfl rfl rfl C F
  have hf := e
  clear e
  unfold f_X1_codeHere at hf
  show zV G 1 0 [(0, .ref h)] [] (PW (gk G) h q codes pf)
  refine z_aload_n 0 C dX1_codeHere_0 rfl ?_
  refine gf_X1_19 0 C dX1_codeHere_1 rfl rfl ?_
  refine z_if_lt (tgt := 30) C dX1_codeHere_4 rfl (fun hc => ?_) (fun hc => ?_)
  · have hf := ifp hc hf
    refine z_iconst (v := 0) C dX1_codeHere_30 kc_0 ?_
    cases hf
    exact z_iret C dX1_codeHere_31 F
  have hf := ifn hc hf
  refine z_aload_n 0 C dX1_codeHere_7 rfl ?_
  refine gf_X1_19 0 C dX1_codeHere_8 rfl rfl ?_
  refine z_aload_n 0 C dX1_codeHere_11 rfl ?_
  refine gf_X1_15 0 C dX1_codeHere_12 rfl rfl ?_
  refine z_icmp_ge (tgt := 30) C dX1_codeHere_15 rfl (fun hc => ?_) (fun hc => ?_)
  · have hf := ifp hc hf
    refine z_iconst (v := 0) C dX1_codeHere_30 kc_0 ?_
    cases hf
    exact z_iret C dX1_codeHere_31 F
  have hf := ifn hc hf
  refine z_aload_n 0 C dX1_codeHere_18 rfl ?_
  refine gf_X1_11 0 C dX1_codeHere_19 rfl rfl ?_
  refine z_aload_n 0 C dX1_codeHere_22 rfl ?_
  refine gf_X1_19 0 C dX1_codeHere_23 rfl rfl ?_
  obtain ⟨k1, h2, hf⟩ := gd_e hf
  refine z_iald 1 C dX1_codeHere_26 h2 rfl ?_
  refine z_goto (tgt := 31) C dX1_codeHere_27 rfl ?_
  cases hf
  exact z_iret C dX1_codeHere_31 F
set_option maxHeartbeats 400000 in
set_option maxRecDepth 100000 in
theorem c_X1_skip {l : Launch} {D : va_G} {cs : ClassId × ClassId × ClassId} (h : Nat) (q : Nat) (a1 : Int32) (codes : zA) (pf : zA) {v : Int32} {pf' : zA} (e : f_X1_skip a1 codes pf = some (v, pf')) : zM l D cs yX1_skip cX1_skip 2 (some .boolean) 1 [.ref h, .int a1] (PW cs h q codes pf) v (PW cs h q codes pf') := by
  refine zM_of (show plainName RX1 = true by decide +kernel) (Nat.le_of_ble_eq_true rfl) ?_
  rintro G rfl rfl rfl C F
  have hf := e
  clear e
  unfold f_X1_skip at hf
  show zV G 2 0 [(0, .ref h), (1, .int a1)] [] (PW (gk G) h q codes pf)
  refine z_aload_n 0 C dX1_skip_0 rfl ?_
  obtain ⟨v1, e2, hf⟩ := b1_e hf
  refine z_callV (st := []) (ws2 := (PW (gk G) h q codes pf)) [0, 1] C dX1_skip_1 w_X1_56 (c_X1_codeHere h q codes pf e2) (by decide) rfl rfl rfl rfl rfl rfl rfl (Nat.le_of_ble_eq_true rfl) rfl ?_
  refine z_iload_n 1 C dX1_skip_4 rfl ?_
  refine z_icmp_eq (tgt := 10) C dX1_skip_5 rfl (fun hc => ?_) (fun hc => ?_)
  · have hf := ifp hc hf
    refine z_aload_n 0 C dX1_skip_10 rfl ?_
    refine z_dup C dX1_skip_11 rfl ?_
    refine gf_X1_19 0 C dX1_skip_12 rfl rfl ?_
    refine z_iconst (v := 1) C dX1_skip_15 kc_1 ?_
    refine z_iadd C dX1_skip_16 ?_
    obtain ⟨pf3, e4, hf⟩ := nm_g hf
    refine pf_X1_19 (ws' := (PW (gk G) h q codes pf3)) 0 C dX1_skip_17 rfl (Nat.le_of_ble_eq_true rfl) (by subst e4; rfl) ?_
    refine z_iconst (v := 1) C dX1_skip_20 kc_1 ?_
    cases hf
    exact z_zret C dX1_skip_21 rfl F
  have hf := ifn hc hf
  refine z_iconst (v := 0) C dX1_skip_8 kc_0 ?_
  cases hf
  exact z_zret C dX1_skip_9 rfl F
set_option maxHeartbeats 400000 in
set_option maxRecDepth 100000 in
theorem c_X1_isDigitHere {l : Launch} {D : va_G} {cs : ClassId × ClassId × ClassId} (h : Nat) (q : Nat)  (codes : zA) (pf : zA) {v : Int32}  (e : f_X1_isDigitHere codes pf = some v) : zM l D cs yX1_isDigitHere cX1_isDigitHere 1 (some .boolean) 1 [.ref h] (PW cs h q codes pf) v (PW cs h q codes pf) := by
  refine zM_of (show plainName RX1 = true by decide +kernel) (Nat.le_of_ble_eq_true rfl) ?_
  rintro G rfl rfl rfl C F
  have hf := e
  clear e
  unfold f_X1_isDigitHere at hf
  show zV G 1 0 [(0, .ref h)] [] (PW (gk G) h q codes pf)
  refine z_aload_n 0 C dX1_isDigitHere_0 rfl ?_
  obtain ⟨v1, e2, hf⟩ := b1_e hf
  refine z_callV (st := []) (ws2 := (PW (gk G) h q codes pf)) [0, 1] C dX1_isDigitHere_1 w_X1_56 (c_X1_codeHere h q codes pf e2) (by decide) rfl rfl rfl rfl rfl rfl rfl (Nat.le_of_ble_eq_true rfl) rfl ?_
  refine z_bipush (v := 48) C dX1_isDigitHere_4 kb_48 ?_
  refine z_icmp_lt (tgt := 22) C dX1_isDigitHere_6 rfl (fun hc => ?_) (fun hc => ?_)
  · have hf := ifp hc hf
    refine z_iconst (v := 0) C dX1_isDigitHere_22 kc_0 ?_
    cases hf
    exact z_zret C dX1_isDigitHere_23 rfl F
  have hf := ifn hc hf
  refine z_aload_n 0 C dX1_isDigitHere_9 rfl ?_
  obtain ⟨v3, e4, hf⟩ := b1_e hf
  refine z_callV (st := []) (ws2 := (PW (gk G) h q codes pf)) [0, 1] C dX1_isDigitHere_10 w_X1_56 (c_X1_codeHere h q codes pf e4) (by decide) rfl rfl rfl rfl rfl rfl rfl (Nat.le_of_ble_eq_true rfl) rfl ?_
  refine z_bipush (v := 57) C dX1_isDigitHere_13 kb_57 ?_
  refine z_icmp_gt (tgt := 22) C dX1_isDigitHere_15 rfl (fun hc => ?_) (fun hc => ?_)
  · have hf := ifp hc hf
    refine z_iconst (v := 0) C dX1_isDigitHere_22 kc_0 ?_
    cases hf
    exact z_zret C dX1_isDigitHere_23 rfl F
  have hf := ifn hc hf
  refine z_iconst (v := 1) C dX1_isDigitHere_18 kc_1 ?_
  refine z_goto (tgt := 23) C dX1_isDigitHere_19 rfl ?_
  cases hf
  exact z_zret C dX1_isDigitHere_23 rfl F
set_option maxHeartbeats 400000 in
set_option maxRecDepth 100000 in
theorem c_X1_readDigit {l : Launch} {D : va_G} {cs : ClassId × ClassId × ClassId} (h : Nat) (q : Nat)  (codes : zA) (pf : zA) {v : Int32} {pf' : zA} (e : f_X1_readDigit codes pf = some (v, pf')) : zM l D cs yX1_readDigit cX1_readDigit 1 (some .boolean) 2 [.ref h] (PW cs h q codes pf) v (PW cs h q codes pf') := by
  refine zM_of (show plainName RX1 = true by decide +kernel) (Nat.le_of_ble_eq_true rfl) ?_
  rintro G rfl rfl rfl C F
  have hf := e
  clear e
  unfold f_X1_readDigit at hf
  show zV G 1 0 [(0, .ref h)] [] (PW (gk G) h q codes pf)
  refine z_aload_n 0 C dX1_readDigit_0 rfl ?_
  obtain ⟨v1, e2, hf⟩ := b1_e hf
  refine z_callV (st := []) (ws2 := (PW (gk G) h q codes pf)) [0, 1] C dX1_readDigit_1 w_X1_69 (c_X1_isDigitHere h q codes pf e2) (by decide) rfl rfl rfl rfl rfl rfl rfl (Nat.le_of_ble_eq_true rfl) rfl ?_
  refine z_if_ne (tgt := 9) C dX1_readDigit_4 rfl (fun hc => ?_) (fun hc => ?_)
  · have hf := ifn hc hf
    refine z_aload_n 0 C dX1_readDigit_9 rfl ?_
    refine z_aload_n 0 C dX1_readDigit_10 rfl ?_
    obtain ⟨v3, e4, hf⟩ := b1_e hf
    refine z_callV (st := [.ref h]) (ws2 := (PW (gk G) h q codes pf)) [0, 1] C dX1_readDigit_11 w_X1_56 (c_X1_codeHere h q codes pf e4) (by decide) rfl rfl rfl rfl rfl rfl rfl (Nat.le_of_ble_eq_true rfl) rfl ?_
    refine z_bipush (v := 48) C dX1_readDigit_14 kb_48 ?_
    refine z_isub C dX1_readDigit_16 ?_
    obtain ⟨pf5, e6, hf⟩ := nm_g hf
    refine pf_X1_25 (ws' := (PW (gk G) h q codes pf5)) 0 C dX1_readDigit_17 rfl (Nat.le_of_ble_eq_true rfl) (by subst e6; rfl) ?_
    refine z_aload_n 0 C dX1_readDigit_20 rfl ?_
    refine z_dup C dX1_readDigit_21 rfl ?_
    refine gf_X1_19 0 C dX1_readDigit_22 rfl rfl ?_
    refine z_iconst (v := 1) C dX1_readDigit_25 kc_1 ?_
    refine z_iadd C dX1_readDigit_26 ?_
    obtain ⟨pf7, e8, hf⟩ := nm_g hf
    refine pf_X1_19 (ws' := (PW (gk G) h q codes pf7)) 0 C dX1_readDigit_27 rfl (Nat.le_of_ble_eq_true rfl) (by subst e8; rfl) ?_
    refine z_iconst (v := 1) C dX1_readDigit_30 kc_1 ?_
    cases hf
    exact z_zret C dX1_readDigit_31 rfl F
  have hf := ifp hc hf
  refine z_iconst (v := 0) C dX1_readDigit_7 kc_0 ?_
  cases hf
  exact z_zret C dX1_readDigit_8 rfl F
set_option maxHeartbeats 400000 in
set_option maxRecDepth 100000 in
theorem tb_X1_readNumber_16 {G : GT} (h : Nat) (q : Nat) (codes : zA) {v : Int32} {pf' : zA} (C : zC G cX1_readNumber 2 RX1 (some .boolean) 2) (F : zF G (some (.int v)) (PW (gk G) h q codes pf')) : ∀ (n : Nat) (l1 : Int32) (pf : zA), B_X1_readNumber_16 n l1 codes pf = some (v, pf') → zV G 2 16 [(0, .ref h), (1, .int l1)] [] (PW (gk G) h q codes pf) := by
  intro n
  induction n with
  | zero => intro _ _ hf; rw [B_X1_readNumber_16] at hf; cases hf
  | succ n ih =>
    intro l1 pf hf
    rw [B_X1_readNumber_16] at hf
    refine z_iload_n 1 C dX1_readNumber_16 rfl ?_
    refine z_iconst (v := 3) C dX1_readNumber_17 kc_3 ?_
    refine z_icmp_ge (tgt := 72) C dX1_readNumber_18 rfl (fun hc => ?_) (fun hc => ?_)
    · have hf := ifp hc hf
      refine z_iconst (v := 1) C dX1_readNumber_72 kc_1 ?_
      cases hf
      exact z_zret C dX1_readNumber_73 rfl F
    have hf := ifn hc hf
    refine z_aload_n 0 C dX1_readNumber_21 rfl ?_
    obtain ⟨v1, e2, hf⟩ := b1_e hf
    refine z_callV (st := []) (ws2 := (PW (gk G) h q codes pf)) [0, 1] C dX1_readNumber_22 w_X1_69 (c_X1_isDigitHere h q codes pf e2) (by decide) rfl rfl rfl rfl rfl rfl rfl (Nat.le_of_ble_eq_true rfl) rfl ?_
    refine z_if_eq (tgt := 72) C dX1_readNumber_25 rfl (fun hc => ?_) (fun hc => ?_)
    · have hf := ifp hc hf
      refine z_iconst (v := 1) C dX1_readNumber_72 kc_1 ?_
      cases hf
      exact z_zret C dX1_readNumber_73 rfl F
    have hf := ifn hc hf
    refine z_aload_n 0 C dX1_readNumber_28 rfl ?_
    refine z_aload_n 0 C dX1_readNumber_29 rfl ?_
    refine gf_X1_28 0 C dX1_readNumber_30 rfl rfl ?_
    refine z_bipush (v := 10) C dX1_readNumber_33 kb_10 ?_
    refine z_imul C dX1_readNumber_35 ?_
    refine z_aload_n 0 C dX1_readNumber_36 rfl ?_
    obtain ⟨v3, e4, hf⟩ := b1_e hf
    refine z_callV (st := [.int ((pf 5) * 10), .ref h]) (ws2 := (PW (gk G) h q codes pf)) [0, 1] C dX1_readNumber_37 w_X1_56 (c_X1_codeHere h q codes pf e4) (by decide) rfl rfl rfl rfl rfl rfl rfl (Nat.le_of_ble_eq_true rfl) rfl ?_
    refine z_iadd C dX1_readNumber_40 ?_
    refine z_bipush (v := 48) C dX1_readNumber_41 kb_48 ?_
    refine z_isub C dX1_readNumber_43 ?_
    obtain ⟨pf5, e6, hf⟩ := nm_g hf
    refine pf_X1_28 (ws' := (PW (gk G) h q codes pf5)) 0 C dX1_readNumber_44 rfl (Nat.le_of_ble_eq_true rfl) (by subst e6; rfl) ?_
    refine z_aload_n 0 C dX1_readNumber_47 rfl ?_
    refine z_dup C dX1_readNumber_48 rfl ?_
    refine gf_X1_19 0 C dX1_readNumber_49 rfl rfl ?_
    refine z_iconst (v := 1) C dX1_readNumber_52 kc_1 ?_
    refine z_iadd C dX1_readNumber_53 ?_
    obtain ⟨pf7, e8, hf⟩ := nm_g hf
    refine pf_X1_19 (ws' := (PW (gk G) h q codes pf7)) 0 C dX1_readNumber_54 rfl (Nat.le_of_ble_eq_true rfl) (by subst e8; rfl) ?_
    refine z_aload_n 0 C dX1_readNumber_57 rfl ?_
    refine gf_X1_28 0 C dX1_readNumber_58 rfl rfl ?_
    refine z_if_ne (tgt := 66) C dX1_readNumber_61 rfl (fun hc => ?_) (fun hc => ?_)
    · have hf := ifn hc hf
      obtain ⟨x9, e10, hf⟩ := nm_g hf
      refine z_iinc (ls' := [(1, _), (0, _)]) 1 C dX1_readNumber_66 rfl kc_1 e10 (by decide) rfl ?_
      refine z_goto (tgt := 16) C dX1_readNumber_69 rfl ?_
      refine z_sub (ls' := [(0, .ref h), (1, .int x9)]) [1, 0] rfl ?_
      exact ih _ _ hf
    have hf := ifp hc hf
    refine z_iconst (v := 1) C dX1_readNumber_64 kc_1 ?_
    cases hf
    exact z_zret C dX1_readNumber_65 rfl F
set_option maxHeartbeats 400000 in
set_option maxRecDepth 100000 in
theorem c_X1_readNumber {l : Launch} {D : va_G} {cs : ClassId × ClassId × ClassId} (h : Nat) (q : Nat)  (codes : zA) (pf : zA) {v : Int32} {pf' : zA} (e : f_X1_readNumber codes pf = some (v, pf')) : zM l D cs yX1_readNumber cX1_readNumber 2 (some .boolean) 2 [.ref h] (PW cs h q codes pf) v (PW cs h q codes pf') := by
  refine zM_of (show plainName RX1 = true by decide +kernel) (Nat.le_of_ble_eq_true rfl) ?_
  rintro G rfl rfl rfl C F
  have hf := e
  clear e
  unfold f_X1_readNumber at hf
  show zV G 2 0 [(0, .ref h)] [] (PW (gk G) h q codes pf)
  refine z_aload_n 0 C dX1_readNumber_0 rfl ?_
  obtain ⟨v1, e2, hf⟩ := b1_e hf
  refine z_callV (st := []) (ws2 := (PW (gk G) h q codes pf)) [0, 1] C dX1_readNumber_1 w_X1_69 (c_X1_isDigitHere h q codes pf e2) (by decide) rfl rfl rfl rfl rfl rfl rfl (Nat.le_of_ble_eq_true rfl) rfl ?_
  refine z_if_ne (tgt := 9) C dX1_readNumber_4 rfl (fun hc => ?_) (fun hc => ?_)
  · have hf := ifn hc hf
    refine z_aload_n 0 C dX1_readNumber_9 rfl ?_
    refine z_iconst (v := 0) C dX1_readNumber_10 kc_0 ?_
    obtain ⟨pf3, e4, hf⟩ := nm_g hf
    refine pf_X1_28 (ws' := (PW (gk G) h q codes pf3)) 0 C dX1_readNumber_11 rfl (Nat.le_of_ble_eq_true rfl) (by subst e4; rfl) ?_
    refine z_iconst (v := 0) C dX1_readNumber_14 kc_0 ?_
    refine z_istore_n (ls' := [(1, _), (0, _)]) C dX1_readNumber_15 (by decide) rfl ?_
    refine z_sub (ls' := [(0, .ref h), (1, .int 0)]) [1, 0] rfl ?_
    exact tb_X1_readNumber_16 h q codes C F _ _ _ hf
  have hf := ifp hc hf
  refine z_iconst (v := 0) C dX1_readNumber_7 kc_0 ?_
  cases hf
  exact z_zret C dX1_readNumber_8 rfl F
set_option maxHeartbeats 400000 in
set_option maxRecDepth 100000 in
theorem tb_X1_readKind_66 {G : GT} (h : Nat) (q : Nat) (codes : zA) {v : Int32} {pf' : zA} (C : zC G cX1_readKind 1 RX1 (some .boolean) 1) (F : zF G (some (.int v)) (PW (gk G) h q codes pf')) : ∀ (pf : zA), B_X1_readKind_66 codes pf = some (v, pf') → zV G 1 66 [(0, .ref h)] [] (PW (gk G) h q codes pf) := by
  intro pf hf
  unfold B_X1_readKind_66 at hf
  refine z_aload_n 0 C dX1_readKind_66 rfl ?_
  refine z_dup C dX1_readKind_67 rfl ?_
  refine gf_X1_19 0 C dX1_readKind_68 rfl rfl ?_
  refine z_iconst (v := 1) C dX1_readKind_71 kc_1 ?_
  refine z_iadd C dX1_readKind_72 ?_
  obtain ⟨pf1, e2, hf⟩ := nm_g hf
  refine pf_X1_19 (ws' := (PW (gk G) h q codes pf1)) 0 C dX1_readKind_73 rfl (Nat.le_of_ble_eq_true rfl) (by subst e2; rfl) ?_
  refine z_iconst (v := 1) C dX1_readKind_76 kc_1 ?_
  cases hf
  exact z_zret C dX1_readKind_77 rfl F
set_option maxHeartbeats 400000 in
set_option maxRecDepth 100000 in
theorem c_X1_readKind {l : Launch} {D : va_G} {cs : ClassId × ClassId × ClassId} (h : Nat) (q : Nat)  (codes : zA) (pf : zA) {v : Int32} {pf' : zA} (e : f_X1_readKind codes pf = some (v, pf')) : zM l D cs yX1_readKind cX1_readKind 1 (some .boolean) 1 [.ref h] (PW cs h q codes pf) v (PW cs h q codes pf') := by
  refine zM_of (show plainName RX1 = true by decide +kernel) (Nat.le_of_ble_eq_true rfl) ?_
  rintro G rfl rfl rfl C F
  have hf := e
  clear e
  unfold f_X1_readKind at hf
  show zV G 1 0 [(0, .ref h)] [] (PW (gk G) h q codes pf)
  refine z_aload_n 0 C dX1_readKind_0 rfl ?_
  obtain ⟨v1, e2, hf⟩ := b1_e hf
  refine z_callV (st := []) (ws2 := (PW (gk G) h q codes pf)) [0, 1] C dX1_readKind_1 w_X1_56 (c_X1_codeHere h q codes pf e2) (by decide) rfl rfl rfl rfl rfl rfl rfl (Nat.le_of_ble_eq_true rfl) rfl ?_
  by_cases hs3 : v1 = 111
  · have hf := ifp hs3 hf
    refine z_tabIn (tgt := 56) C dX1_readKind_4 hs3 (by decide) (by decide) rfl rfl ?_
    refine z_aload_n 0 C dX1_readKind_56 rfl ?_
    refine z_iconst (v := 2) C dX1_readKind_57 kc_2 ?_
    obtain ⟨pf4, e5, hf⟩ := nm_g hf
    refine pf_X1_31 (ws' := (PW (gk G) h q codes pf4)) 0 C dX1_readKind_58 rfl (Nat.le_of_ble_eq_true rfl) (by subst e5; rfl) ?_
    refine z_goto (tgt := 66) C dX1_readKind_61 rfl ?_
    exact tb_X1_readKind_66 h q codes C F _ hf
  have hf := ifn hs3 hf
  by_cases hs6 : v1 = 112
  · have hf := ifp hs6 hf
    refine z_tabIn (tgt := 64) C dX1_readKind_4 hs6 (by decide) (by decide) rfl rfl ?_
    refine z_iconst (v := 0) C dX1_readKind_64 kc_0 ?_
    cases hf
    exact z_zret C dX1_readKind_65 rfl F
  have hf := ifn hs6 hf
  by_cases hs7 : v1 = 113
  · have hf := ifp hs7 hf
    refine z_tabIn (tgt := 40) C dX1_readKind_4 hs7 (by decide) (by decide) rfl rfl ?_
    refine z_aload_n 0 C dX1_readKind_40 rfl ?_
    refine z_iconst (v := 0) C dX1_readKind_41 kc_0 ?_
    obtain ⟨pf8, e9, hf⟩ := nm_g hf
    refine pf_X1_31 (ws' := (PW (gk G) h q codes pf8)) 0 C dX1_readKind_42 rfl (Nat.le_of_ble_eq_true rfl) (by subst e9; rfl) ?_
    refine z_goto (tgt := 66) C dX1_readKind_45 rfl ?_
    exact tb_X1_readKind_66 h q codes C F _ hf
  have hf := ifn hs7 hf
  by_cases hs10 : v1 = 114
  · have hf := ifp hs10 hf
    refine z_tabIn (tgt := 64) C dX1_readKind_4 hs10 (by decide) (by decide) rfl rfl ?_
    refine z_iconst (v := 0) C dX1_readKind_64 kc_0 ?_
    cases hf
    exact z_zret C dX1_readKind_65 rfl F
  have hf := ifn hs10 hf
  by_cases hs11 : v1 = 115
  · have hf := ifp hs11 hf
    refine z_tabIn (tgt := 48) C dX1_readKind_4 hs11 (by decide) (by decide) rfl rfl ?_
    refine z_aload_n 0 C dX1_readKind_48 rfl ?_
    refine z_iconst (v := 1) C dX1_readKind_49 kc_1 ?_
    obtain ⟨pf12, e13, hf⟩ := nm_g hf
    refine pf_X1_31 (ws' := (PW (gk G) h q codes pf12)) 0 C dX1_readKind_50 rfl (Nat.le_of_ble_eq_true rfl) (by subst e13; rfl) ?_
    refine z_goto (tgt := 66) C dX1_readKind_53 rfl ?_
    exact tb_X1_readKind_66 h q codes C F _ hf
  have hf := ifn hs11 hf
  refine z_tabOut (tgt := 64) C dX1_readKind_4 (by have q0 := ti_ne (z := 111) (by decide) hs3; have q1 := ti_ne (z := 112) (by decide) hs6; have q2 := ti_ne (z := 113) (by decide) hs7; have q3 := ti_ne (z := 114) (by decide) hs10; have q4 := ti_ne (z := 115) (by decide) hs11; omega) rfl ?_
  refine z_iconst (v := 0) C dX1_readKind_64 kc_0 ?_
  cases hf
  exact z_zret C dX1_readKind_65 rfl F
set_option maxHeartbeats 400000 in
set_option maxRecDepth 100000 in
theorem c_X1_readOrder {l : Launch} {D : va_G} {cs : ClassId × ClassId × ClassId} (h : Nat) (q : Nat)  (codes : zA) (pf : zA) {v : Int32} {pf' : zA} (e : f_X1_readOrder codes pf = some (v, pf')) : zM l D cs yX1_readOrder cX1_readOrder 1 (some .boolean) 3 [.ref h] (PW cs h q codes pf) v (PW cs h q codes pf') := by
  refine zM_of (show plainName RX1 = true by decide +kernel) (Nat.le_of_ble_eq_true rfl) ?_
  rintro G rfl rfl rfl C F
  have hf := e
  clear e
  unfold f_X1_readOrder at hf
  show zV G 1 0 [(0, .ref h)] [] (PW (gk G) h q codes pf)
  refine z_aload_n 0 C dX1_readOrder_0 rfl ?_
  refine z_aload_n 0 C dX1_readOrder_1 rfl ?_
  obtain ⟨v1, e2, hf⟩ := b1_e hf
  refine z_callV (st := [.ref h]) (ws2 := (PW (gk G) h q codes pf)) [0, 1] C dX1_readOrder_2 w_X1_56 (c_X1_codeHere h q codes pf e2) (by decide) rfl rfl rfl rfl rfl rfl rfl (Nat.le_of_ble_eq_true rfl) rfl ?_
  obtain ⟨pf3, e4, hf⟩ := nm_g hf
  refine pf_X1_22 (ws' := (PW (gk G) h q codes pf3)) 0 C dX1_readOrder_5 rfl (Nat.le_of_ble_eq_true rfl) (by subst e4; rfl) ?_
  refine z_aload_n 0 C dX1_readOrder_8 rfl ?_
  refine gf_X1_22 0 C dX1_readOrder_9 rfl rfl ?_
  by_cases hs5 : (pf3 3) = 98
  · have hf := ifp hs5 hf
    refine z_look (off := 52) (tgt := 64) C dX1_readOrder_12 (by decide) (by rw [hs5]; decide) rfl ?_
    refine z_aload_n 0 C dX1_readOrder_64 rfl ?_
    refine z_aload_n 0 C dX1_readOrder_65 rfl ?_
    refine gf_X1_22 0 C dX1_readOrder_66 rfl rfl ?_
    obtain ⟨v6, pf7, e8, hf⟩ := b2_e hf
    refine z_callV (st := []) (ws2 := (PW (gk G) h q codes pf7)) [0, 1] C dX1_readOrder_69 w_X1_52 (c_X1_skip h q (pf3 3) codes pf3 e8) (by decide) rfl rfl rfl rfl rfl rfl rfl (Nat.le_of_ble_eq_true rfl) rfl ?_
    refine z_if_eq (tgt := 109) C dX1_readOrder_72 rfl (fun hc => ?_) (fun hc => ?_)
    · have hf := ifp hc hf
      refine z_iconst (v := 0) C dX1_readOrder_109 kc_0 ?_
      cases hf
      exact z_zret C dX1_readOrder_110 rfl F
    have hf := ifn hc hf
    refine z_aload_n 0 C dX1_readOrder_75 rfl ?_
    obtain ⟨v9, pf10, e11, hf⟩ := b2_e hf
    refine z_callV (st := []) (ws2 := (PW (gk G) h q codes pf10)) [0, 1] C dX1_readOrder_76 w_X1_60 (c_X1_readDigit h q codes pf7 e11) (by decide) rfl rfl rfl rfl rfl rfl rfl (Nat.le_of_ble_eq_true rfl) rfl ?_
    refine z_if_eq (tgt := 109) C dX1_readOrder_79 rfl (fun hc => ?_) (fun hc => ?_)
    · have hf := ifp hc hf
      refine z_iconst (v := 0) C dX1_readOrder_109 kc_0 ?_
      cases hf
      exact z_zret C dX1_readOrder_110 rfl F
    have hf := ifn hc hf
    refine z_aload_n 0 C dX1_readOrder_82 rfl ?_
    refine z_bipush (v := 46) C dX1_readOrder_83 kb_46 ?_
    obtain ⟨v12, pf13, e14, hf⟩ := b2_e hf
    refine z_callV (st := []) (ws2 := (PW (gk G) h q codes pf13)) [0, 1] C dX1_readOrder_85 w_X1_52 (c_X1_skip h q 46 codes pf10 e14) (by decide) rfl rfl rfl rfl rfl rfl rfl (Nat.le_of_ble_eq_true rfl) rfl ?_
    refine z_if_eq (tgt := 109) C dX1_readOrder_88 rfl (fun hc => ?_) (fun hc => ?_)
    · have hf := ifp hc hf
      refine z_iconst (v := 0) C dX1_readOrder_109 kc_0 ?_
      cases hf
      exact z_zret C dX1_readOrder_110 rfl F
    have hf := ifn hc hf
    refine z_aload_n 0 C dX1_readOrder_91 rfl ?_
    obtain ⟨v15, pf16, e17, hf⟩ := b2_e hf
    refine z_callV (st := []) (ws2 := (PW (gk G) h q codes pf16)) [0, 1] C dX1_readOrder_92 w_X1_63 (c_X1_readNumber h q codes pf13 e17) (by decide) rfl rfl rfl rfl rfl rfl rfl (Nat.le_of_ble_eq_true rfl) rfl ?_
    refine z_if_eq (tgt := 109) C dX1_readOrder_95 rfl (fun hc => ?_) (fun hc => ?_)
    · have hf := ifp hc hf
      refine z_iconst (v := 0) C dX1_readOrder_109 kc_0 ?_
      cases hf
      exact z_zret C dX1_readOrder_110 rfl F
    have hf := ifn hc hf
    refine z_aload_n 0 C dX1_readOrder_98 rfl ?_
    obtain ⟨v18, pf19, e20, hf⟩ := b2_e hf
    refine z_callV (st := []) (ws2 := (PW (gk G) h q codes pf19)) [0, 1] C dX1_readOrder_99 w_X1_66 (c_X1_readKind h q codes pf16 e20) (by decide) rfl rfl rfl rfl rfl rfl rfl (Nat.le_of_ble_eq_true rfl) rfl ?_
    refine z_if_eq (tgt := 109) C dX1_readOrder_102 rfl (fun hc => ?_) (fun hc => ?_)
    · have hf := ifp hc hf
      refine z_iconst (v := 0) C dX1_readOrder_109 kc_0 ?_
      cases hf
      exact z_zret C dX1_readOrder_110 rfl F
    have hf := ifn hc hf
    refine z_iconst (v := 1) C dX1_readOrder_105 kc_1 ?_
    refine z_goto (tgt := 110) C dX1_readOrder_106 rfl ?_
    cases hf
    exact z_zret C dX1_readOrder_110 rfl F
  have hf := ifn hs5 hf
  by_cases hs21 : (pf3 3) = 102
  · have hf := ifp hs21 hf
    refine z_look (off := 52) (tgt := 64) C dX1_readOrder_12 (by decide) (by rw [hs21]; decide) rfl ?_
    refine z_aload_n 0 C dX1_readOrder_64 rfl ?_
    refine z_aload_n 0 C dX1_readOrder_65 rfl ?_
    refine gf_X1_22 0 C dX1_readOrder_66 rfl rfl ?_
    obtain ⟨v22, pf23, e24, hf⟩ := b2_e hf
    refine z_callV (st := []) (ws2 := (PW (gk G) h q codes pf23)) [0, 1] C dX1_readOrder_69 w_X1_52 (c_X1_skip h q (pf3 3) codes pf3 e24) (by decide) rfl rfl rfl rfl rfl rfl rfl (Nat.le_of_ble_eq_true rfl) rfl ?_
    refine z_if_eq (tgt := 109) C dX1_readOrder_72 rfl (fun hc => ?_) (fun hc => ?_)
    · have hf := ifp hc hf
      refine z_iconst (v := 0) C dX1_readOrder_109 kc_0 ?_
      cases hf
      exact z_zret C dX1_readOrder_110 rfl F
    have hf := ifn hc hf
    refine z_aload_n 0 C dX1_readOrder_75 rfl ?_
    obtain ⟨v25, pf26, e27, hf⟩ := b2_e hf
    refine z_callV (st := []) (ws2 := (PW (gk G) h q codes pf26)) [0, 1] C dX1_readOrder_76 w_X1_60 (c_X1_readDigit h q codes pf23 e27) (by decide) rfl rfl rfl rfl rfl rfl rfl (Nat.le_of_ble_eq_true rfl) rfl ?_
    refine z_if_eq (tgt := 109) C dX1_readOrder_79 rfl (fun hc => ?_) (fun hc => ?_)
    · have hf := ifp hc hf
      refine z_iconst (v := 0) C dX1_readOrder_109 kc_0 ?_
      cases hf
      exact z_zret C dX1_readOrder_110 rfl F
    have hf := ifn hc hf
    refine z_aload_n 0 C dX1_readOrder_82 rfl ?_
    refine z_bipush (v := 46) C dX1_readOrder_83 kb_46 ?_
    obtain ⟨v28, pf29, e30, hf⟩ := b2_e hf
    refine z_callV (st := []) (ws2 := (PW (gk G) h q codes pf29)) [0, 1] C dX1_readOrder_85 w_X1_52 (c_X1_skip h q 46 codes pf26 e30) (by decide) rfl rfl rfl rfl rfl rfl rfl (Nat.le_of_ble_eq_true rfl) rfl ?_
    refine z_if_eq (tgt := 109) C dX1_readOrder_88 rfl (fun hc => ?_) (fun hc => ?_)
    · have hf := ifp hc hf
      refine z_iconst (v := 0) C dX1_readOrder_109 kc_0 ?_
      cases hf
      exact z_zret C dX1_readOrder_110 rfl F
    have hf := ifn hc hf
    refine z_aload_n 0 C dX1_readOrder_91 rfl ?_
    obtain ⟨v31, pf32, e33, hf⟩ := b2_e hf
    refine z_callV (st := []) (ws2 := (PW (gk G) h q codes pf32)) [0, 1] C dX1_readOrder_92 w_X1_63 (c_X1_readNumber h q codes pf29 e33) (by decide) rfl rfl rfl rfl rfl rfl rfl (Nat.le_of_ble_eq_true rfl) rfl ?_
    refine z_if_eq (tgt := 109) C dX1_readOrder_95 rfl (fun hc => ?_) (fun hc => ?_)
    · have hf := ifp hc hf
      refine z_iconst (v := 0) C dX1_readOrder_109 kc_0 ?_
      cases hf
      exact z_zret C dX1_readOrder_110 rfl F
    have hf := ifn hc hf
    refine z_aload_n 0 C dX1_readOrder_98 rfl ?_
    obtain ⟨v34, pf35, e36, hf⟩ := b2_e hf
    refine z_callV (st := []) (ws2 := (PW (gk G) h q codes pf35)) [0, 1] C dX1_readOrder_99 w_X1_66 (c_X1_readKind h q codes pf32 e36) (by decide) rfl rfl rfl rfl rfl rfl rfl (Nat.le_of_ble_eq_true rfl) rfl ?_
    refine z_if_eq (tgt := 109) C dX1_readOrder_102 rfl (fun hc => ?_) (fun hc => ?_)
    · have hf := ifp hc hf
      refine z_iconst (v := 0) C dX1_readOrder_109 kc_0 ?_
      cases hf
      exact z_zret C dX1_readOrder_110 rfl F
    have hf := ifn hc hf
    refine z_iconst (v := 1) C dX1_readOrder_105 kc_1 ?_
    refine z_goto (tgt := 110) C dX1_readOrder_106 rfl ?_
    cases hf
    exact z_zret C dX1_readOrder_110 rfl F
  have hf := ifn hs21 hf
  by_cases hs37 : (pf3 3) = 108
  · have hf := ifp hs37 hf
    refine z_look (off := 99) (tgt := 111) C dX1_readOrder_12 (by decide) (by rw [hs37]; decide) rfl ?_
    refine z_aload_n 0 C dX1_readOrder_111 rfl ?_
    refine z_aload_n 0 C dX1_readOrder_112 rfl ?_
    refine gf_X1_22 0 C dX1_readOrder_113 rfl rfl ?_
    obtain ⟨v38, pf39, e40, hf⟩ := b2_e hf
    refine z_callV (st := []) (ws2 := (PW (gk G) h q codes pf39)) [0, 1] C dX1_readOrder_116 w_X1_52 (c_X1_skip h q (pf3 3) codes pf3 e40) (by decide) rfl rfl rfl rfl rfl rfl rfl (Nat.le_of_ble_eq_true rfl) rfl ?_
    refine z_if_eq (tgt := 149) C dX1_readOrder_119 rfl (fun hc => ?_) (fun hc => ?_)
    · have hf := ifp hc hf
      refine z_iconst (v := 0) C dX1_readOrder_149 kc_0 ?_
      cases hf
      exact z_zret C dX1_readOrder_150 rfl F
    have hf := ifn hc hf
    refine z_aload_n 0 C dX1_readOrder_122 rfl ?_
    obtain ⟨v41, pf42, e43, hf⟩ := b2_e hf
    refine z_callV (st := []) (ws2 := (PW (gk G) h q codes pf42)) [0, 1] C dX1_readOrder_123 w_X1_60 (c_X1_readDigit h q codes pf39 e43) (by decide) rfl rfl rfl rfl rfl rfl rfl (Nat.le_of_ble_eq_true rfl) rfl ?_
    refine z_if_eq (tgt := 149) C dX1_readOrder_126 rfl (fun hc => ?_) (fun hc => ?_)
    · have hf := ifp hc hf
      refine z_iconst (v := 0) C dX1_readOrder_149 kc_0 ?_
      cases hf
      exact z_zret C dX1_readOrder_150 rfl F
    have hf := ifn hc hf
    refine z_aload_n 0 C dX1_readOrder_129 rfl ?_
    refine z_bipush (v := 61) C dX1_readOrder_130 kb_61 ?_
    obtain ⟨v44, pf45, e46, hf⟩ := b2_e hf
    refine z_callV (st := []) (ws2 := (PW (gk G) h q codes pf45)) [0, 1] C dX1_readOrder_132 w_X1_52 (c_X1_skip h q 61 codes pf42 e46) (by decide) rfl rfl rfl rfl rfl rfl rfl (Nat.le_of_ble_eq_true rfl) rfl ?_
    refine z_if_eq (tgt := 149) C dX1_readOrder_135 rfl (fun hc => ?_) (fun hc => ?_)
    · have hf := ifp hc hf
      refine z_iconst (v := 0) C dX1_readOrder_149 kc_0 ?_
      cases hf
      exact z_zret C dX1_readOrder_150 rfl F
    have hf := ifn hc hf
    refine z_aload_n 0 C dX1_readOrder_138 rfl ?_
    obtain ⟨v47, pf48, e49, hf⟩ := b2_e hf
    refine z_callV (st := []) (ws2 := (PW (gk G) h q codes pf48)) [0, 1] C dX1_readOrder_139 w_X1_63 (c_X1_readNumber h q codes pf45 e49) (by decide) rfl rfl rfl rfl rfl rfl rfl (Nat.le_of_ble_eq_true rfl) rfl ?_
    refine z_if_eq (tgt := 149) C dX1_readOrder_142 rfl (fun hc => ?_) (fun hc => ?_)
    · have hf := ifp hc hf
      refine z_iconst (v := 0) C dX1_readOrder_149 kc_0 ?_
      cases hf
      exact z_zret C dX1_readOrder_150 rfl F
    have hf := ifn hc hf
    refine z_iconst (v := 1) C dX1_readOrder_145 kc_1 ?_
    refine z_goto (tgt := 150) C dX1_readOrder_146 rfl ?_
    cases hf
    exact z_zret C dX1_readOrder_150 rfl F
  have hf := ifn hs37 hf
  by_cases hs50 : (pf3 3) = 115
  · have hf := ifp hs50 hf
    refine z_look (off := 139) (tgt := 151) C dX1_readOrder_12 (by decide) (by rw [hs50]; decide) rfl ?_
    refine z_aload_n 0 C dX1_readOrder_151 rfl ?_
    refine z_aload_n 0 C dX1_readOrder_152 rfl ?_
    refine gf_X1_22 0 C dX1_readOrder_153 rfl rfl ?_
    obtain ⟨v51, pf52, e53, hf⟩ := b2_e hf
    refine z_callV (st := []) (ws2 := (PW (gk G) h q codes pf52)) [0, 1] C dX1_readOrder_156 w_X1_52 (c_X1_skip h q (pf3 3) codes pf3 e53) (by decide) rfl rfl rfl rfl rfl rfl rfl (Nat.le_of_ble_eq_true rfl) rfl ?_
    refine z_if_eq (tgt := 173) C dX1_readOrder_159 rfl (fun hc => ?_) (fun hc => ?_)
    · have hf := ifp hc hf
      refine z_iconst (v := 0) C dX1_readOrder_173 kc_0 ?_
      cases hf
      exact z_zret C dX1_readOrder_174 rfl F
    have hf := ifn hc hf
    refine z_aload_n 0 C dX1_readOrder_162 rfl ?_
    obtain ⟨v54, pf55, e56, hf⟩ := b2_e hf
    refine z_callV (st := []) (ws2 := (PW (gk G) h q codes pf55)) [0, 1] C dX1_readOrder_163 w_X1_63 (c_X1_readNumber h q codes pf52 e56) (by decide) rfl rfl rfl rfl rfl rfl rfl (Nat.le_of_ble_eq_true rfl) rfl ?_
    refine z_if_eq (tgt := 173) C dX1_readOrder_166 rfl (fun hc => ?_) (fun hc => ?_)
    · have hf := ifp hc hf
      refine z_iconst (v := 0) C dX1_readOrder_173 kc_0 ?_
      cases hf
      exact z_zret C dX1_readOrder_174 rfl F
    have hf := ifn hc hf
    refine z_iconst (v := 1) C dX1_readOrder_169 kc_1 ?_
    refine z_goto (tgt := 174) C dX1_readOrder_170 rfl ?_
    cases hf
    exact z_zret C dX1_readOrder_174 rfl F
  have hf := ifn hs50 hf
  by_cases hs57 : (pf3 3) = 116
  · have hf := ifp hs57 hf
    refine z_look (off := 139) (tgt := 151) C dX1_readOrder_12 (by decide) (by rw [hs57]; decide) rfl ?_
    refine z_aload_n 0 C dX1_readOrder_151 rfl ?_
    refine z_aload_n 0 C dX1_readOrder_152 rfl ?_
    refine gf_X1_22 0 C dX1_readOrder_153 rfl rfl ?_
    obtain ⟨v58, pf59, e60, hf⟩ := b2_e hf
    refine z_callV (st := []) (ws2 := (PW (gk G) h q codes pf59)) [0, 1] C dX1_readOrder_156 w_X1_52 (c_X1_skip h q (pf3 3) codes pf3 e60) (by decide) rfl rfl rfl rfl rfl rfl rfl (Nat.le_of_ble_eq_true rfl) rfl ?_
    refine z_if_eq (tgt := 173) C dX1_readOrder_159 rfl (fun hc => ?_) (fun hc => ?_)
    · have hf := ifp hc hf
      refine z_iconst (v := 0) C dX1_readOrder_173 kc_0 ?_
      cases hf
      exact z_zret C dX1_readOrder_174 rfl F
    have hf := ifn hc hf
    refine z_aload_n 0 C dX1_readOrder_162 rfl ?_
    obtain ⟨v61, pf62, e63, hf⟩ := b2_e hf
    refine z_callV (st := []) (ws2 := (PW (gk G) h q codes pf62)) [0, 1] C dX1_readOrder_163 w_X1_63 (c_X1_readNumber h q codes pf59 e63) (by decide) rfl rfl rfl rfl rfl rfl rfl (Nat.le_of_ble_eq_true rfl) rfl ?_
    refine z_if_eq (tgt := 173) C dX1_readOrder_166 rfl (fun hc => ?_) (fun hc => ?_)
    · have hf := ifp hc hf
      refine z_iconst (v := 0) C dX1_readOrder_173 kc_0 ?_
      cases hf
      exact z_zret C dX1_readOrder_174 rfl F
    have hf := ifn hc hf
    refine z_iconst (v := 1) C dX1_readOrder_169 kc_1 ?_
    refine z_goto (tgt := 174) C dX1_readOrder_170 rfl ?_
    cases hf
    exact z_zret C dX1_readOrder_174 rfl F
  have hf := ifn hs57 hf
  refine z_look (off := 163) (tgt := 175) C dX1_readOrder_12 (by decide) (by have q0 := ti_ne (z := 98) (by decide) hs5; have q1 := ti_ne (z := 102) (by decide) hs21; have q2 := ti_ne (z := 108) (by decide) hs37; have q3 := ti_ne (z := 115) (by decide) hs50; have q4 := ti_ne (z := 116) (by decide) hs57; simp [Op.lookupswitch.offset, zne q0, q0, zne q1, q1, zne q2, q2, zne q3, q3, zne q4, q4]) rfl ?_
  refine z_iconst (v := 0) C dX1_readOrder_175 kc_0 ?_
  cases hf
  exact z_zret C dX1_readOrder_176 rfl F
set_option maxHeartbeats 400000 in
set_option maxRecDepth 100000 in
theorem c_X1_readFirstOrder {l : Launch} {D : va_G} {cs : ClassId × ClassId × ClassId} (h : Nat) (q : Nat)  (codes : zA) (pf : zA) {v : Int32} {pf' : zA} (e : f_X1_readFirstOrder codes pf = some (v, pf')) : zM l D cs yX1_readFirstOrder cX1_readFirstOrder 1 (some .boolean) 4 [.ref h] (PW cs h q codes pf) v (PW cs h q codes pf') := by
  refine zM_of (show plainName RX1 = true by decide +kernel) (Nat.le_of_ble_eq_true rfl) ?_
  rintro G rfl rfl rfl C F
  have hf := e
  clear e
  unfold f_X1_readFirstOrder at hf
  show zV G 1 0 [(0, .ref h)] [] (PW (gk G) h q codes pf)
  refine z_aload_n 0 C dX1_readFirstOrder_0 rfl ?_
  refine z_iconst (v := 0) C dX1_readFirstOrder_1 kc_0 ?_
  obtain ⟨pf1, e2, hf⟩ := nm_g hf
  refine pf_X1_19 (ws' := (PW (gk G) h q codes pf1)) 0 C dX1_readFirstOrder_2 rfl (Nat.le_of_ble_eq_true rfl) (by subst e2; rfl) ?_
  refine z_aload_n 0 C dX1_readFirstOrder_5 rfl ?_
  obtain ⟨v3, pf4, e5, hf⟩ := b2_e hf
  refine z_callV (st := []) (ws2 := (PW (gk G) h q codes pf4)) [0, 1] C dX1_readFirstOrder_6 w_X1_49 (c_X1_readOrder h q codes pf1 e5) (by decide) rfl rfl rfl rfl rfl rfl rfl (Nat.le_of_ble_eq_true rfl) rfl ?_
  obtain ⟨hn, hf⟩ := zbo_e hf
  cases hf
  exact z_zret C dX1_readFirstOrder_9 hn F
set_option maxHeartbeats 400000 in
set_option maxRecDepth 100000 in
theorem c_X1_readNextOrder {l : Launch} {D : va_G} {cs : ClassId × ClassId × ClassId} (h : Nat) (q : Nat)  (codes : zA) (pf : zA) {v : Int32} {pf' : zA} (e : f_X1_readNextOrder codes pf = some (v, pf')) : zM l D cs yX1_readNextOrder cX1_readNextOrder 1 (some .boolean) 4 [.ref h] (PW cs h q codes pf) v (PW cs h q codes pf') := by
  refine zM_of (show plainName RX1 = true by decide +kernel) (Nat.le_of_ble_eq_true rfl) ?_
  rintro G rfl rfl rfl C F
  have hf := e
  clear e
  unfold f_X1_readNextOrder at hf
  show zV G 1 0 [(0, .ref h)] [] (PW (gk G) h q codes pf)
  refine z_aload_n 0 C dX1_readNextOrder_0 rfl ?_
  refine z_bipush (v := 59) C dX1_readNextOrder_1 kb_59 ?_
  obtain ⟨v1, pf2, e3, hf⟩ := b2_e hf
  refine z_callV (st := []) (ws2 := (PW (gk G) h q codes pf2)) [0, 1] C dX1_readNextOrder_3 w_X1_52 (c_X1_skip h q 59 codes pf e3) (by decide) rfl rfl rfl rfl rfl rfl rfl (Nat.le_of_ble_eq_true rfl) rfl ?_
  refine z_if_eq (tgt := 20) C dX1_readNextOrder_6 rfl (fun hc => ?_) (fun hc => ?_)
  · have hf := ifp hc hf
    refine z_iconst (v := 0) C dX1_readNextOrder_20 kc_0 ?_
    cases hf
    exact z_zret C dX1_readNextOrder_21 rfl F
  have hf := ifn hc hf
  refine z_aload_n 0 C dX1_readNextOrder_9 rfl ?_
  obtain ⟨v4, pf5, e6, hf⟩ := b2_e hf
  refine z_callV (st := []) (ws2 := (PW (gk G) h q codes pf5)) [0, 1] C dX1_readNextOrder_10 w_X1_49 (c_X1_readOrder h q codes pf2 e6) (by decide) rfl rfl rfl rfl rfl rfl rfl (Nat.le_of_ble_eq_true rfl) rfl ?_
  refine z_if_eq (tgt := 20) C dX1_readNextOrder_13 rfl (fun hc => ?_) (fun hc => ?_)
  · have hf := ifp hc hf
    refine z_iconst (v := 0) C dX1_readNextOrder_20 kc_0 ?_
    cases hf
    exact z_zret C dX1_readNextOrder_21 rfl F
  have hf := ifn hc hf
  refine z_iconst (v := 1) C dX1_readNextOrder_16 kc_1 ?_
  refine z_goto (tgt := 21) C dX1_readNextOrder_17 rfl ?_
  cases hf
  exact z_zret C dX1_readNextOrder_21 rfl F
set_option maxHeartbeats 400000 in
set_option maxRecDepth 100000 in
theorem tb_X1_findFault_7 {G : GT} (h : Nat) (q : Nat) (codes : zA) {v : Int32} {pf' : zA} (C : zC G cX1_findFault 3 RX1 (some .int) 5) (F : zF G (some (.int v)) (PW (gk G) h q codes pf')) : ∀ (n : Nat) (l1 : Int32) (l2 : Int32) (pf : zA), B_X1_findFault_7 n l1 l2 codes pf = some (v, pf') → zV G 3 7 [(0, .ref h), (1, .int l1), (2, .int l2)] [] (PW (gk G) h q codes pf) := by
  intro n
  induction n with
  | zero => intro _ _ _ hf; rw [B_X1_findFault_7] at hf; cases hf
  | succ n ih =>
    intro l1 l2 pf hf
    rw [B_X1_findFault_7] at hf
    refine z_iload_n 1 C dX1_findFault_7 rfl ?_
    refine z_if_eq (tgt := 42) C dX1_findFault_8 rfl (fun hc => ?_) (fun hc => ?_)
    · have hf := ifp hc hf
      refine z_aload_n 0 C dX1_findFault_42 rfl ?_
      refine gf_X1_19 0 C dX1_findFault_43 rfl rfl ?_
      cases hf
      exact z_iret C dX1_findFault_46 F
    have hf := ifn hc hf
    refine z_iload_n 2 C dX1_findFault_11 rfl ?_
    refine z_bipush (v := 80) C dX1_findFault_12 kb_80 ?_
    refine z_icmp_ge (tgt := 42) C dX1_findFault_14 rfl (fun hc => ?_) (fun hc => ?_)
    · have hf := ifp hc hf
      refine z_aload_n 0 C dX1_findFault_42 rfl ?_
      refine gf_X1_19 0 C dX1_findFault_43 rfl rfl ?_
      cases hf
      exact z_iret C dX1_findFault_46 F
    have hf := ifn hc hf
    refine z_aload_n 0 C dX1_findFault_17 rfl ?_
    refine gf_X1_19 0 C dX1_findFault_18 rfl rfl ?_
    refine z_aload_n 0 C dX1_findFault_21 rfl ?_
    refine gf_X1_15 0 C dX1_findFault_22 rfl rfl ?_
    refine z_icmp_ne (tgt := 31) C dX1_findFault_25 rfl (fun hc => ?_) (fun hc => ?_)
    · have hf := ifn hc hf
      refine z_aload_n 0 C dX1_findFault_31 rfl ?_
      obtain ⟨v1, pf2, e3, hf⟩ := b2_e hf
      refine z_callV (st := []) (ws2 := (PW (gk G) h q codes pf2)) [0, 1] C dX1_findFault_32 w_X1_46 (c_X1_readNextOrder h q codes pf e3) (by decide) rfl rfl rfl rfl rfl rfl rfl (Nat.le_of_ble_eq_true rfl) rfl ?_
      refine z_istore_n (ls' := [(1, _), (0, _), (2, _)]) C dX1_findFault_35 (by decide) rfl ?_
      obtain ⟨x4, e5, hf⟩ := nm_g hf
      refine z_iinc (ls' := [(2, _), (1, _), (0, _)]) 2 C dX1_findFault_36 rfl kc_1 e5 (by decide) rfl ?_
      refine z_goto (tgt := 7) C dX1_findFault_39 rfl ?_
      refine z_sub (ls' := [(0, .ref h), (1, .int v1), (2, .int x4)]) [2, 1, 0] rfl ?_
      exact ih _ _ _ hf
    have hf := ifp hc hf
    refine z_bipush (v := -6) C dX1_findFault_28 kb_m6 ?_
    cases hf
    exact z_iret C dX1_findFault_30 F
set_option maxHeartbeats 400000 in
set_option maxRecDepth 100000 in
theorem c_X1_findFault {l : Launch} {D : va_G} {cs : ClassId × ClassId × ClassId} (h : Nat) (q : Nat)  (codes : zA) (pf : zA) {v : Int32} {pf' : zA} (e : f_X1_findFault codes pf = some (v, pf')) : zM l D cs yX1_findFault cX1_findFault 3 (some .int) 5 [.ref h] (PW cs h q codes pf) v (PW cs h q codes pf') := by
  refine zM_of (show plainName RX1 = true by decide +kernel) (Nat.le_of_ble_eq_true rfl) ?_
  rintro G rfl rfl rfl C F
  have hf := e
  clear e
  unfold f_X1_findFault at hf
  show zV G 3 0 [(0, .ref h)] [] (PW (gk G) h q codes pf)
  refine z_aload_n 0 C dX1_findFault_0 rfl ?_
  obtain ⟨v1, pf2, e3, hf⟩ := b2_e hf
  refine z_callV (st := []) (ws2 := (PW (gk G) h q codes pf2)) [0, 1] C dX1_findFault_1 w_X1_42 (c_X1_readFirstOrder h q codes pf e3) (by decide) rfl rfl rfl rfl rfl rfl rfl (Nat.le_of_ble_eq_true rfl) rfl ?_
  refine z_istore_n (ls' := [(1, _), (0, _)]) C dX1_findFault_4 (by decide) rfl ?_
  refine z_iconst (v := 0) C dX1_findFault_5 kc_0 ?_
  refine z_istore_n (ls' := [(2, _), (1, _), (0, _)]) C dX1_findFault_6 (by decide) rfl ?_
  refine z_sub (ls' := [(0, .ref h), (1, .int v1), (2, .int 0)]) [2, 1, 0] rfl ?_
  exact tb_X1_findFault_7 h q codes C F _ _ _ _ hf
