/-! The changes with their history; the law's choice among them -/
def CHN (row : zA) (T X : Nat) (F : (Nat → zA) → zA → Option (Int32 × zA × (Nat → zA) × zA)) : Prop := ∃ v row', (∀ (hi : Nat → zA) (ff : zA) (sp u : Nat), FFo ff sp u → F hi ff = some (v, row', va_up hi sp (kpn row (hi sp)), if v < 0 then ff else bump ff sp u)) ∧ (v < 0 → row' = row) ∧ GI row' T X
def CHA (row : zA) (T X : Nat) (F : zA → (Nat → zA) → zA → Option (Int32 × zA × zA × (Nat → zA) × zA)) : Prop := ∃ v row', (∀ (nf : zA) (hi : Nat → zA) (ff : zA) (sp u : Nat), FFo ff sp u → ∃ nf', F nf hi ff = some (v, row', nf', va_up hi sp (kpn row (hi sp)), if v < 0 then ff else bump ff sp u)) ∧ (v < 0 → row' = row) ∧ GI row' T X
theorem x2_chg {row : zA} {T X : Nat} {o : Option (Int32 × zA)} (h : GI row T X) (hop : OPR row T X o) : CHN row T X (fun hi ff => b1 (f_X2_noteState row hi ff) fun hi1 => b2 o fun v3 nr4 => b2 (f_X2_keepUnlessError v3 ff) fun v6 ff7 => some (v6, nr4, hi1, ff7)) := by
  obtain ⟨v, row', e, ⟨hv, rfl⟩ | ⟨q, hq, rfl, hg⟩⟩ := hop
  · refine ⟨v, row', fun hi ff sp u hf => ?_, fun _ => rfl, h⟩
    show (b1 (f_X2_noteState row' hi ff) fun hi1 => b2 o fun v3 nr4 => b2 (f_X2_keepUnlessError v3 ff) fun v6 ff7 => some (v6, nr4, hi1, ff7)) = _
    rw [note_ok hf, b1s, e, b2s, keep_neg hv, b2s, if_pos hv]
  · have hp : ¬ nI q < 0 := by rw [lt0 (by omega)]; omega
    refine ⟨nI q, row', fun hi ff sp u hf => ?_, fun z => absurd z hp, hg⟩
    show (b1 (f_X2_noteState row hi ff) fun hi1 => b2 o fun v3 nr4 => b2 (f_X2_keepUnlessError v3 ff) fun v6 ff7 => some (v6, nr4, hi1, ff7)) = _
    rw [note_ok hf, b1s, e, b2s, keep_pos hf hq, b2s, if_neg hp]
theorem x_set {row : zA} {T X : Nat} (h : GI row T X) (a1 a2 : Int32) : CHN row T X (fun hi ff => f_X2_set a1 a2 row hi ff) := x2_chg h (op_set h a1 a2)
theorem x_board {row : zA} {T X : Nat} (h : GI row T X) (a1 a2 a3 : Int32) : CHN row T X (fun hi ff => f_X2_board a1 a2 a3 row hi ff) := x2_chg h (op_board h a1 a2 a3)
theorem x_load {row : zA} {T X : Nat} (h : GI row T X) (a1 a2 : Int32) : CHN row T X (fun hi ff => f_X2_load a1 a2 row hi ff) := x2_chg h (op_load h a1 a2)
theorem x_turn {row : zA} {T X : Nat} (h : GI row T X) (a1 : Int32) : CHN row T X (fun hi ff => f_X2_turn a1 row hi ff) := x2_chg h (op_turn h a1)
theorem x_fuse {row : zA} {T X : Nat} (h : GI row T X) (a1 a2 a3 : Int32) : CHN row T X (fun hi ff => f_X2_fuse a1 a2 a3 row hi ff) := x2_chg h (op_fuse h a1 a2 a3)
theorem CHN.a {row : zA} {T X : Nat} {F : (Nat → zA) → zA → Option (Int32 × zA × (Nat → zA) × zA)} (h : CHN row T X F) : CHA row T X (fun nf hi ff => b4 (F hi ff) fun v nr hi2 ff2 => some (v, nr, nf, hi2, ff2)) := by
  obtain ⟨v, row', h1, h2, h3⟩ := h
  refine ⟨v, row', fun nf hi ff sp u hf => ⟨nf, ?_⟩, h2, h3⟩
  show (b4 (F hi ff) fun v nr hi2 ff2 => some (v, nr, nf, hi2, ff2)) = _
  rw [h1 hi ff sp u hf, b4s]
theorem CHA.of {row : zA} {T X : Nat} {F G : zA → (Nat → zA) → zA → Option (Int32 × zA × zA × (Nat → zA) × zA)} (h : CHA row T X G) (e : ∀ nf hi ff, F nf hi ff = G nf hi ff) : CHA row T X F := by
  obtain ⟨v, row', h1, h2, h3⟩ := h
  refine ⟨v, row', fun nf hi ff sp u hf => ?_, h2, h3⟩
  obtain ⟨nf', g⟩ := h1 nf hi ff sp u hf
  exact ⟨nf', (e nf hi ff).trans g⟩
theorem CHA.more {row : zA} {T X T2 X2 : Nat} {F : zA → (Nat → zA) → zA → Option (Int32 × zA × zA × (Nat → zA) × zA)} (h : CHA row T X F) (hT : T ≤ T2) (hX : X ≤ X2) : CHA row T2 X2 F := by
  obtain ⟨v, row', h1, h2, h3⟩ := h
  exact ⟨v, row', h1, h2, h3.more hT hX⟩
theorem lwr_ok (x : Int32) {d : Int32} (D : Nat) (hd : d = nI D) (h0 : 0 < D) (hD : D < 2 ^ 31) : ∃ r, r < D ∧ f_L_low x d = some (nI r) := by
  have hq : x &&& 2147483647 = nI (x.toBitVec.toNat % 2 ^ 31) := pk_and x 31 (by decide)
  have hm : x.toBitVec.toNat % 2 ^ 31 < 2 ^ 31 := Nat.mod_lt _ (by omega)
  refine ⟨(x.toBitVec.toNat % 2 ^ 31) % D, Nat.mod_lt _ h0, ?_⟩
  unfold f_L_low zdv
  rw [hd, if_neg (show ¬ nI D = 0 by rw [eq0 hD]; omega), hq, pk_rem hm h0 hD]
theorem pass_ok {row : zA} {n m T X a : Nat} {par pl cu : Nat → Nat} (h : INV row n m T X par pl cu) (h1 : 1 ≤ a) (h99 : a ≤ 99) (hT : T + a ≤ 9999) (nf : zA) (hi : Nat → zA) {ff : zA} {sp u : Nat} (hf : FFo ff sp u) : ∃ nf', f_X2_pass (nI a) row nf hi ff = some (nI (pcnt n m par pl cu a row), TI n m par pl cu a row, nf', va_up hi sp (kpn row (hi sp)), bump ff sp u) := by
  obtain ⟨nf', g⟩ := d_pass h h1 h99 hT nf
  have hl := pcnt_le (n := n) (m := m) (par := par) (pl := pl) (cu := cu) a row
  refine ⟨nf', ?_⟩
  unfold f_X2_pass
  rw [note_ok hf, b1s, g, b3s, keep_pos hf (by omega), b2s]
theorem a_pass {row : zA} {T X a : Nat} (h : GI row T X) (h1 : 1 ≤ a) (h7 : a ≤ 7) (hT : T + 7 ≤ 9999) : CHA row (T + 7) (X + 70) (fun nf hi ff => b5 (f_X2_pass (nI a) row nf hi ff) fun v nr nf2 hi2 ff2 => some (v, nr, nf2, hi2, ff2)) := by
  obtain ⟨n, m, T', X', par, pl, cu, hT', hX', h, hcu⟩ := h
  have hl := pcnt_le (n := n) (m := m) (par := par) (pl := pl) (cu := cu) a row
  have hp : ¬ nI (pcnt n m par pl cu a row) < 0 := by rw [lt0 (by omega)]; omega
  refine ⟨nI (pcnt n m par pl cu a row), TI n m par pl cu a row, fun nf hi ff sp u hf => ?_, fun z => absurd z hp, n, m, T' + a, X' + 10 * a, par, pl, cu, by omega, by omega, TI_inv a T' X' row h, hcu⟩
  obtain ⟨nf', g⟩ := pass_ok h h1 (by omega) (by omega) nf hi hf
  refine ⟨nf', ?_⟩
  show (b5 (f_X2_pass (nI a) row nf hi ff) fun v nr nf2 hi2 ff2 => some (v, nr, nf2, hi2, ff2)) = _
  rw [g, b5s, if_neg hp]
theorem a_90 {row : zA} {T X : Nat} (h : GI row T X) {s0 : Int32} (D : Nat) (hd : s0 = nI D) (h0 : 0 < D) (hD : D < 2 ^ 31) (s1 s2 s3 l2 : Int32) : CHA row T X (fun nf hi ff => B_L_act_90 s0 s1 s2 s3 l2 row nf hi ff) := by
  obtain ⟨r1, -, e1⟩ := lwr_ok s1 D hd h0 hD
  obtain ⟨r2, -, e2⟩ := lwr_ok (l2 >>> (4 &&& 31)) (d := 3) 3 rfl (by omega) (by omega)
  refine (x_board h s3 (s2 + nI r1) (nI r2)).a.of fun nf hi ff => ?_
  unfold B_L_act_90
  rw [e1, b1s, e2, b1s]
theorem a_128 {row : zA} {T X : Nat} (h : GI row T X) {s0 : Int32} (D : Nat) (hd : s0 = nI D) (h0 : 0 < D) (hD : D < 2 ^ 31) (s1 s2 s3 : Int32) : CHA row T X (fun nf hi ff => B_L_act_128 s0 s1 s2 s3 row nf hi ff) := by
  obtain ⟨r1, -, e1⟩ := lwr_ok s1 D hd h0 hD
  refine (x_load h s3 (s2 + nI r1)).a.of fun nf hi ff => ?_
  unfold B_L_act_128
  rw [e1, b1s]
theorem a_184 {row : zA} {T X : Nat} (h : GI row T X) {s0 : Int32} (D : Nat) (hd : s0 = nI D) (h0 : 0 < D) (hD : D < 2 ^ 31) (s1 s2 s3 : Int32) : CHA row T X (fun nf hi ff => B_L_act_184 s0 s1 s2 s3 row nf hi ff) := by
  obtain ⟨r1, -, e1⟩ := lwr_ok s1 D hd h0 hD
  refine (x_set h s3 (s2 + nI r1)).a.of fun nf hi ff => ?_
  unfold B_L_act_184
  rw [e1, b1s]
theorem act_ok {row : zA} {T X : Nat} (h : GI row T X) (hT : T + 7 ≤ 9999) (a1 a2 : Int32) : CHA row (T + 7) (X + 70) (fun nf hi ff => f_L_act a1 a2 row nf hi ff) := by
  obtain ⟨r1, -, e1⟩ := lwr_ok (a1 >>> (4 &&& 31)) (d := 5) 5 rfl (by omega) (by omega)
  obtain ⟨r3, -, e3⟩ := lwr_ok a1 (d := 13) 13 rfl (by omega) (by omega)
  obtain ⟨r6, -, e6⟩ := lwr_ok (a2 >>> (8 &&& 31)) (d := 5) 5 rfl (by omega) (by omega)
  obtain ⟨r9, -, e9⟩ := lwr_ok a2 (d := 9) 9 rfl (by omega) (by omega)
  obtain ⟨r43, -, e43⟩ := lwr_ok (a2 >>> (4 &&& 31)) (d := 3) 3 rfl (by omega) (by omega)
  obtain ⟨r23, -, e23⟩ := lwr_ok a2 (d := 3) 3 rfl (by omega) (by omega)
  obtain ⟨r16, -, e16⟩ := lwr_ok (a1 >>> (4 &&& 31)) (d := 6) 6 rfl (by omega) (by omega)
  obtain ⟨r27, h27, e27⟩ := lwr_ok a2 (d := 7) 7 rfl (by omega) (by omega)
  have up : ∀ {F : zA → (Nat → zA) → zA → Option (Int32 × zA × zA × (Nat → zA) × zA)}, CHA row T X F → CHA row (T + 7) (X + 70) F := fun q => q.more (by omega) (by omega)
  by_cases h0 : nI r3 = 0
  · by_cases h6 : nI r6 = 0
    · exact (up (a_90 h (s0 := 100) 100 rfl (by omega) (by omega) a2 1 (nI r1) a2)).of fun nf hi ff => by
        unfold f_L_act
        rw [e1, b1s, e3, b1s, if_pos h0, e6, b1s, if_pos h6]
    · exact (up (a_90 h (s0 := 9) 9 rfl (by omega) (by omega) a2 1 (nI r1) a2)).of fun nf hi ff => by
        unfold f_L_act
        rw [e1, b1s, e3, b1s, if_pos h0, e6, b1s, if_neg h6]
  by_cases h1 : nI r3 = 1
  · by_cases h6 : nI r6 = 0
    · exact (up (a_90 h (s0 := 100) 100 rfl (by omega) (by omega) a2 1 (nI r1) a2)).of fun nf hi ff => by
        unfold f_L_act
        rw [e1, b1s, e3, b1s, if_neg h0, if_pos h1, e6, b1s, if_pos h6]
    · exact (up (a_90 h (s0 := 9) 9 rfl (by omega) (by omega) a2 1 (nI r1) a2)).of fun nf hi ff => by
        unfold f_L_act
        rw [e1, b1s, e3, b1s, if_neg h0, if_pos h1, e6, b1s, if_neg h6]
  by_cases h2 : nI r3 = 2
  · by_cases h6 : nI r6 = 0
    · exact (up (a_128 h (s0 := 200) 200 rfl (by omega) (by omega) a2 1 (nI r1))).of fun nf hi ff => by
        unfold f_L_act
        rw [e1, b1s, e3, b1s, if_neg h0, if_neg h1, if_pos h2, e6, b1s, if_pos h6]
    · exact (up (a_128 h (s0 := 12) 12 rfl (by omega) (by omega) a2 1 (nI r1))).of fun nf hi ff => by
        unfold f_L_act
        rw [e1, b1s, e3, b1s, if_neg h0, if_neg h1, if_pos h2, e6, b1s, if_neg h6]
  by_cases h3 : nI r3 = 3
  · by_cases h6 : nI r6 = 0
    · exact (up (a_128 h (s0 := 200) 200 rfl (by omega) (by omega) a2 1 (nI r1))).of fun nf hi ff => by
        unfold f_L_act
        rw [e1, b1s, e3, b1s, if_neg h0, if_neg h1, if_neg h2, if_pos h3, e6, b1s, if_pos h6]
    · exact (up (a_128 h (s0 := 12) 12 rfl (by omega) (by omega) a2 1 (nI r1))).of fun nf hi ff => by
        unfold f_L_act
        rw [e1, b1s, e3, b1s, if_neg h0, if_neg h1, if_neg h2, if_pos h3, e6, b1s, if_neg h6]
  by_cases h4 : nI r3 = 4
  · exact (up (x_fuse h (nI r1) (1 + nI r9) (nI r43)).a).of fun nf hi ff => by
      unfold f_L_act
      rw [e1, b1s, e3, b1s, if_neg h0, if_neg h1, if_neg h2, if_neg h3, if_pos h4, e9, b1s, e43, b1s]
  by_cases h5 : nI r3 = 5
  · by_cases h6 : nI r23 = 2
    · exact (up (a_184 h (s0 := 6) 6 rfl (by omega) (by omega) (a2 >>> (2 &&& 31)) 1 (nI r23))).of fun nf hi ff => by
        unfold f_L_act
        rw [e1, b1s, e3, b1s, if_neg h0, if_neg h1, if_neg h2, if_neg h3, if_neg h4, if_pos h5, e23, b1s, if_pos h6]
    · exact (up (a_184 h (s0 := 9) 9 rfl (by omega) (by omega) (a2 >>> (2 &&& 31)) 1 (nI r23))).of fun nf hi ff => by
        unfold f_L_act
        rw [e1, b1s, e3, b1s, if_neg h0, if_neg h1, if_neg h2, if_neg h3, if_neg h4, if_pos h5, e23, b1s, if_neg h6]
  have ht := up (x_turn h (nI r16)).a
  by_cases h6 : nI r3 = 6
  · exact ht.of fun nf hi ff => by
      unfold f_L_act
      rw [e1, b1s, e3, b1s, if_neg h0, if_neg h1, if_neg h2, if_neg h3, if_neg h4, if_neg h5, if_pos h6, e16, b1s]
  by_cases h7 : nI r3 = 7
  · exact ht.of fun nf hi ff => by
      unfold f_L_act
      rw [e1, b1s, e3, b1s, if_neg h0, if_neg h1, if_neg h2, if_neg h3, if_neg h4, if_neg h5, if_neg h6, if_pos h7, e16, b1s]
  by_cases h8 : nI r3 = 8
  · exact ht.of fun nf hi ff => by
      unfold f_L_act
      rw [e1, b1s, e3, b1s, if_neg h0, if_neg h1, if_neg h2, if_neg h3, if_neg h4, if_neg h5, if_neg h6, if_neg h7, if_pos h8, e16, b1s]
  by_cases h9 : nI r3 = 9
  · exact ht.of fun nf hi ff => by
      unfold f_L_act
      rw [e1, b1s, e3, b1s, if_neg h0, if_neg h1, if_neg h2, if_neg h3, if_neg h4, if_neg h5, if_neg h6, if_neg h7, if_neg h8, if_pos h9, e16, b1s]
  · exact (a_pass (a := 1 + r27) h (by omega) (by omega) hT).of fun nf hi ff => by
      unfold f_L_act
      rw [e1, b1s, e3, b1s, if_neg h0, if_neg h1, if_neg h2, if_neg h3, if_neg h4, if_neg h5, if_neg h6, if_neg h7, if_neg h8, if_neg h9, e27, b1s, L1, nI_add]
