/-! Ticks pass -/
theorem BR.mono {row s : zA} {b n T X Y : Nat} {par : Nat → Nat} (h : BR row s b n T X par) (hxy : X ≤ Y) : BR row s b n T Y par := by
  obtain ⟨B, hB, z⟩ := h.bl
  exact BR.mk h.n10 h.b14 h.r4 h.s4 h.st0 h.tm h.arc h.coo ⟨B, by omega, z⟩ h.lat h.par h.fr h.f0 h.rt h.kd h.hw h.ht h.sp h.cr h.he h.op h.h0
theorem ind_le (b : Bool) : ind b ≤ 1 := by cases b <;> decide
theorem cur_n {row s mf : zA} {b n T X m : Nat} {par : Nat → Nat} (h : BR row s b n T X par) (hl : LN row s b n m) (h5 : mf 5 = -6) : CUR row s mf b n := by
  obtain ⟨pl, cu, hPL, hPM, d1, d2⟩ := hl
  have hm := hPL.1
  refine ⟨fun k => crt par (wgt (bt (row 6)) (ded par (bt (row 7))) pl cu) pl m k, fun k hk => ?_, fun flow => d_cur h.PR hPL flow, fun k hk => ?_⟩
  · have : crt par (wgt (bt (row 6)) (ded par (bt (row 7))) pl cu) pl m k ≤ m * 200 := by
      refine sm_le fun i hi => ?_
      have h1 := ind_le (fed par (pl i) k)
      have h2 : wgt (bt (row 6)) (ded par (bt (row 7))) pl cu i ≤ 200 := by
        unfold wgt
        split
        · exact (d1 i hi).2
        · omega
      exact Nat.le_trans (Nat.mul_le_mul h2 h1) (by omega)
    show crt par (wgt (bt (row 6)) (ded par (bt (row 7))) pl cu) pl m k ≤ 9999
    omega
  · have := r_cur_loop (mf := mf) h.PS h.opp hPM k hk 0 (fun a => by rw [if_pos h5]; unfold B_X3_current_130 B_X3_current_131; rw [if_pos rfl, ra0]) 14 0 FU 0 (by omega) (by omega) (FU_lt (by omega)) rfl
    rw [Nat.add_zero] at this
    exact this
theorem nI_tn (x : Int32) : x = nI x.toBitVec.toNat := by
  apply Int32.toBitVec_inj.mp
  show x.toBitVec = BitVec.ofNat 32 x.toBitVec.toNat
  rw [BitVec.ofNat_toNat, BitVec.setWidth_eq]
theorem mask_small (f : Nat → Bool) {n : Nat} (hn : n ≤ 10) : ∃ v, v < 1024 ∧ mask f n = nI v := by
  refine ⟨(mask f n).toBitVec.toNat, ?_, nI_tn _⟩
  have : (mask f n).toBitVec.toNat < 2 ^ 10 := by
    apply Nat.lt_pow_two_of_testBit
    intro i hi
    have h1 : bt (mask f n) i = false := by
      by_cases h32 : i < 32
      · rw [bt_mask _ (by omega) h32]
        have : ¬ i < n := by omega
        simp [this]
      · exact bt_big _ (by omega)
    exact h1
  omega
def cnt (x : Int32) : Nat := sm (fun i => ind (bt x i)) 14
theorem bits_all : ∀ v, v < 1024 → f_J6_bitCount_0f7a4 (nI v) = some (nI (cnt (nI v))) := by decide +kernel
theorem ones_loop (x : Int32) : ∀ (j k fuel : Nat), 14 = k + j → j < fuel → B_X3_ones_4 fuel x (nI (sm (fun i => ind (bt x i)) k)) (nI k) = some (nI (cnt x)) := by
  intro j
  induction j with
  | zero =>
    intro k fuel hk hf
    obtain ⟨f, rfl⟩ : ∃ f, fuel = f + 1 := ⟨fuel - 1, by omega⟩
    rw [B_X3_ones_4]
    simp (disch := omega) only [gd_nI, nmI, b1s, b2s, b3s, b4s, b5s, b6s, b7s, le_nI, lt_nI, eq_nI, nI_add, Nat.add_zero, la9, la17, la27, la37, la47, la57, la67, la77, la87, la97, la111, la16, la106, la8, ra0, ra1, ra2, ra3, ra4, ra5, ra6, ra7, ra8, ra16, ra106, lm2, lm3, lm8, lm9, lm10, lm20, lm148, le0, ge0, lt0, gt0, eq0, le1, ge1, lt1, gt1, eq1, le2, ge2, lt2, gt2, eq2, le3, ge3, lt3, gt3, eq3, le4, ge4, lt4, gt4, eq4, le5, ge5, lt5, gt5, eq5, le6, ge6, lt6, gt6, eq6, le7, ge7, lt7, gt7, eq7, le8, ge8, lt8, gt8, eq8, le9, ge9, lt9, gt9, eq9, le10, ge10, lt10, gt10, eq10, le14, ge14, lt14, gt14, eq14, le16, ge16, lt16, gt16, eq16, le17, ge17, lt17, gt17, eq17, le20, ge20, lt20, gt20, eq20, le27, ge27, lt27, gt27, eq27, le37, ge37, lt37, gt37, eq37, le47, ge47, lt47, gt47, eq47, le50, ge50, lt50, gt50, eq50, le57, ge57, lt57, gt57, eq57, le67, ge67, lt67, gt67, eq67, le77, ge77, lt77, gt77, eq77, le80, ge80, lt80, gt80, eq80, le87, ge87, lt87, gt87, eq87, le97, ge97, lt97, gt97, eq97, le99, ge99, lt99, gt99, eq99, le100, ge100, lt100, gt100, eq100, le106, ge106, lt106, gt106, eq106, le111, ge111, lt111, gt111, eq111, le125, ge125, lt125, gt125, eq125, le148, ge148, lt148, gt148, eq148, le200, ge200, lt200, gt200, eq200, le300, ge300, lt300, gt300, eq300, le1332, ge1332, lt1332, gt1332, eq1332, le9999, ge9999, lt9999, gt9999, eq9999, le1000000, ge1000000, lt1000000, gt1000000, eq1000000, ]
    rw [if_pos (by omega), show k = 14 by omega]
    rfl
  | succ j ih =>
    intro k fuel hk hf
    obtain ⟨f, rfl⟩ : ∃ f, fuel = f + 1 := ⟨fuel - 1, by omega⟩
    have := ih (k + 1) f (by omega) (by omega)
    rw [B_X3_ones_4]
    simp (disch := omega) only [gd_nI, nmI, b1s, b2s, b3s, b4s, b5s, b6s, b7s, le_nI, lt_nI, eq_nI, nI_add, Nat.add_zero, la9, la17, la27, la37, la47, la57, la67, la77, la87, la97, la111, la16, la106, la8, ra0, ra1, ra2, ra3, ra4, ra5, ra6, ra7, ra8, ra16, ra106, lm2, lm3, lm8, lm9, lm10, lm20, lm148, le0, ge0, lt0, gt0, eq0, le1, ge1, lt1, gt1, eq1, le2, ge2, lt2, gt2, eq2, le3, ge3, lt3, gt3, eq3, le4, ge4, lt4, gt4, eq4, le5, ge5, lt5, gt5, eq5, le6, ge6, lt6, gt6, eq6, le7, ge7, lt7, gt7, eq7, le8, ge8, lt8, gt8, eq8, le9, ge9, lt9, gt9, eq9, le10, ge10, lt10, gt10, eq10, le14, ge14, lt14, gt14, eq14, le16, ge16, lt16, gt16, eq16, le17, ge17, lt17, gt17, eq17, le20, ge20, lt20, gt20, eq20, le27, ge27, lt27, gt27, eq27, le37, ge37, lt37, gt37, eq37, le47, ge47, lt47, gt47, eq47, le50, ge50, lt50, gt50, eq50, le57, ge57, lt57, gt57, eq57, le67, ge67, lt67, gt67, eq67, le77, ge77, lt77, gt77, eq77, le80, ge80, lt80, gt80, eq80, le87, ge87, lt87, gt87, eq87, le97, ge97, lt97, gt97, eq97, le99, ge99, lt99, gt99, eq99, le100, ge100, lt100, gt100, eq100, le106, ge106, lt106, gt106, eq106, le111, ge111, lt111, gt111, eq111, le125, ge125, lt125, gt125, eq125, le148, ge148, lt148, gt148, eq148, le200, ge200, lt200, gt200, eq200, le300, ge300, lt300, gt300, eq300, le1332, ge1332, lt1332, gt1332, eq1332, le9999, ge9999, lt9999, gt9999, eq9999, le1000000, ge1000000, lt1000000, gt1000000, eq1000000, ]
    rw [if_neg (by omega), bt_get x (by omega)]
    have e : nI (sm (fun i => ind (bt x i)) k) + (if bt x k then (1 : Int32) else 0) = nI (sm (fun i => ind (bt x i)) (k + 1)) := by
      show _ = nI (sm (fun i => ind (bt x i)) k + ind (bt x k))
      cases bt x k
      · exact ra0 _
      · exact ra1 _
    rw [e]
    exact this
theorem cnt_le (x : Int32) : cnt x ≤ 14 := by
  have := sm_le (f := fun i => ind (bt x i)) (c := 1) (n := 14) (fun k _ => ind_le _)
  unfold cnt
  omega
theorem count_same (f : Nat → Bool) {n : Nat} (hn : n ≤ 10) : ∃ c, c ≤ 14 ∧ f_J6_bitCount_0f7a4 (mask f n) = some (nI c) ∧ f_X3_ones (mask f n) = some (nI c) := by
  obtain ⟨v, hv, e⟩ := mask_small f hn
  refine ⟨cnt (mask f n), cnt_le _, ?_, ones_loop _ 14 0 FU (by omega) (FU_lt (by omega))⟩
  rw [e]
  exact bits_all v hv
theorem pass_loop {n m : Nat} {par : Nat → Nat} {mf : zA} {a : Nat} (ha : a ≤ 99) (h5 : mf 5 = -6) : ∀ (j i T c : Nat) (nr nf s cu ho : zA), a = i + j → T + j ≤ 9999 → c ≤ 14 * i → BR nr s 0 n T (10 * T) par → LN nr s 0 n m →
    ∃ v nr' nf' s' cu' ho', v ≤ 14 * a ∧ (∀ fuel, j < fuel → B_X0_letPass_35 fuel (nI a) (nI c) (nI i) nr nf = some (nI v, nr', nf')) ∧ (∀ fuel, j < fuel → B_X3_ticks_5 fuel (nI 0) (nI a) (nI c) (nI i) s cu ho mf = some (nI v, s', cu', ho')) ∧ BR nr' s' 0 n (T + j) (10 * (T + j)) par ∧ LN nr' s' 0 n m ∧ nr' 2 = nr 2 ∧ ∀ x, 148 ≤ x → s' x = s x := by
  intro j
  induction j with
  | zero =>
    intro i T c nr nf s cu ho hi hT hc h hl
    refine ⟨c, nr, nf, s, cu, ho, by omega, fun fuel hf => ?_, fun fuel hf => ?_, h, hl, rfl, fun _ _ => rfl⟩
    · obtain ⟨f, rfl⟩ : ∃ f, fuel = f + 1 := ⟨fuel - 1, by omega⟩
      rw [B_X0_letPass_35]
      simp (disch := omega) only [gd_nI, nmI, b1s, b2s, b3s, b4s, b5s, b6s, b7s, le_nI, lt_nI, eq_nI, nI_add, Nat.add_zero, la9, la17, la27, la37, la47, la57, la67, la77, la87, la97, la111, la16, la106, la8, ra0, ra1, ra2, ra3, ra4, ra5, ra6, ra7, ra8, ra16, ra106, lm2, lm3, lm8, lm9, lm10, lm20, lm148, le0, ge0, lt0, gt0, eq0, le1, ge1, lt1, gt1, eq1, le2, ge2, lt2, gt2, eq2, le3, ge3, lt3, gt3, eq3, le4, ge4, lt4, gt4, eq4, le5, ge5, lt5, gt5, eq5, le6, ge6, lt6, gt6, eq6, le7, ge7, lt7, gt7, eq7, le8, ge8, lt8, gt8, eq8, le9, ge9, lt9, gt9, eq9, le10, ge10, lt10, gt10, eq10, le14, ge14, lt14, gt14, eq14, le16, ge16, lt16, gt16, eq16, le17, ge17, lt17, gt17, eq17, le20, ge20, lt20, gt20, eq20, le27, ge27, lt27, gt27, eq27, le37, ge37, lt37, gt37, eq37, le47, ge47, lt47, gt47, eq47, le50, ge50, lt50, gt50, eq50, le57, ge57, lt57, gt57, eq57, le67, ge67, lt67, gt67, eq67, le77, ge77, lt77, gt77, eq77, le80, ge80, lt80, gt80, eq80, le87, ge87, lt87, gt87, eq87, le97, ge97, lt97, gt97, eq97, le99, ge99, lt99, gt99, eq99, le100, ge100, lt100, gt100, eq100, le106, ge106, lt106, gt106, eq106, le111, ge111, lt111, gt111, eq111, le125, ge125, lt125, gt125, eq125, le148, ge148, lt148, gt148, eq148, le200, ge200, lt200, gt200, eq200, le300, ge300, lt300, gt300, eq300, le1332, ge1332, lt1332, gt1332, eq1332, le9999, ge9999, lt9999, gt9999, eq9999, le1000000, ge1000000, lt1000000, gt1000000, eq1000000, ]
      rw [if_pos (by omega)]
    · obtain ⟨f, rfl⟩ : ∃ f, fuel = f + 1 := ⟨fuel - 1, by omega⟩
      rw [B_X3_ticks_5]
      simp (disch := omega) only [gd_nI, nmI, b1s, b2s, b3s, b4s, b5s, b6s, b7s, le_nI, lt_nI, eq_nI, nI_add, Nat.add_zero, la9, la17, la27, la37, la47, la57, la67, la77, la87, la97, la111, la16, la106, la8, ra0, ra1, ra2, ra3, ra4, ra5, ra6, ra7, ra8, ra16, ra106, lm2, lm3, lm8, lm9, lm10, lm20, lm148, le0, ge0, lt0, gt0, eq0, le1, ge1, lt1, gt1, eq1, le2, ge2, lt2, gt2, eq2, le3, ge3, lt3, gt3, eq3, le4, ge4, lt4, gt4, eq4, le5, ge5, lt5, gt5, eq5, le6, ge6, lt6, gt6, eq6, le7, ge7, lt7, gt7, eq7, le8, ge8, lt8, gt8, eq8, le9, ge9, lt9, gt9, eq9, le10, ge10, lt10, gt10, eq10, le14, ge14, lt14, gt14, eq14, le16, ge16, lt16, gt16, eq16, le17, ge17, lt17, gt17, eq17, le20, ge20, lt20, gt20, eq20, le27, ge27, lt27, gt27, eq27, le37, ge37, lt37, gt37, eq37, le47, ge47, lt47, gt47, eq47, le50, ge50, lt50, gt50, eq50, le57, ge57, lt57, gt57, eq57, le67, ge67, lt67, gt67, eq67, le77, ge77, lt77, gt77, eq77, le80, ge80, lt80, gt80, eq80, le87, ge87, lt87, gt87, eq87, le97, ge97, lt97, gt97, eq97, le99, ge99, lt99, gt99, eq99, le100, ge100, lt100, gt100, eq100, le106, ge106, lt106, gt106, eq106, le111, ge111, lt111, gt111, eq111, le125, ge125, lt125, gt125, eq125, le148, ge148, lt148, gt148, eq148, le200, ge200, lt200, gt200, eq200, le300, ge300, lt300, gt300, eq300, le1332, ge1332, lt1332, gt1332, eq1332, le9999, ge9999, lt9999, gt9999, eq9999, le1000000, ge1000000, lt1000000, gt1000000, eq1000000, ]
      rw [if_pos (by omega)]
  | succ j ih =>
    intro i T c nr nf s cu ho hi hT hc h hl
    obtain ⟨f, nr1, fl1, s1, cu1, ho1, t1, t2, t3, t4, t5⟩ := tick_sim (flow := nf) (cu := cu) (ho := ho) h (by omega) (by omega) (cur_n h hl h5)
    have hn := h.n10
    obtain ⟨q, hq, q1, q2⟩ := count_same f hn
    have hl1 : LN nr1 s1 0 n m := hl.mv (t4 5 (by omega)) (t4 6 (by omega)) (fun j hj _ => t4 j (by omega)) (t5 _ (by omega)) (fun j hj _ => t5 _ (by omega))
    obtain ⟨v, nr', nf', s', cu', ho', a0, a1, a2, a3, a4, a5, a6⟩ := ih (i + 1) (T + 1) (c + q) nr1 fl1 s1 cu1 ho1 (by omega) (by omega) (by omega) (t3.mono (by omega)) hl1
    refine ⟨v, nr', nf', s', cu', ho', a0, fun fuel hf => ?_, fun fuel hf => ?_, ?_, a4, by rw [a5, t4 2 (by omega)], fun x hx => by rw [a6 x hx, t5 x (by omega)]⟩
    · obtain ⟨g, rfl⟩ : ∃ g, fuel = g + 1 := ⟨fuel - 1, by omega⟩
      rw [B_X0_letPass_35]
      simp (disch := omega) only [gd_nI, nmI, b1s, b2s, b3s, b4s, b5s, b6s, b7s, le_nI, lt_nI, eq_nI, nI_add, Nat.add_zero, la9, la17, la27, la37, la47, la57, la67, la77, la87, la97, la111, la16, la106, la8, ra0, ra1, ra2, ra3, ra4, ra5, ra6, ra7, ra8, ra16, ra106, lm2, lm3, lm8, lm9, lm10, lm20, lm148, le0, ge0, lt0, gt0, eq0, le1, ge1, lt1, gt1, eq1, le2, ge2, lt2, gt2, eq2, le3, ge3, lt3, gt3, eq3, le4, ge4, lt4, gt4, eq4, le5, ge5, lt5, gt5, eq5, le6, ge6, lt6, gt6, eq6, le7, ge7, lt7, gt7, eq7, le8, ge8, lt8, gt8, eq8, le9, ge9, lt9, gt9, eq9, le10, ge10, lt10, gt10, eq10, le14, ge14, lt14, gt14, eq14, le16, ge16, lt16, gt16, eq16, le17, ge17, lt17, gt17, eq17, le20, ge20, lt20, gt20, eq20, le27, ge27, lt27, gt27, eq27, le37, ge37, lt37, gt37, eq37, le47, ge47, lt47, gt47, eq47, le50, ge50, lt50, gt50, eq50, le57, ge57, lt57, gt57, eq57, le67, ge67, lt67, gt67, eq67, le77, ge77, lt77, gt77, eq77, le80, ge80, lt80, gt80, eq80, le87, ge87, lt87, gt87, eq87, le97, ge97, lt97, gt97, eq97, le99, ge99, lt99, gt99, eq99, le100, ge100, lt100, gt100, eq100, le106, ge106, lt106, gt106, eq106, le111, ge111, lt111, gt111, eq111, le125, ge125, lt125, gt125, eq125, le148, ge148, lt148, gt148, eq148, le200, ge200, lt200, gt200, eq200, le300, ge300, lt300, gt300, eq300, le1332, ge1332, lt1332, gt1332, eq1332, le9999, ge9999, lt9999, gt9999, eq9999, le1000000, ge1000000, lt1000000, gt1000000, eq1000000, ]
      rw [if_neg (by omega), t1]
      simp only [b3s, q1, b1s, nmI, nI_add]
      exact a1 g (by omega)
    · obtain ⟨g, rfl⟩ : ∃ g, fuel = g + 1 := ⟨fuel - 1, by omega⟩
      rw [B_X3_ticks_5]
      simp (disch := omega) only [gd_nI, nmI, b1s, b2s, b3s, b4s, b5s, b6s, b7s, le_nI, lt_nI, eq_nI, nI_add, Nat.add_zero, la9, la17, la27, la37, la47, la57, la67, la77, la87, la97, la111, la16, la106, la8, ra0, ra1, ra2, ra3, ra4, ra5, ra6, ra7, ra8, ra16, ra106, lm2, lm3, lm8, lm9, lm10, lm20, lm148, le0, ge0, lt0, gt0, eq0, le1, ge1, lt1, gt1, eq1, le2, ge2, lt2, gt2, eq2, le3, ge3, lt3, gt3, eq3, le4, ge4, lt4, gt4, eq4, le5, ge5, lt5, gt5, eq5, le6, ge6, lt6, gt6, eq6, le7, ge7, lt7, gt7, eq7, le8, ge8, lt8, gt8, eq8, le9, ge9, lt9, gt9, eq9, le10, ge10, lt10, gt10, eq10, le14, ge14, lt14, gt14, eq14, le16, ge16, lt16, gt16, eq16, le17, ge17, lt17, gt17, eq17, le20, ge20, lt20, gt20, eq20, le27, ge27, lt27, gt27, eq27, le37, ge37, lt37, gt37, eq37, le47, ge47, lt47, gt47, eq47, le50, ge50, lt50, gt50, eq50, le57, ge57, lt57, gt57, eq57, le67, ge67, lt67, gt67, eq67, le77, ge77, lt77, gt77, eq77, le80, ge80, lt80, gt80, eq80, le87, ge87, lt87, gt87, eq87, le97, ge97, lt97, gt97, eq97, le99, ge99, lt99, gt99, eq99, le100, ge100, lt100, gt100, eq100, le106, ge106, lt106, gt106, eq106, le111, ge111, lt111, gt111, eq111, le125, ge125, lt125, gt125, eq125, le148, ge148, lt148, gt148, eq148, le200, ge200, lt200, gt200, eq200, le300, ge300, lt300, gt300, eq300, le1332, ge1332, lt1332, gt1332, eq1332, le9999, ge9999, lt9999, gt9999, eq9999, le1000000, ge1000000, lt1000000, gt1000000, eq1000000, ]
      rw [if_neg (by omega), t2]
      simp only [b4s, q2, b1s, nmI, nI_add]
      exact a2 g (by omega)
    · rw [show T + (j + 1) = T + 1 + j by omega]
      exact a3
theorem op_pass {nr s mf : zA} (h : HR nr s 0) (h5 : mf 5 = -6) (a : Int32) (nf cu ho : zA) : (∃ e : Int32, e < 0 ∧ f_X0_letPass a nr nf = some (e, nr, nf) ∧ f_X3_passError a s = some e) ∨
    (f_X3_passError a s = some 0 ∧ ∃ (v : Nat) (nr' nf' s' cu' ho' : zA), v < 2 ^ 31 ∧ f_X0_letPass a nr nf = some (nI v, nr', nf') ∧ f_X3_ticks 0 a s cu ho mf = some (nI v, s', cu', ho') ∧ HR nr' s' 0 ∧ ∀ x, 148 ≤ x → s' x = s x) := by
  obtain ⟨n, m, T, par, hT, hg, h, hl⟩ := h
  have e3 : s 3 = nI T := by have := h.st0 3 (by omega); rw [h.tm, Nat.zero_add] at this; exact this.symm
  unfold f_X0_letPass f_X3_passError
  rw [two_cmp (x := a) (lo := 1) (hi := 99) (L := 1) (H := 99) (by decide) (by decide), r_rng (x := a) (L := 1) (H := 99) (by decide) (by decide)]
  simp only [b1s, s01]
  by_cases hr : rng a 1 99 = true
  · rw [if_pos hr, if_pos hr]
    obtain ⟨k, hk1, hk2, rfl⟩ := (rng_nI (l := 1) (h := 99) (by omega)).mp hr
    rw [h.tm, e3]
    simp (disch := omega) only [gd_nI, nmI, b1s, b2s, b3s, b4s, b5s, b6s, b7s, le_nI, lt_nI, eq_nI, nI_add, Nat.add_zero, la9, la17, la27, la37, la47, la57, la67, la77, la87, la97, la111, la16, la106, la8, ra0, ra1, ra2, ra3, ra4, ra5, ra6, ra7, ra8, ra16, ra106, lm2, lm3, lm8, lm9, lm10, lm20, lm148, le0, ge0, lt0, gt0, eq0, le1, ge1, lt1, gt1, eq1, le2, ge2, lt2, gt2, eq2, le3, ge3, lt3, gt3, eq3, le4, ge4, lt4, gt4, eq4, le5, ge5, lt5, gt5, eq5, le6, ge6, lt6, gt6, eq6, le7, ge7, lt7, gt7, eq7, le8, ge8, lt8, gt8, eq8, le9, ge9, lt9, gt9, eq9, le10, ge10, lt10, gt10, eq10, le14, ge14, lt14, gt14, eq14, le16, ge16, lt16, gt16, eq16, le17, ge17, lt17, gt17, eq17, le20, ge20, lt20, gt20, eq20, le27, ge27, lt27, gt27, eq27, le37, ge37, lt37, gt37, eq37, le47, ge47, lt47, gt47, eq47, le50, ge50, lt50, gt50, eq50, le57, ge57, lt57, gt57, eq57, le67, ge67, lt67, gt67, eq67, le77, ge77, lt77, gt77, eq77, le80, ge80, lt80, gt80, eq80, le87, ge87, lt87, gt87, eq87, le97, ge97, lt97, gt97, eq97, le99, ge99, lt99, gt99, eq99, le100, ge100, lt100, gt100, eq100, le106, ge106, lt106, gt106, eq106, le111, ge111, lt111, gt111, eq111, le125, ge125, lt125, gt125, eq125, le148, ge148, lt148, gt148, eq148, le200, ge200, lt200, gt200, eq200, le300, ge300, lt300, gt300, eq300, le1332, ge1332, lt1332, gt1332, eq1332, le9999, ge9999, lt9999, gt9999, eq9999, le1000000, ge1000000, lt1000000, gt1000000, eq1000000, ]
    by_cases ht : T + k ≤ 9999
    · right
      obtain ⟨v, nr', nf', s', cu', ho', a0, a1, a2, a3, a4, a5, a6⟩ := pass_loop (a := k) hk2 h5 k 0 T 0 nr nf s cu ho (by omega) (by omega) (by omega) h hl
      refine ⟨by rw [if_pos ht], v, nr', nf', s', cu', ho', by omega, ?_, ?_, ⟨n, m, T + k, par, ht, hg.of a5, a3, a4⟩, a6⟩
      · rw [if_pos ht]
        exact a1 FU (FU_lt (by omega))
      · exact a2 FU (FU_lt (by omega))
    · left
      refine ⟨-5, by decide, ?_, ?_⟩
      · rw [if_neg ht]
      · rw [if_neg ht]
  · rw [if_neg hr, if_neg hr]
    exact Or.inl ⟨-2, by decide, rfl, rfl⟩
