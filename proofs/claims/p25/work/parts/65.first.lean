/-! The first blow of a trial; ticks let pass -/
theorem low_loop {x : Int32} {k0 : Nat} (hk0 : k0 < 10) (h1 : bt x k0 = true) (h2 : ∀ i, i < k0 → bt x i = false) : ∀ (j k fuel : Nat), k0 = k + j → j < fuel → B_X2_lowest_2 fuel x (nI k) = some (nI k0) := by
  intro j
  induction j with
  | zero =>
    intro k fuel hk hf
    obtain ⟨f, rfl⟩ : ∃ f, fuel = f + 1 := ⟨fuel - 1, by omega⟩
    rw [B_X2_lowest_2]
    simp only [bt_is0 x (show k < 32 by omega)]
    have e : k = k0 := by omega
    subst e
    by_cases h9 : (9 : Int32) ≤ nI k
    · rw [if_pos h9]
    · rw [if_neg h9, if_neg (show ¬ bt x k = false by rw [h1]; decide)]
  | succ j ih =>
    intro k fuel hk hf
    obtain ⟨f, rfl⟩ : ∃ f, fuel = f + 1 := ⟨fuel - 1, by omega⟩
    rw [B_X2_lowest_2]
    simp only [bt_is0 x (show k < 32 by omega)]
    rw [if_neg (show ¬ (9 : Int32) ≤ nI k by rw [ge9 (by omega)]; omega), if_pos (h2 k (by omega))]
    simp only [nmI, ra1]
    exact ih (k + 1) f (by omega) (by omega)
theorem low_ok (f : Nat → Bool) {n : Nat} (hn : n ≤ 10) (h : ¬ mask f n = 0) : ∃ k, k < n ∧ f_X2_lowest (mask f n) = some (nI k) ∧ f k = true := by
  have hex : ∃ k, k < n ∧ f k = true := by
    refine Classical.byContradiction fun hno => h ?_
    apply bt_ext
    intro j hj
    rw [bt_mask _ (by omega) hj, bt_0]
    by_cases hjn : j < n
    · have : f j = false := by
        cases hf : f j with
        | false => rfl
        | true => exact absurd ⟨j, hjn, hf⟩ hno
      simp [this]
    · simp [hjn]
  obtain ⟨k0, ⟨hk1, hk2⟩, hk3⟩ := pk_least (fun k => k < n ∧ f k = true) hex
  have b1' : bt (mask f n) k0 = true := by
    rw [bt_mask _ (by omega) (by omega)]
    simp [hk1, hk2]
  have b2' : ∀ i, i < k0 → bt (mask f n) i = false := by
    intro i hi
    rw [bt_mask _ (by omega) (by omega)]
    cases hf : f i with
    | false => simp
    | true => exact absurd ⟨by omega, hf⟩ (hk3 i hi)
  exact ⟨k0, hk1, low_loop (x := mask f n) (k0 := k0) (by omega) b1' b2' k0 0 FU (by omega) (FU_lt (by omega)), hk2⟩
/-- the board that is told -/
noncomputable def lowN (x : Int32) : Int32 := (f_X2_lowest x).getD 0
theorem TM_low {n m T X : Nat} {par pl cu : Nat → Nat} {row : zA} (h : INV row n m T X par pl cu) (h0 : ¬ TM n m par pl cu row = 0) : ∃ k, k < n ∧ lowN (TM n m par pl cu row) = nI k ∧ f_X2_lowest (TM n m par pl cu row) = some (lowN (TM n m par pl cu row)) ∧ bt (TM n m par pl cu row) k = true := by
  obtain ⟨k, k1, k2, k3⟩ := low_ok _ h.n10 h0
  have hn := h.n10
  have e : lowN (TM n m par pl cu row) = nI k := by
    unfold lowN
    have : f_X2_lowest (TM n m par pl cu row) = some (nI k) := k2
    rw [this]
    rfl
  refine ⟨k, k1, e, by rw [e]; exact k2, ?_⟩
  show bt (mask _ n) k = true
  rw [bt_mask _ (by omega) (by omega)]
  simp [k1, k3]
/-- when and which -/
noncomputable def fb (n m : Nat) (par pl cu : Nat → Nat) : Nat → Nat → zA → Option (Nat × Int32)
  | 0, _, _ => none
  | j + 1, t, row => if TM n m par pl cu row = 0 then fb n m par pl cu j (t + 1) (TR n m par pl cu row) else some (t, lowN (TM n m par pl cu row))
def fbA (w : Int32) (o : Option (Nat × Int32)) : Int32 := match o with
  | none => -6
  | some (t, b) => if w = 0 then nI t else b
def FAR (row : zA) : Prop := ∀ j, 125 ≤ j → row j = 0
theorem first_loop {n m : Nat} {par pl cu : Nat → Nat} (w : Int32) : ∀ (j t T X : Nat) (row tf : zA), t + j = 201 → INV row n m T X par pl cu → ∃ tr' tf', FAR tr' ∧ ∀ fuel, j < fuel → B_X2_firstBlow_2 fuel w (nI t) row tf = some (fbA w (fb n m par pl cu j t row), tr', tf') := by
  intro j
  induction j with
  | zero =>
    intro t T X row tf ht h
    refine ⟨row, tf, h.far, fun fuel hf => ?_⟩
    obtain ⟨f, rfl⟩ : ∃ f, fuel = f + 1 := ⟨fuel - 1, by omega⟩
    rw [B_X2_firstBlow_2, if_pos (show (200 : Int32) < nI t by rw [gt200 (by omega)]; omega)]
    rfl
  | succ j ih =>
    intro t T X row tf ht h
    obtain ⟨fl, e⟩ := tick_eq h tf
    by_cases h0 : TM n m par pl cu row = 0
    · obtain ⟨tr', tf', g1, g2⟩ := ih (t + 1) (T + 1) (X + n) _ fl (by omega) (tick_inv h)
      refine ⟨tr', tf', g1, fun fuel hf => ?_⟩
      obtain ⟨f, rfl⟩ : ∃ f, fuel = f + 1 := ⟨fuel - 1, by omega⟩
      rw [B_X2_firstBlow_2, if_neg (show ¬ (200 : Int32) < nI t by rw [gt200 (by omega)]; omega), e, b3s, if_pos h0, nmI, ra1, g2 f (by omega)]
      rw [show fb n m par pl cu (j + 1) t row = if TM n m par pl cu row = 0 then fb n m par pl cu j (t + 1) (TR n m par pl cu row) else some (t, lowN (TM n m par pl cu row)) from rfl, if_pos h0]
    · obtain ⟨k, k1, k2, k3, k4⟩ := TM_low h h0
      refine ⟨_, fl, (tick_inv h).far, fun fuel hf => ?_⟩
      obtain ⟨f, rfl⟩ : ∃ f, fuel = f + 1 := ⟨fuel - 1, by omega⟩
      rw [B_X2_firstBlow_2, if_neg (show ¬ (200 : Int32) < nI t by rw [gt200 (by omega)]; omega), e, b3s, if_neg h0, k3]
      rw [show fb n m par pl cu (j + 1) t row = if TM n m par pl cu row = 0 then fb n m par pl cu j (t + 1) (TR n m par pl cu row) else some (t, lowN (TM n m par pl cu row)) from rfl, if_neg h0, b1s]
      unfold fbA
      by_cases hw : w = 0
      · simp only [if_pos hw]
      · simp only [if_neg hw]
theorem d_first {row : zA} {n m T X : Nat} {par pl cu : Nat → Nat} (h : INV row n m T X par pl cu) (w : Int32) (tf : zA) : ∃ tr' tf', FAR tr' ∧ f_X2_firstBlow w row tf = some (fbA w (fb n m par pl cu 200 1 row), tr', tf') := by
  obtain ⟨tr', tf', g1, g2⟩ := first_loop w 200 1 T X row tf (by omega) h
  exact ⟨tr', tf', g1, g2 FU (FU_lt (by omega))⟩
theorem fb_some {n m : Nat} {par pl cu : Nat → Nat} : ∀ (j t : Nat) (row : zA) (q : Nat) (b : Int32), fb n m par pl cu j t row = some (q, b) → ∃ i, i < j ∧ q = t + i ∧ (∀ i', i' < i → TM n m par pl cu (TI n m par pl cu i' row) = 0) ∧ ¬ TM n m par pl cu (TI n m par pl cu i row) = 0 ∧ b = lowN (TM n m par pl cu (TI n m par pl cu i row)) := by
  intro j
  induction j with
  | zero =>
    intro t row q b h
    cases h
  | succ j ih =>
    intro t row q b h
    rw [show fb n m par pl cu (j + 1) t row = if TM n m par pl cu row = 0 then fb n m par pl cu j (t + 1) (TR n m par pl cu row) else some (t, lowN (TM n m par pl cu row)) from rfl] at h
    by_cases h0 : TM n m par pl cu row = 0
    · rw [if_pos h0] at h
      obtain ⟨i, i1, i2, i3, i4, i5⟩ := ih (t + 1) _ q b h
      refine ⟨i + 1, by omega, by omega, fun i' hi' => ?_, i4, i5⟩
      cases i' with
      | zero => exact h0
      | succ i' => exact i3 i' (by omega)
    · rw [if_neg h0] at h
      have h2 := Option.some.inj h
      have h3 := congrArg Prod.fst h2
      have h4 := congrArg Prod.snd h2
      exact ⟨0, by omega, h3.symm, fun i' hi' => absurd hi' (by omega), h0, h4.symm⟩
theorem fb_at {n m : Nat} {par pl cu : Nat → Nat} : ∀ (i j t : Nat) (row : zA), i < j → (∀ i', i' < i → TM n m par pl cu (TI n m par pl cu i' row) = 0) → ¬ TM n m par pl cu (TI n m par pl cu i row) = 0 → fb n m par pl cu j t row = some (t + i, lowN (TM n m par pl cu (TI n m par pl cu i row))) := by
  intro i
  induction i with
  | zero =>
    intro j t row hij _ h1
    obtain ⟨q, rfl⟩ : ∃ q, j = q + 1 := ⟨j - 1, by omega⟩
    exact if_neg h1
  | succ i ih =>
    intro j t row hij h0 h1
    obtain ⟨q, rfl⟩ : ∃ q, j = q + 1 := ⟨j - 1, by omega⟩
    have e0 : TM n m par pl cu row = 0 := h0 0 (by omega)
    have := ih q (t + 1) (TR n m par pl cu row) (by omega) (fun i' hi' => h0 (i' + 1) (by omega)) h1
    rw [show t + 1 + i = t + (i + 1) by omega] at this
    exact (if_pos e0).trans this
theorem fb_none {n m : Nat} {par pl cu : Nat → Nat} : ∀ (j t : Nat) (row : zA), (∀ i, i < j → TM n m par pl cu (TI n m par pl cu i row) = 0) → fb n m par pl cu j t row = none
  | 0, _, _, _ => rfl
  | j + 1, t, row, h => (if_pos (h 0 (by omega))).trans (fb_none j (t + 1) (TR n m par pl cu row) (fun i hi => h (i + 1) (by omega)))
/-- how many blow -/
noncomputable def pcnt (n m : Nat) (par pl cu : Nat → Nat) : Nat → zA → Nat
  | 0, _ => 0
  | i + 1, row => cnt (TM n m par pl cu row) + pcnt n m par pl cu i (TR n m par pl cu row)
theorem bits_TM {n m T X : Nat} {par pl cu : Nat → Nat} {row : zA} (h : INV row n m T X par pl cu) : f_J6_bitCount_0f7a4 (TM n m par pl cu row) = some (nI (cnt (TM n m par pl cu row))) := by
  obtain ⟨v, v1, v2⟩ := mask_small (near par (hotb (tkH n (Cc row m par pl cu) row)) n) h.n10
  have e : TM n m par pl cu row = nI v := v2
  rw [e]
  exact bits_all v v1
theorem pass_loop {n m a : Nat} {par pl cu : Nat → Nat} (ha : a ≤ 99) : ∀ (j i c T X : Nat) (row nf : zA), a = i + j → INV row n m T X par pl cu → ∃ nf', ∀ fuel, j < fuel → B_X0_letPass_35 fuel (nI a) (nI c) (nI i) row nf = some (nI (c + pcnt n m par pl cu j row), TI n m par pl cu j row, nf') := by
  intro j
  induction j with
  | zero =>
    intro i c T X row nf hi h
    refine ⟨nf, fun fuel hf => ?_⟩
    obtain ⟨f, rfl⟩ : ∃ f, fuel = f + 1 := ⟨fuel - 1, by omega⟩
    rw [B_X0_letPass_35, if_pos ((nI_leI (by omega) (by omega)).mpr (by omega))]
    rfl
  | succ j ih =>
    intro i c T X row nf hi h
    obtain ⟨fl, e⟩ := tick_eq h nf
    obtain ⟨nf', g⟩ := ih (i + 1) (c + cnt (TM n m par pl cu row)) (T + 1) (X + n) _ fl (by omega) (tick_inv h)
    refine ⟨nf', fun fuel hf => ?_⟩
    obtain ⟨f, rfl⟩ : ∃ f, fuel = f + 1 := ⟨fuel - 1, by omega⟩
    rw [B_X0_letPass_35, if_neg (fun q => absurd ((nI_leI (by omega) (by omega)).mp q) (by omega)), e, b3s, bits_TM h, b1s]
    simp only [nmI, nI_add, ra1]
    rw [g f (by omega), Nat.add_assoc]
    rfl
theorem d_pass {row : zA} {n m T X a : Nat} {par pl cu : Nat → Nat} (h : INV row n m T X par pl cu) (h1 : 1 ≤ a) (h99 : a ≤ 99) (hT : T + a ≤ 9999) (nf : zA) : ∃ nf', f_X0_letPass (nI a) row nf = some (nI (pcnt n m par pl cu a row), TI n m par pl cu a row, nf') := by
  obtain ⟨nf', g⟩ := pass_loop h99 a 0 0 T X row nf (by omega) h
  refine ⟨nf', ?_⟩
  unfold f_X0_letPass
  rw [if_neg (show ¬ nI a < 1 by rw [lt1 (by omega)]; omega), if_pos (show nI a ≤ 99 by rw [le99 (by omega)]; exact h99), h.tm, nI_add, if_pos (show nI (T + a) ≤ 9999 by rw [le9999 (by omega)]; exact hT)]
  have := g FU (FU_lt (by omega))
  rw [Nat.zero_add] at this
  exact this
theorem cnt_0 : cnt 0 = 0 := by
  unfold cnt
  refine sm_z fun k _ => ?_
  rw [bt_0]
  rfl
theorem sm_pos {f : Nat → Nat} {k : Nat} (hf : 0 < f k) : ∀ {n : Nat}, k < n → 0 < sm f n
  | 0, h => absurd h (by omega)
  | n + 1, h => by
    show 0 < sm f n + f n
    by_cases hk : k = n
    · subst hk
      omega
    · have := sm_pos hf (n := n) (by omega)
      omega
theorem cnt_pos {x : Int32} {k : Nat} (hk : k < 14) (hb : bt x k = true) : 0 < cnt x := sm_pos (f := fun i => ind (bt x i)) (k := k) (by rw [hb]; decide) hk
theorem pcnt_0 {n m : Nat} {par pl cu : Nat → Nat} : ∀ (j : Nat) (row : zA), (∀ i, i < j → TM n m par pl cu (TI n m par pl cu i row) = 0) → pcnt n m par pl cu j row = 0
  | 0, _, _ => rfl
  | j + 1, row, h => by
    show cnt (TM n m par pl cu row) + pcnt n m par pl cu j (TR n m par pl cu row) = 0
    rw [show TM n m par pl cu row = 0 from h 0 (by omega), cnt_0, pcnt_0 j _ (fun i hi => h (i + 1) (by omega))]
theorem pcnt_le {n m : Nat} {par pl cu : Nat → Nat} : ∀ (j : Nat) (row : zA), pcnt n m par pl cu j row ≤ 14 * j
  | 0, _ => Nat.le_refl _
  | j + 1, row => by
    show cnt (TM n m par pl cu row) + pcnt n m par pl cu j (TR n m par pl cu row) ≤ _
    have h1 := cnt_le (TM n m par pl cu row)
    have h2 := pcnt_le (n := n) (m := m) (par := par) (pl := pl) (cu := cu) j (TR n m par pl cu row)
    omega
