/-! A fault as the only load: what a trial comes to -/
theorem ded_mono {par : Nat → Nat} {op op' : Nat → Bool} (ho : ∀ k, op k = true → op' k = true) : ∀ x, ded par op x = true → ded par op' x = true
  | 0, h => by
    rw [ded_0] at h ⊢
    exact ho 0 h
  | x + 1, h => by
    rw [ded, Bool.or_eq_true] at h
    rw [ded, Bool.or_eq_true]
    rcases h with h | h
    · exact Or.inl (ho _ h)
    · exact Or.inr (ded_mono ho _ h)
termination_by x => x
decreasing_by exact Nat.lt_succ_of_le (Nat.min_le_right _ _)
theorem Cc_one {row : zA} {par : Nat → Nat} {x c k : Nat} : Cc row 1 par (fun _ => x) (fun _ => c) k = (if bt (row 6) 0 && !ded par (bt (row 7)) x then c else 0) * ind (fed par x k) := by
  unfold Cc crt wgt
  show 0 + _ = _
  rw [Nat.zero_add]
def TRI (base row : zA) (n T X : Nat) (par : Nat → Nat) (x c : Nat) (Z : Nat → Prop) : Prop := INV row n 1 T X par (fun _ => x) (fun _ => c) ∧ (∀ k, k < n → row (27 + k) = base (27 + k)) ∧ (∀ k, bt (base 7) k = true → bt (row 7) k = true) ∧ (∀ k, k < n → ws row k = true → ws base k = true) ∧ ∀ k, k < n → Z k → row (57 + k) = 0
def ZOK (base : zA) (n : Nat) (par : Nat → Nat) (x c : Nat) (Z : Nat → Prop) : Prop := ∀ k, k < n → Z k → fed par x k = false ∨ (∃ r, r ≤ 100 ∧ base (27 + k) = nI r ∧ c ≤ r) ∨ ded par (bt (base 7)) x = true
section TRIAL
variable {base row : zA} {n T X x c : Nat} {par : Nat → Nat} {Z : Nat → Prop}
theorem tri_cold (h : TRI base row n T X par x c Z) (hZ : ZOK base n par x c Z) {k : Nat} (hk : k < n) (hz : Z k) : tkH n (Cc row 1 par (fun _ => x) (fun _ => c)) row (57 + k) = 0 := by
  obtain ⟨hI, h27, ho, hw, h57⟩ := h
  have hn := hI.n10
  have e57 : bnT n row (57 + k) = 0 := by rw [bnT_fr n hn _ (by omega) (by omega), h57 k hk hz]
  unfold tkH
  rw [htT_h n hn k (by omega), e57]
  split
  · obtain ⟨r, hr1, hr2, er⟩ := hI.rt k hk
    obtain ⟨co, hc1, hc2, eco⟩ := hI.coo
    rw [bnT_fr n hn (27 + k) (by omega) (by omega), bnT_fr n hn 1 (by omega) (by omega), er, eco]
    refine htf_cold ?_ hr2 hc1 hc2
    rw [Cc_one]
    rcases hZ k hk hz with hf | ⟨r', hr', er', hcr⟩ | hd
    · rw [hf]
      show _ * 0 ≤ r
      omega
    · have e1 : nI r = nI r' := by rw [← er, h27 k hk, er']
      rw [eq_nI (by omega) (by omega)] at e1
      have : (if bt (row 6) 0 && !ded par (bt (row 7)) x then c else 0) ≤ c := by split <;> omega
      exact Nat.le_trans (Nat.mul_le_mul this (ind_le _)) (by omega)
    · have hd2 := ded_mono ho x hd
      rw [hd2]
      simp
  · rfl
theorem tri_ws (hI : INV row n 1 T X par (fun _ => x) (fun _ => c)) {C : Nat → Nat} {k : Nat} (hk : k < n) (hw : ws (tkH n C row) k = true) : ws row k = true := by
  have hn := hI.n10
  unfold tkH at hw
  rw [htT_ws hn (by omega)] at hw
  unfold ws at hw ⊢
  rw [bnT_o n hn k (by omega), bnT_a n hn k (by omega), if_pos hk] at hw
  obtain ⟨a, ha, ea, -⟩ := hI.af k hk
  rw [ea] at hw ⊢
  simp only [hk, decide_true, Bool.true_and] at hw
  rw [Bool.and_eq_true] at hw ⊢
  obtain ⟨w1, w2⟩ := hw
  have e1 : (nI a = 1) = (a = 1) := eq1 (by omega)
  have e0 : (nI a = 0) = (a = 0) := eq0 (by omega)
  simp only [e1] at w1
  have w1' : bt (row 7) k = false ∧ ¬ a = 1 := by
    cases hb : bt (row 7) k
    · rw [hb] at w1
      refine ⟨rfl, fun q => ?_⟩
      simp [q] at w1
    · rw [hb] at w1
      simp at w1
  refine ⟨by rw [w1'.1]; rfl, ?_⟩
  rw [decide_eq_true_eq] at w2 ⊢
  rw [le0 (by omega)]
  by_cases h0 : a = 0
  · omega
  · rw [if_neg (by rw [e0]; exact h0), nI_s1 (by omega), le0 (by omega)] at w2
    omega
theorem tri_step (h : TRI base row n T X par x c Z) (hZ : ZOK base n par x c Z) : (∀ k, bt (TM n 1 par (fun _ => x) (fun _ => c) row) k = true → k < n ∧ ¬ Z k ∧ ws base k = true) ∧ (TM n 1 par (fun _ => x) (fun _ => c) row = 0 → TRI base (TR n 1 par (fun _ => x) (fun _ => c) row) n (T + 1) (X + n) par x c Z) := by
  have hI := h.1
  have hn := hI.n10
  constructor
  · intro k hb
    obtain ⟨hk, hot⟩ := tk_bit hn hb
    refine ⟨hk, fun hz => ?_, h.2.2.2.1 k hk (tri_ws hI hk (hotb_ws hot))⟩
    have e0 := tri_cold h hZ hk hz
    unfold hotb at hot
    rw [Bool.and_eq_true, e0] at hot
    have h2 := hot.2
    have hm := mlt_1 (tkH n (Cc row 1 par (fun _ => x) (fun _ => c)) row (27 + k)) (tkH n (Cc row 1 par (fun _ => x) (fun _ => c)) row (37 + k)) (tkH n (Cc row 1 par (fun _ => x) (fun _ => c)) row (67 + k))
    have hm2 : (0 : Int32) < mlt (tkH n (Cc row 1 par (fun _ => x) (fun _ => c)) row (27 + k)) (tkH n (Cc row 1 par (fun _ => x) (fun _ => c)) row (37 + k)) (tkH n (Cc row 1 par (fun _ => x) (fun _ => c)) row (67 + k)) := Int32.lt_of_lt_of_le (by decide) (Int32.not_lt.mp hm)
    simp [hm2] at h2
  · intro h0
    have e : tkM n par (Cc row 1 par (fun _ => x) (fun _ => c)) row = 0 := h0
    have fr : ∀ j, j ≠ 3 → TR n 1 par (fun _ => x) (fun _ => c) row j = tkH n (Cc row 1 par (fun _ => x) (fun _ => c)) row j := by
      intro j hj
      unfold TR tkR
      rw [upd_ne hj, e, blT_0]
    refine ⟨tick_inv hI, fun k hk => ?_, fun k hb => ?_, fun k hk hw => ?_, fun k hk hz => ?_⟩
    · rw [fr _ (by omega), tkH_fr hn (by omega) (by omega)]
      exact h.2.1 k hk
    · rw [fr 7 (by omega)]
      have h7 := h.2.2.1 k hb
      unfold tkH
      rw [htT_fr n hn 7 (by omega)]
      by_cases h32 : k < 32
      · rw [bnT_o n hn k h32, h7, Bool.true_or]
      · rw [bt_big _ (by omega)] at h7
        cases h7
    · refine h.2.2.2.1 k hk (tri_ws hI hk (C := Cc row 1 par (fun _ => x) (fun _ => c)) ?_)
      unfold ws at hw ⊢
      rw [fr 7 (by omega), fr (47 + k) (by omega)] at hw
      exact hw
    · rw [fr _ (by omega)]
      exact tri_cold h hZ hk hz
theorem tri_iter (hZ : ZOK base n par x c Z) : ∀ (i T X : Nat) (row : zA), TRI base row n T X par x c Z → (∀ i', i' < i → TM n 1 par (fun _ => x) (fun _ => c) (TI n 1 par (fun _ => x) (fun _ => c) i' row) = 0) → ∃ T' X', TRI base (TI n 1 par (fun _ => x) (fun _ => c) i row) n T' X' par x c Z
  | 0, T, X, _, h, _ => ⟨T, X, h⟩
  | i + 1, T, X, row, h, h0 => tri_iter hZ i (T + 1) (X + n) (TR n 1 par (fun _ => x) (fun _ => c) row) ((tri_step h hZ).2 (h0 0 (by omega))) (fun i' hi' => h0 (i' + 1) (by omega))
end TRIAL
theorem ts_ok {row : zA} {n m T X x c : Nat} {par pl cu : Nat → Nat} (h : INV row n m T X par pl cu) (hx : x < n) (hc : c ≤ 9999) : ∃ o : Option (Nat × Int32), (∀ (w : Int32) (tr tf : zA), FAR tr → ∃ tr' tf', FAR tr' ∧ f_X2_tryFault (nI x) (nI c) w row tr tf = some (fbA w o, tr', tf')) ∧ ∀ q b, o = some (q, b) → ∃ k, b = nI k ∧ 1 ≤ q ∧ q ≤ 200 ∧ k < n ∧ fed par x k = true ∧ (∃ r, r ≤ 100 ∧ row (27 + k) = nI r ∧ r < c) ∧ ded par (bt (row 7)) x = false ∧ ws row k = true := by
  have hn := h.n10
  obtain ⟨r0, l1, l2, l3, l4, l5, l6, l7⟩ := d_leave row (nI x) (nI c)
  obtain ⟨e, e1, e2, e3, e4, e5⟩ := h.bl
  have fr : ∀ j, j ≠ 5 → j ≠ 6 → (j < 57 ∨ 67 ≤ j) → j ≠ 97 → j ≠ 111 → r0 j = row j := l7
  have hI : INV r0 n 1 T X par (fun _ => x) (fun _ => c) := INV.mk (h.P.mv (fr 4 (by omega) (by omega) (by omega) (by omega) (by omega)) (fun i hi => fr _ (by omega) (by omega) (by omega) (by omega) (by omega)) (fun j hj => by rw [fr 7 (by omega) (by omega) (by omega) (by omega) (by omega)]; exact h.P.2.2.2.2 j hj)) ⟨by omega, l5, fun i hi => by
      have e0 : i = 0 := by omega
      subst e0
      exact ⟨hx, l3, l4⟩⟩ (fun i hi => by
      rw [l6]
      by_cases h32 : i < 32
      · rw [bt_1 i h32]
        have : ¬ i = 0 := by omega
        simp [this]
      · exact bt_big _ (by omega)) (by show 0 + c ≤ 9999; omega) (by rw [fr 3 (by omega) (by omega) (by omega) (by omega) (by omega)]; exact h.tm) (by rw [fr 0 (by omega) (by omega) (by omega) (by omega) (by omega)]; exact h.arc) (by rw [fr 1 (by omega) (by omega) (by omega) (by omega) (by omega)]; exact h.coo) (fun i hi => by rw [fr _ (by omega) (by omega) (by omega) (by omega) (by omega)]; exact h.rt i hi) (fun i hi => by rw [fr _ (by omega) (by omega) (by omega) (by omega) (by omega), fr 7 (by omega) (by omega) (by omega) (by omega) (by omega)]; exact h.af i hi) (fun i hi => ⟨0, by omega, l2 i (by omega)⟩) (fun i hi => by rw [fr _ (by omega) (by omega) (by omega) (by omega) (by omega), fr _ (by omega) (by omega) (by omega) (by omega) (by omega)]; exact h.sp i hi) ⟨e, e1, by rw [fr 8 (by omega) (by omega) (by omega) (by omega) (by omega)]; exact e2, fun i hi => by rw [fr _ (by omega) (by omega) (by omega) (by omega) (by omega)]; exact e3 i hi, fun i hi hc => by rw [fr 7 (by omega) (by omega) (by omega) (by omega) (by omega), fr _ (by omega) (by omega) (by omega) (by omega) (by omega)] at hc; exact e4 i hi hc, fun r hr hr2 => by rw [fr _ (by omega) (by omega) (by omega) (by omega) (by omega)]; exact e5 r hr hr2⟩ (fun i h1 h2 => by rw [fr _ (by omega) (by omega) (by omega) (by omega) (by omega)]; exact h.ze i h1 h2) (fun j hj => by rw [fr j (by omega) (by omega) (by omega) (by omega) (by omega)]; exact h.far j hj) (by rw [fr 2 (by omega) (by omega) (by omega) (by omega) (by omega)]; exact h.ag)
  let Z : Nat → Prop := fun k => fed par x k = false ∨ (∃ r, r ≤ 100 ∧ row (27 + k) = nI r ∧ c ≤ r) ∨ ded par (bt (row 7)) x = true
  have hT : TRI row r0 n T X par x c Z := ⟨hI, fun k hk => fr _ (by omega) (by omega) (by omega) (by omega) (by omega), fun k hb => by rw [fr 7 (by omega) (by omega) (by omega) (by omega) (by omega)]; exact hb, fun k hk hw => by
    unfold ws at hw ⊢
    rw [fr 7 (by omega) (by omega) (by omega) (by omega) (by omega), fr _ (by omega) (by omega) (by omega) (by omega) (by omega)] at hw
    exact hw, fun k hk _ => l2 k (by omega)⟩
  have hZ : ZOK row n par x c Z := fun k _ hz => hz
  refine ⟨fb n 1 par (fun _ => x) (fun _ => c) 200 1 r0, fun w tr tf ht => ?_, fun q b ho => ?_⟩
  · obtain ⟨tr', tf', g1, g2⟩ := d_first hI w tf
    refine ⟨tr', tf', g1, ?_⟩
    unfold f_X2_tryFault
    rw [copy_ok ht h.far, b1s, l1, b1s, g2, b3s]
  · obtain ⟨i, i1, i2, i3, i4, i5⟩ := fb_some 200 1 r0 q b ho
    obtain ⟨T', X', hTi⟩ := tri_iter hZ i T X r0 hT i3
    obtain ⟨k, k1, k2, k3, k4⟩ := TM_low hTi.1 i4
    obtain ⟨s1, s2, s3⟩ := (tri_step hTi hZ).1 k k4
    have hf : fed par x k = true := by
      cases hq : fed par x k with
      | true => rfl
      | false => exact absurd (Or.inl hq) s2
    have hd : ded par (bt (row 7)) x = false := by
      cases hq : ded par (bt (row 7)) x with
      | false => rfl
      | true => exact absurd (Or.inr (Or.inr hq)) s2
    obtain ⟨r, hr1, hr2, er⟩ := h.rt k k1
    refine ⟨k, i5.trans k2, by omega, by omega, k1, hf, ⟨r, hr2, er, ?_⟩, hd, s3⟩
    refine Nat.lt_of_not_le fun hcr => s2 (Or.inr (Or.inl ⟨r, hr2, er, hcr⟩))
