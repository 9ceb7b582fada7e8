/-! Characters into the text -/
def nL (z : Int64) : Nat := z.toBitVec.toNat
theorem nL_shr (z : Int64) {c : Nat} (hc : c < 64) : nL (zlushr z (nI c)) = nL z / 2 ^ c := by
  have e : ∀ c, c < 64 → ((nI c).toInt64.toUInt64 &&& Int64.toUInt64 63).toNat % 64 = c := by decide +kernel
  show (z.toUInt64 >>> ((nI c).toInt64.toUInt64 &&& Int64.toUInt64 63)).toNat = z.toUInt64.toNat / 2 ^ c
  rw [UInt64.toNat_shiftRight, e c hc, Nat.shiftRight_eq_div_pow]
theorem and255 (n : Nat) : n &&& 255 = n % 256 := Nat.and_two_pow_sub_one_eq_mod n 8
theorem byte32 (z : Int64) : Int64.toInt32 z &&& 255 = nI (nL z % 256) := by
  apply Int32.toBitVec_inj.mp
  apply BitVec.eq_of_toNat_eq
  rw [Int32.toBitVec_and, BitVec.toNat_and, Int64.toBitVec_toInt32, BitVec.signExtend_eq_setWidth_of_le _ (by omega), BitVec.toNat_setWidth]
  show (nL z % 2 ^ 32) &&& 255 = (BitVec.ofNat 32 (nL z % 256)).toNat
  rw [and255, BitVec.toNat_ofNat]
  omega
theorem up256 : ∀ k, k < 256 → (Int32.toInt64 (nI k)).toBitVec.toNat = k := by decide +kernel
theorem byte64 (z : Int64) : z &&& 255 = Int32.toInt64 (nI (nL z % 256)) := by
  apply Int64.toBitVec_inj.mp
  apply BitVec.eq_of_toNat_eq
  rw [up256 _ (Nat.mod_lt _ (by omega)), Int64.toBitVec_and, BitVec.toNat_and]
  show nL z &&& 255 = nL z % 256
  exact and255 _
theorem lg0 (z : Int64) : (lg_cmp z 0 = 0) = (nL z = 0) := by
  unfold lg_cmp
  by_cases h : z = 0
  · subst h
    exact propext ⟨fun _ => rfl, fun _ => rfl⟩
  · have hz : ¬ nL z = 0 := fun q => h (Int64.toBitVec_inj.mp (BitVec.eq_of_toNat_eq q))
    by_cases h2 : z > 0
    · rw [if_pos h2]
      exact propext ⟨fun q => absurd q (by decide), fun q => absurd q hz⟩
    · rw [if_neg h2, if_neg h]
      exact propext ⟨fun q => absurd q (by decide), fun q => absurd q hz⟩
/-- the i'th byte from the last -/
def byt (a : Int64) (i : Nat) : Nat := nL a / 2 ^ (8 * i) % 256
theorem byt_lt (a : Int64) (i : Nat) : byt a i < 256 := Nat.mod_lt _ (by omega)
theorem d_code (a : Int64) {i : Nat} (hi : i < 8) : f_X1_codeIn a (nI i) = some (nI (byt a i)) := by
  unfold f_X1_codeIn byt
  rw [lm8, byte32, nL_shr _ (by omega)]
theorem L33 : (33 : Int32) = nI 33 := rfl
theorem L126 : (126 : Int32) = nI 126 := rfl
theorem L48 : (48 : Int32) = nI 48 := rfl
theorem L57' : (57 : Int32) = nI 57 := rfl
theorem chars_loop (a : Int64) : ∀ (j i fuel : Nat) (z : Int64), 8 = i + j → j < fuel → nL z = nL a / 2 ^ (8 * i) → ∃ c : Nat, c ≤ 8 ∧ B_X1_countCharacters_2 fuel a (nI i) = some (nI c) ∧ B_X3_charactersOf_5 fuel z (nI i) = some (nI c) := by
  intro j
  induction j with
  | zero =>
    intro i fuel z hi hf hz
    obtain ⟨f, rfl⟩ : ∃ f, fuel = f + 1 := ⟨fuel - 1, by omega⟩
    have : i = 8 := by omega
    subst this
    have h0 : nL z = 0 := by
      rw [hz]
      exact Nat.div_eq_of_lt (Nat.lt_of_lt_of_le (BitVec.isLt _) (by decide))
    refine ⟨8, by omega, ?_, ?_⟩
    · rw [B_X1_countCharacters_2, if_pos (show (8 : Int32) ≤ nI 8 by decide)]
      unfold B_X1_countCharacters_42
      rw [if_pos (show (8 : Int32) ≤ nI 8 by decide)]
    · rw [B_X3_charactersOf_5, if_pos (show (8 : Int32) ≤ nI 8 by decide)]
      unfold B_X3_charactersOf_40
      rw [if_pos (by rw [lg0]; exact h0)]
  | succ j ih =>
    intro i fuel z hi hf hz
    obtain ⟨f, rfl⟩ : ∃ f, fuel = f + 1 := ⟨fuel - 1, by omega⟩
    have hb : nL z % 256 = byt a i := by unfold byt; rw [hz]
    have hb2 := byt_lt a i
    have h8 : ¬ (8 : Int32) ≤ nI i := by rw [ge8 (by omega)]; omega
    have fin : B_X1_countCharacters_42 a (nI i) = if nL z = 0 then some (nI i) else some (nI 0) := by
      unfold B_X1_countCharacters_42
      rw [if_neg h8, lm8]
      simp only [lg0, nL_shr a (show 8 * i < 64 by omega), ← hz]
      rfl
    have fin3 : B_X3_charactersOf_40 z (nI i) = if nL z = 0 then some (nI i) else some (nI 0) := by
      unfold B_X3_charactersOf_40
      simp only [lg0]
      rfl
    rw [B_X1_countCharacters_2, B_X3_charactersOf_5, if_neg h8, if_neg h8, d_code a (show i < 8 by omega), byte64, hb, r_rng (x := nI (byt a i)) (L := 33) (H := 126) (by decide) (by decide)]
    simp only [b1s, s01]
    by_cases h0 : byt a i = 0
    · rw [if_pos (by rw [h0]; rfl), if_neg (by rw [h0]; decide), fin, fin3]
      by_cases hz0 : nL z = 0
      · rw [if_pos hz0]; exact ⟨i, by omega, rfl, rfl⟩
      · rw [if_neg hz0]; exact ⟨0, by omega, rfl, rfl⟩
    · rw [if_neg (by rw [eq0 (by omega)]; exact h0)]
      have hz0 : ¬ nL z = 0 := fun q => h0 (by rw [← hb, q])
      have hr : rng (nI (byt a i)) 33 126 = true ↔ 33 ≤ byt a i ∧ byt a i ≤ 126 := by
        refine (rng_nI (l := 33) (h := 126) (by omega)).trans ⟨fun ⟨k, k1, k2, k3⟩ => ?_, fun q => ⟨byt a i, q.1, q.2, rfl⟩⟩
        have := (nI_eq (by omega) (by omega)).mp k3
        omega
      simp only [L33, L126, lt_nI (show byt a i < 2 ^ 31 by omega) (show 33 < 2 ^ 31 by omega), le_nI (show byt a i < 2 ^ 31 by omega) (show 126 < 2 ^ 31 by omega), nmI, ra1]
      by_cases h33 : byt a i < 33
      · rw [if_pos h33, if_neg (fun q => by have := hr.mp q; omega), fin3, if_neg hz0]
        exact ⟨0, by omega, rfl, rfl⟩
      · rw [if_neg h33]
        by_cases h126 : byt a i ≤ 126
        · rw [if_pos h126, if_pos (hr.mpr ⟨by omega, h126⟩)]
          refine ih (i + 1) f (zlushr z 8) (by omega) (by omega) ?_
          rw [L8, nL_shr _ (by omega), hz, Nat.div_div_eq_div_mul, ← Nat.pow_add]
          rfl
        · rw [if_neg h126, if_neg (fun q => h126 (hr.mp q).2), fin3, if_neg hz0]
          exact ⟨0, by omega, rfl, rfl⟩
theorem d_app_loop (a : Int64) {len c : Nat} {pf : zA} (hl : len + c ≤ 80) (hc : c ≤ 8) (p1 : pf 1 = nI len) : ∀ (j i fuel : Nat) (co : zA), c = i + j → j < fuel → ∃ co', B_X1_append_29 fuel a (nI c) (nI i) co pf = some (nI (len + c), co', upd pf 1 (nI (len + c))) ∧ ∀ x, co' x = if len ≤ x ∧ x < len + j then nI (byt a (len + c - 1 - x)) else co x := by
  intro j
  induction j with
  | zero =>
    intro i fuel co hi hf
    obtain ⟨f, rfl⟩ : ∃ f, fuel = f + 1 := ⟨fuel - 1, by omega⟩
    have : i = c := by omega
    subst this
    refine ⟨co, ?_, fun x => by rw [if_neg (by omega)]⟩
    rw [B_X1_append_29, if_pos (Int32.le_refl _), p1, nI_add]
    simp only [nmI]
    rw [upd_eq]
  | succ j ih =>
    intro i fuel co hi hf
    obtain ⟨f, rfl⟩ : ∃ f, fuel = f + 1 := ⟨fuel - 1, by omega⟩
    obtain ⟨co', h1, h2⟩ := ih (i + 1) f (upd co (len + c - 1 - i) (nI (byt a i))) (by omega) (by omega)
    refine ⟨co', ?_, fun x => ?_⟩
    · rw [B_X1_append_29, if_neg (by rw [le_nI (by omega) (by omega)]; omega), d_code a (show i < 8 by omega), p1, nI_add, show nI (len + c) - 1 - nI i = nI (len + c - 1 - i) by rw [L1, pk_sub (by omega), pk_sub (by omega)]]
      simp only [b1s]
      rw [gd_nI (by omega) (by omega)]
      simp only [nmI, ra1]
      exact h1
    · rw [h2 x]
      by_cases hx : x = len + c - 1 - i
      · subst hx
        rw [if_neg (by omega), upd_eq, if_pos (by omega)]
        congr 2
        omega
      · rw [upd_ne hx]
        by_cases hx2 : len ≤ x ∧ x < len + j
        · rw [if_pos hx2, if_pos (by omega)]
        · rw [if_neg hx2, if_neg (by omega)]
theorem dn256 : ∀ k, k < 256 → Int64.toInt32 (Int32.toInt64 (nI k)) = nI k := by decide +kernel
theorem r_put_loop (a : Int64) {len c : Nat} {mf : zA} (hl : len + c ≤ 80) (hc : c ≤ 8) (p1 : mf 4 = nI len) : ∀ (j i fuel : Nat) (tx : zA), c = i + j → j < fuel → ∃ tx', B_X3_put_29 fuel a (nI c) (nI i) tx mf = some (nI (len + c), tx', upd mf 4 (nI (len + c))) ∧ ∀ x, tx' x = if len + i ≤ x ∧ x < len + c then nI (byt a (len + c - 1 - x)) else tx x := by
  intro j
  induction j with
  | zero =>
    intro i fuel tx hi hf
    obtain ⟨f, rfl⟩ : ∃ f, fuel = f + 1 := ⟨fuel - 1, by omega⟩
    have : i = c := by omega
    subst this
    refine ⟨tx, ?_, fun x => by rw [if_neg (by omega)]⟩
    rw [B_X3_put_29, if_pos (Int32.le_refl _), p1, nI_add]
    simp only [nmI]
    rw [upd_eq]
  | succ j ih =>
    intro i fuel tx hi hf
    obtain ⟨f, rfl⟩ : ∃ f, fuel = f + 1 := ⟨fuel - 1, by omega⟩
    obtain ⟨tx', h1, h2⟩ := ih (i + 1) f (upd tx (len + i) (nI (byt a (c - 1 - i)))) (by omega) (by omega)
    refine ⟨tx', ?_, fun x => ?_⟩
    · rw [B_X3_put_29, if_neg (by rw [le_nI (by omega) (by omega)]; omega), p1, nI_add, gd_nI (by omega) (by omega), show nI c - 1 - nI i = nI (c - 1 - i) by rw [L1, pk_sub (by omega), pk_sub (by omega)], lm8, byte64, nL_shr _ (by omega), dn256 _ (Nat.mod_lt _ (by omega))]
      simp only [nmI, ra1]
      exact h1
    · rw [h2 x]
      by_cases hx : x = len + i
      · subst hx
        rw [if_neg (by omega), upd_eq, if_pos (by omega)]
        congr 2
        omega
      · rw [upd_ne hx]
        by_cases hx2 : len + (i + 1) ≤ x ∧ x < len + c
        · rw [if_pos hx2, if_pos (by omega)]
        · rw [if_neg hx2, if_neg (by omega)]
theorem sim_put {nr co pf : zA} {hi sl : Nat → zA} {sv ff s sv2 tx mf : zA} (h : REL nr co pf hi sl sv ff s sv2 tx mf) (a : Int64) :
    ∃ (v : Int32) (co' pf' tx' mf' : zA), f_X2_put a co pf = some (v, co', pf') ∧ f_X3_put a tx mf = some (v, tx', mf') ∧ REL nr co' pf' hi sl sv ff s sv2 tx' mf' := by
  obtain ⟨c, hc, c1, c2⟩ := chars_loop a 8 0 FU a (by omega) (FU_lt (by omega)) (by simp)
  have h' := h
  obtain ⟨h1, ⟨u, sp, k1, k2, k3, k4, k5, k6⟩, h3, ⟨len, p1, p2, p3, p4⟩, h5⟩ := h'
  have e1 : f_X1_countCharacters a = some (nI c) := c1
  have e2 : f_X3_charactersOf a = some (nI c) := c2
  unfold f_X2_put f_X3_put f_X1_append
  rw [e1, e2]
  simp only [b1s]
  by_cases h0 : c = 0
  · subst h0
    rw [if_pos (show nI 0 = (0 : Int32) from rfl), if_pos (show nI 0 = (0 : Int32) from rfl)]
    exact ⟨_, _, _, _, _, rfl, rfl, h⟩
  · have hc0 : ¬ nI c = (0 : Int32) := by rw [eq0 (by omega)]; exact h0
    rw [if_neg hc0, if_neg hc0, p2, p3, nI_add]
    by_cases h80 : len + c ≤ 80
    · have q : nI (len + c) ≤ (80 : Int32) := by rw [le80 (by omega)]; exact h80
      rw [if_pos q, if_pos q]
      obtain ⟨co', a1, a2⟩ := d_app_loop a h80 hc p2 c 0 FU co (by omega) (FU_lt (by omega))
      obtain ⟨tx', d1, d2⟩ := r_put_loop a h80 hc p3 c 0 FU tx (by omega) (FU_lt (by omega))
      rw [show (0 : Int32) = nI 0 from rfl, a1, d1]
      refine ⟨_, _, _, _, _, rfl, rfl, h1, ⟨u, sp, k1, k2, k3, k4, by rw [upd_ne (by omega)]; exact k5, k6⟩, by rw [upd_ne (by omega)]; exact h3, ⟨len + c, h80, upd_eq _ _ _, upd_eq _ _ _, fun j hj => ?_⟩, h5⟩
      rw [a2, d2]
      by_cases hj2 : len ≤ j
      · rw [if_pos (by omega), if_pos (by omega)]
      · rw [if_neg (by omega), if_neg (by omega)]
        exact p4 j (by omega)
    · have q : ¬ nI (len + c) ≤ (80 : Int32) := by rw [le80 (by omega)]; exact h80
      rw [if_neg q, if_neg q]
      exact ⟨_, _, _, _, _, rfl, rfl, h⟩
theorem sim_wipe {nr co pf : zA} {hi sl : Nat → zA} {sv ff s sv2 tx mf : zA} (h : REL nr co pf hi sl sv ff s sv2 tx mf) :
    ∃ (v : Int32) (pf' mf' : zA), f_X2_wipe pf = some (v, pf') ∧ f_X3_wipe mf = some (v, mf') ∧ REL nr co pf' hi sl sv ff s sv2 tx mf' := by
  obtain ⟨h1, ⟨u, sp, k1, k2, k3, k4, k5, k6⟩, h3, ⟨len, p1, p2, p3, p4⟩, h5⟩ := h
  unfold f_X2_wipe f_X3_wipe f_X1_clear
  simp only [nmI, b2s]
  rw [p2, p3]
  exact ⟨_, _, _, rfl, rfl, h1, ⟨u, sp, k1, k2, k3, k4, by rw [upd_ne (by omega)]; exact k5, k6⟩, by rw [upd_ne (by omega)]; exact h3, ⟨0, by omega, upd_eq _ _ _, upd_eq _ _ _, fun j hj => by omega⟩, h5⟩
