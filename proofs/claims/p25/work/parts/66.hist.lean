/-! Noting, keeping, taking back -/
theorem cpy_eq {f g : zA} (hf : FAR f) (hg : FAR g) : va_cpy f g 0 0 125 = f := by
  funext j
  by_cases h : j < 125
  · exact cpy_in h
  · rw [pk_cpy_out (by omega), hf j (by omega), hg j (by omega)]
theorem cpy_back {f g h : zA} (hf : FAR f) (hh : FAR h) : va_cpy (va_cpy f g 0 0 125) h 0 0 125 = f := by
  funext j
  by_cases hj : j < 125
  · rw [cpy_in hj, cpy_in hj]
  · rw [pk_cpy_out (by omega), hf j (by omega), hh j (by omega)]
def FFo (ff : zA) (sp u : Nat) : Prop := ff 6 = nI sp ∧ ff 7 = nI u ∧ sp < 7 ∧ u ≤ 6
def kpn (nr k : zA) : zA := va_cpy nr k 0 0 125
theorem note_ok {ff nr : zA} {hi : Nat → zA} {sp u : Nat} (h : FFo ff sp u) : f_X2_noteState nr hi ff = some (va_up hi sp (kpn nr (hi sp))) := by
  obtain ⟨h6, h7, hs, hu⟩ := h
  unfold f_X2_noteState f_X0_writeTo
  rw [h6, gd_nI hs (by omega), if_neg (by decide)]
  rfl
def bump (ff : zA) (sp u : Nat) : zA := upd (upd ff 6 (nI ((sp + 1) % 7))) 7 (nI (min 6 (u + 1)))
theorem bump_ok {ff : zA} {sp u : Nat} (h : FFo ff sp u) : FFo (bump ff sp u) ((sp + 1) % 7) (min 6 (u + 1)) := by
  obtain ⟨h6, h7, hs, hu⟩ := h
  exact ⟨by unfold bump; rw [upd_ne (by omega), upd_eq], by unfold bump; rw [upd_eq], by omega, by omega⟩
theorem keep_pos {ff : zA} {sp u v : Nat} (h : FFo ff sp u) (hv : v < 2 ^ 31) : f_X2_keepUnlessError (nI v) ff = some (nI v, bump ff sp u) := by
  obtain ⟨e6, e7, hsp, hu⟩ := h
  unfold f_X2_keepUnlessError bump
  rw [e6, if_pos (nI_pos' hv)]
  have a1 : nI sp + 1 - (nI sp + 1) / 7 * 7 = nI ((sp + 1) % 7) := by
    rw [L1, nI_add, L7, pk_rem (by omega) (by omega) (by omega)]
  rw [a1]
  simp only [nmI]
  rw [upd_ne (by omega), e7, L1, nI_add]
  have a2 : zmn 6 (nI (u + 1)) = nI (min 6 (u + 1)) := by
    unfold zmn
    by_cases h6 : u + 1 < 6
    · rw [if_pos (by rw [lt6 (by omega)]; exact h6), show min 6 (u + 1) = u + 1 by omega]
    · rw [if_neg (by rw [lt6 (by omega)]; exact h6), show min 6 (u + 1) = 6 by omega]
      rfl
  rw [a2]
theorem keep_neg {ff : zA} {v : Int32} (hv : v < 0) : f_X2_keepUnlessError v ff = some (v, ff) := by
  unfold f_X2_keepUnlessError
  rw [if_neg (Int32.not_le.mpr hv)]
theorem undo_ok {ff nr : zA} {hi : Nat → zA} {sp u : Nat} (h : FFo ff sp u) (hu0 : 0 < u) : ∃ ff', FFo ff' ((sp + 6) % 7) (u - 1) ∧ f_X2_undo nr hi ff = some (nI (u - 1), va_cpy (hi ((sp + 6) % 7)) nr 0 0 125, ff') := by
  obtain ⟨e6, e7, hsp, hu⟩ := h
  have a0 : nI u - 1 = nI (u - 1) := by rw [L1, pk_sub (by omega)]
  have a1 : nI sp + 7 - 1 - (nI sp + 7 - 1) / 7 * 7 = nI ((sp + 6) % 7) := by
    rw [show nI sp + 7 - 1 = nI (sp + 6) by rw [ra7, L1, pk_sub (by omega)]; rfl, L7, pk_rem (by omega) (by omega) (by omega)]
  refine ⟨upd (upd ff 7 (nI (u - 1))) 6 (nI ((sp + 6) % 7)), ⟨upd_eq _ _ _, by rw [upd_ne (by omega), upd_eq], by omega, by omega⟩, ?_⟩
  unfold f_X2_undo f_X0_readFrom
  rw [e7, if_neg (by rw [eq0 (by omega)]; omega)]
  simp only [nmI]
  rw [a0, upd_ne (show (6 : Nat) ≠ 7 by omega), e6, a1, upd_eq, gd_nI (by omega) (by omega), if_neg (by decide), b1s, upd_ne (show (7 : Nat) ≠ 6 by omega), upd_eq]
theorem boards_ok {row : zA} {n : Nat} (h4 : row 4 = nI n) : f_X0_boards row = some (nI n) := by
  unfold f_X0_boards
  rw [h4]
theorem save_ok {nr sv : zA} {sl : Nat → zA} {n : Nat} (h4 : nr 4 = nI n) : f_X2_save 1 nr sl sv = some (nI n, va_up sl 1 (kpn nr (sl 1)), upd sv 1 1) := by
  unfold f_X2_save f_X2_isSlot f_X0_writeTo
  rw [if_neg (by decide), if_neg (by decide), b1s, if_neg (by decide), L1, gd_nI (by omega) (by omega), if_neg (by decide)]
  simp only [nmI, b1s]
  rw [boards_ok h4, b1s]
  rfl
theorem restore_ok {nr sv ff : zA} {hi sl : Nat → zA} {n sp u : Nat} (h : FFo ff sp u) (hs : sv 1 = 1) (hn : n ≤ 10) (h4 : sl 1 4 = nI n) : f_X2_restore 1 nr hi sl sv ff = some (nI n, va_cpy (sl 1) nr 0 0 125, va_up hi sp (kpn nr (hi sp)), bump ff sp u) := by
  unfold f_X2_restore f_X2_isSlot f_X0_readFrom
  rw [if_neg (by decide), if_neg (by decide), b1s, if_neg (by decide), L1, gd_nI (by omega) (by omega), hs, if_neg (by decide), note_ok h, b1s, if_neg (by decide)]
  simp only [nmI, b1s]
  rw [boards_ok (n := n) (by rw [cpy_in (by omega)]; exact h4), b1s, keep_pos h (by omega), b2s]
/-- next, asked of the house as it is -/
theorem copy_ok {tr nr : zA} (ht : FAR tr) (hn : FAR nr) : f_X0_copyFrom tr nr = some nr := by
  unfold f_X0_copyFrom
  rw [cpy_eq hn ht]
  rfl
theorem next_ok {nr tr : zA} {n m T X : Nat} {par pl cu : Nat → Nat} (h : INV nr n m T X par pl cu) (ht : FAR tr) {w : Int32} (hw : w = 0 ∨ w = 1) (tf : zA) : ∃ tr' tf', FAR tr' ∧ f_X2_next w nr tr tf = some (fbA w (fb n m par pl cu 200 1 nr), tr', tf') := by
  obtain ⟨tr', tf', g1, g2⟩ := d_first h w tf
  refine ⟨tr', tf', g1, ?_⟩
  unfold f_X2_next f_X2_isTrialQuestion
  have e : (if w = 0 then some (1 : Int32) else if w = 1 then some 1 else some 0) = some 1 := by
    rcases hw with rfl | rfl
    · rw [if_pos rfl]
    · rw [if_neg (by decide), if_pos rfl]
  rw [e, b1s, if_neg (by decide), copy_ok ht h.far, b1s, g2, b3s]
theorem b9s {α β δ ε ζ η θ ι κ γ : Type} (a : α) (b : β) (c : δ) (d : ε) (e : ζ) (f : η) (g : θ) (h : ι) (i : κ) (K : α → β → δ → ε → ζ → η → θ → ι → κ → Option γ) : b9 (some (a, b, c, d, e, f, g, h, i)) K = K a b c d e f g h i := rfl
