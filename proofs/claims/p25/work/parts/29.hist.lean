/-- a state, told alike -/
def AG (row : zA) : Prop := ∃ a, 1 ≤ a ∧ a ≤ 50 ∧ row 2 = nI a
theorem AG.of {row row' : zA} (h : AG row) (e : row' 2 = row 2) : AG row' := by
  unfold AG
  rw [e]
  exact h
theorem cpy_in {f g : zA} {j : Nat} (h : j < 125) : va_cpy f g 0 0 125 j = f j := by
  rw [pk_cpy_in (by omega) (by omega)]
  congr 1
  omega
theorem d_writeTo (row kept : zA) : ∃ k', f_X0_writeTo row kept = some k' ∧ ∀ j, j < 125 → k' j = row j := by
  refine ⟨va_cpy row kept 0 0 125, ?_, fun j hj => cpy_in hj⟩
  unfold f_X0_writeTo
  rw [if_neg (by decide)]
  rfl
theorem d_readFrom (row kept : zA) : ∃ k', f_X0_readFrom row kept = some k' ∧ ∀ j, j < 125 → k' j = kept j := by
  refine ⟨va_cpy kept row 0 0 125, ?_, fun j hj => cpy_in hj⟩
  unfold f_X0_readFrom
  rw [if_neg (by decide)]
  rfl
theorem d_copyFrom (row row2 : zA) : ∃ k', f_X0_copyFrom row row2 = some k' ∧ ∀ j, j < 125 → k' j = row2 j := ⟨va_cpy row2 row 0 0 125, rfl, fun j hj => cpy_in hj⟩
