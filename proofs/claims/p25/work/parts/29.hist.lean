theorem LN.mv {row s row' s' : zA} {b b' n m : Nat} (h : LN row s b n m) (h5 : row' 5 = row 5) (h6 : row' 6 = row 6) (hr : ∀ j, 97 ≤ j → j < 125 → row' j = row j) (hs5 : s' (b' + 5) = s (b + 5)) (hs : ∀ j, 106 ≤ j → j < 148 → s' (b' + j) = s (b + j)) : LN row' s' b' n m := by
  obtain ⟨pl, cu, ⟨hm, a1, a2⟩, ⟨-, c1, c2⟩, d1, d2⟩ := h
  have q : ∀ x y, b' + 106 ≤ x ∧ x < b' + 148 ∧ b ≤ y ∧ x - b' = y - b → s' x = s y := by
    intro x y ⟨h1, h2, h3, h4⟩
    have := hs (x - b') (by omega) (by omega)
    rw [show b' + (x - b') = x by omega, h4, show b + (y - b) = y by omega] at this
    exact this
  refine ⟨pl, cu, ⟨hm, by rw [h5]; exact a1, fun i hi => ?_⟩, ⟨hm, by rw [hs5]; exact c1, fun i hi => ?_⟩, d1, fun i hi => by rw [h6]; exact d2 i hi⟩
  · obtain ⟨e1, e2, e3⟩ := a2 i hi
    exact ⟨e1, by rw [hr _ (by omega) (by omega)]; exact e2, by rw [hr _ (by omega) (by omega)]; exact e3⟩
  · obtain ⟨e1, e2, e3, e4⟩ := c2 i hi
    exact ⟨e1, by rw [q _ (b + 106 + 3 * i) (by omega)]; exact e2, by rw [q _ (b + 106 + 3 * i + 1) (by omega)]; exact e3, by rw [h6, q _ (b + 106 + 3 * i + 2) (by omega)]; exact e4⟩
/-- a state, told alike -/
def AG (row : zA) : Prop := ∃ a, 1 ≤ a ∧ a ≤ 50 ∧ row 2 = nI a
theorem AG.of {row row' : zA} (h : AG row) (e : row' 2 = row 2) : AG row' := by
  unfold AG
  rw [e]
  exact h
theorem HR.mv {row s row' s' : zA} {b b' : Nat} (h : HR row s b) (hr : ∀ j, j < 125 → row' j = row j) (hs : ∀ j, j < 148 → s' (b' + j) = s (b + j)) (hb : b' + 148 ≤ 1480) : HR row' s' b' := by
  obtain ⟨n, m, T, par, h1, hg, h2, h3⟩ := h
  exact ⟨n, m, T, par, h1, hg.of (hr 2 (by omega)), h2.mv (fun j hj => hr j (by omega)) (fun j hj => hs j (by omega)) hb, h3.mv (hr 5 (by omega)) (hr 6 (by omega)) (fun j _ hj => hr j hj) (hs 5 (by omega)) (fun j _ hj => hs j hj)⟩
theorem cpy_in {f g : zA} {j : Nat} (h : j < 125) : va_cpy f g 0 0 125 j = f j := by
  rw [pk_cpy_in (by omega) (by omega)]
  congr 1
  omega
theorem d_writeTo (row kept : zA) : ∃ k', f_X0_writeTo row kept = some k' ∧ ∀ j, j < 125 → k' j = row j := by
  refine ⟨va_cpy row kept 0 0 125, ?_, fun j hj => cpy_in hj⟩
  unfold f_X0_writeTo
  rw [if_neg (by decide)]
  rfl
theorem d_readFrom (row kept : zA) : ∃ k', f_X0_readFrom row kept = some k' ∧ ∀ j, j < 125 → k' j = kept j := by
  refine ⟨va_cpy kept row 0 0 125, ?_, fun j hj => cpy_in hj⟩
  unfold f_X0_readFrom
  rw [if_neg (by decide)]
  rfl
theorem d_copyFrom (row row2 : zA) : ∃ k', f_X0_copyFrom row row2 = some k' ∧ ∀ j, j < 125 → k' j = row2 j := ⟨va_cpy row2 row 0 0 125, rfl, fun j hj => cpy_in hj⟩
