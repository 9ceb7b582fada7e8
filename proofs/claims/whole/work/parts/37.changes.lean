/-! Changes: one operation each -/
theorem HR.up {row s s' : zA} (h : HR row s 0) (e : ∀ x, x < 148 → s' x = s x) : HR row s' 0 := h.mv (fun _ _ => rfl) (fun j hj => by rw [Nat.zero_add]; exact e j hj) (by omega)
theorem REL.after {nr nr' co pf : zA} {hi hi' sl : Nat → zA} {sv ff ff' s s' s2 sv2 tx mf mf' : zA} (h : REL nr co pf hi sl sv ff s sv2 tx mf) (h1 : HR nr' s2 0) (h2 : HS hi' s2 ff' mf') (e : ∀ x, 1036 ≤ x → s2 x = s' x) (e' : ∀ x, 1036 ≤ x → s' x = s x) (hm : ∀ x, x ≠ 1 → mf' x = mf x) : REL nr' co pf hi' sl sv ff' s2 sv2 tx mf' := by
  obtain ⟨-, -, h3, ⟨len, p1, p2, p3, p4⟩, h5⟩ := h
  exact ⟨h1, h2, by rw [hm 5 (by omega)]; exact h3, ⟨len, p1, p2, by rw [hm 4 (by omega)]; exact p3, p4⟩, fun k hk => ⟨(h5 k hk).1, fun z => ((h5 k hk).2 z).mv (fun _ _ => rfl) (fun j hj => by rw [e _ (by omega), e' _ (by omega)]) (by omega)⟩⟩
theorem REL.none {nr co pf : zA} {hi hi' sl : Nat → zA} {sv ff s sv2 tx mf : zA} (h : REL nr co pf hi sl sv ff s sv2 tx mf) (h2 : HS hi' s ff mf) : REL nr co pf hi' sl sv ff s sv2 tx mf := ⟨h.1, h2, h.2.2⟩
theorem e_ne0 {e : Int32} (h : e < 0) : ¬ e = 0 := by
  rintro rfl
  exact absurd h (by decide)
/-- what an operation on the house does, noted by both -/
theorem chg_ops {nr co pf : zA} {hi sl : Nat → zA} {sv ff s sv2 tx mf : zA} (h : REL nr co pf hi sl sv ff s sv2 tx mf) {dv : Option (Int32 × zA)} {er : Option Int32} {doo : zA → Option (Int32 × zA)} (hop : ∀ s', (∀ x, x < 148 → s' x = s x) → OPS nr s' dv er (doo s')) :
    ∃ (v : Int32) (nr' : zA) (hi' : Nat → zA) (ff' s' mf' : zA), (b1 (f_X2_noteState nr hi ff) fun hi1 => b2 dv fun v3 nr4 => b2 (f_X2_keepUnlessError v3 ff) fun v6 ff7 => some (v6, nr4, hi1, ff7)) = some (v, nr', hi', ff') ∧
      (b1 er fun v1 => if v1 = 0 then (b2 (f_X3_changes s mf) fun s3 mf4 => b2 (doo s3) fun v6 s7 => some (v6, s7, mf4)) else (some (v1, s, mf))) = some (v, s', mf') ∧ REL nr' co pf hi' sl sv ff' s' sv2 tx mf' := by
  obtain ⟨hi', s1, mf', c1, c2, c3, c4, c5, c6, c7⟩ := chg_sim h.1 h.2.1
  rw [c1]
  rcases hop s1 (fun x hx => c3 x (by omega)) with ⟨e, he, d1, d2⟩ | ⟨d1, v, nr', s2, hv, d2, d3, d4, d5⟩
  · refine ⟨e, nr, hi', ff, s, mf, ?_, ?_, h.none c5⟩
    · rw [d1]; simp only [b1s, b2s]; rw [c7 e he]; rfl
    · rw [d2]; simp only [b1s]; rw [if_neg (e_ne0 he)]
  · obtain ⟨ff', f1, f2⟩ := c6 v hv
    refine ⟨nI v, nr', hi', ff', s2, mf', ?_, ?_, h.after d4 (f2 s2 (fun x hx _ => d5 x hx)) (fun x hx => d5 x (by omega)) (fun x hx => c3 x (by omega)) c4⟩
    · rw [d2]; simp only [b1s, b2s]; rw [f1]; rfl
    · rw [d1]; rw [b1s, if_pos rfl, c2]; simp only [b2s]; rw [d3]; rfl
theorem sim_board {nr co pf : zA} {hi sl : Nat → zA} {sv ff s sv2 tx mf : zA} (h : REL nr co pf hi sl sv ff s sv2 tx mf) (a b c : Int32) :
    ∃ (v : Int32) (nr' : zA) (hi' : Nat → zA) (ff' s' mf' : zA), f_X2_board a b c nr hi ff = some (v, nr', hi', ff') ∧ f_X3_board a b c s mf = some (v, s', mf') ∧ REL nr' co pf hi' sl sv ff' s' sv2 tx mf' := by
  have hn : f_X3_boardError a b c s = f_X3_boardError a b c s := rfl
  exact chg_ops h (dv := f_X0_addBoard a b c nr) (er := f_X3_boardError a b c s) (doo := fun s3 => f_X3_builds a b c s3) (fun s' e => by
    have := op_board (h.1.up e) a b c
    have e1 : f_X3_boardError a b c s' = f_X3_boardError a b c s := by
      unfold f_X3_boardError f_X3_isBoard B_X3_boardError_19
      rw [e 4 (by omega)]
    rw [e1] at this
    exact this)
theorem sim_load {nr co pf : zA} {hi sl : Nat → zA} {sv ff s sv2 tx mf : zA} (h : REL nr co pf hi sl sv ff s sv2 tx mf) (a b : Int32) :
    ∃ (v : Int32) (nr' : zA) (hi' : Nat → zA) (ff' s' mf' : zA), f_X2_load a b nr hi ff = some (v, nr', hi', ff') ∧ f_X3_load a b s mf = some (v, s', mf') ∧ REL nr' co pf hi' sl sv ff' s' sv2 tx mf' := by
  exact chg_ops h (dv := f_X0_addLoad a b nr) (er := f_X3_loadError a b s) (doo := fun s3 => f_X3_connects a b s3) (fun s' e => by
    have := op_load (h.1.up e) a b
    have e1 : f_X3_loadError a b s' = f_X3_loadError a b s := by
      unfold f_X3_loadError f_X3_isBoard
      rw [e 4 (by omega), e 5 (by omega)]
    rw [e1] at this
    exact this)
theorem sim_turn {nr co pf : zA} {hi sl : Nat → zA} {sv ff s sv2 tx mf : zA} (h : REL nr co pf hi sl sv ff s sv2 tx mf) (a : Int32) :
    ∃ (v : Int32) (nr' : zA) (hi' : Nat → zA) (ff' s' mf' : zA), f_X2_turn a nr hi ff = some (v, nr', hi', ff') ∧ f_X3_turn a s mf = some (v, s', mf') ∧ REL nr' co pf hi' sl sv ff' s' sv2 tx mf' := by
  exact chg_ops h (dv := f_X0_switchLoad a nr) (er := f_X3_turnError a s) (doo := fun s3 => f_X3_turns a s3) (fun s' e => by
    have := op_turn (h.1.up e) a
    have e1 : f_X3_turnError a s' = f_X3_turnError a s := by
      unfold f_X3_turnError f_X3_isLoad
      rw [e 5 (by omega)]
    rw [e1] at this
    exact this)
theorem sim_fuse {nr co pf : zA} {hi sl : Nat → zA} {sv ff s sv2 tx mf : zA} (h : REL nr co pf hi sl sv ff s sv2 tx mf) (a b c : Int32) :
    ∃ (v : Int32) (nr' : zA) (hi' : Nat → zA) (ff' s' mf' : zA), f_X2_fuse a b c nr hi ff = some (v, nr', hi', ff') ∧ f_X3_fuse a b c s mf = some (v, s', mf') ∧ REL nr' co pf hi' sl sv ff' s' sv2 tx mf' := by
  exact chg_ops h (dv := f_X0_changeFuse a b c nr) (er := f_X3_fuseError a b c s) (doo := fun s3 => f_X3_fuses a b c s3) (fun s' e => by
    have := op_fuse (h.1.up e) a b c
    have e1 : f_X3_fuseError a b c s' = f_X3_fuseError a b c s := by
      obtain ⟨n, hn, -, s4, -⟩ := h.1.n4
      unfold f_X3_fuseError
      rw [r_isBoard hn s4, r_isBoard hn (show s' 4 = nI n by rw [e 4 (by omega)]; exact s4)]
      by_cases hr : rng a 0 ((n : Int) - 1) = true
      · obtain ⟨k, hk, rfl⟩ := (rng_ex (by omega)).mp hr
        rw [bA0]
        simp only [b1s, ra3]
        rw [gd_nI (by omega) (by omega), gd_nI (by omega) (by omega), e _ (by omega)]
      · rw [if_neg hr]
        rfl
    rw [e1] at this
    exact this)
theorem sim_pass {nr co pf : zA} {hi sl : Nat → zA} {sv ff s sv2 tx mf : zA} (h : REL nr co pf hi sl sv ff s sv2 tx mf) (a : Int32) (nf cu ho : zA) :
    ∃ (v : Int32) (nr' nf' : zA) (hi' : Nat → zA) (ff' s' cu' ho' mf' : zA), f_X2_pass a nr nf hi ff = some (v, nr', nf', hi', ff') ∧ f_X3_pass a s cu ho mf = some (v, s', cu', ho', mf') ∧ REL nr' co pf hi' sl sv ff' s' sv2 tx mf' := by
  obtain ⟨hi', s1, mf', c1, c2, c3, c4, c5, c6, c7⟩ := chg_sim h.1 h.2.1
  unfold f_X2_pass f_X3_pass
  rw [c1]
  have e1 : f_X3_passError a s1 = f_X3_passError a s := by
    unfold f_X3_passError
    rw [c3 3 (by omega)]
  rcases op_pass (mf := mf') (h.1.up (fun x hx => c3 x (by omega))) (by rw [c4 5 (by omega)]; exact h.2.2.1) a nf cu ho with ⟨e, he, d1, d2⟩ | ⟨d1, v, nr', nf', s2, cu', ho', hv, d2, d3, d4, d5⟩
  · rw [e1] at d2
    refine ⟨e, nr, nf, hi', ff, s, cu, ho, mf, ?_, ?_, h.none c5⟩
    · rw [d1]; simp only [b1s, b3s]; rw [c7 e he]; rfl
    · rw [d2]; simp only [b1s]; rw [if_neg (e_ne0 he)]
  · rw [e1] at d1
    obtain ⟨ff', f1, f2⟩ := c6 v hv
    refine ⟨nI v, nr', nf', hi', ff', s2, cu', ho', mf', ?_, ?_, h.after d4 (f2 s2 (fun x hx _ => d5 x hx)) (fun x hx => d5 x (by omega)) (fun x hx => c3 x (by omega)) c4⟩
    · rw [d2]; simp only [b1s, b3s]; rw [f1]; rfl
    · rw [d1]; rw [b1s, if_pos rfl, c2]; simp only [b2s]; rw [d3]; rfl
theorem sim_set {nr co pf : zA} {hi sl : Nat → zA} {sv ff s sv2 tx mf : zA} (h : REL nr co pf hi sl sv ff s sv2 tx mf) (a b : Int32) :
    ∃ (v : Int32) (nr' : zA) (hi' : Nat → zA) (ff' s' mf' : zA), f_X2_set a b nr hi ff = some (v, nr', hi', ff') ∧ f_X3_set a b s mf = some (v, s', mf') ∧ REL nr' co pf hi' sl sv ff' s' sv2 tx mf' := by
  obtain ⟨hi', s1, mf', c1, c2, c3, c4, c5, c6, c7⟩ := chg_sim h.1 h.2.1
  unfold f_X2_set f_X3_set
  rw [c1]
  rcases op_set (h.1.up (fun x hx => c3 x (by omega))) a b with ⟨d1, d2⟩ | ⟨d1, k, v, hk, hv, rfl, d3, d4, d5⟩
  · refine ⟨-2, nr, hi', ff, s, mf, ?_, ?_, h.none c5⟩
    · rw [d1]; simp only [b1s, b2s]; rw [c7 (-2) (by decide)]; rfl
    · rw [d2, b1s, if_pos rfl]
  · obtain ⟨ff', f1, f2⟩ := c6 v hv
    refine ⟨nI v, upd nr k b, hi', ff', upd s1 k b, mf', ?_, ?_, h.after d5 (f2 _ (fun x hx _ => upd_ne (by omega))) (fun x hx => upd_ne (by omega)) (fun x hx => c3 x (by omega)) c4⟩
    · rw [d4]; simp only [b1s, b2s]; rw [f1]; rfl
    · rw [d1]; simp only [b1s]; rw [if_neg (by decide), c2]; simp only [b2s]; rw [gd_nI (by omega) (by omega)]; simp only [nmI]; rw [d3]
