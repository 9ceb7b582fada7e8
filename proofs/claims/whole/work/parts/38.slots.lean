/-! Undo, save, restore -/
theorem sim_undo {nr co pf : zA} {hi sl : Nat → zA} {sv ff s sv2 tx mf : zA} (h : REL nr co pf hi sl sv ff s sv2 tx mf) :
    ∃ (v : Int32) (nr' ff' s' mf' : zA), f_X2_undo nr hi ff = some (v, nr', ff') ∧ f_X3_undo s mf = some (v, s', mf') ∧ REL nr' co pf hi sl sv ff' s' sv2 tx mf' := by
  obtain ⟨h1, ⟨u, sp, hu, hsp, e6, e7, e1, hh⟩, h3, ⟨len, p1, p2, p3, p4⟩, h5⟩ := h
  unfold f_X2_undo f_X3_undo
  rw [e7, e1]
  by_cases hu0 : u = 0
  · subst hu0
    rw [if_pos (show nI 0 = (0 : Int32) from rfl), if_pos (show nI 0 = (0 : Int32) from rfl)]
    exact ⟨_, _, _, _, _, rfl, rfl, h1, ⟨0, sp, hu, hsp, e6, e7, e1, hh⟩, h3, ⟨len, p1, p2, p3, p4⟩, h5⟩
  · rw [if_neg (by rw [eq0 (by omega)]; exact hu0), if_neg (by rw [eq0 (by omega)]; exact hu0)]
    have a0 : nI u - 1 = nI (u - 1) := by rw [L1, pk_sub (by omega)]
    have a1 : nI sp + 7 - 1 - (nI sp + 7 - 1) / 7 * 7 = nI ((sp + 6) % 7) := by
      rw [show nI sp + 7 - 1 = nI (sp + 6) by rw [ra7, L1, pk_sub (by omega)]; rfl, show (7 : Int32) = nI 7 from rfl, pk_rem (by omega) (by omega) (by omega)]
    simp only [nmI]
    rw [a0, upd_ne (show (6 : Nat) ≠ 7 by omega), e6, a1, upd_eq, gd_nI (by omega) (by omega)]
    obtain ⟨nr', r1, r2⟩ := d_readFrom nr (hi ((sp + 6) % 7))
    obtain ⟨s', c1, c2⟩ := r_copies (a := u) (c := 0) (by omega) (by omega) (by omega) s
    rw [r1, show (0 : Int32) = nI 0 from rfl, c1]
    simp only [b1s]
    rw [upd_ne (show (7 : Nat) ≠ 6 by omega), upd_eq, upd_eq]
    have hx := hh u (by omega) (by omega)
    rw [show (sp + 6 + u - u) % 7 = (sp + 6) % 7 by omega] at hx
    refine ⟨_, _, _, _, _, rfl, rfl, hx.mv r2 (fun j hj => ?_) (by omega), ⟨u - 1, (sp + 6) % 7, by omega, by omega, ?_, ?_, ?_, fun j j1 j2 => ?_⟩, ?_, ⟨len, p1, p2, ?_, p4⟩, fun k hk => ⟨(h5 k hk).1, fun z => ((h5 k hk).2 z).mv (fun _ _ => rfl) (fun j hj => ?_) (by omega)⟩⟩
    · rw [c2, if_pos (by omega)]; exact congrArg s (by omega)
    · rw [upd_eq]
    · rw [upd_ne (by omega), upd_eq]
    · rw [upd_eq]
    · rw [show ((sp + 6) % 7 + 6 + j - (u - 1)) % 7 = (sp + 6 + j - u) % 7 by omega]
      exact (hh j j1 (by omega)).mv (fun _ _ => rfl) (fun i hi2 => by rw [c2, if_neg (by omega)]) (by omega)
    · rw [upd_ne (by omega)]; exact h3
    · rw [upd_ne (by omega)]; exact p3
    · rw [c2, if_neg (by omega)]
theorem slot2 (a : Int32) : f_X2_isSlot a = some (if rng a 0 1 then 1 else 0) := d_isIn (n := 2) (by omega)
theorem slot3 (a : Int32) : f_X3_isSlot a = some (if rng a 0 1 then 1 else 0) := question a
theorem sim_save {nr co pf : zA} {hi sl : Nat → zA} {sv ff s sv2 tx mf : zA} (h : REL nr co pf hi sl sv ff s sv2 tx mf) (a : Int32) :
    ∃ (v : Int32) (sl' : Nat → zA) (sv' s' sv2' : zA), f_X2_save a nr sl sv = some (v, sl', sv') ∧ f_X3_save a s sv2 = some (v, s', sv2') ∧ REL nr co pf hi sl' sv' ff s' sv2' tx mf := by
  unfold f_X2_save f_X3_save
  rw [slot2, slot3]
  simp only [b1s, s01]
  by_cases hr : rng a 0 1 = true
  · rw [if_pos hr, if_pos hr]
    obtain ⟨k, -, hk, rfl⟩ := (rng_nI (l := 0) (h := 1) (by omega)).mp hr
    obtain ⟨n, hn, n4, s4, -⟩ := h.1.n4
    obtain ⟨h1, ⟨u, sp, hu, hsp, e6, e7, e1, hh⟩, h3, ⟨len, p1, p2, p3, p4⟩, h5⟩ := h
    obtain ⟨kp, k1, k2⟩ := d_writeTo nr (sl k)
    obtain ⟨s', c1, c2⟩ := r_copies (a := 0) (c := 7 + k) (by omega) (by omega) (by omega) s
    rw [gd_nI (by omega) (by omega), k1, show (7 : Int32) = nI 7 from rfl, nI_add, show (0 : Int32) = nI 0 from rfl, c1]
    unfold f_X0_boards
    simp only [b1s, nmI]
    rw [gd_nI (by omega) (by omega)]
    rw [n4, c2 4, if_neg (by omega), s4]
    refine ⟨_, _, _, _, _, rfl, rfl, h1.mv (fun _ _ => rfl) (fun j hj => by rw [c2, if_neg (by omega)]) (by omega), ⟨u, sp, hu, hsp, e6, e7, e1, fun j j1 j2 => (hh j j1 j2).mv (fun _ _ => rfl) (fun i hi2 => by rw [c2, if_neg (by omega)]) (by omega)⟩, h3, ⟨len, p1, p2, p3, p4⟩, fun j hj => ?_⟩
    by_cases hjk : j = k
    · subst hjk
      rw [show va_up sl j kp j = kp from if_pos rfl, upd_eq, upd_eq]
      refine ⟨Iff.rfl, fun _ => h1.mv k2 (fun i hi2 => ?_) (by omega)⟩
      rw [c2, if_pos (by omega)]
      exact congrArg s (by omega)
    · rw [show va_up sl k kp j = sl j from if_neg hjk, upd_ne hjk, upd_ne hjk]
      exact ⟨(h5 j hj).1, fun z => ((h5 j hj).2 z).mv (fun _ _ => rfl) (fun i hi2 => by rw [c2, if_neg (by omega)]) (by omega)⟩
  · rw [if_neg hr, if_neg hr]
    exact ⟨_, _, _, _, _, rfl, rfl, h⟩
theorem sim_restore {nr co pf : zA} {hi sl : Nat → zA} {sv ff s sv2 tx mf : zA} (h : REL nr co pf hi sl sv ff s sv2 tx mf) (a : Int32) :
    ∃ (v : Int32) (nr' : zA) (hi' : Nat → zA) (ff' s' mf' : zA), f_X2_restore a nr hi sl sv ff = some (v, nr', hi', ff') ∧ f_X3_restore a s sv2 mf = some (v, s', mf') ∧ REL nr' co pf hi' sl sv ff' s' sv2 tx mf' := by
  unfold f_X2_restore f_X3_restore
  rw [slot2, slot3]
  simp only [b1s, s01]
  by_cases hr : rng a 0 1 = true
  · rw [if_pos hr, if_pos hr]
    obtain ⟨k, -, hk, rfl⟩ := (rng_nI (l := 0) (h := 1) (by omega)).mp hr
    rw [gd_nI (by omega) (by omega), gd_nI (by omega) (by omega)]
    obtain ⟨z1, z2⟩ := h.2.2.2.2 k (by omega)
    by_cases hz : sv k = 0
    · rw [if_pos hz, if_pos (z1.mp hz)]
      exact ⟨_, _, _, _, _, _, rfl, rfl, h⟩
    · rw [if_neg hz, if_neg (fun q => hz (z1.mpr q))]
      obtain ⟨hi', s1, mf', c1, c2, c3, c4, c5, c6, c7⟩ := chg_sim h.1 h.2.1
      obtain ⟨nr', r1, r2⟩ := d_readFrom nr (sl k)
      obtain ⟨s2, q1, q2⟩ := r_copies (a := 7 + k) (c := 0) (by omega) (by omega) (by omega) s1
      have hH : HR nr' s2 0 := (z2 hz).mv r2 (fun j hj => by rw [q2, if_pos (by omega), c3 _ (by omega)]; exact congrArg s (by omega)) (by omega)
      obtain ⟨n, hn, n4, s4, -⟩ := hH.n4
      obtain ⟨ff', f1, f2⟩ := c6 n (by omega)
      rw [c1, c2]
      simp only [b1s, b2s]
      rw [r1, show (7 : Int32) = nI 7 from rfl, nI_add, show (0 : Int32) = nI 0 from rfl, q1]
      unfold f_X0_boards
      simp only [b1s]
      rw [n4, s4, f1]
      exact ⟨_, _, _, _, _, _, rfl, rfl, h.after hH (f2 s2 (fun x hx _ => by rw [q2, if_neg (by omega)])) (fun x hx => by rw [q2, if_neg (by omega)]) (fun x hx => c3 x (by omega)) c4⟩
  · rw [if_neg hr, if_neg hr]
    exact ⟨_, _, _, _, _, _, rfl, rfl, h⟩
