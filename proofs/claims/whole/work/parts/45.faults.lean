/-! The whole text read by both -/
theorem v01 {v : Int32} (h : v = 0 ∨ v = 1) : ¬ v = 0 → v = 1 := fun q => h.resolve_left q
/-- what the reference does behind an order -/
noncomputable def after_o (fr : Nat) (v : Int32) (tx mf : zA) : Option (Int32 × zA) := if v = 0 then (some ((mf 9), mf)) else (b2 (f_X3_takes 59 tx mf) fun v4 mf5 => B_X3_fault_7 fr v4 tx mf5)
theorem fault_loop {co tx : zA} {len : Nat} : ∀ (j i p fd fr : Nat) (v : Int32) (pf mf : zA), 80 = i + j → j + 1 < fd → j + 1 < fr → (v = 0 ∨ v = 1) → TX co pf tx mf len p → (¬ v = 0 → i + 1 ≤ p) →
    ∃ (r : Int32) (pf' mf' : zA), B_X1_findFault_7 fd v (nI i) co pf = some (r, pf') ∧ after_o fr v tx mf = some (r, mf') ∧ FP pf pf' [2, 3, 4, 5, 6] ∧ FP mf mf' [9, 10, 11, 12, 13] := by
  intro j
  induction j with
  | zero =>
    intro i p fd fr v pf mf hi hf hg hv h hp
    have hl := h.1
    have hl2 := h.2.1
    have e : v = 0 := Classical.not_not.mp fun q => by have := hp q; omega
    subst e
    obtain ⟨f, rfl⟩ : ∃ f, fd = f + 1 := ⟨fd - 1, by omega⟩
    refine ⟨nI p, pf, mf, ?_, ?_, FP.rf _ _, FP.rf _ _⟩
    · rw [B_X1_findFault_7, if_pos rfl, h.2.2.2.2.1]
    · unfold after_o
      rw [if_pos rfl, h.2.2.2.2.2.1]
  | succ j ih =>
    intro i p fd fr v pf mf hi hf hg hv h hp
    have hl := h.1
    have hl2 := h.2.1
    obtain ⟨f, rfl⟩ : ∃ f, fd = f + 1 := ⟨fd - 1, by omega⟩
    obtain ⟨g, rfl⟩ : ∃ g, fr = g + 1 := ⟨fr - 1, by omega⟩
    have g1 := h.2.2.1
    have g2 := h.2.2.2.2.1
    have g4 := h.2.2.2.1
    have g9 := h.2.2.2.2.2.1
    by_cases hv0 : v = 0
    · subst hv0
      refine ⟨nI p, pf, mf, ?_, ?_, FP.rf _ _, FP.rf _ _⟩
      · rw [B_X1_findFault_7, if_pos rfl, g2]
      · unfold after_o
        rw [if_pos rfl, g9]
    have hp' := hp hv0
    unfold after_o
    rw [B_X1_findFault_7, if_neg hv0, if_neg hv0, if_neg (by rw [ge80 (by omega)]; omega), g1, g2, r_takes h]
    simp only [nmI, ra1]
    by_cases c : p < len ∧ tx p = 59
    · have T1 : TX co (upd pf 2 (nI (p + 1))) tx (upd mf 9 (nI (p + 1))) len (p + 1) := h.mv (by omega) (upd_ne (by omega)) (upd_eq _ _ _) (upd_ne (by omega)) (upd_eq _ _ _)
      obtain ⟨v', p', pf', mf', o1, o2, o3, o4, o5, o6, o7, o8⟩ := order_sim T1
      rw [if_pos c, if_neg (by rw [eq_nI (by omega) (by omega)]; omega), b2s, B_X3_fault_7, if_neg (by decide), o2, b2s]
      have nx : f_X1_readNextOrder co pf = some (v', pf') := by
        unfold f_X1_readNextOrder
        rw [d_skip h (a := 59) (by decide), if_pos c, b2s, if_neg (by decide), o1, b2s]
        by_cases q : v' = 0
        · rw [if_pos q, q]
        · rw [if_neg q, v01 o3 q]
      rw [nx, b2s]
      obtain ⟨r, pf2, mf2, a1, a2, a3, a4⟩ := ih (i + 1) p' f g v' pf' mf' (by omega) (by omega) (by omega) o3 o4 (fun q => by have := (o8 q).1; omega)
      refine ⟨r, pf2, mf2, a1, a2, FP.tr (((FP.rf _ _).up (by simp) _ : FP pf (upd pf 2 (nI (p + 1))) [2, 3, 4, 5, 6]).tr o6 (L := [2, 3, 4, 5, 6]) (by simp) (by simp)) a3 (by simp) (by simp), FP.tr (((FP.rf _ _).up (by simp) _ : FP mf (upd mf 9 (nI (p + 1))) [9, 10, 11, 12, 13]).tr o7 (L := [9, 10, 11, 12, 13]) (by simp) (by simp)) a4 (by simp) (by simp)⟩
    · rw [if_neg c, b2s, B_X3_fault_7, if_pos rfl, g9, g4]
      simp only [eq_nI (show p < 2 ^ 31 by omega) (show len < 2 ^ 31 by omega)]
      by_cases e : p = len
      · rw [if_pos e, if_pos e]
        exact ⟨_, _, _, rfl, rfl, FP.rf _ _, FP.rf _ _⟩
      · rw [if_neg e, if_neg e]
        have nx : f_X1_readNextOrder co pf = some (0, pf) := by
          unfold f_X1_readNextOrder
          rw [d_skip h (a := 59) (by decide), if_neg c, b2s, if_pos rfl]
        obtain ⟨f', rfl⟩ : ∃ f', f = f' + 1 := ⟨f - 1, by omega⟩
        rw [nx, b2s, B_X1_findFault_7, if_pos rfl, g2]
        exact ⟨_, _, _, rfl, rfl, FP.rf _ _, FP.rf _ _⟩
/-- the text of the relation -/
def TXT (co pf tx mf : zA) : Prop := ∃ len, len ≤ 80 ∧ pf 1 = nI len ∧ mf 4 = nI len ∧ ∀ j, j < len → co j = tx j
theorem first_o {co pf tx mf : zA} (h : TXT co pf tx mf) : ∃ (len : Nat) (v : Int32) (p' : Nat) (pf' mf' : zA), f_X1_readFirstOrder co pf = some (v, pf') ∧ f_X3_readsOrder tx (upd mf 9 0) = some (v, mf') ∧ (v = 0 ∨ v = 1) ∧ TX co pf' tx mf' len p' ∧ FP pf pf' [2, 3, 4, 5, 6] ∧ FP mf mf' [9, 10, 11, 12, 13] ∧ (¬ v = 0 → 1 ≤ p' ∧ OR pf' mf') := by
  obtain ⟨len, h1, h2, h3, h4⟩ := h
  have T : TX co (upd pf 2 0) tx (upd mf 9 0) len 0 := ⟨h1, Nat.zero_le _, by rw [upd_ne (by omega)]; exact h2, by rw [upd_ne (by omega)]; exact h3, upd_eq _ _ _, upd_eq _ _ _, h4⟩
  obtain ⟨v, p', pf', mf', o1, o2, o3, o4, o5, o6, o7, o8⟩ := order_sim T
  refine ⟨len, v, p', pf', mf', ?_, o2, o3, o4, ((FP.rf _ _).up (by simp) _ : FP pf (upd pf 2 0) [2, 3, 4, 5, 6]).tr o6 (by simp) (by simp), ((FP.rf _ _).up (by simp) _ : FP mf (upd mf 9 0) [9, 10, 11, 12, 13]).tr o7 (by simp) (by simp), fun q => ⟨by have := (o8 q).1; omega, (o8 q).2⟩⟩
  unfold f_X1_readFirstOrder
  simp only [nmI]
  rw [o1, b2s]
  unfold zbo
  rw [if_pos o3]
theorem fault_sim {co pf tx mf : zA} (h : TXT co pf tx mf) : ∃ (r : Int32) (pf' mf' : zA), f_X1_findFault co pf = some (r, pf') ∧ f_X3_fault tx mf = some (r, mf') ∧ FP pf pf' [2, 3, 4, 5, 6] ∧ FP mf mf' [9, 10, 11, 12, 13] := by
  obtain ⟨len, v, p', pf', mf', o1, o2, o3, o4, o6, o7, o8⟩ := first_o h
  obtain ⟨f, hf⟩ : ∃ f, FU = f + 1 := ⟨299, FU_eq⟩
  have hf2 : f = 299 := by have := FU_eq; omega
  obtain ⟨r, pf2, mf2, a1, a2, a3, a4⟩ := fault_loop 80 0 p' FU f v pf' mf' (by omega) (FU_lt (by omega)) (by omega) o3 o4 (fun q => by have := (o8 q).1; omega)
  refine ⟨r, pf2, mf2, ?_, ?_, o6.tr a3 (by simp) (by simp), o7.tr a4 (by simp) (by simp)⟩
  · unfold f_X1_findFault
    rw [o1, b2s]
    exact a1
  · unfold f_X3_fault
    simp only [nmI]
    rw [hf, B_X3_fault_7, if_neg (by decide), o2, b2s]
    exact a2
theorem REL.pad {nr co pf pf' : zA} {hi sl : Nat → zA} {sv ff s sv2 tx mf mf' : zA} (h : REL nr co pf hi sl sv ff s sv2 tx mf) (hp : FP pf pf' [2, 3, 4, 5, 6]) (hm : FP mf mf' [9, 10, 11, 12, 13]) : REL nr co pf' hi sl sv ff s sv2 tx mf' := by
  obtain ⟨h1, ⟨u, sp, k1, k2, k3, k4, k5, k6⟩, h3, ⟨len, p1, p2, p3, p4⟩, h5⟩ := h
  exact ⟨h1, ⟨u, sp, k1, k2, k3, k4, by rw [hm 1 (by simp)]; exact k5, k6⟩, by rw [hm 5 (by simp)]; exact h3, ⟨len, p1, by rw [hp 1 (by simp)]; exact p2, by rw [hm 4 (by simp)]; exact p3, p4⟩, h5⟩
theorem sim_fault {nr co pf : zA} {hi sl : Nat → zA} {sv ff s sv2 tx mf : zA} (h : REL nr co pf hi sl sv ff s sv2 tx mf) :
    ∃ (v : Int32) (pf' mf' : zA), f_X2_fault co pf = some (v, pf') ∧ f_X3_fault tx mf = some (v, mf') ∧ REL nr co pf' hi sl sv ff s sv2 tx mf' := by
  obtain ⟨r, pf', mf', a1, a2, a3, a4⟩ := fault_sim h.2.2.2.1
  refine ⟨r, pf', mf', ?_, a2, h.pad a3 a4⟩
  unfold f_X2_fault
  rw [a1]
  rfl
