/-! Carrying out -/
theorem OR.letter {pf mf : zA} (h : OR pf mf) : pf 3 = mf 10 := by
  rcases h with ⟨⟨a, b⟩ | ⟨a, b⟩, -⟩ | ⟨⟨a, b⟩, -⟩ | ⟨⟨a, b⟩ | ⟨a, b⟩, -⟩ <;> rw [a, b]
def OBY (nr s : zA) (A : Option (Int32 × zA × zA)) (E : Option Int32) (D : Option (Int32 × zA × zA × zA)) : Prop := (∃ (e : Int32) (nr' nf' : zA), e < 0 ∧ A = some (e, nr', nf') ∧ (nr' = nr) ∧ ∃ e', ¬ e' = 0 ∧ E = some e') ∨
  (E = some 0 ∧ ∃ (v : Nat) (nr' nf' s' cu' ho' : zA) (w : Int32), v < 2 ^ 31 ∧ A = some (nI v, nr', nf') ∧ D = some (w, s', cu', ho') ∧ HR nr' s' 0 ∧ ∀ x, 148 ≤ x → s' x = s x)
theorem OPS.oby {nr s : zA} {dv : Option (Int32 × zA)} {er : Option Int32} {doo : Option (Int32 × zA)} (h : OPS nr s dv er doo) (nf cu ho : zA) : OBY nr s (b2 dv fun v10 nr11 => some (v10, nr11, nf)) (b1 er fun v2 => some v2) (b2 doo fun v2 s3 => some (v2, s3, cu, ho)) := by
  rcases h with ⟨e, he, d1, d2⟩ | ⟨d1, v, nr', s2, hv, d2, d3, d4, d5⟩
  · exact Or.inl ⟨e, nr, nf, he, by rw [d1, b2s], rfl, e, e_ne0 he, by rw [d2, b1s]⟩
  · exact Or.inr ⟨by rw [d1, b1s], v, nr', nf, s2, cu, ho, nI v, hv, by rw [d2, b2s], by rw [d3, b2s], d4, d5⟩
theorem oby {nr s pf mf : zA} (h : HR nr s 0) (h5 : mf 5 = -6) (ho : OR pf mf) (nf cu hoo : zA) : OBY nr s (f_X2_obeyOrder nr nf pf) (f_X3_orderError s mf) (f_X3_does s cu hoo mf) := by
  unfold f_X2_obeyOrder f_X3_orderError f_X3_does f_X1_letter f_X1_digit f_X1_number f_X1_kind
  simp only [b1s]
  rcases ho with ⟨⟨a, b⟩ | ⟨a, b⟩, q4, q5, q6⟩ | ⟨⟨a, b⟩, q4, q5⟩ | ⟨⟨a, b⟩ | ⟨a, b⟩, q5⟩
  · rw [if_pos a, if_pos b, if_pos b, q4, q5, q6]
    exact (op_board h _ _ _).oby nf cu hoo
  · rw [a, b]
    simp only [show ¬ (102 : Int32) = 98 by decide, if_false, if_true, q4, q5, q6]
    exact (op_fuse h _ _ _).oby nf cu hoo
  · rw [a, b]
    simp only [show ¬ (108 : Int32) = 98 by decide, show ¬ (108 : Int32) = 102 by decide, if_false, if_true, q4, q5]
    exact (op_load h _ _).oby nf cu hoo
  · rw [a, b]
    simp only [show ¬ (115 : Int32) = 98 by decide, show ¬ (115 : Int32) = 102 by decide, show ¬ (115 : Int32) = 108 by decide, if_false, if_true, q5]
    exact (op_turn h _).oby nf cu hoo
  · rw [a, b]
    simp only [show ¬ (116 : Int32) = 98 by decide, show ¬ (116 : Int32) = 102 by decide, show ¬ (116 : Int32) = 108 by decide, show ¬ (116 : Int32) = 115 by decide, if_false, if_true, q5]
    rcases op_pass h h5 (mf 12) nf cu hoo with ⟨e, he, d1, d2⟩ | ⟨d1, v, nr', nf', s2, cu', ho', hv, d2, d3, d4, d5⟩
    · exact Or.inl ⟨e, nr, nf, he, by rw [d1, b3s], rfl, e, e_ne0 he, by rw [d2, b1s]⟩
    · exact Or.inr ⟨by rw [d1, b1s], v, nr', nf', s2, cu', ho', nI v, hv, by rw [d2, b3s], by rw [d3, b4s], d4, d5⟩
/-- what the reference does behind an order read -/
noncomputable def after_c (n : Nat) (v l1 : Int32) (s tx cu ho mf4 : zA) : Option (Int32 × zA × zA × zA × zA) := if v = 0 then (B_X3_carryOut_47 (fun z0 z1 z2 z3 z4 z5 z6 => B_X3_carryOut_25 n z0 z1 z2 z3 z4 z5 z6) l1 s tx cu ho mf4) else (b1 (f_X3_orderError s mf4) fun v6 => if v6 = 0 then (B_X3_carryOut_48 (fun z0 z1 z2 z3 z4 z5 z6 => B_X3_carryOut_25 n z0 z1 z2 z3 z4 z5 z6) 1 l1 s tx cu ho mf4) else (B_X3_carryOut_47 (fun z0 z1 z2 z3 z4 z5 z6 => B_X3_carryOut_25 n z0 z1 z2 z3 z4 z5 z6) l1 s tx cu ho mf4))
theorem end_c {n c : Nat} (s tx cu ho mf : zA) : B_X3_carryOut_47 (fun z0 z1 z2 z3 z4 z5 z6 => B_X3_carryOut_25 (n + 1) z0 z1 z2 z3 z4 z5 z6) (nI c) s tx cu ho mf = some (nI c, s, cu, ho, upd mf 4 0) := by
  unfold B_X3_carryOut_47 B_X3_carryOut_48 B_X3_carryOut_62
  rw [if_pos rfl, show f_X3_flag 0 = some 0 from rfl, b1s]
  simp only [nmI]
  rw [if_pos trivial, ra0, Nat.add_zero, B_X3_carryOut_25, if_pos rfl]
  rfl
theorem carry_loop {co tx : zA} {hi : Nat → zA} {ff : zA} {len : Nat} : ∀ (j i p fd fr : Nat) (v : Int32) (nr nf pf s cu ho mf : zA), 80 = i + j → j + 1 < fd → j + 1 < fr → (v = 0 ∨ v = 1) → TX co pf tx mf len p → (¬ v = 0 → i + 1 ≤ p ∧ OR pf mf) → HR nr s 0 → mf 5 = -6 →
    ∃ (c : Nat) (nr' nf' pf' s' cu' ho' mf' : zA), c ≤ 80 ∧ B_X2_carryOut_29 fd (nI i) v nr nf co pf hi ff = B_X2_carryOut_60 (nI c) nr' nf' co pf' hi ff ∧ after_c fr v (nI i) s tx cu ho mf = some (nI c, s', cu', ho', upd mf' 4 0) ∧ HR nr' s' 0 ∧ (∀ x, 148 ≤ x → s' x = s x) ∧ FP mf mf' [9, 10, 11, 12, 13] := by
  intro j
  induction j with
  | zero =>
    intro i p fd fr v nr nf pf s cu ho mf hi' hf hg hv h hp hH h5
    have hl := h.1
    have hl2 := h.2.1
    have e : v = 0 := Classical.not_not.mp fun q => by have := (hp q).1; omega
    subst e
    obtain ⟨f, rfl⟩ : ∃ f, fd = f + 1 := ⟨fd - 1, by omega⟩
    obtain ⟨g, rfl⟩ : ∃ g, fr = g + 1 := ⟨fr - 1, by omega⟩
    refine ⟨i, nr, nf, pf, s, cu, ho, mf, by omega, ?_, ?_, hH, fun _ _ => rfl, FP.rf _ _⟩
    · rw [B_X2_carryOut_29, if_pos rfl]
    · unfold after_c
      rw [if_pos rfl, end_c]
  | succ j ih =>
    intro i p fd fr v nr nf pf s cu ho mf hi' hf hg hv h hp hH h5
    have hl := h.1
    have hl2 := h.2.1
    obtain ⟨f, rfl⟩ : ∃ f, fd = f + 1 := ⟨fd - 1, by omega⟩
    obtain ⟨g, rfl⟩ : ∃ g, fr = g + 1 := ⟨fr - 1, by omega⟩
    unfold after_c
    rw [B_X2_carryOut_29]
    by_cases hv0 : v = 0
    · rw [if_pos hv0, if_pos hv0]
      exact ⟨i, nr, nf, pf, s, cu, ho, mf, by omega, rfl, by rw [end_c], hH, fun _ _ => rfl, FP.rf _ _⟩
    obtain ⟨hp1, hp2⟩ := hp hv0
    rw [if_neg hv0, if_neg hv0, if_neg (by rw [ge80 (by omega)]; omega)]
    rcases oby hH h5 hp2 nf cu ho with ⟨e, nr', nf', he, d1, rfl, e', he', d2⟩ | ⟨d0, v', nr', nf', s', cu', ho', w, hv', d1, d2, d3, d4⟩
    · rw [d1, b3s, if_pos he, d2, b1s, if_neg he', end_c]
      exact ⟨i, nr', nf', pf, s, cu, ho, mf, by omega, rfl, rfl, hH, fun _ _ => rfl, FP.rf _ _⟩
    · have hneg : ¬ nI v' < (0 : Int32) := by rw [lt0 hv']; omega
      rw [d1, b3s, if_neg hneg, d0, b1s, if_pos rfl]
      unfold B_X3_carryOut_48 B_X3_carryOut_62
      rw [if_neg (by decide), d2, b4s, show f_X3_flag 1 = some 1 from rfl, b1s]
      simp only [nmI, ra1]
      rw [if_neg (by decide), r_takes h]
      by_cases c : p < len ∧ tx p = 59
      · have T1 : TX co (upd pf 2 (nI (p + 1))) tx (upd mf 9 (nI (p + 1))) len (p + 1) := h.mv (by omega) (upd_ne (by omega)) (upd_eq _ _ _) (upd_ne (by omega)) (upd_eq _ _ _)
        obtain ⟨v2, p', pf', mf', o1, o2, o3, o4, o5, o6, o7, o8⟩ := order_sim T1
        have nx : f_X1_readNextOrder co pf = some (v2, pf') := by
          unfold f_X1_readNextOrder
          rw [d_skip h (a := 59) (by decide), if_pos c, b2s, if_neg (by decide), o1, b2s]
          by_cases q : v2 = 0
          · rw [if_pos q, q]
          · rw [if_neg q, v01 o3 q]
        rw [nx, b2s, if_pos c, b2s, if_neg (by decide), B_X3_carryOut_25, if_neg (by decide), o2, b2s]
        have P : FP mf mf' [9, 10, 11, 12, 13] := ((FP.rf _ _).up (by simp) _ : FP mf (upd mf 9 (nI (p + 1))) [9, 10, 11, 12, 13]).tr o7 (by simp) (by simp)
        obtain ⟨c', nr2, nf2, pf2, s2, cu2, ho2, mf2, a0, a1, a2, a3, a4, a5⟩ := ih (i + 1) p' f g v2 nr' nf' pf' s' cu' ho' mf' (by omega) (by omega) (by omega) o3 o4 (fun q => ⟨by have := (o8 q).1; omega, (o8 q).2⟩) d3 (by rw [P 5 (by simp)]; exact h5)
        exact ⟨c', nr2, nf2, pf2, s2, cu2, ho2, mf2, a0, a1, a2, a3, fun x hx => (a4 x hx).trans (d4 x hx), P.tr a5 (by simp) (by simp)⟩
      · have nx : f_X1_readNextOrder co pf = some (0, pf) := by
          unfold f_X1_readNextOrder
          rw [d_skip h (a := 59) (by decide), if_neg c, b2s, if_pos rfl]
        obtain ⟨f', rfl⟩ : ∃ f', f = f' + 1 := ⟨f - 1, by omega⟩
        rw [nx, b2s, B_X2_carryOut_29, if_pos rfl, if_neg c, b2s, if_pos rfl, B_X3_carryOut_25, if_pos rfl]
        exact ⟨i + 1, nr', nf', pf, s', cu', ho', mf, by omega, rfl, rfl, d3, d4, FP.rf _ _⟩
theorem sim_carryOut {nr co pf : zA} {hi sl : Nat → zA} {sv ff s sv2 tx mf : zA} (h : REL nr co pf hi sl sv ff s sv2 tx mf) (nf cu ho : zA) :
    ∃ (v : Int32) (nr' nf' pf' : zA) (hi' : Nat → zA) (ff' s' cu' ho' mf' : zA), f_X2_carryOut nr nf co pf hi ff = some (v, nr', nf', pf', hi', ff') ∧ f_X3_carryOut s tx cu ho mf = some (v, s', cu', ho', mf') ∧ REL nr' co pf' hi' sl sv ff' s' sv2 tx mf' := by
  obtain ⟨r, pf1, mf1, a1, a2, a3, a4⟩ := fault_sim h.2.2.2.1
  have hR := h.pad a3 a4
  unfold f_X2_carryOut f_X3_carryOut
  rw [a1, a2, b2s, b2s]
  by_cases e : r = -6
  · rw [if_pos e, if_pos e]
    obtain ⟨hi', s1, mf2, c1, c2, c3, c4, c5, c6, c7⟩ := chg_sim hR.1 hR.2.1
    have tx2 : TXT co pf1 tx mf2 := by
      obtain ⟨len, l1, l2, l3, l4⟩ := hR.2.2.2.1
      exact ⟨len, l1, l2, by rw [c4 4 (by omega)]; exact l3, l4⟩
    obtain ⟨len, v, p', pf', mf', o1, o2, o3, o4, o6, o7, o8⟩ := first_o tx2
    obtain ⟨f, hf⟩ : ∃ f, FU = f + 1 := ⟨299, FU_eq⟩
    have hf2 : f = 299 := by have := FU_eq; omega
    obtain ⟨c, nr3, nf3, pf3, s3, cu3, ho3, mf3, d0, d1, d2, d3, d4, d5⟩ := carry_loop (hi := hi') (ff := ff) 80 0 p' FU f v nr nf pf' s1 cu ho mf' (by omega) (FU_lt (by omega)) (by omega) o3 o4 (fun q => ⟨by have := (o8 q).1; omega, (o8 q).2⟩) (hR.1.up (fun x hx => c3 x (by omega))) (by rw [o7 5 (by simp), c4 5 (by omega)]; exact hR.2.2.1)
    obtain ⟨ff', f1, f2⟩ := c6 c (by omega)
    rw [c1, b1s, o1, b2s, c2, b2s]
    simp only [nmI]
    rw [hf, B_X3_carryOut_25, if_neg (by decide), o2, b2s]
    refine ⟨nI c, nr3, nf3, upd pf3 1 0, hi', ff', s3, cu3, ho3, upd mf3 4 0, ?_, d2, d3, ?_, ?_, ⟨0, by omega, upd_eq _ _ _, upd_eq _ _ _, fun j hj => by omega⟩, fun k hk => ⟨(hR.2.2.2.2 k hk).1, fun z => ((hR.2.2.2.2 k hk).2 z).mv (fun _ _ => rfl) (fun j hj => by rw [d4 _ (by omega), c3 _ (by omega)]) (by omega)⟩⟩
    · rw [← hf]
      refine d1.trans ?_
      unfold B_X2_carryOut_60 f_X1_clear
      simp only [nmI, b2s]
      rw [f1, b2s]
    · obtain ⟨u, sp, k1, k2, k3, k4, k5, k6⟩ := f2 s3 (fun x hx _ => d4 x hx)
      exact ⟨u, sp, k1, k2, k3, k4, by rw [upd_ne (by omega), d5 1 (by simp), o7 1 (by simp)]; exact k5, k6⟩
    · rw [upd_ne (by omega), d5 5 (by simp), o7 5 (by simp), c4 5 (by omega)]
      exact hR.2.2.1
  · rw [if_neg e, if_neg e]
    exact ⟨_, _, _, _, _, _, _, _, _, _, rfl, rfl, hR⟩
