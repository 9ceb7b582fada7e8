/-! One order read by both -/
theorem FP.rf (a : zA) (l : List Nat) : FP a a l := fun _ _ => rfl
theorem FP.up {a b : zA} {l : List Nat} (h : FP a b l) {k : Nat} (hk : k ∈ l) (x : Int32) : FP a (upd b k x) l := fun j hj => by
  rw [upd_ne (show j ≠ k from fun e => hj (by rw [e]; exact hk))]
  exact h j hj
theorem FP.tr {a b c : zA} {l m L : List Nat} (h : FP a b l) (k : FP b c m) (hl : ∀ x, x ∈ l → x ∈ L) (hm : ∀ x, x ∈ m → x ∈ L) : FP a c L := fun j hj => (k j (fun e => hj (hm j e))).trans (h j (fun e => hj (hl j e)))
theorem FP.mo {a b : zA} {l L : List Nat} (h : FP a b l) (hl : ∀ x, x ∈ l → x ∈ L) : FP a b L := fun j hj => h j (fun e => hj (hl j e))
noncomputable def chF (co pf : zA) : Option (Int32 × zA) := b2 (f_X1_readDigit co pf) fun v9 pf10 => if v9 = 0 then (some (0, pf10)) else (b2 (f_X1_skip 46 co pf10) fun v12 pf13 => if v12 = 0 then (some (0, pf13)) else (b2 (f_X1_readNumber co pf13) fun v15 pf16 => if v15 = 0 then (some (0, pf16)) else (b2 (f_X1_readKind co pf16) fun v18 pf19 => if v18 = 0 then (some (0, pf19)) else (some (1, pf19)))))
noncomputable def chL (co pf : zA) : Option (Int32 × zA) := b2 (f_X1_readDigit co pf) fun v9 pf10 => if v9 = 0 then (some (0, pf10)) else (b2 (f_X1_skip 61 co pf10) fun v12 pf13 => if v12 = 0 then (some (0, pf13)) else (b2 (f_X1_readNumber co pf13) fun v15 pf16 => if v15 = 0 then (some (0, pf16)) else (some (1, pf16))))
noncomputable def chN (co pf : zA) : Option (Int32 × zA) := b2 (f_X1_readNumber co pf) fun v15 pf16 => if v15 = 0 then (some (0, pf16)) else (some (1, pf16))
noncomputable def rdN (tx mf : zA) : Option (Int32 × zA) := b2 (f_X3_number tx mf) fun v18 mf19 => nmI (upd mf19 12 v18) fun mf21 => if (mf21 12) = (-6) then (some (0, mf21)) else (some (1, mf21))
def RES (co tx pf mf : zA) (len p : Nat) (A B : Option (Int32 × zA)) (Q : zA → zA → Prop) : Prop := ∃ (v : Int32) (p' : Nat) (pf' mf' : zA), A = some (v, pf') ∧ B = some (v, mf') ∧ (v = 0 ∨ v = 1) ∧ TX co pf' tx mf' len p' ∧ p ≤ p' ∧ FP pf pf' [2, 4, 5, 6] ∧ FP mf mf' [9, 11, 12, 13] ∧ (¬ v = 0 → Q pf' mf')
theorem ne6 {d : Nat} (h : d < 2 ^ 31) : ¬ nI d = (-6 : Int32) := by rw [nI_ne6 h]; exact id
theorem num_res {co pf tx mf : zA} {len p : Nat} (h : TX co pf tx mf len p) : RES co tx pf mf len p (chN co pf) (rdN tx mf) (fun pf' mf' => pf' 5 = mf' 12) := by
  unfold chN rdN
  rcases number_sim h with ⟨n1, n2⟩ | ⟨v, p', pf', mf', n1, n2, n3, n4, n5, n6, n7, n8⟩
  · refine ⟨0, p, pf, upd mf 12 (-6), ?_, ?_, Or.inl rfl, h.mv h.2.1 rfl h.2.2.2.2.1 (upd_ne (by omega)) (by rw [upd_ne (by omega)]; exact h.2.2.2.2.2.1), Nat.le_refl _, FP.rf _ _, (FP.rf _ _).up (by simp) _, fun q => absurd rfl q⟩
    · rw [n1, b2s, if_pos rfl]
    · rw [n2, b2s]; simp only [nmI]; rw [upd_eq, if_pos rfl]
  · refine ⟨1, p', pf', upd mf' 12 (nI v), ?_, ?_, Or.inr rfl, n5.mv n5.2.1 rfl n5.2.2.2.2.1 (upd_ne (by omega)) (by rw [upd_ne (by omega)]; exact n5.2.2.2.2.2.1), n4, n7.mo (by simp), (n8.mo (by simp)).up (by simp) _, fun _ => n6.trans (upd_eq _ _ _).symm⟩
    · rw [n1, b2s, if_neg (by decide)]
    · rw [n2, b2s]; simp only [nmI]; rw [upd_eq, if_neg (ne6 (by omega))]
theorem load_res {co pf tx mf : zA} {len p : Nat} (h : TX co pf tx mf len p) : RES co tx pf mf len p (chL co pf) (f_X3_readsLoad tx mf) (fun pf' mf' => pf' 4 = mf' 11 ∧ pf' 5 = mf' 12) := by
  unfold chL f_X3_readsLoad
  have hl := h.1
  have g2 := h.2.2.2.2.1
  have g9 := h.2.2.2.2.2.1
  rcases digit_sim h with ⟨c, d1, d2⟩ | ⟨d, d9, hp, -, -, d1, d2⟩
  · refine ⟨0, p, pf, upd (upd mf 11 (-6)) 12 (-6), ?_, ?_, Or.inl rfl, h.mv h.2.1 rfl g2 (by rw [upd_ne (by omega), upd_ne (by omega)]) (by rw [upd_ne (by omega), upd_ne (by omega)]; exact g9), Nat.le_refl _, FP.rf _ _, ((FP.rf _ _).up (by simp) _).up (by simp) _, fun q => absurd rfl q⟩
    · rw [d1, b2s, if_pos rfl]
    · rw [d2, b2s]; simp only [nmI]; rw [upd_eq, if_pos rfl]
      unfold B_X3_readsLoad_34 B_X3_readsLoad_36
      simp only [nmI]
      rw [upd_eq, if_pos rfl]
  rw [d1, d2, b2s, b2s, if_neg (by decide)]
  simp only [nmI]
  rw [upd_eq, if_neg (ne6 (by omega))]
  have T1 : TX co (upd (upd pf 4 (nI d)) 2 (nI (p + 1))) tx (upd (upd mf 9 (nI (p + 1))) 11 (nI d)) len (p + 1) := h.mv (by omega) (by rw [upd_ne (by omega), upd_ne (by omega)]) (upd_eq _ _ _) (by rw [upd_ne (by omega), upd_ne (by omega)]) (by rw [upd_ne (by omega), upd_eq])
  have P1 : FP pf (upd (upd pf 4 (nI d)) 2 (nI (p + 1))) [2, 4, 5, 6] := ((FP.rf _ _).up (by simp) _).up (by simp) _
  have P2 : FP mf (upd (upd mf 9 (nI (p + 1))) 11 (nI d)) [9, 11, 12, 13] := ((FP.rf _ _).up (by simp) _).up (by simp) _
  rw [d_skip T1 (a := 61) (by decide), r_takes T1]
  by_cases c : p + 1 < len ∧ tx (p + 1) = 61
  · rw [if_pos c, if_pos c, b2s, b2s, if_neg (by decide), if_neg (by decide)]
    have T2 : TX co (upd (upd (upd pf 4 (nI d)) 2 (nI (p + 1))) 2 (nI (p + 1 + 1))) tx (upd (upd (upd mf 9 (nI (p + 1))) 11 (nI d)) 9 (nI (p + 1 + 1))) len (p + 1 + 1) := T1.mv (by omega) (upd_ne (by omega)) (upd_eq _ _ _) (upd_ne (by omega)) (upd_eq _ _ _)
    have P3 := P1.up (k := 2) (by simp) (nI (p + 1 + 1))
    have P4 := P2.up (k := 9) (by simp) (nI (p + 1 + 1))
    rcases number_sim T2 with ⟨n1, n2⟩ | ⟨v, p', pf', mf', n1, n2, n3, n4, n5, n6, n7, n8⟩
    · refine ⟨0, p + 1 + 1, _, _, ?_, ?_, Or.inl rfl, T2.mv T2.2.1 rfl (upd_eq _ _ _) (upd_ne (k := 12) (x := -6) (by omega)) (by rw [upd_ne (by omega), upd_eq]), by omega, P3, P4.up (by simp) _, fun q => absurd rfl q⟩
      · rw [n1, b2s, if_pos rfl]
      · rw [n2, b2s]
        unfold B_X3_readsLoad_36
        simp only [nmI]
        rw [upd_eq, if_pos rfl]
    · refine ⟨1, p', pf', upd mf' 12 (nI v), ?_, ?_, Or.inr rfl, n5.mv n5.2.1 rfl n5.2.2.2.2.1 (upd_ne (by omega)) (by rw [upd_ne (by omega)]; exact n5.2.2.2.2.2.1), by omega, P3.tr n7 (by simp) (by simp), (P4.tr n8 (by simp) (by simp)).up (by simp) _, fun _ => ⟨?_, ?_⟩⟩
      · rw [n1, b2s, if_neg (by decide)]
      · rw [n2, b2s]
        unfold B_X3_readsLoad_36
        simp only [nmI]
        rw [upd_eq, if_neg (ne6 (by omega))]
      · rw [n7 4 (by simp), upd_ne (by omega), upd_ne (by omega), upd_eq, upd_ne (by omega), n8 11 (by simp), upd_ne (by omega), upd_eq]
      · rw [n6, upd_eq]
  · rw [if_neg c, if_neg c, b2s, b2s, if_pos rfl, if_pos rfl]
    refine ⟨0, p + 1, _, _, rfl, ?_, Or.inl rfl, T1.mv T1.2.1 rfl (upd_eq _ _ _) (upd_ne (k := 12) (x := -6) (by omega)) (by rw [upd_ne (by omega), upd_ne (by omega), upd_eq]), by omega, P1, P2.up (by simp) _, fun q => absurd rfl q⟩
    unfold B_X3_readsLoad_34 B_X3_readsLoad_36
    simp only [nmI]
    rw [upd_eq, if_pos rfl]
theorem fuse_res {co pf tx mf : zA} {len p : Nat} (h : TX co pf tx mf len p) : RES co tx pf mf len p (chF co pf) (f_X3_readsFuse tx mf) (fun pf' mf' => pf' 4 = mf' 11 ∧ pf' 5 = mf' 12 ∧ pf' 6 = mf' 13) := by
  unfold chF f_X3_readsFuse
  have hl := h.1
  have g2 := h.2.2.2.2.1
  have g9 := h.2.2.2.2.2.1
  rcases digit_sim h with ⟨c, d1, d2⟩ | ⟨d, d9, hp, -, -, d1, d2⟩
  · refine ⟨0, p, pf, upd (upd mf 11 (-6)) 12 (-6), ?_, ?_, Or.inl rfl, h.mv h.2.1 rfl g2 (by rw [upd_ne (by omega), upd_ne (by omega)]) (by rw [upd_ne (by omega), upd_ne (by omega)]; exact g9), Nat.le_refl _, FP.rf _ _, ((FP.rf _ _).up (by simp) _).up (by simp) _, fun q => absurd rfl q⟩
    · rw [d1, b2s, if_pos rfl]
    · rw [d2, b2s]; simp only [nmI]; rw [upd_eq, if_pos rfl]
      unfold B_X3_readsFuse_34 B_X3_readsFuse_36
      simp only [nmI]
      rw [upd_eq, if_pos rfl]
  rw [d1, d2, b2s, b2s, if_neg (by decide)]
  simp only [nmI]
  rw [upd_eq, if_neg (ne6 (by omega))]
  have T1 : TX co (upd (upd pf 4 (nI d)) 2 (nI (p + 1))) tx (upd (upd mf 9 (nI (p + 1))) 11 (nI d)) len (p + 1) := h.mv (by omega) (by rw [upd_ne (by omega), upd_ne (by omega)]) (upd_eq _ _ _) (by rw [upd_ne (by omega), upd_ne (by omega)]) (by rw [upd_ne (by omega), upd_eq])
  have P1 : FP pf (upd (upd pf 4 (nI d)) 2 (nI (p + 1))) [2, 4, 5, 6] := ((FP.rf _ _).up (by simp) _).up (by simp) _
  have P2 : FP mf (upd (upd mf 9 (nI (p + 1))) 11 (nI d)) [9, 11, 12, 13] := ((FP.rf _ _).up (by simp) _).up (by simp) _
  rw [d_skip T1 (a := 46) (by decide), r_takes T1]
  by_cases c : p + 1 < len ∧ tx (p + 1) = 46
  · rw [if_pos c, if_pos c, b2s, b2s, if_neg (by decide), if_neg (by decide)]
    have T2 : TX co (upd (upd (upd pf 4 (nI d)) 2 (nI (p + 1))) 2 (nI (p + 1 + 1))) tx (upd (upd (upd mf 9 (nI (p + 1))) 11 (nI d)) 9 (nI (p + 1 + 1))) len (p + 1 + 1) := T1.mv (by omega) (upd_ne (by omega)) (upd_eq _ _ _) (upd_ne (by omega)) (upd_eq _ _ _)
    have P3 := P1.up (k := 2) (by simp) (nI (p + 1 + 1))
    have P4 := P2.up (k := 9) (by simp) (nI (p + 1 + 1))
    rcases number_sim T2 with ⟨n1, n2⟩ | ⟨v, p', pf', mf', n1, n2, n3, n4, n5, n6, n7, n8⟩
    · refine ⟨0, p + 1 + 1, _, _, ?_, ?_, Or.inl rfl, T2.mv T2.2.1 rfl (upd_eq _ _ _) (upd_ne (k := 12) (x := -6) (by omega)) (by rw [upd_ne (by omega), upd_eq]), by omega, P3, P4.up (by simp) _, fun q => absurd rfl q⟩
      · rw [n1, b2s, if_pos rfl]
      · rw [n2, b2s]
        unfold B_X3_readsFuse_36
        simp only [nmI]
        rw [upd_eq, if_pos rfl]
    · have T3 : TX co pf' tx (upd mf' 12 (nI v)) len p' := n5.mv n5.2.1 rfl n5.2.2.2.2.1 (upd_ne (by omega)) (by rw [upd_ne (by omega)]; exact n5.2.2.2.2.2.1)
      have P5 := P3.tr n7 (L := [2, 4, 5, 6]) (by simp) (by simp)
      have P6 := (P4.tr n8 (L := [9, 11, 12, 13]) (by simp) (by simp)).up (k := 12) (by simp) (nI v)
      rw [n1, n2, b2s, b2s, if_neg (by decide)]
      unfold B_X3_readsFuse_36
      simp only [nmI]
      rw [upd_eq, if_neg (ne6 (by omega))]
      rcases kind_sim T3 with ⟨mf2, k1, k2, k3, k4⟩ | ⟨q, pf2, mf2, k1, k2, k3, k4, k5, k6, k7, k8⟩
      · refine ⟨0, p', pf', mf2, ?_, ?_, Or.inl rfl, k3, by omega, P5, P6.tr k4 (by simp) (by simp), fun q => absurd rfl q⟩
        · rw [k1, b2s, if_pos rfl]
        · rw [k2, b2s, if_pos rfl]
      · refine ⟨1, p' + 1, pf2, mf2, ?_, ?_, Or.inr rfl, k4, by omega, P5.tr k7 (by simp) (by simp), P6.tr k8 (by simp) (by simp), fun _ => ⟨?_, ?_, ?_⟩⟩
        · rw [k1, b2s, if_neg (by decide)]
        · rw [k2, b2s, if_neg (by decide)]
        · rw [k7 4 (by simp), n7 4 (by simp), upd_ne (by omega), upd_ne (by omega), upd_eq, k8 11 (by simp), upd_ne (by omega), n8 11 (by simp), upd_ne (by omega), upd_eq]
        · rw [k7 5 (by simp), n6, k8 12 (by simp), upd_eq]
        · rw [k5, k6]
  · rw [if_neg c, if_neg c, b2s, b2s, if_pos rfl, if_pos rfl]
    refine ⟨0, p + 1, _, _, rfl, ?_, Or.inl rfl, T1.mv T1.2.1 rfl (upd_eq _ _ _) (upd_ne (k := 12) (x := -6) (by omega)) (by rw [upd_ne (by omega), upd_ne (by omega), upd_eq]), by omega, P1, P2.up (by simp) _, fun q => absurd rfl q⟩
    unfold B_X3_readsFuse_34 B_X3_readsFuse_36
    simp only [nmI]
    rw [upd_eq, if_pos rfl]
def OR (pf mf : zA) : Prop := (((pf 3 = 98 ∧ mf 10 = 98) ∨ (pf 3 = 102 ∧ mf 10 = 102)) ∧ pf 4 = mf 11 ∧ pf 5 = mf 12 ∧ pf 6 = mf 13) ∨ ((pf 3 = 108 ∧ mf 10 = 108) ∧ pf 4 = mf 11 ∧ pf 5 = mf 12) ∨ (((pf 3 = 115 ∧ mf 10 = 115) ∨ (pf 3 = 116 ∧ mf 10 = 116)) ∧ pf 5 = mf 12)
theorem r_ord {co pf tx mf : zA} {len p : Nat} (h : TX co pf tx mf len p) : f_X3_readsOrder tx mf = B_X3_readsOrder_25 (cd tx len p) tx mf := by
  obtain ⟨h1, h2, h3, h4, h5, h6, h7⟩ := h
  unfold f_X3_readsOrder
  rw [h4, h6]
  simp only [le_nI (show len < 2 ^ 31 by omega) (show p < 2 ^ 31 by omega)]
  by_cases hp : p < len
  · rw [if_neg (by omega), gd_nI (by omega) (by omega), cd_lt hp]
  · rw [if_pos (by omega), cd_ge hp]
def RES2 (co tx pf mf : zA) (len p : Nat) (A B : Option (Int32 × zA)) : Prop := ∃ (v : Int32) (p' : Nat) (pf' mf' : zA), A = some (v, pf') ∧ B = some (v, mf') ∧ (v = 0 ∨ v = 1) ∧ TX co pf' tx mf' len p' ∧ p ≤ p' ∧ FP pf pf' [2, 3, 4, 5, 6] ∧ FP mf mf' [9, 10, 11, 12, 13] ∧ (¬ v = 0 → p + 1 ≤ p' ∧ OR pf' mf')
theorem RES.two {co tx pf mf : zA} {len p : Nat} {L : Int32} {A B : Option (Int32 × zA)} {Q : zA → zA → Prop} (h : RES co tx (upd (upd pf 3 L) 2 (nI (p + 1))) (upd (upd mf 10 L) 9 (nI (p + 1))) len (p + 1) A B Q) (hQ : ∀ pf' mf' : zA, pf' 3 = L → mf' 10 = L → Q pf' mf' → OR pf' mf') : RES2 co tx pf mf len p A B := by
  obtain ⟨v, p', pf', mf', h1, h2, h3, h4, h5, h6, h7, h8⟩ := h
  have P1 : FP pf (upd (upd pf 3 L) 2 (nI (p + 1))) [2, 3, 4, 5, 6] := ((FP.rf _ _).up (by simp) _).up (by simp) _
  have P2 : FP mf (upd (upd mf 10 L) 9 (nI (p + 1))) [9, 10, 11, 12, 13] := ((FP.rf _ _).up (by simp) _).up (by simp) _
  refine ⟨v, p', pf', mf', h1, h2, h3, h4, by omega, P1.tr h6 (by simp) (by simp), P2.tr h7 (by simp) (by simp), fun q => ⟨h5, hQ pf' mf' ?_ ?_ (h8 q)⟩⟩
  · rw [h6 3 (by simp), upd_ne (by omega), upd_eq]
  · rw [h7 10 (by simp), upd_ne (by omega), upd_eq]
theorem RES.zb {co tx pf mf : zA} {len p : Nat} {A B : Option (Int32 × zA)} {Q : zA → zA → Prop} (h : RES co tx pf mf len p A B Q) : RES co tx pf mf len p A (b2 B fun v6 mf7 => zbo v6 (some (v6, mf7))) Q := by
  obtain ⟨v, p', pf', mf', h1, h2, h3, h4⟩ := h
  refine ⟨v, p', pf', mf', h1, ?_, h3, h4⟩
  rw [h2, b2s]
  unfold zbo
  rw [if_pos h3]
theorem order_sim {co pf tx mf : zA} {len p : Nat} (h : TX co pf tx mf len p) : RES2 co tx pf mf len p (f_X1_readOrder co pf) (f_X3_readsOrder tx mf) := by
  have hl := h.1
  have g2 := h.2.2.2.2.1
  have g9 := h.2.2.2.2.2.1
  rw [r_ord h]
  unfold f_X1_readOrder B_X3_readsOrder_25
  rw [d_here h]
  simp only [b1s, nmI]
  rw [upd_ne (show (9 : Nat) ≠ 10 by omega), g9, ra1, upd_eq, upd_ne (show (10 : Nat) ≠ 9 by omega), upd_eq]
  have T0 : TX co (upd pf 3 (cd tx len p)) tx mf len p := h.mv h.2.1 (upd_ne (by omega)) (by rw [upd_ne (by omega)]; exact g2) rfl g9
  have skip : ∀ L : Int32, ¬ L = 0 → cd tx len p = L → p < len ∧ f_X1_skip L co (upd pf 3 (cd tx len p)) = some (1, upd (upd pf 3 L) 2 (nI (p + 1))) ∧ TX co (upd (upd pf 3 L) 2 (nI (p + 1))) tx (upd (upd mf 10 L) 9 (nI (p + 1))) len (p + 1) := by
    intro L hL0 hL
    have hp : p < len := Classical.not_not.mp fun q => hL0 (by rw [← hL, cd_ge q])
    refine ⟨hp, ?_, h.mv (by omega) (by rw [upd_ne (by omega), upd_ne (by omega)]) (upd_eq _ _ _) (by rw [upd_ne (by omega), upd_ne (by omega)]) (upd_eq _ _ _)⟩
    rw [d_skip T0 hL0, if_pos ⟨hp, by rw [← hL, cd_lt hp]⟩, hL]
  by_cases e98 : cd tx len p = 98
  · obtain ⟨hp, s1, s2⟩ := skip 98 (by decide) e98
    rw [if_pos e98, if_pos e98, e98]
    rw [e98] at s1
    rw [s1, b2s, if_neg (by decide)]
    exact ((fuse_res s2).zb).two fun pf' mf' a b q => Or.inl ⟨Or.inl ⟨a, b⟩, q⟩
  rw [if_neg e98, if_neg e98]
  by_cases e102 : cd tx len p = 102
  · obtain ⟨hp, s1, s2⟩ := skip 102 (by decide) e102
    rw [if_pos e102, if_pos e102, e102]
    rw [e102] at s1
    rw [s1, b2s, if_neg (by decide)]
    exact ((fuse_res s2).zb).two fun pf' mf' a b q => Or.inl ⟨Or.inr ⟨a, b⟩, q⟩
  rw [if_neg e102, if_neg e102]
  by_cases e108 : cd tx len p = 108
  · obtain ⟨hp, s1, s2⟩ := skip 108 (by decide) e108
    rw [if_pos e108, if_pos e108, e108]
    rw [e108] at s1
    rw [s1, b2s, if_neg (by decide)]
    exact ((load_res s2).zb).two fun pf' mf' a b q => Or.inr (Or.inl ⟨⟨a, b⟩, q⟩)
  rw [if_neg e108, if_neg e108]
  by_cases e115 : cd tx len p = 115
  · obtain ⟨hp, s1, s2⟩ := skip 115 (by decide) e115
    rw [if_pos e115, if_pos e115, e115]
    rw [e115] at s1
    rw [s1, b2s, if_neg (by decide)]
    exact (num_res s2).two fun pf' mf' a b q => Or.inr (Or.inr ⟨Or.inl ⟨a, b⟩, q⟩)
  rw [if_neg e115, if_neg e115]
  by_cases e116 : cd tx len p = 116
  · obtain ⟨hp, s1, s2⟩ := skip 116 (by decide) e116
    rw [if_pos e116, if_pos e116, e116]
    rw [e116] at s1
    rw [s1, b2s, if_neg (by decide)]
    exact (num_res s2).two fun pf' mf' a b q => Or.inr (Or.inr ⟨Or.inr ⟨a, b⟩, q⟩)
  rw [if_neg e116, if_neg e116]
  have em : nI (p + 1) - 1 = nI p := by rw [L1, pk_sub (by omega), Nat.add_sub_cancel]
  refine ⟨0, p, _, _, rfl, rfl, Or.inl rfl, h.mv h.2.1 (upd_ne (by omega)) (by rw [upd_ne (by omega)]; exact g2) ?_ ?_, Nat.le_refl _, (FP.rf _ _).up (by simp) _, (((FP.rf _ _).up (by simp) _).up (by simp) _).up (by simp) _, fun q => absurd rfl q⟩
  · rw [upd_ne (by omega), upd_ne (by omega), upd_ne (by omega)]
  · rw [upd_eq, upd_eq, em]
