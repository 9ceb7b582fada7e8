/-! Reading one order -/
def TX (co pf tx mf : zA) (len p : Nat) : Prop := len ≤ 80 ∧ p ≤ len ∧ pf 1 = nI len ∧ mf 4 = nI len ∧ pf 2 = nI p ∧ mf 9 = nI p ∧ ∀ j, j < len → co j = tx j
theorem TX.mv {co pf tx mf pf' mf' : zA} {len p p' : Nat} (h : TX co pf tx mf len p) (hp : p' ≤ len) (h1 : pf' 1 = pf 1) (h2 : pf' 2 = nI p') (h4 : mf' 4 = mf 4) (h9 : mf' 9 = nI p') : TX co pf' tx mf' len p' :=
  ⟨h.1, hp, h1.trans h.2.2.1, h4.trans h.2.2.2.1, h2, h9, h.2.2.2.2.2.2⟩
def cd (tx : zA) (len p : Nat) : Int32 := if p < len then tx p else 0
theorem cd_lt {tx : zA} {len p : Nat} (h : p < len) : cd tx len p = tx p := if_pos h
theorem cd_ge {tx : zA} {len p : Nat} (h : ¬ p < len) : cd tx len p = 0 := if_neg h
theorem d_here {co pf tx mf : zA} {len p : Nat} (h : TX co pf tx mf len p) : f_X1_codeHere co pf = some (cd tx len p) := by
  obtain ⟨h1, h2, h3, h4, h5, h6, h7⟩ := h
  unfold f_X1_codeHere
  rw [h3, h5, if_neg (by rw [lt0 (by omega)]; omega)]
  simp only [le_nI (show len < 2 ^ 31 by omega) (show p < 2 ^ 31 by omega)]
  by_cases hp : p < len
  · rw [if_neg (by omega), gd_nI (by omega) (by omega), cd_lt hp, h7 p hp]
  · rw [if_pos (by omega), cd_ge hp]
theorem r_here {co pf tx mf : zA} {len p : Nat} (h : TX co pf tx mf len p) (a b : Int32) : f_X3_isHere a b tx mf = some (if p < len ∧ rng (tx p) a.toInt b.toInt = true then 1 else 0) := by
  obtain ⟨h1, h2, h3, h4, h5, h6, h7⟩ := h
  unfold f_X3_isHere
  rw [h4, h6]
  simp only [le_nI (show len < 2 ^ 31 by omega) (show p < 2 ^ 31 by omega)]
  by_cases hp : p < len
  · rw [if_neg (by omega), gd_nI (by omega) (by omega), r_inI, Int32.toInt_toInt64, Int32.toInt_toInt64]
    simp only [b1s, s01]
    by_cases hr : rng (tx p) a.toInt b.toInt = true
    · rw [if_pos hr, if_pos ⟨hp, hr⟩]
    · rw [if_neg hr, if_neg (fun q => hr q.2)]
  · rw [if_pos (by omega), if_neg (fun q => hp q.1)]
theorem rng_self (x a : Int32) : rng x a.toInt a.toInt = true ↔ x = a := by
  unfold rng
  rw [decide_eq_true_eq]
  exact ⟨fun q => Int32.toInt_inj.mp (by omega), fun q => by rw [q]; exact ⟨Int.le_refl _, Int.le_refl _⟩⟩
theorem d_skip {co pf tx mf : zA} {len p : Nat} (h : TX co pf tx mf len p) {a : Int32} (ha : ¬ a = 0) : f_X1_skip a co pf = if p < len ∧ tx p = a then some (1, upd pf 2 (nI (p + 1))) else some (0, pf) := by
  unfold f_X1_skip
  rw [d_here h]
  simp only [b1s, nmI, h.2.2.2.2.1, ra1]
  by_cases hp : p < len
  · rw [cd_lt hp]
    by_cases e : tx p = a
    · rw [if_pos e, if_pos ⟨hp, e⟩]
    · rw [if_neg e, if_neg (fun q => e q.2)]
  · rw [cd_ge hp, if_neg (fun q => ha q.symm), if_neg (fun q => hp q.1)]
theorem upd_self (f : zA) (k : Nat) {x : Int32} (h : f k = x) : upd f k x = f := by
  funext j
  unfold upd
  by_cases e : j = k
  · rw [if_pos e, e, h]
  · rw [if_neg e]
theorem r_takes {co pf tx mf : zA} {len p : Nat} (h : TX co pf tx mf len p) (a : Int32) : f_X3_takes a tx mf = if p < len ∧ tx p = a then some (1, upd mf 9 (nI (p + 1))) else some (0, mf) := by
  unfold f_X3_takes
  rw [r_here h]
  simp only [b1s, flag01, nmI, h.2.2.2.2.2.1, rng_self]
  by_cases c : p < len ∧ tx p = a
  · rw [if_pos c, if_pos c, ra1]; rfl
  · rw [if_neg c, if_neg c, ra0, Nat.add_zero, upd_self mf 9 h.2.2.2.2.2.1]; rfl
theorem d_isD {co pf tx mf : zA} {len p : Nat} (h : TX co pf tx mf len p) : f_X1_isDigitHere co pf = some (if p < len ∧ rng (tx p) 48 57 = true then 1 else 0) := by
  unfold f_X1_isDigitHere
  rw [d_here h]
  simp only [b1s]
  rw [two_cmp2 (x := cd tx len p) (L := 48) (H := 57) (by decide) (by decide)]
  by_cases hp : p < len
  · rw [cd_lt hp]
    by_cases e : rng (tx p) 48 57 = true
    · rw [if_pos e, if_pos ⟨hp, e⟩]
    · rw [if_neg e, if_neg (fun q => e q.2)]
  · rw [cd_ge hp, if_neg (by decide), if_neg (fun q => hp q.1)]
theorem dig_ex {x : Int32} (h : rng x 48 57 = true) : ∃ d, d ≤ 9 ∧ x = nI (48 + d) := by
  obtain ⟨k, k1, k2, rfl⟩ := (rng_nI (l := 48) (h := 57) (by omega)).mp h
  exact ⟨k - 48, by omega, by rw [show 48 + (k - 48) = k by omega]⟩
theorem digit_sim {co pf tx mf : zA} {len p : Nat} (h : TX co pf tx mf len p) : (¬ (p < len ∧ rng (tx p) 48 57 = true) ∧ f_X1_readDigit co pf = some (0, pf) ∧ f_X3_digit tx mf = some (-6, mf)) ∨
    (∃ d, d ≤ 9 ∧ p < len ∧ rng (tx p) 48 57 = true ∧ tx p = nI (48 + d) ∧ f_X1_readDigit co pf = some (1, upd (upd pf 4 (nI d)) 2 (nI (p + 1))) ∧ f_X3_digit tx mf = some (nI d, upd mf 9 (nI (p + 1)))) := by
  have h6 := h.2.2.2.2.2.1
  have h5 := h.2.2.2.2.1
  have h1 := h.1
  unfold f_X1_readDigit f_X3_digit
  rw [d_isD h, r_here h, show (48 : Int32).toInt = 48 from rfl, show (57 : Int32).toInt = 57 from rfl, d_here h]
  simp only [b1s, s01, nmI]
  by_cases c : p < len ∧ rng (tx p) 48 57 = true
  · obtain ⟨d, d1, d2⟩ := dig_ex c.2
    refine Or.inr ⟨d, d1, c.1, c.2, d2, ?_, ?_⟩
    · rw [if_pos c, cd_lt c.1, d2, upd_ne (by omega), h5, ra1, L48, pk_sub (by omega), show 48 + d - 48 = d by omega]
    · rw [if_pos c, h6, gd_nI (by omega) (by omega), d2, L48, pk_sub (by omega), show 48 + d - 48 = d by omega]
      unfold B_X3_digit_28 B_X3_digit_45
      rw [if_neg (by rw [nI_ne6 (by omega)]; exact id), h6]
      simp only [show f_X3_flag 1 = some 1 from rfl, b1s, nmI, ra1]
  · refine Or.inl ⟨c, by rw [if_neg c], ?_⟩
    rw [if_neg c]
    unfold B_X3_digit_28 B_X3_digit_45
    rw [if_pos rfl, h6]
    simp only [show f_X3_flag 0 = some 0 from rfl, b1s, nmI, ra0]
    rw [Nat.add_zero, upd_self mf 9 h6]
def FP (pf pf' : zA) (l : List Nat) : Prop := ∀ x, x ∉ l → pf' x = pf x
theorem num_loop {co tx : zA} {len : Nat} : ∀ (j i v p fd fr : Nat) (pf mf : zA), 3 = i + j → j < fd → j < fr → (i = 1 ∧ 1 ≤ v ∧ v ≤ 9) ∨ (i = 2 ∧ 10 ≤ v ∧ v ≤ 99) ∨ (i = 3 ∧ 100 ≤ v ∧ v ≤ 999) → TX co pf tx mf len p → pf 5 = nI v →
    ∃ (v' p' : Nat) (pf' mf' : zA), B_X1_readNumber_16 fd (nI i) co pf = some (1, pf') ∧ B_X3_number_5 fr (nI v) tx mf = some (nI v', mf') ∧ v' ≤ 999 ∧ p ≤ p' ∧ TX co pf' tx mf' len p' ∧ pf' 5 = nI v' ∧ FP pf pf' [2, 5] ∧ FP mf mf' [9] := by
  intro j
  induction j with
  | zero =>
    intro i v p fd fr pf mf hi hf hg hv h h5
    obtain ⟨f, rfl⟩ : ∃ f, fd = f + 1 := ⟨fd - 1, by omega⟩
    obtain ⟨g, rfl⟩ : ∃ g, fr = g + 1 := ⟨fr - 1, by omega⟩
    have hi3 : i = 3 := by omega
    subst hi3
    refine ⟨v, p, pf, mf, ?_, ?_, by omega, Nat.le_refl _, h, h5, fun _ _ => rfl, fun _ _ => rfl⟩
    · rw [B_X1_readNumber_16, if_pos (show (3 : Int32) ≤ nI 3 by decide)]
    · rw [B_X3_number_5, r_rng (x := nI v) (L := 1) (H := 99) (by decide) (by decide)]
      simp only [b1s, s01]
      rw [if_neg]
      intro q
      obtain ⟨k, k1, k2, k3⟩ := (rng_nI (l := 1) (h := 99) (by omega)).mp q
      have := (nI_eq (by omega) (by omega)).mp k3
      omega
  | succ j ih =>
    intro i v p fd fr pf mf hi hf hg hv h h5
    obtain ⟨f, rfl⟩ : ∃ f, fd = f + 1 := ⟨fd - 1, by omega⟩
    obtain ⟨g, rfl⟩ : ∃ g, fr = g + 1 := ⟨fr - 1, by omega⟩
    have hl := h.1
    have g9 := h.2.2.2.2.2.1
    have g2 := h.2.2.2.2.1
    rw [B_X1_readNumber_16, B_X3_number_5, if_neg (by rw [ge3 (by omega)]; omega), d_isD h, r_here h, show (48 : Int32).toInt = 48 from rfl, show (57 : Int32).toInt = 57 from rfl, r_rng (x := nI v) (L := 1) (H := 99) (by decide) (by decide)]
    simp only [b1s, s01]
    rw [if_pos (show rng (nI v) 1 99 = true from (rng_nI (l := 1) (h := 99) (by omega)).mpr ⟨v, by omega, by omega, rfl⟩)]
    by_cases c : p < len ∧ rng (tx p) 48 57 = true
    · obtain ⟨d, d1, d2⟩ := dig_ex c.2
      rw [if_pos c, if_pos c, d_here h]
      simp only [b1s, nmI]
      rw [cd_lt c.1, g9, gd_nI (by omega) (by omega), d2, h5, show nI v * 10 + nI (48 + d) - 48 = nI (10 * v + d) by
        rw [L10, pk_mul, nI_add, L48, pk_sub (by omega)]; congr 1; omega, show 10 * nI v + nI (48 + d) - 48 = nI (10 * v + d) by
        rw [lm10, nI_add, L48, pk_sub (by omega)]; congr 1; omega]
      rw [upd_ne (show (2 : Nat) ≠ 5 by omega), g2, ra1, upd_ne (show (5 : Nat) ≠ 2 by omega), upd_eq, if_neg (by rw [eq0 (by omega)]; omega), ra1]
      obtain ⟨v', p', pf', mf', a1, a2, a3, a4, a5, a6, a7, a8⟩ := ih (i + 1) (10 * v + d) (p + 1) f g (upd (upd pf 5 (nI (10 * v + d))) 2 (nI (p + 1))) (upd mf 9 (nI (p + 1))) (by omega) (by omega) (by omega) (by omega) (h.mv (by omega) (by rw [upd_ne (by omega), upd_ne (by omega)]) (upd_eq _ _ _) (upd_ne (by omega)) (upd_eq _ _ _)) (by rw [upd_ne (by omega), upd_eq])
      refine ⟨v', p', pf', mf', a1, a2, a3, by omega, a5, a6, fun x hx => ?_, fun x hx => ?_⟩
      · simp only [List.mem_cons, List.not_mem_nil, or_false, not_or] at hx
        rw [a7 x (by simp [hx.1, hx.2]), upd_ne hx.1, upd_ne hx.2]
      · simp only [List.mem_cons, List.not_mem_nil, or_false] at hx
        rw [a8 x (by simp [hx]), upd_ne hx]
    · rw [if_neg c, if_neg c]
      exact ⟨v, p, pf, mf, rfl, rfl, by omega, Nat.le_refl _, h, h5, fun _ _ => rfl, fun _ _ => rfl⟩
theorem number_sim {co pf tx mf : zA} {len p : Nat} (h : TX co pf tx mf len p) : (f_X1_readNumber co pf = some (0, pf) ∧ f_X3_number tx mf = some (-6, mf)) ∨
    (∃ (v p' : Nat) (pf' mf' : zA), f_X1_readNumber co pf = some (1, pf') ∧ f_X3_number tx mf = some (nI v, mf') ∧ v ≤ 999 ∧ p ≤ p' ∧ TX co pf' tx mf' len p' ∧ pf' 5 = nI v ∧ FP pf pf' [2, 5] ∧ FP mf mf' [9]) := by
  have hl := h.1
  have g2 := h.2.2.2.2.1
  obtain ⟨f, hf⟩ : ∃ f, FU = f + 1 := ⟨299, FU_eq⟩
  have hf3 : 3 < f := by have := FU_eq; omega
  unfold f_X1_readNumber f_X3_number
  rcases digit_sim h with ⟨c, -, c2⟩ | ⟨d, d1, c1, c2, c3, -, c5⟩
  · refine Or.inl ⟨?_, ?_⟩
    · rw [d_isD h, if_neg c]; rfl
    · rw [c2]
      simp only [b2s]
      rw [hf, B_X3_number_5, r_rng (x := -6) (L := 1) (H := 99) (by decide) (by decide)]
      rfl
  · refine Or.inr ?_
    have c : p < len ∧ rng (tx p) 48 57 = true := ⟨c1, c2⟩
    have h0 : TX co (upd pf 5 0) tx mf len p := h.mv h.2.1 (upd_ne (by omega)) (by rw [upd_ne (by omega)]; exact g2) rfl h.2.2.2.2.2.1
    rw [d_isD h, if_pos c, c5]
    simp only [b1s, b2s, nmI]
    rw [if_neg (by decide), hf, B_X1_readNumber_16, if_neg (by decide), d_isD h0, if_pos c]
    simp only [b1s, nmI]
    rw [if_neg (by decide), d_here h0]
    simp only [b1s, nmI]
    rw [cd_lt c1, c3, upd_eq, show (0 : Int32) * 10 + nI (48 + d) - 48 = nI d by
      rw [show (0 : Int32) * 10 = nI 0 from rfl, nI_add, L48, pk_sub (by omega)]; congr 1; omega]
    rw [upd_ne (show (2 : Nat) ≠ 5 by omega), upd_ne (show (2 : Nat) ≠ 5 by omega), g2, ra1, upd_ne (show (5 : Nat) ≠ 2 by omega), upd_eq]
    have hT : TX co (upd (upd (upd pf 5 0) 5 (nI d)) 2 (nI (p + 1))) tx (upd mf 9 (nI (p + 1))) len (p + 1) := h.mv (by omega) (by rw [upd_ne (by omega), upd_ne (by omega), upd_ne (by omega)]) (upd_eq _ _ _) (upd_ne (by omega)) (upd_eq _ _ _)
    by_cases hd0 : d = 0
    · subst hd0
      refine ⟨0, p + 1, upd (upd (upd pf 5 0) 5 (nI 0)) 2 (nI (p + 1)), upd mf 9 (nI (p + 1)), ?_, ?_, by omega, by omega, hT, by rw [upd_ne (by omega), upd_eq], fun x hx => ?_, fun x hx => ?_⟩
      · rw [if_pos (show nI 0 = (0 : Int32) from rfl)]
      · rw [B_X3_number_5, r_rng (x := nI 0) (L := 1) (H := 99) (by decide) (by decide)]
        rfl
      · simp only [List.mem_cons, List.not_mem_nil, or_false, not_or] at hx
        rw [upd_ne hx.1, upd_ne hx.2, upd_ne hx.2]
      · simp only [List.mem_cons, List.not_mem_nil, or_false] at hx
        rw [upd_ne hx]
    · rw [if_neg (by rw [eq0 (by omega)]; exact hd0), show (0 : Int32) + 1 = nI 1 from rfl]
      obtain ⟨v', p', pf', mf', a1, a2, a3, a4, a5, a6, a7, a8⟩ := num_loop 2 1 d (p + 1) f (f + 1) _ _ (by omega) (by omega) (by omega) (Or.inl ⟨rfl, by omega, d1⟩) hT (by rw [upd_ne (by omega), upd_eq])
      rw [hf] at *
      refine ⟨v', p', pf', mf', a1, a2, a3, by omega, a5, a6, fun x hx => ?_, fun x hx => ?_⟩
      · rw [a7 x hx]
        simp only [List.mem_cons, List.not_mem_nil, or_false, not_or] at hx
        rw [upd_ne hx.1, upd_ne hx.2, upd_ne hx.2]
      · rw [a8 x hx]
        simp only [List.mem_cons, List.not_mem_nil, or_false] at hx
        rw [upd_ne hx]
theorem kind_sim {co pf tx mf : zA} {len p : Nat} (h : TX co pf tx mf len p) : (∃ mf', f_X1_readKind co pf = some (0, pf) ∧ f_X3_readsKind tx mf = some (0, mf') ∧ TX co pf tx mf' len p ∧ FP mf mf' [9, 13]) ∨
    (∃ (q : Nat) (pf' mf' : zA), f_X1_readKind co pf = some (1, pf') ∧ f_X3_readsKind tx mf = some (1, mf') ∧ q ≤ 2 ∧ TX co pf' tx mf' len (p + 1) ∧ pf' 6 = nI q ∧ mf' 13 = nI q ∧ FP pf pf' [2, 6] ∧ FP mf mf' [9, 13]) := by
  have hl := h.1
  have g2 := h.2.2.2.2.1
  have g9 := h.2.2.2.2.2.1
  have hit : ∀ q : Nat, q ≤ 2 → p < len → TX co (upd (upd pf 6 (nI q)) 2 (nI (p + 1))) tx (upd (upd mf 9 (nI (p + 1))) 13 (nI q)) len (p + 1) := fun q _ hp => h.mv (by omega) (by rw [upd_ne (by omega), upd_ne (by omega)]) (upd_eq _ _ _) (by rw [upd_ne (by omega), upd_ne (by omega)]) (by rw [upd_ne (by omega), upd_eq])
  have done : ∀ q : Nat, q ≤ 2 → p < len → B_X1_readKind_66 co (upd pf 6 (nI q)) = some (1, upd (upd pf 6 (nI q)) 2 (nI (p + 1))) ∧ B_X3_readsKind_42 (nI q) tx (upd mf 9 (nI (p + 1))) = some (1, upd (upd mf 9 (nI (p + 1))) 13 (nI q)) := by
    intro q hq hp
    constructor
    · unfold B_X1_readKind_66
      simp only [nmI]
      rw [upd_ne (by omega), g2, ra1]
    · unfold B_X3_readsKind_42
      simp only [nmI]
      rw [upd_eq, if_neg (by rw [nI_ne6 (by omega)]; exact id)]
  have fin : ∀ q : Nat, q ≤ 2 → p < len → ∀ (A : Option (Int32 × zA)) (B : Option (Int32 × zA)), A = B_X1_readKind_66 co (upd pf 6 (nI q)) → B = B_X3_readsKind_42 (nI q) tx (upd mf 9 (nI (p + 1))) → ∃ (q : Nat) (pf' mf' : zA), A = some (1, pf') ∧ B = some (1, mf') ∧ q ≤ 2 ∧ TX co pf' tx mf' len (p + 1) ∧ pf' 6 = nI q ∧ mf' 13 = nI q ∧ FP pf pf' [2, 6] ∧ FP mf mf' [9, 13] := by
    intro q hq hp A B hA hB
    obtain ⟨d1, d2⟩ := done q hq hp
    refine ⟨q, _, _, hA.trans d1, hB.trans d2, hq, hit q hq hp, by rw [upd_ne (by omega), upd_eq], upd_eq _ _ _, fun x hx => ?_, fun x hx => ?_⟩
    · simp only [List.mem_cons, List.not_mem_nil, or_false, not_or] at hx
      rw [upd_ne hx.1, upd_ne hx.2]
    · simp only [List.mem_cons, List.not_mem_nil, or_false, not_or] at hx
      rw [upd_ne hx.2, upd_ne hx.1]
  unfold f_X1_readKind f_X3_readsKind
  rw [d_here h, r_takes h]
  simp only [b1s, nmI]
  by_cases e113 : p < len ∧ tx p = 113
  · right
    refine fin 0 (by omega) e113.1 _ _ ?_ ?_
    · rw [cd_lt e113.1, e113.2, if_neg (by decide), if_neg (by decide), if_pos rfl]; rfl
    · rw [if_pos e113]; rfl
  rw [if_neg e113]
  rw [b2s, if_pos rfl, r_takes h]
  by_cases e115 : p < len ∧ tx p = 115
  · right
    refine fin 1 (by omega) e115.1 _ _ ?_ ?_
    · rw [cd_lt e115.1, e115.2, if_neg (by decide), if_neg (by decide), if_neg (by decide), if_neg (by decide), if_pos rfl]; rfl
    · rw [if_pos e115]; rfl
  rw [if_neg e115]
  rw [b2s, if_pos rfl, r_takes h]
  by_cases e111 : p < len ∧ tx p = 111
  · right
    refine fin 2 (by omega) e111.1 _ _ ?_ ?_
    · rw [cd_lt e111.1, e111.2, if_pos rfl]; rfl
    · rw [if_pos e111]; rfl
  rw [if_neg e111]
  left
  refine ⟨upd mf 13 (-6), ?_, ?_, h.mv h.2.1 rfl g2 (upd_ne (by omega)) (by rw [upd_ne (by omega)]; exact g9), fun x hx => ?_⟩
  · have n1 : ¬ cd tx len p = 111 := by
      by_cases hp : p < len
      · rw [cd_lt hp]; exact fun q => e111 ⟨hp, q⟩
      · rw [cd_ge hp]; decide
    have n2 : ¬ cd tx len p = 113 := by
      by_cases hp : p < len
      · rw [cd_lt hp]; exact fun q => e113 ⟨hp, q⟩
      · rw [cd_ge hp]; decide
    have n3 : ¬ cd tx len p = 115 := by
      by_cases hp : p < len
      · rw [cd_lt hp]; exact fun q => e115 ⟨hp, q⟩
      · rw [cd_ge hp]; decide
    rw [if_neg n1, if_neg n2, if_neg n3]
    by_cases q1 : cd tx len p = 112
    · rw [if_pos q1]
    · rw [if_neg q1]
      by_cases q2 : cd tx len p = 114
      · rw [if_pos q2]
      · rw [if_neg q2]
  · rfl
  · simp only [List.mem_cons, List.not_mem_nil, or_false, not_or] at hx
    rw [upd_ne hx.2]
