/-! The law: what it says of the boards -/
def orb (f : Nat → Bool) : Nat → Bool
  | 0 => false
  | n + 1 => orb f n || f n
theorem orb_iff {f : Nat → Bool} : ∀ {n : Nat}, orb f n = true ↔ ∃ k, k < n ∧ f k = true
  | 0 => ⟨fun h => (by cases h), fun ⟨k, h, _⟩ => absurd h (by omega)⟩
  | n + 1 => by
    show (orb f n || f n) = true ↔ _
    rw [Bool.or_eq_true, orb_iff]
    constructor
    · rintro (⟨k, h1, h2⟩ | h)
      · exact ⟨k, by omega, h2⟩
      · exact ⟨n, by omega, h⟩
    · rintro ⟨k, h1, h2⟩
      by_cases hk : k = n
      · subst hk
        exact Or.inr h2
      · exact Or.inl ⟨k, by omega, h2⟩
theorem fed_trans {par : Nat → Nat} {c k : Nat} (h2 : fed par c k = true) : ∀ i, fed par i c = true → fed par i k = true
  | 0, h => by
    rw [fed_0, decide_eq_true_eq] at h
    subst h
    exact h2
  | x + 1, h => by
    rw [fed] at h
    rw [Bool.or_eq_true, decide_eq_true_eq] at h
    rcases h with h | h
    · subst h
      exact h2
    · have := fed_trans h2 _ h
      rw [fed, this, Bool.or_true]
termination_by i => i
decreasing_by exact Nat.lt_succ_of_le (Nat.min_le_right _ _)
theorem ded_fed {par : Nat → Nat} {op : Nat → Bool} {k : Nat} (h2 : ded par op k = true) : ∀ i, fed par i k = true → ded par op i = true
  | 0, h => by
    rw [fed_0, decide_eq_true_eq] at h
    subst h
    exact h2
  | x + 1, h => by
    rw [fed] at h
    rw [Bool.or_eq_true, decide_eq_true_eq] at h
    rcases h with h | h
    · subst h
      exact h2
    · have := ded_fed h2 _ h
      rw [ded, this, Bool.or_true]
termination_by i => i
decreasing_by exact Nat.lt_succ_of_le (Nat.min_le_right _ _)
theorem fed_child {par : Nat → Nat} {n k : Nat} (hp : okp par n) : ∀ i, i < n → fed par i k = (decide (i = k) || orb (fun c => decide (k < c ∧ par c = k) && fed par i c) n) := by
  intro i
  induction i using Nat.strongRecOn with
  | ind i ih =>
    intro hi
    rw [Bool.eq_iff_iff, Bool.or_eq_true, decide_eq_true_eq, orb_iff]
    constructor
    · intro h
      by_cases hik : i = k
      · exact Or.inl hik
      · by_cases h0 : i = 0
        · subst h0
          rw [fed_0, decide_eq_true_eq] at h
          exact absurd h.symm hik
        · have hpi := hp i (by omega) hi
          rw [fed_s (by omega) hpi, Bool.or_eq_true, decide_eq_true_eq] at h
          rcases h with h | h
          · exact absurd h.symm hik
          · rw [ih (par i) hpi (by omega), Bool.or_eq_true, decide_eq_true_eq, orb_iff] at h
            rcases h with h | ⟨c, c1, c2⟩
            · refine Or.inr ⟨i, hi, ?_⟩
              rw [Bool.and_eq_true, decide_eq_true_eq]
              exact ⟨⟨by omega, h⟩, fed_self par i⟩
            · rw [Bool.and_eq_true] at c2
              refine Or.inr ⟨c, c1, ?_⟩
              rw [Bool.and_eq_true]
              refine ⟨c2.1, ?_⟩
              rw [fed_s (by omega) hpi, c2.2, Bool.or_true]
    · rintro (h | ⟨c, c1, c2⟩)
      · subst h
        exact fed_self par i
      · rw [Bool.and_eq_true, decide_eq_true_eq] at c2
        obtain ⟨⟨c3, c4⟩, c5⟩ := c2
        refine fed_trans ?_ i c5
        rw [fed_s (by omega) (by omega), c4, fed_self, Bool.or_true]
theorem sm_term {e : Nat → Nat} {k : Nat} : ∀ {n : Nat}, k < n → e k ≤ sm e n
  | 0, h => absurd h (by omega)
  | n + 1, h => by
    show e k ≤ sm e n + e n
    by_cases hk : k = n
    · subst hk
      omega
    · have := sm_term (e := e) (k := k) (n := n) (by omega)
      omega
theorem Cc_dead {row : zA} {m k : Nat} {par pl cu : Nat → Nat} (hd : ded par (bt (row 7)) k = true) : Cc row m par pl cu k = 0 := by
  unfold Cc crt
  refine sm_z fun i _ => ?_
  by_cases hf : fed par (pl i) k = true
  · have := ded_fed hd _ hf
    simp [wgt, this]
  · have : fed par (pl i) k = false := by simpa using hf
    rw [this]
    rfl
theorem Cc_rec {row : zA} {n m T X k : Nat} {par pl cu : Nat → Nat} (h : INV row n m T X par pl cu) : sm (fun c => if k < c ∧ par c = k then Cc row m par pl cu c else 0) n + sm (fun i => if pl i = k then wgt (bt (row 6)) (ded par (bt (row 7))) pl cu i else 0) m = Cc row m par pl cu k := by
  have e := crt_rec (w := wgt (bt (row 6)) (ded par (bt (row 7))) pl cu) h.P.2.2.1 (m := m) (fun i hi => (h.Q.2.2 i hi).1) k
  unfold Cc
  rw [e, Nat.add_comm]
  congr 1
  apply sm_congr
  intro c hc
  by_cases hq : 0 < c ∧ par c = k
  · have := h.P.2.2.1 c hq.1 hc
    rw [if_pos hq, if_pos ⟨by omega, hq.2⟩]
  · rw [if_neg hq, if_neg (fun q => hq ⟨by omega, q.2⟩)]
theorem zmx_1l (x : Int32) : ¬ zmx 1 x < 1 := by
  unfold zmx
  by_cases h : (1 : Int32) < x
  · rw [if_pos h]
    exact fun g => Int32.lt_irrefl (Int32.lt_trans h g)
  · rw [if_neg h]
    decide
theorem mlt_1 (r q s : Int32) : ¬ mlt r q s < 1 := by
  unfold mlt
  exact zmx_1l _
theorem st_2 {row : zA} {k : Nat} : (stV row k = 2) = (bt (row 7) k = true) := by
  unfold stV
  cases h : bt (row 7) k
  · by_cases h2 : row (47 + k) ≤ 0
    · simp [h2]
    · simp [h2]
  · simp
theorem st_1 {row : zA} {n m T X k : Nat} {par pl cu : Nat → Nat} (h : INV row n m T X par pl cu) (hk : k < n) : (stV row k = 1) = (brB row k = true) := by
  obtain ⟨a, ha, ea, hop⟩ := h.af k hk
  unfold stV brB
  by_cases h2 : row (47 + k) ≤ 0
  · cases h1 : bt (row 7) k <;> simp [h2]
  · rw [ea, le0 (by omega)] at h2
    have h1 := hop (by omega)
    rw [h1, ea]
    have h3 : ¬ nI a ≤ 0 := by rw [le0 (by omega)]; omega
    simp [h3]
theorem st_0 {row : zA} {n m T X k : Nat} {par pl cu : Nat → Nat} (h : INV row n m T X par pl cu) (hX : X < 1000000) (hk : k < n) (h0 : ¬ stV row k = 0) : ¬ row (87 + k) = 0 := by
  obtain ⟨e, e1, e2, e3, e4, e5⟩ := h.bl
  have hle := sm_term (e := e) hk
  have hpos : 0 < e k := by
    refine e4 k hk ?_
    unfold stV at h0
    cases h1 : bt (row 7) k
    · refine Or.inr fun q => h0 ?_
      rw [h1, q]
      rfl
    · exact Or.inl rfl
  rw [e3 k hk, eq0 (by omega)]
  omega
section BD
variable {row : zA} {n m T X k : Nat} {par pl cu : Nat → Nat}
theorem bd_228 (h : INV row n m T X par pl cu) (hk : k < n) (K : Int32 → Int32 → Int32 → Int32 → Int32 → zA → zA → zA → zA → Option (Int32 × zA)) (l1 l2 l3 l4 l6 l7 l9 : Int32) (S0 : Nat) (nf pf ff : zA) : ∀ (j i fuel : Nat), m = i + j → j < fuel →
    B_L_boards_228 K fuel l1 l2 l3 l4 (nI k) l6 l7 (nI (S0 + sm (fun i => if pl i = k then wgt (bt (row 6)) (ded par (bt (row 7))) pl cu i else 0) i)) l9 (nI i) row nf pf ff = B_L_boards_290 K (if k = 0 then 1 else 0) l1 l2 l3 l4 (nI k) l6 l7 (nI (S0 + sm (fun i => if pl i = k then wgt (bt (row 6)) (ded par (bt (row 7))) pl cu i else 0) m)) l9 row nf pf ff := by
  have hn := h.n10
  have hm := h.m14
  intro j
  induction j with
  | zero =>
    intro i fuel hi hf
    obtain ⟨f, rfl⟩ : ∃ f, fuel = f + 1 := ⟨fuel - 1, by omega⟩
    have e : m = i := by omega
    subst e
    rw [B_L_boards_228, cn_2 h, b2s, if_pos (show nI m ≤ nI m from Int32.le_refl _)]
    by_cases h0 : k = 0
    · rw [if_pos (show nI k = 0 by rw [h0]; rfl), if_pos h0]
    · rw [if_neg (show ¬ nI k = 0 by rw [eq0 (by omega)]; exact h0), if_neg h0]
  | succ j ih =>
    intro i fuel hi hf
    obtain ⟨f, rfl⟩ : ∃ f, fuel = f + 1 := ⟨fuel - 1, by omega⟩
    have ih2 := ih (i + 1) f (by omega) (by omega)
    rw [show sm (fun i => if pl i = k then wgt (bt (row 6)) (ded par (bt (row 7))) pl cu i else 0) (i + 1) = sm (fun i => if pl i = k then wgt (bt (row 6)) (ded par (bt (row 7))) pl cu i else 0) i + (if pl i = k then wgt (bt (row 6)) (ded par (bt (row 7))) pl cu i else 0) from rfl] at ih2
    have hpl := (h.Q.2.2 i (by omega)).1
    rw [B_L_boards_228, cn_2 h, b2s, if_neg (show ¬ nI m ≤ nI i by rw [le_nI (by omega) (by omega)]; omega), ol_0 h (by omega), b1s]
    by_cases hp : pl i = k
    · rw [if_pos hp] at ih2
      rw [if_pos (show nI (pl i) = nI k by rw [hp]), ol_1 h (by omega), b1s, ol_3 h (by omega), b1s]
      have e : nI (cu i) * b01 (wkB row par pl i) = nI (wgt (bt (row 6)) (ded par (bt (row 7))) pl cu i) := by
        unfold wkB wgt b01
        cases (bt (row 6) i && !ded par (bt (row 7)) (pl i))
        · simp only [Bool.false_eq_true, if_false]
          rw [L0, pk_mul, Nat.mul_zero]
        · simp only [if_true]
          rw [L1, pk_mul, Nat.mul_one]
      simp only [nmI, ra1]
      rw [e, nI_add, Nat.add_assoc]
      exact ih2
    · rw [if_neg hp, Nat.add_zero] at ih2
      rw [if_neg (show ¬ nI (pl i) = nI k by rw [eq_nI (by omega) (by omega)]; exact hp)]
      simp only [nmI, ra1, ra0, Nat.add_zero]
      exact ih2
theorem bd_154 (h : INV row n m T X par pl cu) (hk : k < n) (K : Int32 → Int32 → Int32 → Int32 → Int32 → zA → zA → zA → zA → Option (Int32 × zA)) (l1 l2 l3 l4 l6 l7 : Int32) (pf ff : zA) : ∀ (j o fuel : Nat) (set : Int32) (nf : zA), n = o + j → j < fuel → k < o → (∀ i, i < 32 → bt set i = (decide (i < n) && (decide (i = k) || orb (fun c => decide (k < c ∧ par c = k) && fed par i c) o))) →
    ∃ nf', B_L_boards_154 K fuel l1 l2 l3 l4 (nI k) l6 l7 (nI (sm (fun c => if k < c ∧ par c = k then Cc row m par pl cu c else 0) o)) set (nI o) row nf pf ff = B_L_boards_228 K FU l1 l2 l3 l4 (nI k) l6 l7 (nI (sm (fun c => if k < c ∧ par c = k then Cc row m par pl cu c else 0) n)) (mask (fun i => fed par i k) n) 0 row nf' pf ff := by
  have hn := h.n10
  intro j
  induction j with
  | zero =>
    intro o fuel set nf ho hf hko hs
    obtain ⟨f, rfl⟩ : ∃ f, fuel = f + 1 := ⟨fuel - 1, by omega⟩
    have e : n = o := by omega
    subst e
    refine ⟨nf, ?_⟩
    rw [B_L_boards_154, cn_1 h, b2s, if_pos (show nI n ≤ nI n from Int32.le_refl _)]
    rw [mask_is (f := fun i => fed par i k) (n := n) (m := set) (by omega) (fun i hi => by
      rw [hs i hi]
      by_cases hin : i < n
      · rw [fed_child h.P.2.2.1 i hin]
      · simp [hin])]
  | succ j ih =>
    intro o fuel set nf ho hf hko hs
    obtain ⟨f, rfl⟩ : ∃ f, fuel = f + 1 := ⟨fuel - 1, by omega⟩
    have hpo := h.P.2.2.1 o (by omega) (by omega)
    have e0 : (if o = 0 then (-6 : Int32) else nI (par o)) = nI (par o) := if_neg (by omega)
    rw [B_L_boards_154, cn_1 h, b2s, if_neg (show ¬ nI n ≤ nI o by rw [le_nI (by omega) (by omega)]; omega), of_0 h (by omega), b2s, e0]
    by_cases hp : par o = k
    · rw [if_pos (show nI (par o) = nI k by rw [hp]), of_4 h (by omega), b2s]
      obtain ⟨nf', g⟩ := ih (o + 1) f (set ||| mask (fun i => fed par i o) n) (flT row nf) (by omega) (by omega) (by omega) (fun i hi => by
        rw [bt_or, hs i hi, bt_mask _ (by omega) hi, show orb (fun c => decide (k < c ∧ par c = k) && fed par i c) (o + 1) = (orb (fun c => decide (k < c ∧ par c = k) && fed par i c) o || (decide (k < o ∧ par o = k) && fed par i o)) from rfl]
        have : k < o ∧ par o = k := ⟨hko, hp⟩
        simp only [this, and_self, decide_true, Bool.true_and]
        cases decide (i < n) <;> cases decide (i = k) <;> simp)
      refine ⟨nf', ?_⟩
      unfold B_L_boards_189
      rw [of_0 h (by omega), e0]
      simp only [b2s, nmI, ra1]
      rw [if_pos (show nI (par o) = nI k by rw [hp]), fd_ok h (by omega), b1s, nI_add]
      rw [show sm (fun c => if k < c ∧ par c = k then Cc row m par pl cu c else 0) (o + 1) = sm (fun c => if k < c ∧ par c = k then Cc row m par pl cu c else 0) o + (if k < o ∧ par o = k then Cc row m par pl cu o else 0) from rfl, if_pos ⟨hko, hp⟩] at g
      exact g
    · rw [if_neg (show ¬ nI (par o) = nI k by rw [eq_nI (by omega) (by omega)]; exact hp)]
      obtain ⟨nf', g⟩ := ih (o + 1) f (set ||| 0) nf (by omega) (by omega) (by omega) (fun i hi => by
        rw [bt_or, bt_0, Bool.or_false, hs i hi, show orb (fun c => decide (k < c ∧ par c = k) && fed par i c) (o + 1) = (orb (fun c => decide (k < c ∧ par c = k) && fed par i c) o || (decide (k < o ∧ par o = k) && fed par i o)) from rfl]
        have : ¬ (k < o ∧ par o = k) := fun q => hp q.2
        simp only [this, decide_false, Bool.false_and, Bool.or_false])
      refine ⟨nf', ?_⟩
      unfold B_L_boards_189
      rw [of_0 h (by omega), e0]
      simp only [b2s, nmI, ra1, ra0, Nat.add_zero]
      rw [if_neg (show ¬ nI (par o) = nI k by rw [eq_nI (by omega) (by omega)]; exact hp)]
      rw [show sm (fun c => if k < c ∧ par c = k then Cc row m par pl cu c else 0) (o + 1) = sm (fun c => if k < c ∧ par c = k then Cc row m par pl cu c else 0) o + (if k < o ∧ par o = k then Cc row m par pl cu o else 0) from rfl, if_neg (fun q : k < o ∧ par o = k => hp q.2), Nat.add_zero] at g
      exact g
theorem bd_463 (h : INV row n m T X par pl cu) (hX : X < 1000000) (hk : k < n) (K : Int32 → Int32 → Int32 → Int32 → Int32 → zA → zA → zA → zA → Option (Int32 × zA)) (s l1 l2 l3 l4 : Int32) (nf pf ff : zA) : B_L_boards_463 K s s l1 l2 l3 l4 (nI k) row nf pf ff = K l1 l2 l3 l4 (nI (k + 1)) row nf pf ff := by
  have e487 : B_L_boards_487 K l1 l2 l3 l4 (nI k) row nf pf ff = K l1 l2 l3 l4 (nI (k + 1)) row nf pf ff := by
    unfold B_L_boards_487
    rw [of_2 h hk, b2s]
    simp only [nmI, ra1]
    by_cases h2 : row (37 + k) = 2
    · rw [if_pos h2]
    · rw [if_neg h2, of_7 h hk, b2s, if_pos (h.sp k hk h2)]
  unfold B_L_boards_463
  rw [if_pos rfl, of_3 h hk, b2s]
  by_cases h0 : stV row k = 0
  · rw [if_pos h0, e487]
  · rw [if_neg h0, of_11 h hk, b2s, if_neg (st_0 h hX hk h0), e487]
theorem bd_386 (h : INV row n m T X par pl cu) (hX : X < 1000000) (hk : k < n) (K : Int32 → Int32 → Int32 → Int32 → Int32 → zA → zA → zA → zA → Option (Int32 × zA)) (l1 l2 l3 l4 : Int32) (nf pf ff : zA) : B_L_boards_386 K l1 l2 l3 l4 (nI k) (mask (fun i => fed par i k) n) row nf pf ff = K l1 l2 l3 l4 (nI (k + 1)) row nf pf ff := by
  obtain ⟨t, ht, et⟩ := h.ht k hk
  unfold B_L_boards_386
  rw [fd_ok h hk, b1s, if_pos rfl, of_5 h hk, b2s, et, if_neg (show ¬ nI t < 0 by rw [lt0 (by omega)]; omega), of_5 h hk, b2s, et, if_neg (show ¬ (1000000 : Int32) < nI t by rw [gt1000000 (by omega)]; omega), of_6 h hk, b2s, if_neg (mlt_1 _ _ _), of_3 h hk, b2s]
  unfold B_L_boards_447
  by_cases h1 : stV row k = 1
  · rw [if_pos h1, of_10 h hk, b2s]
    rw [st_1 h hk] at h1
    unfold brB at h1
    rw [if_neg (show ¬ row (47 + k) ≤ 0 by simpa using h1)]
    exact bd_463 h hX hk K _ _ _ _ _ _ _ _
  · rw [if_neg h1, of_10 h hk, b2s]
    rw [st_1 h hk] at h1
    unfold brB at h1
    rw [if_pos (show row (47 + k) ≤ 0 by simpa using h1)]
    exact bd_463 h hX hk K _ _ _ _ _ _ _ _
theorem bd_290 (h : INV row n m T X par pl cu) (hX : X < 1000000) (hk : k < n) (K : Int32 → Int32 → Int32 → Int32 → Int32 → zA → zA → zA → zA → Option (Int32 × zA)) (l1 l2 l3 l4 : Int32) (nf pf ff : zA) : ∃ nf', B_L_boards_290 K (if k = 0 then 1 else 0) l1 l2 l3 l4 (nI k) (if k = 0 then -6 else nI (par k)) (b01 (ded par (bt (row 7)) k)) (nI (Cc row m par pl cu k)) (mask (fun i => fed par i k) n) row nf pf ff = K l1 l2 l3 l4 (nI (k + 1)) row nf' pf ff := by
  have hn := h.n10
  have e361 : B_L_boards_361 K (b01 (ded par (bt (row 7)) k)) (b01 (ded par (bt (row 7)) k)) l1 l2 l3 l4 (nI k) (b01 (ded par (bt (row 7)) k)) (nI (Cc row m par pl cu k)) (mask (fun i => fed par i k) n) row nf pf ff = K l1 l2 l3 l4 (nI (k + 1)) row (flT row nf) pf ff := by
    unfold B_L_boards_361
    rw [if_pos rfl, of_4 h hk, b2s, if_pos rfl, bd_386 h hX hk]
    cases hd : ded par (bt (row 7)) k
    · rw [if_pos (show b01 false = 0 from rfl)]
    · rw [if_neg (show ¬ b01 true = 0 by decide), Cc_dead hd, if_pos (show nI 0 = (0 : Int32) from rfl)]
  have e343 : B_L_boards_343 K l1 l2 l3 l4 (nI k) (b01 (ded par (bt (row 7)) k)) (nI (Cc row m par pl cu k)) (mask (fun i => fed par i k) n) row nf pf ff = K l1 l2 l3 l4 (nI (k + 1)) row (flT row nf) pf ff := by
    rw [← e361]
    unfold B_L_boards_343
    rw [of_8 h hk, b2s]
    cases hd : ded par (bt (row 7)) k
    · rw [if_pos (show b01 false = 0 from rfl)]
      rfl
    · rw [if_neg (show ¬ b01 true = 0 by decide)]
      rfl
  refine ⟨flT row nf, ?_⟩
  rw [← e343]
  unfold B_L_boards_290
  by_cases h0 : k = 0
  · rw [if_pos h0, if_pos h0, if_pos rfl]
    unfold B_L_boards_302
    rw [if_pos rfl, if_pos (show nI k ≤ 0 by rw [le0 (by omega)]; omega)]
  · have hpk := h.P.2.2.1 k (by omega) hk
    rw [if_neg h0, if_neg h0, if_neg (show ¬ nI (par k) = -6 by rw [nI_ne6 (by omega)]; exact fun q => q)]
    unfold B_L_boards_302
    rw [if_pos rfl, if_neg (show ¬ nI k ≤ 0 by rw [le0 (by omega)]; omega), if_neg (show ¬ nI (par k) < 0 by rw [lt0 (by omega)]; omega), if_neg (show ¬ nI k ≤ nI (par k) by rw [le_nI (by omega) (by omega)]; omega), of_9 h hk, b2s, of_9 h (by omega), b2s, if_pos (show nI (dpt par k) = nI (dpt par (par k)) + 1 by rw [ra1, dpt_s (by omega) hpk])]
theorem mask_b {f : Nat → Bool} {k : Nat} {c : Prop} [Decidable c] (h : c ↔ f k = true) : mask f k ||| (if c then (1 : Int32) <<< (nI k &&& 31) else 0) = mask f (k + 1) := by
  rw [mask_s]
  by_cases hc : c
  · rw [if_pos hc, if_pos (h.mp hc)]
  · rw [if_neg hc, if_neg (fun z => hc (h.mpr z))]
    simp
theorem bd_64 (h : INV row n m T X par pl cu) (hX : X < 1000000) {e : Nat → Nat} (he : ∀ k, k < n → row (87 + k) = nI (e k)) (hk : k < n) (K : Int32 → Int32 → Int32 → Int32 → Int32 → zA → zA → zA → zA → Option (Int32 × zA)) (nf pf ff : zA) : ∃ nf', B_L_boards_64 K (b01 (ded par (bt (row 7)) k)) (mask (ded par (bt (row 7))) k) (mask (bt (row 7)) k) (mask (brB row) k) (nI (sm e k)) (nI k) (if k = 0 then -6 else nI (par k)) row nf pf ff = K (mask (ded par (bt (row 7))) (k + 1)) (mask (bt (row 7)) (k + 1)) (mask (brB row) (k + 1)) (nI (sm e (k + 1))) (nI (k + 1)) row nf' pf ff := by
  have hn := h.n10
  have hm := h.m14
  have s1 : ∀ nf, B_L_boards_64 K (b01 (ded par (bt (row 7)) k)) (mask (ded par (bt (row 7))) k) (mask (bt (row 7)) k) (mask (brB row) k) (nI (sm e k)) (nI k) (if k = 0 then -6 else nI (par k)) row nf pf ff = B_L_boards_154 K FU (mask (ded par (bt (row 7))) (k + 1)) (mask (bt (row 7)) (k + 1)) (mask (brB row) (k + 1)) (nI (sm e (k + 1))) (nI k) (if k = 0 then -6 else nI (par k)) (b01 (ded par (bt (row 7)) k)) 0 ((1 : Int32) <<< (nI k &&& 31)) (nI (k + 1)) row nf pf ff := by
    intro nf
    have a1 := mask_b (f := ded par (bt (row 7))) (k := k) (c := ded par (bt (row 7)) k = true) Iff.rfl
    have a2 := mask_b (f := bt (row 7)) (k := k) (c := stV row k = 2) (by rw [st_2])
    have a3 := mask_b (f := brB row) (k := k) (c := stV row k = 1) (by rw [st_1 h hk])
    have t124 : ∀ x1 x2 : Int32, B_L_boards_124 K (if stV row k = 1 then (1 : Int32) <<< (nI k &&& 31) else 0) (mask (brB row) k) x1 x2 (nI (sm e k)) (nI k) (if k = 0 then -6 else nI (par k)) (b01 (ded par (bt (row 7)) k)) row nf pf ff = B_L_boards_154 K FU x1 x2 (mask (brB row) (k + 1)) (nI (sm e (k + 1))) (nI k) (if k = 0 then -6 else nI (par k)) (b01 (ded par (bt (row 7)) k)) 0 ((1 : Int32) <<< (nI k &&& 31)) (nI (k + 1)) row nf pf ff := by
      intro x1 x2
      unfold B_L_boards_124
      rw [a3, of_11 h hk, he k hk]
      simp only [nmI, b2s, nI_add, ra1]
      rfl
    have t102 : ∀ x1 : Int32, B_L_boards_102 K (if stV row k = 2 then (1 : Int32) <<< (nI k &&& 31) else 0) (mask (bt (row 7)) k) x1 (mask (brB row) k) (nI (sm e k)) (nI k) (if k = 0 then -6 else nI (par k)) (b01 (ded par (bt (row 7)) k)) row nf pf ff = B_L_boards_154 K FU x1 (mask (bt (row 7)) (k + 1)) (mask (brB row) (k + 1)) (nI (sm e (k + 1))) (nI k) (if k = 0 then -6 else nI (par k)) (b01 (ded par (bt (row 7)) k)) 0 ((1 : Int32) <<< (nI k &&& 31)) (nI (k + 1)) row nf pf ff := by
      intro x1
      rw [← t124]
      unfold B_L_boards_102
      rw [a2, of_3 h hk]
      simp only [nmI, b2s]
      by_cases h1 : stV row k = 1
      · rw [if_pos h1, if_pos h1]
      · rw [if_neg h1, if_neg h1]
    have t80 : B_L_boards_80 K (if ded par (bt (row 7)) k = true then (1 : Int32) <<< (nI k &&& 31) else 0) (mask (ded par (bt (row 7))) k) (mask (bt (row 7)) k) (mask (brB row) k) (nI (sm e k)) (nI k) (if k = 0 then -6 else nI (par k)) (b01 (ded par (bt (row 7)) k)) row nf pf ff = B_L_boards_154 K FU (mask (ded par (bt (row 7))) (k + 1)) (mask (bt (row 7)) (k + 1)) (mask (brB row) (k + 1)) (nI (sm e (k + 1))) (nI k) (if k = 0 then -6 else nI (par k)) (b01 (ded par (bt (row 7)) k)) 0 ((1 : Int32) <<< (nI k &&& 31)) (nI (k + 1)) row nf pf ff := by
      rw [← t102]
      unfold B_L_boards_80
      rw [a1, of_3 h hk]
      simp only [nmI, b2s]
      by_cases h1 : stV row k = 2
      · rw [if_pos h1, if_pos h1]
      · rw [if_neg h1, if_neg h1]
    rw [← t80]
    unfold B_L_boards_64
    cases hd : ded par (bt (row 7)) k
    · rw [if_pos (show b01 false = 0 from rfl), if_neg (show ¬ false = true by decide)]
    · rw [if_neg (show ¬ b01 true = 0 by decide), if_pos (show true = true from rfl)]
  have z0 : sm (fun c => if k < c ∧ par c = k then Cc row m par pl cu c else 0) (k + 1) = 0 := sm_z fun c hc => if_neg (by omega)
  obtain ⟨nf1, g1⟩ := bd_154 h hk K (mask (ded par (bt (row 7))) (k + 1)) (mask (bt (row 7)) (k + 1)) (mask (brB row) (k + 1)) (nI (sm e (k + 1))) (if k = 0 then -6 else nI (par k)) (b01 (ded par (bt (row 7)) k)) pf ff (n - (k + 1)) (k + 1) FU ((1 : Int32) <<< (nI k &&& 31)) nf (by omega) (FU_lt (by omega)) (by omega) (fun i hi => by
    rw [bt_shl1 (by omega) hi]
    by_cases hik : i = k
    · subst hik
      simp [hk]
    · have : orb (fun c => decide (k < c ∧ par c = k) && fed par i c) (k + 1) = false := by
        rw [Bool.eq_false_iff]
        intro q
        obtain ⟨c, c1, c2⟩ := orb_iff.mp q
        rw [Bool.and_eq_true, decide_eq_true_eq] at c2
        omega
      rw [this]
      simp [hik])
  rw [z0] at g1
  have g2 := bd_228 h hk K (mask (ded par (bt (row 7))) (k + 1)) (mask (bt (row 7)) (k + 1)) (mask (brB row) (k + 1)) (nI (sm e (k + 1))) (if k = 0 then -6 else nI (par k)) (b01 (ded par (bt (row 7)) k)) (mask (fun i => fed par i k) n) (sm (fun c => if k < c ∧ par c = k then Cc row m par pl cu c else 0) n) nf1 pf ff m 0 FU (by omega) (FU_lt (by omega))
  rw [Cc_rec h, show sm (fun i => if pl i = k then wgt (bt (row 6)) (ded par (bt (row 7))) pl cu i else 0) 0 = 0 from rfl, Nat.add_zero] at g2
  obtain ⟨nf2, g3⟩ := bd_290 h hX hk K (mask (ded par (bt (row 7))) (k + 1)) (mask (bt (row 7)) (k + 1)) (mask (brB row) (k + 1)) (nI (sm e (k + 1))) nf1 pf ff
  exact ⟨nf2, ((s1 nf).trans (g1.trans g2)).trans g3⟩
theorem bd_12 (h : INV row n m T X par pl cu) (hX : X < 1000000) {e : Nat → Nat} (he : ∀ k, k < n → row (87 + k) = nI (e k)) (h8 : row 8 = nI (sm e n)) (pf ff : zA) : ∀ (j k fuel : Nat) (nf : zA), n = k + j → j < fuel → ∃ nf', B_L_boards_12 fuel (mask (ded par (bt (row 7))) k) (mask (bt (row 7)) k) (mask (brB row) k) (nI (sm e k)) (nI k) row nf pf ff = some (1, nf') := by
  have hn := h.n10
  intro j
  induction j with
  | zero =>
    intro k fuel nf hk hf
    obtain ⟨f, rfl⟩ : ∃ f, fuel = f + 1 := ⟨fuel - 1, by omega⟩
    have e0 : n = k := by omega
    subst e0
    have e7 : row 7 = mask (bt (row 7)) n := mask_is (by omega) fun j hj => by
      by_cases hjn : j < n
      · simp [hjn]
      · rw [h.P.2.2.2.2 j (by omega)]
        simp [hjn]
    rw [B_L_boards_12, cn_1 h, b2s, if_pos (show nI n ≤ nI n from Int32.le_refl _), cn_3 h, b2s, if_pos rfl, cn_5 h, b2s, if_pos e7, cn_6 h, b2s, if_pos rfl, cn_7 h, b2s, if_pos h8, cn_8 h, b2s, cn_1 h, b2s]
    unfold B_L_boards_580
    by_cases h0 : n = 0
    · rw [if_pos (show nI n = 0 by rw [h0]; rfl), if_pos h0, if_pos rfl]
      exact ⟨_, rfl⟩
    · rw [if_neg (show ¬ nI n = 0 by rw [eq0 (by omega)]; exact h0), if_neg h0, L0, of_4 h (by omega), b2s, if_pos rfl]
      exact ⟨_, rfl⟩
  | succ j ih =>
    intro k fuel nf hk hf
    obtain ⟨f, rfl⟩ : ∃ f, fuel = f + 1 := ⟨fuel - 1, by omega⟩
    have hkn : k < n := by omega
    obtain ⟨nf1, g⟩ := bd_64 h hX he hkn (fun z0 z1 z2 z3 z4 z5 z6 z7 z8 => B_L_boards_12 f z0 z1 z2 z3 z4 z5 z6 z7 z8) nf pf ff
    obtain ⟨nf2, g2⟩ := ih (k + 1) f nf1 (by omega) (by omega)
    refine ⟨nf2, ?_⟩
    have key : B_L_boards_12 (f + 1) (mask (ded par (bt (row 7))) k) (mask (bt (row 7)) k) (mask (brB row) k) (nI (sm e k)) (nI k) row nf pf ff = B_L_boards_64 (fun z0 z1 z2 z3 z4 z5 z6 z7 z8 => B_L_boards_12 f z0 z1 z2 z3 z4 z5 z6 z7 z8) (b01 (ded par (bt (row 7)) k)) (mask (ded par (bt (row 7))) k) (mask (bt (row 7)) k) (mask (brB row) k) (nI (sm e k)) (nI k) (if k = 0 then -6 else nI (par k)) row nf pf ff := by
      rw [B_L_boards_12, cn_1 h, b2s, if_neg (show ¬ nI n ≤ nI k by rw [le_nI (by omega) (by omega)]; omega), of_0 h hkn, b2s, of_3 h hkn, b2s]
      unfold B_L_boards_59 B_L_boards_63
      by_cases h2 : stV row k = 2
      · have hb : bt (row 7) k = true := by rw [← st_2]; exact h2
        have hd : ded par (bt (row 7)) k = true := by
          by_cases h0 : k = 0
          · subst h0
            rw [ded_0, hb]
          · rw [ded_s (by omega) (h.P.2.2.1 k (by omega) hkn), hb, Bool.true_or]
        rw [if_pos h2, hd]
        rfl
      · have hb : bt (row 7) k = false := by
          cases hq : bt (row 7) k with
          | false => rfl
          | true => exact absurd (by rw [st_2]; exact hq) h2
        rw [if_neg h2]
        by_cases h0 : k = 0
        · subst h0
          rw [if_pos (show (if (0 : Nat) = 0 then (-6 : Int32) else nI (par 0)) < 0 by rw [if_pos rfl]; decide), ded_0, hb]
          rfl
        · have hpk := h.P.2.2.1 k (by omega) hkn
          rw [if_neg h0, if_neg (show ¬ nI (par k) < 0 by rw [lt0 (by omega)]; omega), of_8 h (by omega), b2s, ded_s (by omega) hpk, hb, Bool.false_or]
          cases ded par (bt (row 7)) (par k)
          · rw [if_neg (show ¬ b01 false = 1 by decide)]
            rfl
          · rw [if_pos (show b01 true = 1 from rfl)]
            rfl
    rw [key, g]
    exact g2
theorem bd_ok (h : INV row n m T X par pl cu) (hX : X < 1000000) (nf pf ff : zA) : ∃ nf', f_L_boards row nf pf ff = some (1, nf') := by
  have hn := h.n10
  obtain ⟨e, e1, e2, e3, e4, e5⟩ := h.bl
  exact bd_12 h hX e3 e2 pf ff n 0 FU nf (by omega) (FU_lt (by omega))
end BD
