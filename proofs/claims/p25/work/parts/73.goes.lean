/-! The law: the next fuse blows when it was told -/
theorem tkH_fr {n : Nat} {C : Nat → Nat} {row : zA} {j : Nat} (hn : n ≤ 10) (h1 : j < 47 ∨ 87 ≤ j) (h2 : j ≠ 7) : tkH n C row j = row j := by
  unfold tkH
  rw [htT_fr n hn j (by omega), bnT_fr n hn j (by omega) h2]
section GOES
variable {row : zA} {n m T X : Nat} {par pl cu : Nat → Nat}
theorem TR_lo (hn : n ≤ 10) {j : Nat} (hj : j < 7) (h3 : j ≠ 3) : TR n m par pl cu row j = row j := by
  unfold TR tkR
  rw [upd_ne h3, blT_fr n hn j (by omega), tkH_fr hn (by omega) (by omega)]
theorem TR_8 (hn : n ≤ 10) (h0 : TM n m par pl cu row = 0) : TR n m par pl cu row 8 = row 8 := by
  have e : tkM n par (Cc row m par pl cu) row = 0 := h0
  unfold TR tkR
  rw [upd_ne (by omega), e, blT_0, tkH_fr hn (by omega) (by omega)]
theorem TI_8 (hn : n ≤ 10) : ∀ (i : Nat) (row : zA), (∀ i', i' < i → TM n m par pl cu (TI n m par pl cu i' row) = 0) → TI n m par pl cu i row 8 = row 8
  | 0, _, _ => rfl
  | i + 1, row, h => by
    show TI n m par pl cu i (TR n m par pl cu row) 8 = row 8
    rw [TI_8 hn i _ (fun i' hi' => h (i' + 1) (by omega)), TR_8 hn (show TM n m par pl cu row = 0 from h 0 (by omega))]
/-- what a blown fuse is like -/
theorem TR_blown (h : INV row n m T X par pl cu) {k : Nat} (hb : bt (TM n m par pl cu row) k = true) : k < n ∧ TR n m par pl cu row (87 + k) = row (87 + k) + 1 ∧ TR n m par pl cu row (47 + k) = row 0 ∧ stV (TR n m par pl cu row) k = (if row 0 = 0 then 2 else 1) ∧ ¬ TR n m par pl cu row (57 + k) < mlt (TR n m par pl cu row (27 + k)) (TR n m par pl cu row (37 + k)) (TR n m par pl cu row (67 + k)) := by
  have hn := h.n10
  obtain ⟨hk, hot⟩ := tk_bit hn hb
  have hws := hotb_ws hot
  have e0 : tkH n (Cc row m par pl cu) row 0 = row 0 := tkH_fr hn (by omega) (by omega)
  have a1 : TR n m par pl cu row (87 + k) = row (87 + k) + 1 := by
    unfold TR tkR
    rw [upd_ne (by omega), blT_e n hn k (by omega), if_pos ⟨hk, hb⟩, tkH_fr hn (by omega) (by omega)]
  have a2 : TR n m par pl cu row (47 + k) = row 0 := by
    unfold TR tkR
    rw [upd_ne (by omega), blT_a n hn k (by omega), if_pos ⟨hk, hb⟩, e0]
  have a3 : bt (TR n m par pl cu row 7) k = decide (row 0 = 0) := by
    unfold TR tkR
    rw [upd_ne (by omega), blT_o n hn k (by omega), e0]
    unfold ws at hws
    rw [Bool.and_eq_true] at hws
    have w1 : bt (tkH n (Cc row m par pl cu) row 7) k = false := by simpa using hws.1
    rw [w1, show bt (tkM n par (Cc row m par pl cu) row) k = true from hb]
    simp [hk]
  refine ⟨hk, a1, a2, ?_, ?_⟩
  · obtain ⟨a, ha, ea⟩ := h.arc
    unfold stV
    rw [a3, a2]
    by_cases h0 : row 0 = 0
    · simp [h0]
    · rw [if_neg h0, if_neg (by simp [h0]), if_neg]
      rw [ea, le0 (by omega)]
      intro q
      rw [ea, eq0 (by omega)] at h0
      omega
  · unfold TR tkR
    rw [upd_ne (by omega), upd_ne (by omega), upd_ne (by omega), upd_ne (by omega), blT_fr n hn (57 + k) (by omega), blT_fr n hn (27 + k) (by omega), blT_fr n hn (37 + k) (by omega), blT_fr n hn (67 + k) (by omega)]
    unfold hotb at hot
    rw [Bool.and_eq_true] at hot
    simpa using hot.2
theorem gs_279 (h : INV row n m T X par pl cu) (hX : X < 1000000) {pv : Int64} (hpv : ∀ nf pf ff, ∃ nf', f_L_print row nf pf ff = some (pv, nf')) {r : zA} (hr : FAR r) {sl : Nat → zA} {sv kp : zA} (hsl : sl 1 = kpn row kp) (hsv : sv 1 = 1) {ff : zA} {sp u : Nat} (hf : FFo ff sp u) (nf tr tf pf : zA) (hi : Nat → zA) : ∃ nf' hi' ff' sp' u', FFo ff' sp' u' ∧ B_L_goes_279 1 pv r nf tr tf pf hi sl sv ff = some (1, row, nf', tr, tf, hi', sl, sv, ff') := by
  have hn := h.n10
  have e := restore_ok (nr := r) (hi := hi) (sl := sl) (n := n) hf hsv hn (by rw [hsl]; exact (cpy_in (by omega)).trans h.r4)
  rw [hsl, show va_cpy (kpn row kp) r 0 0 125 = row from cpy_back h.far hr] at e
  obtain ⟨nf', g⟩ := hpv nf pf (bump ff sp u)
  refine ⟨nf', va_up hi sp (kpn r (hi sp)), bump ff sp u, (sp + 1) % 7, min 6 (u + 1), bump_ok hf, ?_⟩
  unfold B_L_goes_279
  rw [if_neg (by decide), e, b4s, if_neg (show ¬ nI n < 0 by rw [lt0 (by omega)]; omega), g, b2s, lg_same, if_pos rfl]
theorem gs_86 {i0 : Nat} {B k : Int32} {pv : Int64} (h : INV row n m T X par pl cu) (hT : T + 300 ≤ 9999) (hi0 : i0 ≤ 200) (hz : ∀ i', i' < i0 → TM n m par pl cu (TI n m par pl cu i' row) = 0) (tr tf pf : zA) (sl : Nat → zA) (sv : zA) : ∀ (left j fuel : Nat) (nf : zA) (hi : Nat → zA) (ff : zA) (sp u : Nat), i0 = j + left → left < fuel → FFo ff sp u → ∃ nf' hi' ff' sp' u', FFo ff' sp' u' ∧ B_L_goes_86 fuel k pv B 1 (nI left) (TI n m par pl cu j row) nf tr tf pf hi sl sv ff = B_L_goes_146 k pv B 1 (TI n m par pl cu i0 row) nf' tr tf pf hi' sl sv ff' := by
  intro left
  induction left using Nat.strongRecOn with
  | ind left ih =>
    intro j fuel nf hi ff sp u hj hfu hf
    obtain ⟨f, rfl⟩ : ∃ f, fuel = f + 1 := ⟨fuel - 1, by omega⟩
    have hI := TI_inv j T X row h
    by_cases h0 : left = 0
    · subst h0
      have ej : i0 = j := by omega
      subst ej
      refine ⟨nf, hi, ff, sp, u, hf, ?_⟩
      rw [B_L_goes_86, if_pos (show nI 0 ≤ (0 : Int32) by decide)]
    · have pz : ∀ a, a ≤ left → pcnt n m par pl cu a (TI n m par pl cu j row) = 0 := fun a ha => pcnt_0 a _ fun i hia => by
        rw [← TI_add]
        exact hz (j + i) (by omega)
      rw [B_L_goes_86, if_neg (show ¬ nI left ≤ 0 by rw [le0 (by omega)]; omega), if_neg (by decide)]
      by_cases h99 : left ≤ 99
      · rw [if_pos (show nI left ≤ 99 by rw [le99 (by omega)]; exact h99)]
        obtain ⟨nf1, g⟩ := pass_ok (a := left) hI (by omega) h99 (by omega) nf hi hf
        obtain ⟨nf2, hi2, ff2, sp2, u2, k1, k2⟩ := ih 0 (by omega) (j + left) f nf1 (va_up hi sp (kpn (TI n m par pl cu j row) (hi sp))) (bump ff sp u) _ _ (by omega) (by omega) (bump_ok hf)
        refine ⟨nf2, hi2, ff2, sp2, u2, k1, ?_⟩
        unfold B_L_goes_111
        rw [g, b5s, pz left (Nat.le_refl _), if_pos (show nI 0 = (0 : Int32) from rfl)]
        unfold B_L_goes_122
        rw [if_pos (show nI left ≤ 99 by rw [le99 (by omega)]; exact h99), pk_sub (Nat.le_refl left), Nat.sub_self]
        simp only [nmI]
        rw [← TI_add]
        exact k2
      · rw [if_neg (show ¬ nI left ≤ 99 by rw [le99 (by omega)]; exact h99)]
        obtain ⟨nf1, g⟩ := pass_ok (a := 99) hI (by omega) (by omega) (by omega) nf hi hf
        obtain ⟨nf2, hi2, ff2, sp2, u2, k1, k2⟩ := ih (left - 99) (by omega) (j + 99) f nf1 (va_up hi sp (kpn (TI n m par pl cu j row) (hi sp))) (bump ff sp u) _ _ (by omega) (by omega) (bump_ok hf)
        refine ⟨nf2, hi2, ff2, sp2, u2, k1, ?_⟩
        unfold B_L_goes_111
        rw [L99, g, b5s, pz 99 (by omega), if_pos (show nI 0 = (0 : Int32) from rfl)]
        unfold B_L_goes_122
        rw [if_neg (show ¬ nI left ≤ 99 by rw [le99 (by omega)]; exact h99), L99, pk_sub (by omega)]
        simp only [nmI]
        rw [← TI_add]
        exact k2
theorem fbA_0 (q : Nat) (b : Int32) : fbA 0 (some (q, b)) = nI q := by
  show (if (0 : Int32) = 0 then nI q else b) = nI q
  rw [if_pos rfl]
theorem fbA_1 (q : Nat) (b : Int32) : fbA 1 (some (q, b)) = b := by
  show (if (1 : Int32) = 0 then nI q else b) = b
  rw [if_neg (by decide)]
theorem gs_ok (h : INV row n m T X par pl cu) (hT : T + 300 ≤ 9999) (hX : X + 10000 < 1000000) {tr ff : zA} {sp u : Nat} (ht : FAR tr) (hf : FFo ff sp u) (nf tf pf : zA) (hi sl : Nat → zA) (sv : zA) : ∃ nf' tr' tf' hi' sl' sv' ff' sp' u', FFo ff' sp' u' ∧ FAR tr' ∧ f_L_goes row nf tr tf pf hi sl sv ff = some (1, row, nf', tr', tf', hi', sl', sv', ff') := by
  have hn := h.n10
  obtain ⟨tr1, tf1, ht1, n1⟩ := next_ok h ht (w := 0) (Or.inl rfl) tf
  obtain ⟨tr2, tf2, ht2, n2⟩ := next_ok h ht1 (w := 1) (Or.inr rfl) tf1
  cases ho : fb n m par pl cu 200 1 row with
  | none =>
    rw [ho] at n1 n2
    refine ⟨nf, tr2, tf2, hi, sl, sv, ff, sp, u, hf, ht2, ?_⟩
    unfold f_L_goes
    rw [n1, b3s, n2, b3s]
    show (if (0 : Int32) ≤ -6 then _ else if (-6 : Int32) = -6 then (if (-6 : Int32) = -6 then _ else _) else _) = _
    rw [if_neg (by decide), if_pos rfl, if_pos rfl]
  | some qb =>
    obtain ⟨q, b⟩ := qb
    obtain ⟨i, i1, i2, i3, i4, i5⟩ := fb_some 200 1 row q b ho
    have hIi := TI_inv i T X row h
    obtain ⟨k, k1, k2, k3, k4⟩ := TM_low hIi i4
    have eb : b = nI k := i5.trans k2
    rw [ho, fbA_0] at n1
    rw [ho, fbA_1, eb] at n2
    obtain ⟨pv, hpv⟩ := pr_ok h (by omega)
    obtain ⟨nf1, p1⟩ := hpv nf pf ff
    obtain ⟨e, e1, e2, -⟩ := h.bl
    -- the way up to the tick ahead of the blow
    obtain ⟨nf2, hi2, ff2, sp2, u2, f2, g2⟩ := gs_86 (i0 := i) (B := row 8) (k := nI k) (pv := pv) h hT (by omega) i3 tr2 tf2 pf (va_up sl 1 (kpn row (sl 1))) (upd sv 1 1) i 0 FU nf1 hi ff sp u (by omega) (FU_lt (by omega)) hf
    have g2' : B_L_goes_86 FU (nI k) pv (row 8) 1 (nI i) row nf1 tr2 tf2 pf hi (va_up sl 1 (kpn row (sl 1))) (upd sv 1 1) ff = B_L_goes_146 (nI k) pv (row 8) 1 (TI n m par pl cu i row) nf2 tr2 tf2 pf hi2 (va_up sl 1 (kpn row (sl 1))) (upd sv 1 1) ff2 := g2
    -- the tick itself
    have hz1 : fb n m par pl cu 200 1 (TI n m par pl cu i row) = some (1, nI k) := by
      have := fb_at (n := n) (m := m) (par := par) (pl := pl) (cu := cu) 0 200 1 (TI n m par pl cu i row) (by omega) (fun i' hi' => absurd hi' (by omega)) i4
      rw [show TI n m par pl cu 0 (TI n m par pl cu i row) = TI n m par pl cu i row from rfl, k2] at this
      exact this
    obtain ⟨tr3, tf3, ht3, n3⟩ := next_ok hIi ht2 (w := 0) (Or.inl rfl) tf2
    obtain ⟨tr4, tf4, ht4, n4⟩ := next_ok hIi ht3 (w := 1) (Or.inr rfl) tf3
    rw [hz1, fbA_0] at n3
    rw [hz1, fbA_1] at n4
    obtain ⟨nf3, g3⟩ := pass_ok (a := 1) hIi (by omega) (by omega) (by omega) nf2 hi2 f2
    obtain ⟨t1, t2, t3, t4, t5⟩ := TR_blown hIi k4
    have hIr : INV (TR n m par pl cu (TI n m par pl cu i row)) n m (T + i + 1) (X + 10 * i + n) par pl cu := tick_inv hIi
    have e0 : TR n m par pl cu (TI n m par pl cu i row) 0 = TI n m par pl cu i row 0 := TR_lo hn (by omega) (by omega)
    have pc : 0 < pcnt n m par pl cu 1 (TI n m par pl cu i row) := by
      show 0 < cnt (TM n m par pl cu (TI n m par pl cu i row)) + 0
      have := cnt_pos (x := TM n m par pl cu (TI n m par pl cu i row)) (k := k) (by omega) k4
      omega
    have pl1 := pcnt_le (n := n) (m := m) (par := par) (pl := pl) (cu := cu) 1 (TI n m par pl cu i row)
    have e8 : TI n m par pl cu i row 8 = row 8 := TI_8 hn i row i3
    -- the way back
    obtain ⟨nf5, hi5, ff5, sp5, u5, f5, g5⟩ := gs_279 h (by omega) hpv (r := TR n m par pl cu (TI n m par pl cu i row)) hIr.far (sl := va_up sl 1 (kpn row (sl 1))) (sv := upd sv 1 1) (kp := sl 1) (if_pos rfl) (upd_eq _ _ _) (bump_ok f2) nf3 tr4 tf4 pf (va_up hi2 sp2 (kpn (TI n m par pl cu i row) (hi2 sp2)))
    refine ⟨nf5, tr4, tf4, hi5, va_up sl 1 (kpn row (sl 1)), upd sv 1 1, ff5, sp5, u5, f5, ht4, ?_⟩
    have g3' : f_X2_pass 1 (TI n m par pl cu i row) nf2 hi2 ff2 = some (nI (pcnt n m par pl cu 1 (TI n m par pl cu i row)), TR n m par pl cu (TI n m par pl cu i row), nf3, va_up hi2 sp2 (kpn (TI n m par pl cu i row) (hi2 sp2)), bump ff2 sp2 u2) := g3
    have n3' : f_X2_next 0 (TI n m par pl cu i row) tr2 tf2 = some (1, tr3, tf3) := n3
    unfold f_L_goes
    rw [n1, b3s, n2, b3s, if_pos (show (0 : Int32) ≤ nI q by rw [ge0 (by omega)]; omega), p1, b2s, cn_7 h, b2s, if_neg (show ¬ nI q ≤ 0 by rw [le0 (by omega)]; omega), if_neg (show ¬ (200 : Int32) < nI q by rw [gt200 (by omega)]; omega), if_neg (show ¬ nI k < 0 by rw [lt0 (by omega)]; omega), save_ok h.r4, b3s, cn_1 h, b2s, if_pos rfl]
    simp only [nmI]
    rw [nI_s1 (by omega), show q - 1 = i by omega, g2']
    unfold B_L_goes_146
    rw [if_pos (show (0 : Int32) ≤ nI k by rw [ge0 (by omega)]; omega), of_11 hIi k1, b2s]
    unfold B_L_goes_161
    rw [if_neg (by decide), cn_7 hIi, b2s, if_pos e8, n3', b3s, if_pos rfl, n4, b3s, if_pos rfl, g3', b5s, if_neg (show ¬ nI (pcnt n m par pl cu 1 (TI n m par pl cu i row)) ≤ 0 by rw [le0 (by omega)]; omega), of_11 hIr k1, b2s, if_pos t2, of_3 hIr k1, b2s, cn_9 hIr, b2s, e0, t4]
    have e239 : ∀ s : Int32, B_L_goes_239 s s (nI k) pv (TR n m par pl cu (TI n m par pl cu i row)) nf3 tr4 tf4 pf (va_up hi2 sp2 (kpn (TI n m par pl cu i row) (hi2 sp2))) (va_up sl 1 (kpn row (sl 1))) (upd sv 1 1) (bump ff2 sp2 u2) = some (1, row, nf5, tr4, tf4, hi5, va_up sl 1 (kpn row (sl 1)), upd sv 1 1, ff5) := by
      intro s
      unfold B_L_goes_239
      rw [if_pos rfl, of_10 hIr k1, b2s, cn_9 hIr, b2s, t3, e0, if_pos rfl, of_5 hIr k1, b2s, of_6 hIr k1, b2s, if_neg t5]
      exact g5
    by_cases h0 : TI n m par pl cu i row 0 = 0
    · rw [if_pos h0, if_pos h0]
      exact e239 2
    · rw [if_neg h0, if_neg h0]
      exact e239 1
end GOES
