/-! The law: boards at which the wrong fuse would go -/
def ffB (o : Option (Nat × Int32)) (k : Nat) : Bool := match o with
  | none => false
  | some (_, b) => !decide (b = nI k)
theorem or0 (x : Int32) : x ||| 0 = x := bt_ext fun j _ => by rw [bt_or, bt_0, Bool.or_false]
def OSP (row : zA) (n : Nat) (par : Nat → Nat) (t k : Nat) (o : Option (Nat × Int32)) : Prop := (∀ (w : Int32) (tr tf : zA), FAR tr → ∃ tr' tf', FAR tr' ∧ f_X2_tryFault (nI k) (nI t * row (27 + k)) w row tr tf = some (fbA w o, tr', tf')) ∧ ∀ q b, o = some (q, b) → ∃ k', b = nI k' ∧ k' < n ∧ fed par k k' = true
section FAULTS
variable {row : zA} {n m T X t : Nat} {par pl cu : Nat → Nat} {O : Nat → Option (Nat × Int32)}
theorem fa_18 (h : INV row n m T X par pl cu) (hO : ∀ k, k < n → OSP row n par t k (O k)) : ∀ (j k fuel : Nat) (tr tf : zA), n = k + j → j < fuel → FAR tr → ∃ tr' tf', FAR tr' ∧ B_X2_unfair_18 fuel (nI t) (mask (fun k => ffB (O k) k) k) (nI k) row tr tf = some (mask (fun k => ffB (O k) k) n, tr', tf') := by
  have hn := h.n10
  intro j
  induction j with
  | zero =>
    intro k fuel tr tf hk hf ht
    obtain ⟨f, rfl⟩ : ∃ f, fuel = f + 1 := ⟨fuel - 1, by omega⟩
    have e : n = k := by omega
    subst e
    refine ⟨tr, tf, ht, ?_⟩
    rw [B_X2_unfair_18, boards_ok h.r4, b1s, if_pos (show nI n ≤ nI n from Int32.le_refl _)]
  | succ j ih =>
    intro k fuel tr tf hk hf ht
    obtain ⟨f, rfl⟩ : ∃ f, fuel = f + 1 := ⟨fuel - 1, by omega⟩
    have hkn : k < n := by omega
    obtain ⟨o1, o2⟩ := hO k hkn
    obtain ⟨tr1, tf1, t1, g1⟩ := o1 1 tr tf ht
    obtain ⟨tr2, tf2, t2, g2⟩ := ih (k + 1) f tr1 tf1 (by omega) (by omega) t1
    refine ⟨tr2, tf2, t2, ?_⟩
    rw [mask_s] at g2
    have er : f_X0_rating (nI k) row = some (row (27 + k)) := by
      unfold f_X0_rating
      rw [isb_ok h hkn, b1s, if_neg (show ¬ (1 : Int32) = 0 by decide), la27, gd_nI (by omega) (by omega)]
    rw [B_X2_unfair_18, boards_ok h.r4, b1s, if_neg (show ¬ nI n ≤ nI k by rw [le_nI (by omega) (by omega)]; omega), er, b1s, g1, b3s]
    simp only [nmI, ra1]
    cases ho : O k with
    | none =>
      rw [ho] at g2
      rw [if_neg (show ¬ ffB none k = true by simp [ffB])] at g2
      rw [if_pos (show fbA 1 none = -6 from rfl)]
      exact g2
    | some qb =>
      obtain ⟨q, b⟩ := qb
      obtain ⟨k', eb, k1, -⟩ := o2 q b ho
      rw [ho] at g2
      rw [fbA_1, if_neg (show ¬ b = -6 by rw [eb, nI_ne6 (by omega)]; exact fun z => z)]
      by_cases hbk : b = nI k
      · rw [if_neg (show ¬ ffB (some (q, b)) k = true by simp [ffB, hbk])] at g2
        rw [if_pos hbk]
        exact g2
      · rw [if_pos (show ffB (some (q, b)) k = true by simp [ffB, hbk])] at g2
        rw [if_neg hbk]
        exact g2
theorem fa_4 (h : INV row n m T X par pl cu) (t2 : 2 ≤ t) (t20 : t ≤ 20) (hO : ∀ k, k < n → OSP row n par t k (O k)) (pf ff : zA) : ∀ (j k fuel : Nat) (nf tr tf : zA), n = k + j → j < fuel → FAR tr → ∃ nf' tr' tf', FAR tr' ∧ B_L_faults_4 fuel (nI t) (mask (fun k => ffB (O k) k) k) (nI k) row nf tr tf pf ff = some (1, nf', tr', tf') := by
  have hn := h.n10
  intro j
  induction j with
  | zero =>
    intro k fuel nf tr tf hk hf ht
    obtain ⟨f, rfl⟩ : ∃ f, fuel = f + 1 := ⟨fuel - 1, by omega⟩
    have e : n = k := by omega
    subst e
    obtain ⟨tr1, tf1, t1, g1⟩ := fa_18 h hO n 0 FU tr tf (by omega) (FU_lt (by omega)) ht
    refine ⟨nf, tr1, tf1, t1, ?_⟩
    have g1' : f_X2_unfair (nI t) row tr tf = some (mask (fun k => ffB (O k) k) n, tr1, tf1) := by
      unfold f_X2_unfair
      rw [if_neg (show ¬ nI t < 2 by rw [lt2 (by omega)]; omega), if_pos (show nI t ≤ 20 by rw [le20 (by omega)]; exact t20)]
      exact g1
    have z : mask (fun k => ffB (O k) k) n &&& 1 = 0 := bt_ext fun i hi => by
      rw [bt_and, bt_mask _ (by omega) hi, bt_1 i hi, bt_0]
      by_cases h0 : i = 0
      · subst h0
        by_cases hn0 : 0 < n
        · have : ffB (O 0) 0 = false := by
            cases ho : O 0 with
            | none => rfl
            | some qb =>
              obtain ⟨q, b⟩ := qb
              obtain ⟨k', eb, k1, k2⟩ := (hO 0 hn0).2 q b ho
              rw [fed_0, decide_eq_true_eq] at k2
              subst k2
              simp [ffB, eb]
          rw [this]
          simp
        · have : n = 0 := by omega
          simp [this]
      · simp [h0]
    rw [B_L_faults_4, cn_1 h, b2s, if_pos (show nI n ≤ nI n from Int32.le_refl _), g1', b3s, if_pos rfl, if_pos z]
  | succ j ih =>
    intro k fuel nf tr tf hk hf ht
    obtain ⟨f, rfl⟩ : ∃ f, fuel = f + 1 := ⟨fuel - 1, by omega⟩
    have hkn : k < n := by omega
    obtain ⟨o1, o2⟩ := hO k hkn
    obtain ⟨r, hr1, hr2, er⟩ := h.rt k hkn
    obtain ⟨tr1, tf1, t1, g1⟩ := o1 1 tr tf ht
    have htr1 : 1 ≤ t * r := Nat.mul_pos (by omega) hr1
    have htr2 : t * r ≤ 9999 := Nat.le_trans (Nat.mul_le_mul t20 hr2) (by omega)
    rw [er, pk_mul] at g1
    have g1' := test_yes h hkn htr1 htr2 (Or.inr rfl) g1
    obtain ⟨nf2, tr2, tf2, t2, g2⟩ := ih (k + 1) f nf tr1 tf1 (by omega) (by omega) t1
    refine ⟨nf2, tr2, tf2, t2, ?_⟩
    rw [mask_s] at g2
    rw [B_L_faults_4, cn_1 h, b2s, if_neg (show ¬ nI n ≤ nI k by rw [le_nI (by omega) (by omega)]; omega), of_1 h hkn, b2s, er, pk_mul, g1', b3s]
    simp only [nmI, ra1, or0]
    cases ho : O k with
    | none =>
      rw [ho] at g2
      rw [if_neg (show ¬ ffB none k = true by simp [ffB])] at g2
      rw [if_pos (show fbA 1 none < 0 by decide)]
      exact g2
    | some qb =>
      obtain ⟨q, b⟩ := qb
      obtain ⟨k', eb, k1, -⟩ := o2 q b ho
      rw [ho] at g2
      rw [fbA_1, if_neg (show ¬ b < 0 by rw [eb, lt0 (by omega)]; omega)]
      by_cases hbk : b = nI k
      · rw [if_neg (show ¬ ffB (some (q, b)) k = true by simp [ffB, hbk])] at g2
        rw [if_pos hbk]
        exact g2
      · rw [if_pos (show ffB (some (q, b)) k = true by simp [ffB, hbk])] at g2
        rw [if_neg hbk]
        exact g2
theorem fa_ok (h : INV row n m T X par pl cu) (t2 : 2 ≤ t) (t20 : t ≤ 20) {tr : zA} (ht : FAR tr) (nf tf pf ff : zA) : ∃ nf' tr' tf', FAR tr' ∧ f_L_faults (nI t) row nf tr tf pf ff = some (1, nf', tr', tf') := by
  have hn := h.n10
  have ex : ∀ k, ∃ o : Option (Nat × Int32), k < n → OSP row n par t k o := by
    intro k
    by_cases hk : k < n
    · obtain ⟨r, hr1, hr2, er⟩ := h.rt k hk
      have htr2 : t * r ≤ 9999 := Nat.le_trans (Nat.mul_le_mul t20 hr2) (by omega)
      obtain ⟨o, o1, o2⟩ := ts_ok h hk htr2
      refine ⟨o, fun _ => ⟨fun w tr tf ht => ?_, fun q b ho => ?_⟩⟩
      · rw [er, pk_mul]
        exact o1 w tr tf ht
      · obtain ⟨k', e1, e2, e3, e4, e5, -⟩ := o2 q b ho
        exact ⟨k', e1, e4, e5⟩
    · exact ⟨none, fun q => absurd q hk⟩
  obtain ⟨O, hO⟩ := Classical.skolem.mp ex
  exact fa_4 h t2 t20 hO pf ff n 0 FU nf tr tf (by omega) (FU_lt (by omega)) ht
end FAULTS
