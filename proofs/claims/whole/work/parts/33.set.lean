/-! Settings -/
theorem BR.setting {row s : zA} {n T X k : Nat} {par : Nat → Nat} {v : Int32} (h : BR row s 0 n T X par) (hk : k < 3) (h0 : k = 0 → ∃ a, a ≤ 9 ∧ v = nI a) (h1 : k = 1 → ∃ a, 1 ≤ a ∧ a ≤ 9 ∧ v = nI a) : BR (upd row k v) (upd s k v) 0 n T X par := by
  have r : ∀ j, j ≠ k → upd row k v j = row j := fun j h1 => upd_ne h1
  have q : ∀ j, j ≠ k → upd s k v j = s j := fun j h1 => upd_ne h1
  refine BR.mk h.n10 (by omega) ?_ ?_ ?_ ?_ ?_ ?_ ?_ ?_ h.par ?_ ?_ ?_ ?_ ?_ ?_ ?_ ?_ ?_ ?_ ?_
  · rw [r 4 (by omega)]; exact h.r4
  · rw [q _ (by omega)]; exact h.s4
  · intro j hj
    by_cases hjk : j = k
    · subst hjk
      rw [Nat.zero_add, upd_eq, upd_eq]
    · rw [r j hjk, q _ (by omega)]; exact h.st0 j hj
  · rw [r 3 (by omega)]; exact h.tm
  · by_cases hk0 : k = 0
    · obtain ⟨a, ha, e⟩ := h0 hk0
      subst hk0
      exact ⟨a, ha, by rw [upd_eq]; exact e⟩
    · rw [r 0 (by omega)]; exact h.arc
  · by_cases hk1 : k = 1
    · obtain ⟨a, ha, hb, e⟩ := h1 hk1
      subst hk1
      exact ⟨a, ha, hb, by rw [upd_eq]; exact e⟩
    · rw [r 1 (by omega)]; exact h.coo
  · rw [r 8 (by omega), q _ (by omega), q _ (by omega)]; exact h.bl
  · intro j hj; rw [r _ (by omega), q _ (by omega)]; exact h.lat j hj
  · intro j h0 hj; rw [r _ (by omega), q _ (by omega)]; exact h.fr j h0 hj
  · intro h0; rw [q _ (by omega)]; exact h.f0 h0
  · intro j hj; rw [r _ (by omega), q _ (by omega)]; exact h.rt j hj
  · intro j hj; rw [r _ (by omega), q _ (by omega)]; exact h.kd j hj
  · intro j hj; rw [r _ (by omega), r _ (by omega), q _ (by omega), q _ (by omega)]; exact h.hw j hj
  · intro j hj; rw [r _ (by omega), q _ (by omega)]; exact h.ht j hj
  · intro j hj; rw [r _ (by omega), q _ (by omega)]; exact h.sp j hj
  · intro j hj; rw [r _ (by omega), q _ (by omega)]; exact h.cr j hj
  · intro j hj; rw [r _ (by omega), q _ (by omega)]; exact h.he j hj
  · intro j hj; rw [r _ (by omega)]; exact h.op j hj
  · intro j hj h1; rw [r _ (by omega)]; exact h.h0 j hj h1
theorem LN.setting {row s : zA} {n m k : Nat} {v : Int32} (h : LN row s 0 n m) (hk : k < 3) : LN (upd row k v) (upd s k v) 0 n m := h.mv (upd_ne (by omega)) (upd_ne (by omega)) (fun j _ _ => upd_ne (by omega)) (upd_ne (by omega)) (fun j _ _ => upd_ne (by omega))
theorem op_set {nr s : zA} (h : HR nr s 0) (a1 a2 : Int32) : (f_X0_changeSetting a1 a2 nr = some (-2, nr) ∧ f_X3_isValue a1 a2 = some 0) ∨ (f_X3_isValue a1 a2 = some 1 ∧ ∃ k v : Nat, k < 3 ∧ v < 2 ^ 31 ∧ a1 = nI k ∧ s k = nI v ∧ f_X0_changeSetting a1 a2 nr = some (nI v, upd nr k a2) ∧ HR (upd nr k a2) (upd s k a2) 0) := by
  obtain ⟨n, m, T, par, hT, hg, h, hl⟩ := h
  obtain ⟨ar, har1, har2⟩ := h.arc
  obtain ⟨co, hco1, hco2, hco3⟩ := h.coo
  obtain ⟨ag, hag1, hag2, hag3⟩ := id hg
  have z : ∀ c : Bool, (b1 (some (if c then (1 : Int32) else 0)) fun v => zbo v (some v)) = some (if c then 1 else 0) := fun c => by cases c <;> rfl
  have dev : ∀ k : Nat, k < 3 → f_X0_changeSetting (nI k) a2 nr = if a2 < zLV k then some (-2, nr) else if a2 ≤ zMV k then some (nr k, upd nr k a2) else some (-2, nr) := by
    intro k hk
    unfold f_X0_changeSetting
    simp (disch := omega) only [gd_nI, nmI, b1s, b2s, b3s, b4s, b5s, b6s, b7s, le_nI, lt_nI, eq_nI, nI_add, Nat.add_zero, la9, la17, la27, la37, la47, la57, la67, la77, la87, la97, la111, la16, la106, la8, ra0, ra1, ra2, ra3, ra4, ra5, ra6, ra7, ra8, ra16, ra106, lm2, lm3, lm8, lm9, lm10, lm20, lm148, le0, ge0, lt0, gt0, eq0, le1, ge1, lt1, gt1, eq1, le2, ge2, lt2, gt2, eq2, le3, ge3, lt3, gt3, eq3, le4, ge4, lt4, gt4, eq4, le5, ge5, lt5, gt5, eq5, le6, ge6, lt6, gt6, eq6, le7, ge7, lt7, gt7, eq7, le8, ge8, lt8, gt8, eq8, le9, ge9, lt9, gt9, eq9, le10, ge10, lt10, gt10, eq10, le14, ge14, lt14, gt14, eq14, le16, ge16, lt16, gt16, eq16, le17, ge17, lt17, gt17, eq17, le20, ge20, lt20, gt20, eq20, le27, ge27, lt27, gt27, eq27, le37, ge37, lt37, gt37, eq37, le47, ge47, lt47, gt47, eq47, le50, ge50, lt50, gt50, eq50, le57, ge57, lt57, gt57, eq57, le67, ge67, lt67, gt67, eq67, le77, ge77, lt77, gt77, eq77, le80, ge80, lt80, gt80, eq80, le87, ge87, lt87, gt87, eq87, le97, ge97, lt97, gt97, eq97, le99, ge99, lt99, gt99, eq99, le100, ge100, lt100, gt100, eq100, le106, ge106, lt106, gt106, eq106, le111, ge111, lt111, gt111, eq111, le125, ge125, lt125, gt125, eq125, le148, ge148, lt148, gt148, eq148, le200, ge200, lt200, gt200, eq200, le300, ge300, lt300, gt300, eq300, le1332, ge1332, lt1332, gt1332, eq1332, le9999, ge9999, lt9999, gt9999, eq9999, le1000000, ge1000000, lt1000000, gt1000000, eq1000000, ]
    rw [if_neg (by omega), if_pos (by omega)]
  have key : ∀ (k : Nat) (L H : Int) (w : Nat), k < 3 → (zLV k).toInt = L → (zMV k).toInt = H → a1 = nI k → f_X3_isValue a1 a2 = some (if rng a2 L H then 1 else 0) → nr k = nI w → w < 2 ^ 31 → (rng a2 L H = true → HR (upd nr k a2) (upd s k a2) 0) →
      (f_X0_changeSetting a1 a2 nr = some (-2, nr) ∧ f_X3_isValue a1 a2 = some 0) ∨ (f_X3_isValue a1 a2 = some 1 ∧ ∃ k v : Nat, k < 3 ∧ v < 2 ^ 31 ∧ a1 = nI k ∧ s k = nI v ∧ f_X0_changeSetting a1 a2 nr = some (nI v, upd nr k a2) ∧ HR (upd nr k a2) (upd s k a2) 0) := by
    intro k L H w hk hL hH ha hv hw hw2 hh
    subst ha
    rw [dev k hk, two_cmp hL hH, hv]
    by_cases hr : rng a2 L H = true
    · right
      refine ⟨by rw [if_pos hr], k, w, hk, hw2, rfl, ?_, by rw [if_pos hr, hw], hh hr⟩
      rw [← hw, h.st0 k (by omega), Nat.zero_add]
    · left
      exact ⟨by rw [if_neg hr], by rw [if_neg hr]⟩
  by_cases c0 : a1 = 0
  · refine key 0 0 9 ar (by omega) (by decide) (by decide) c0 ?_ har2 (by omega) (fun hr => ?_)
    · unfold f_X3_isValue
      rw [if_pos c0, r_rng (L := 0) (H := 9) (by decide) (by decide)]
      exact z _
    · obtain ⟨a, -, ha, e⟩ := (rng_nI (l := 0) (h := 9) (by omega)).mp hr
      exact ⟨n, m, T, par, hT, hg.of (upd_ne (by omega)), h.setting (by omega) (fun _ => ⟨a, ha, e⟩) (fun q => by omega), hl.setting (by omega)⟩
  · by_cases c1 : a1 = 1
    · refine key 1 1 9 co (by omega) (by decide) (by decide) c1 ?_ hco3 (by omega) (fun hr => ?_)
      · unfold f_X3_isValue
        rw [if_neg c0, if_pos c1, r_rng (L := 1) (H := 9) (by decide) (by decide)]
        exact z _
      · obtain ⟨a, ha1, ha, e⟩ := (rng_nI (l := 1) (h := 9) (by omega)).mp hr
        exact ⟨n, m, T, par, hT, hg.of (upd_ne (by omega)), h.setting (by omega) (fun q => by omega) (fun _ => ⟨a, ha1, ha, e⟩), hl.setting (by omega)⟩
    · by_cases c2 : a1 = 2
      · refine key 2 1 50 ag (by omega) (by decide) (by decide) c2 ?_ hag3 (by omega) (fun hr => ?_)
        · unfold f_X3_isValue
          rw [if_neg c0, if_neg c1, if_pos c2, r_rng (L := 1) (H := 50) (by decide) (by decide)]
          exact z _
        · obtain ⟨a, ha1, ha, e⟩ := (rng_nI (l := 1) (h := 50) (by omega)).mp hr
          exact ⟨n, m, T, par, hT, ⟨a, ha1, ha, by rw [upd_eq]; exact e⟩, h.setting (by omega) (fun q => by omega) (fun q => by omega), hl.setting (by omega)⟩
      · left
        refine ⟨?_, ?_⟩
        · unfold f_X0_changeSetting
          by_cases d0 : a1 < 0
          · rw [if_pos d0]
          · rw [if_neg d0, if_neg]
            intro d2
            obtain ⟨k, hk, rfl⟩ := nI_of d0
            rw [le2 hk] at d2
            rw [eq0 hk] at c0
            rw [eq1 hk] at c1
            rw [eq2 hk] at c2
            omega
        · unfold f_X3_isValue
          rw [if_neg c0, if_neg c1, if_neg c2]
