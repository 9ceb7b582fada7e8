/-- the melting heat, and whether a fuse melts -/
def mlt (r q st : Int32) : Int32 := zmx 1 (r * r * (if q = 0 then 8 else if q = 1 then 40 else 20) - 20 * r * st)
def hotb (row : zA) (i : Nat) : Bool := (!bt (row 7) i && decide (row (47 + i) ≤ 0)) && !decide (row (57 + i) < mlt (row (27 + i)) (row (37 + i)) (row (67 + i)))
theorem zmx_1 (x : Int32) : (if (1 : Int32) ≤ x then some x else some 1) = some (zmx 1 x) := by
  unfold zmx
  by_cases h : (1 : Int32) < x
  · rw [if_pos h, if_pos (Int32.le_of_lt h)]
  · rw [if_neg h]
    by_cases h2 : (1 : Int32) ≤ x
    · rw [if_pos h2, Int32.le_antisymm (Int32.not_lt.mp h) h2]
    · rw [if_neg h2]
theorem d_melt {row : zA} {k : Nat} (hk : k < 10) : f_X0_meltingHeat (nI k) row = some (mlt (row (27 + k)) (row (37 + k)) (row (67 + k))) := by
  unfold f_X0_meltingHeat f_X0_heatFactor
  simp (disch := omega) only [gd_nI, nmI, b1s, b2s, b3s, b4s, b5s, b6s, b7s, le_nI, lt_nI, eq_nI, nI_add, Nat.add_zero, la9, la17, la27, la37, la47, la57, la67, la77, la87, la97, la111, la16, la106, la8, ra0, ra1, ra2, ra3, ra4, ra5, ra6, ra7, ra8, ra16, ra106, lm2, lm3, lm8, lm9, lm10, lm20, lm148, le0, ge0, lt0, gt0, eq0, le1, ge1, lt1, gt1, eq1, le2, ge2, lt2, gt2, eq2, le3, ge3, lt3, gt3, eq3, le4, ge4, lt4, gt4, eq4, le5, ge5, lt5, gt5, eq5, le6, ge6, lt6, gt6, eq6, le7, ge7, lt7, gt7, eq7, le8, ge8, lt8, gt8, eq8, le9, ge9, lt9, gt9, eq9, le10, ge10, lt10, gt10, eq10, le14, ge14, lt14, gt14, eq14, le16, ge16, lt16, gt16, eq16, le17, ge17, lt17, gt17, eq17, le20, ge20, lt20, gt20, eq20, le27, ge27, lt27, gt27, eq27, le37, ge37, lt37, gt37, eq37, le47, ge47, lt47, gt47, eq47, le50, ge50, lt50, gt50, eq50, le57, ge57, lt57, gt57, eq57, le67, ge67, lt67, gt67, eq67, le77, ge77, lt77, gt77, eq77, le80, ge80, lt80, gt80, eq80, le87, ge87, lt87, gt87, eq87, le97, ge97, lt97, gt97, eq97, le99, ge99, lt99, gt99, eq99, le100, ge100, lt100, gt100, eq100, le106, ge106, lt106, gt106, eq106, le111, ge111, lt111, gt111, eq111, le125, ge125, lt125, gt125, eq125, le148, ge148, lt148, gt148, eq148, le200, ge200, lt200, gt200, eq200, le300, ge300, lt300, gt300, eq300, le1332, ge1332, lt1332, gt1332, eq1332, le9999, ge9999, lt9999, gt9999, eq9999, le1000000, ge1000000, lt1000000, gt1000000, eq1000000, ]
  by_cases h0 : row (37 + k) = 0
  · simp only [h0, if_true]
    simp (disch := omega) only [gd_nI, nmI, b1s, b2s, b3s, b4s, b5s, b6s, b7s, le_nI, lt_nI, eq_nI, nI_add, Nat.add_zero, la9, la17, la27, la37, la47, la57, la67, la77, la87, la97, la111, la16, la106, la8, ra0, ra1, ra2, ra3, ra4, ra5, ra6, ra7, ra8, ra16, ra106, lm2, lm3, lm8, lm9, lm10, lm20, lm148, le0, ge0, lt0, gt0, eq0, le1, ge1, lt1, gt1, eq1, le2, ge2, lt2, gt2, eq2, le3, ge3, lt3, gt3, eq3, le4, ge4, lt4, gt4, eq4, le5, ge5, lt5, gt5, eq5, le6, ge6, lt6, gt6, eq6, le7, ge7, lt7, gt7, eq7, le8, ge8, lt8, gt8, eq8, le9, ge9, lt9, gt9, eq9, le10, ge10, lt10, gt10, eq10, le14, ge14, lt14, gt14, eq14, le16, ge16, lt16, gt16, eq16, le17, ge17, lt17, gt17, eq17, le20, ge20, lt20, gt20, eq20, le27, ge27, lt27, gt27, eq27, le37, ge37, lt37, gt37, eq37, le47, ge47, lt47, gt47, eq47, le50, ge50, lt50, gt50, eq50, le57, ge57, lt57, gt57, eq57, le67, ge67, lt67, gt67, eq67, le77, ge77, lt77, gt77, eq77, le80, ge80, lt80, gt80, eq80, le87, ge87, lt87, gt87, eq87, le97, ge97, lt97, gt97, eq97, le99, ge99, lt99, gt99, eq99, le100, ge100, lt100, gt100, eq100, le106, ge106, lt106, gt106, eq106, le111, ge111, lt111, gt111, eq111, le125, ge125, lt125, gt125, eq125, le148, ge148, lt148, gt148, eq148, le200, ge200, lt200, gt200, eq200, le300, ge300, lt300, gt300, eq300, le1332, ge1332, lt1332, gt1332, eq1332, le9999, ge9999, lt9999, gt9999, eq9999, le1000000, ge1000000, lt1000000, gt1000000, eq1000000, ]
    rfl
  · rw [if_neg h0]
    by_cases h1 : row (37 + k) = 1
    · rw [if_pos h1]
      simp (disch := omega) only [gd_nI, nmI, b1s, b2s, b3s, b4s, b5s, b6s, b7s, le_nI, lt_nI, eq_nI, nI_add, Nat.add_zero, la9, la17, la27, la37, la47, la57, la67, la77, la87, la97, la111, la16, la106, la8, ra0, ra1, ra2, ra3, ra4, ra5, ra6, ra7, ra8, ra16, ra106, lm2, lm3, lm8, lm9, lm10, lm20, lm148, le0, ge0, lt0, gt0, eq0, le1, ge1, lt1, gt1, eq1, le2, ge2, lt2, gt2, eq2, le3, ge3, lt3, gt3, eq3, le4, ge4, lt4, gt4, eq4, le5, ge5, lt5, gt5, eq5, le6, ge6, lt6, gt6, eq6, le7, ge7, lt7, gt7, eq7, le8, ge8, lt8, gt8, eq8, le9, ge9, lt9, gt9, eq9, le10, ge10, lt10, gt10, eq10, le14, ge14, lt14, gt14, eq14, le16, ge16, lt16, gt16, eq16, le17, ge17, lt17, gt17, eq17, le20, ge20, lt20, gt20, eq20, le27, ge27, lt27, gt27, eq27, le37, ge37, lt37, gt37, eq37, le47, ge47, lt47, gt47, eq47, le50, ge50, lt50, gt50, eq50, le57, ge57, lt57, gt57, eq57, le67, ge67, lt67, gt67, eq67, le77, ge77, lt77, gt77, eq77, le80, ge80, lt80, gt80, eq80, le87, ge87, lt87, gt87, eq87, le97, ge97, lt97, gt97, eq97, le99, ge99, lt99, gt99, eq99, le100, ge100, lt100, gt100, eq100, le106, ge106, lt106, gt106, eq106, le111, ge111, lt111, gt111, eq111, le125, ge125, lt125, gt125, eq125, le148, ge148, lt148, gt148, eq148, le200, ge200, lt200, gt200, eq200, le300, ge300, lt300, gt300, eq300, le1332, ge1332, lt1332, gt1332, eq1332, le9999, ge9999, lt9999, gt9999, eq9999, le1000000, ge1000000, lt1000000, gt1000000, eq1000000, ]
      simp only [mlt, h1]
      rfl
    · rw [if_neg h1]
      simp (disch := omega) only [gd_nI, nmI, b1s, b2s, b3s, b4s, b5s, b6s, b7s, le_nI, lt_nI, eq_nI, nI_add, Nat.add_zero, la9, la17, la27, la37, la47, la57, la67, la77, la87, la97, la111, la16, la106, la8, ra0, ra1, ra2, ra3, ra4, ra5, ra6, ra7, ra8, ra16, ra106, lm2, lm3, lm8, lm9, lm10, lm20, lm148, le0, ge0, lt0, gt0, eq0, le1, ge1, lt1, gt1, eq1, le2, ge2, lt2, gt2, eq2, le3, ge3, lt3, gt3, eq3, le4, ge4, lt4, gt4, eq4, le5, ge5, lt5, gt5, eq5, le6, ge6, lt6, gt6, eq6, le7, ge7, lt7, gt7, eq7, le8, ge8, lt8, gt8, eq8, le9, ge9, lt9, gt9, eq9, le10, ge10, lt10, gt10, eq10, le14, ge14, lt14, gt14, eq14, le16, ge16, lt16, gt16, eq16, le17, ge17, lt17, gt17, eq17, le20, ge20, lt20, gt20, eq20, le27, ge27, lt27, gt27, eq27, le37, ge37, lt37, gt37, eq37, le47, ge47, lt47, gt47, eq47, le50, ge50, lt50, gt50, eq50, le57, ge57, lt57, gt57, eq57, le67, ge67, lt67, gt67, eq67, le77, ge77, lt77, gt77, eq77, le80, ge80, lt80, gt80, eq80, le87, ge87, lt87, gt87, eq87, le97, ge97, lt97, gt97, eq97, le99, ge99, lt99, gt99, eq99, le100, ge100, lt100, gt100, eq100, le106, ge106, lt106, gt106, eq106, le111, ge111, lt111, gt111, eq111, le125, ge125, lt125, gt125, eq125, le148, ge148, lt148, gt148, eq148, le200, ge200, lt200, gt200, eq200, le300, ge300, lt300, gt300, eq300, le1332, ge1332, lt1332, gt1332, eq1332, le9999, ge9999, lt9999, gt9999, eq9999, le1000000, ge1000000, lt1000000, gt1000000, eq1000000, ]
      simp only [mlt, if_neg h0, if_neg h1]
theorem d_state {row : zA} {k : Nat} (hk : k < 10) : f_X0_state (nI k) row = some (if bt (row 7) k then 2 else if row (47 + k) ≤ 0 then 0 else 1) := by
  unfold f_X0_state
  simp only [bt_is0 (row 7) (show k < 32 by omega)]
  by_cases h : bt (row 7) k = false
  · rw [if_pos h]
    simp (disch := omega) only [gd_nI, nmI, b1s, b2s, b3s, b4s, b5s, b6s, b7s, le_nI, lt_nI, eq_nI, nI_add, Nat.add_zero, la9, la17, la27, la37, la47, la57, la67, la77, la87, la97, la111, la16, la106, la8, ra0, ra1, ra2, ra3, ra4, ra5, ra6, ra7, ra8, ra16, ra106, lm2, lm3, lm8, lm9, lm10, lm20, lm148, le0, ge0, lt0, gt0, eq0, le1, ge1, lt1, gt1, eq1, le2, ge2, lt2, gt2, eq2, le3, ge3, lt3, gt3, eq3, le4, ge4, lt4, gt4, eq4, le5, ge5, lt5, gt5, eq5, le6, ge6, lt6, gt6, eq6, le7, ge7, lt7, gt7, eq7, le8, ge8, lt8, gt8, eq8, le9, ge9, lt9, gt9, eq9, le10, ge10, lt10, gt10, eq10, le14, ge14, lt14, gt14, eq14, le16, ge16, lt16, gt16, eq16, le17, ge17, lt17, gt17, eq17, le20, ge20, lt20, gt20, eq20, le27, ge27, lt27, gt27, eq27, le37, ge37, lt37, gt37, eq37, le47, ge47, lt47, gt47, eq47, le50, ge50, lt50, gt50, eq50, le57, ge57, lt57, gt57, eq57, le67, ge67, lt67, gt67, eq67, le77, ge77, lt77, gt77, eq77, le80, ge80, lt80, gt80, eq80, le87, ge87, lt87, gt87, eq87, le97, ge97, lt97, gt97, eq97, le99, ge99, lt99, gt99, eq99, le100, ge100, lt100, gt100, eq100, le106, ge106, lt106, gt106, eq106, le111, ge111, lt111, gt111, eq111, le125, ge125, lt125, gt125, eq125, le148, ge148, lt148, gt148, eq148, le200, ge200, lt200, gt200, eq200, le300, ge300, lt300, gt300, eq300, le1332, ge1332, lt1332, gt1332, eq1332, le9999, ge9999, lt9999, gt9999, eq9999, le1000000, ge1000000, lt1000000, gt1000000, eq1000000, ]
    simp only [h, Bool.false_eq_true, if_false]
    split <;> rfl
  · have h' : bt (row 7) k = true := by simpa using h
    rw [if_neg h]
    simp [h']
/-- the new heat, told twice -/
theorem heat_same {c r h co : Nat} (hc : c ≤ 9999) (hr : r ≤ 100) (hh : h ≤ 1000000) (h1 : 1 ≤ co) (hco : co ≤ 9) :
    ∃ q, q ≤ 1000000 ∧ (if nI c ≤ nI r then zmx 0 (nI h - (nI r * nI r - nI c * nI c) / nI co) else zmn 1000000 (nI h + (nI c * nI c - nI r * nI r))) = nI q ∧
      (∀ x : Int32, x = (if nI c ≤ nI r then nI h + (-((nI r * nI r - nI c * nI c) / nI co)) else nI h + (nI c * nI c - nI r * nI r)) → (if x ≤ 1000000 then (if 0 ≤ x then x else 0) else 1000000) = nI q) := by
  by_cases hcr : c ≤ r
  · have hsq : c * c ≤ r * r := Nat.mul_le_mul hcr hcr
    have hrr : r * r ≤ 10000 := Nat.mul_le_mul hr hr
    have e : (nI c ≤ nI r) := (nI_leI (by omega) (by omega)).mpr hcr
    rw [if_pos e]
    simp only [if_pos e]
    have e2 : (nI r * nI r - nI c * nI c) / nI co = nI ((r * r - c * c) / co) := by
      rw [pk_mul, pk_mul, pk_sub hsq, pk_div (by omega) (by omega) (by omega)]
    rw [e2]
    have hd : (r * r - c * c) / co ≤ 10000 := Nat.le_trans (Nat.div_le_self _ _) (by omega)
    generalize (r * r - c * c) / co = d at hd ⊢
    have e3 : nI h - nI d = nI h + -nI d := Int32.sub_eq_add_neg _ _
    by_cases hdh : d ≤ h
    · refine ⟨h - d, by omega, ?_, fun x hx => ?_⟩
      · rw [pk_sub hdh]
        unfold zmx
        by_cases hz : h - d = 0
        · rw [hz]; rfl
        · rw [if_pos]
          rw [L0, lt_nI (by omega) (by omega)]
          omega
      · rw [hx, ← e3, pk_sub hdh, if_pos, if_pos]
        · rw [ge0 (by omega)]; omega
        · rw [le1000000 (by omega)]; omega
    · have hneg : nI h - nI d < 0 := pk_sneg (by omega) (by omega)
      have hnn : ¬ (0 : Int32) ≤ nI h - nI d := Int32.not_le.mpr hneg
      refine ⟨0, by omega, ?_, fun x hx => ?_⟩
      · unfold zmx
        rw [if_neg (fun q => hnn (Int32.le_of_lt q))]
        rfl
      · rw [hx, ← e3, if_pos, if_neg hnn]
        · rfl
        · exact Int32.le_trans (Int32.le_of_lt hneg) (by decide)
  · have hsq : r * r ≤ c * c := Nat.mul_le_mul (by omega) (by omega)
    have hcc : c * c ≤ 9999 * 9999 := Nat.mul_le_mul hc hc
    have e : ¬ (nI c ≤ nI r) := fun q => hcr ((nI_leI (by omega) (by omega)).mp q)
    rw [if_neg e]
    simp only [if_neg e]
    have e2 : nI h + (nI c * nI c - nI r * nI r) = nI (h + (c * c - r * r)) := by
      rw [pk_mul, pk_mul, pk_sub hsq, nI_add]
    rw [e2]
    generalize hd : h + (c * c - r * r) = d
    have hdb : d ≤ 200000000 := by omega
    by_cases h6 : d ≤ 1000000
    · refine ⟨d, h6, ?_, fun x hx => ?_⟩
      · unfold zmn
        by_cases h7 : d = 1000000
        · subst h7; rfl
        · rw [if_pos]
          rw [lt1000000 (by omega)]
          omega
      · rw [hx, if_pos, if_pos]
        · rw [ge0 (by omega)]; omega
        · rw [le1000000 (by omega)]; exact h6
    · refine ⟨1000000, by omega, ?_, fun x hx => ?_⟩
      · unfold zmn
        rw [if_neg]
        · rfl
        · rw [lt1000000 (by omega)]; omega
      · rw [hx, if_neg]
        · rfl
        · rw [le1000000 (by omega)]; exact h6
