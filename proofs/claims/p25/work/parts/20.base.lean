/-! Numbers: Int32 as nI of a Nat; guarded places; bits; sums -/
theorem gd_nI {γ : Type} {k n : Nat} {K : Nat → Option γ} (h : k < n) (hn : n ≤ 2000) : gd (nI k) n K = K k := by
  unfold gd
  rw [if_neg (nI_in h (by omega)), nI_clamp (by omega)]
theorem b1s {α γ : Type} (a : α) (K : α → Option γ) : b1 (some a) K = K a := rfl
theorem b2s {α β γ : Type} (a : α) (b : β) (K : α → β → Option γ) : b2 (some (a, b)) K = K a b := rfl
theorem b3s {α β δ γ : Type} (a : α) (b : β) (c : δ) (K : α → β → δ → Option γ) : b3 (some (a, b, c)) K = K a b c := rfl
theorem b4s {α β δ ε γ : Type} (a : α) (b : β) (c : δ) (d : ε) (K : α → β → δ → ε → Option γ) : b4 (some (a, b, c, d)) K = K a b c d := rfl
theorem b5s {α β δ ε ζ γ : Type} (a : α) (b : β) (c : δ) (d : ε) (e : ζ) (K : α → β → δ → ε → ζ → Option γ) : b5 (some (a, b, c, d, e)) K = K a b c d e := rfl
theorem b6s {α β δ ε ζ η γ : Type} (a : α) (b : β) (c : δ) (d : ε) (e : ζ) (f : η) (K : α → β → δ → ε → ζ → η → Option γ) : b6 (some (a, b, c, d, e, f)) K = K a b c d e f := rfl
theorem b7s {α β δ ε ζ η θ γ : Type} (a : α) (b : β) (c : δ) (d : ε) (e : ζ) (f : η) (g : θ) (K : α → β → δ → ε → ζ → η → θ → Option γ) : b7 (some (a, b, c, d, e, f, g)) K = K a b c d e f g := rfl
theorem le_nI {a b : Nat} (ha : a < 2 ^ 31) (hb : b < 2 ^ 31) : (nI a ≤ nI b) = (a ≤ b) := propext (nI_leI ha hb)
theorem lt_nI {a b : Nat} (ha : a < 2 ^ 31) (hb : b < 2 ^ 31) : (nI a < nI b) = (a < b) := propext (nI_ltI ha hb)
theorem eq_nI {a b : Nat} (ha : a < 2 ^ 31) (hb : b < 2 ^ 31) : (nI a = nI b) = (a = b) := propext (nI_eq ha hb)
theorem Lz : (0 : Int32) = nI 0 := rfl

theorem L0 : (0 : Int32) = nI 0 := rfl
theorem L1 : (1 : Int32) = nI 1 := rfl
theorem L2 : (2 : Int32) = nI 2 := rfl
theorem L3 : (3 : Int32) = nI 3 := rfl
theorem L4 : (4 : Int32) = nI 4 := rfl
theorem L5 : (5 : Int32) = nI 5 := rfl
theorem L6 : (6 : Int32) = nI 6 := rfl
theorem L7 : (7 : Int32) = nI 7 := rfl
theorem L8 : (8 : Int32) = nI 8 := rfl
theorem L9 : (9 : Int32) = nI 9 := rfl
theorem L10 : (10 : Int32) = nI 10 := rfl
theorem L14 : (14 : Int32) = nI 14 := rfl
theorem L16 : (16 : Int32) = nI 16 := rfl
theorem L17 : (17 : Int32) = nI 17 := rfl
theorem L20 : (20 : Int32) = nI 20 := rfl
theorem L27 : (27 : Int32) = nI 27 := rfl
theorem L37 : (37 : Int32) = nI 37 := rfl
theorem L47 : (47 : Int32) = nI 47 := rfl
theorem L50 : (50 : Int32) = nI 50 := rfl
theorem L57 : (57 : Int32) = nI 57 := rfl
theorem L67 : (67 : Int32) = nI 67 := rfl
theorem L77 : (77 : Int32) = nI 77 := rfl
theorem L80 : (80 : Int32) = nI 80 := rfl
theorem L87 : (87 : Int32) = nI 87 := rfl
theorem L97 : (97 : Int32) = nI 97 := rfl
theorem L99 : (99 : Int32) = nI 99 := rfl
theorem L100 : (100 : Int32) = nI 100 := rfl
theorem L106 : (106 : Int32) = nI 106 := rfl
theorem L111 : (111 : Int32) = nI 111 := rfl
theorem L125 : (125 : Int32) = nI 125 := rfl
theorem L148 : (148 : Int32) = nI 148 := rfl
theorem L200 : (200 : Int32) = nI 200 := rfl
theorem L300 : (300 : Int32) = nI 300 := rfl
theorem L1332 : (1332 : Int32) = nI 1332 := rfl
theorem L9999 : (9999 : Int32) = nI 9999 := rfl
theorem L1000000 : (1000000 : Int32) = nI 1000000 := rfl
theorem la9 (k : Nat) : (9 : Int32) + nI k = nI (9 + k) := by rw [L9, nI_add]
theorem la17 (k : Nat) : (17 : Int32) + nI k = nI (17 + k) := by rw [L17, nI_add]
theorem la27 (k : Nat) : (27 : Int32) + nI k = nI (27 + k) := by rw [L27, nI_add]
theorem la37 (k : Nat) : (37 : Int32) + nI k = nI (37 + k) := by rw [L37, nI_add]
theorem la47 (k : Nat) : (47 : Int32) + nI k = nI (47 + k) := by rw [L47, nI_add]
theorem la57 (k : Nat) : (57 : Int32) + nI k = nI (57 + k) := by rw [L57, nI_add]
theorem la67 (k : Nat) : (67 : Int32) + nI k = nI (67 + k) := by rw [L67, nI_add]
theorem la77 (k : Nat) : (77 : Int32) + nI k = nI (77 + k) := by rw [L77, nI_add]
theorem la87 (k : Nat) : (87 : Int32) + nI k = nI (87 + k) := by rw [L87, nI_add]
theorem la97 (k : Nat) : (97 : Int32) + nI k = nI (97 + k) := by rw [L97, nI_add]
theorem la111 (k : Nat) : (111 : Int32) + nI k = nI (111 + k) := by rw [L111, nI_add]
theorem la16 (k : Nat) : (16 : Int32) + nI k = nI (16 + k) := by rw [L16, nI_add]
theorem la106 (k : Nat) : (106 : Int32) + nI k = nI (106 + k) := by rw [L106, nI_add]
theorem la8 (k : Nat) : (8 : Int32) + nI k = nI (8 + k) := by rw [L8, nI_add]
theorem ra0 (k : Nat) : nI k + (0 : Int32) = nI (k + 0) := by rw [L0, nI_add]
theorem ra1 (k : Nat) : nI k + (1 : Int32) = nI (k + 1) := by rw [L1, nI_add]
theorem ra2 (k : Nat) : nI k + (2 : Int32) = nI (k + 2) := by rw [L2, nI_add]
theorem ra3 (k : Nat) : nI k + (3 : Int32) = nI (k + 3) := by rw [L3, nI_add]
theorem ra4 (k : Nat) : nI k + (4 : Int32) = nI (k + 4) := by rw [L4, nI_add]
theorem ra5 (k : Nat) : nI k + (5 : Int32) = nI (k + 5) := by rw [L5, nI_add]
theorem ra6 (k : Nat) : nI k + (6 : Int32) = nI (k + 6) := by rw [L6, nI_add]
theorem ra7 (k : Nat) : nI k + (7 : Int32) = nI (k + 7) := by rw [L7, nI_add]
theorem ra8 (k : Nat) : nI k + (8 : Int32) = nI (k + 8) := by rw [L8, nI_add]
theorem ra16 (k : Nat) : nI k + (16 : Int32) = nI (k + 16) := by rw [L16, nI_add]
theorem ra106 (k : Nat) : nI k + (106 : Int32) = nI (k + 106) := by rw [L106, nI_add]
theorem lm2 (k : Nat) : (2 : Int32) * nI k = nI (2 * k) := by rw [L2, pk_mul]
theorem lm3 (k : Nat) : (3 : Int32) * nI k = nI (3 * k) := by rw [L3, pk_mul]
theorem lm8 (k : Nat) : (8 : Int32) * nI k = nI (8 * k) := by rw [L8, pk_mul]
theorem lm9 (k : Nat) : (9 : Int32) * nI k = nI (9 * k) := by rw [L9, pk_mul]
theorem lm10 (k : Nat) : (10 : Int32) * nI k = nI (10 * k) := by rw [L10, pk_mul]
theorem lm20 (k : Nat) : (20 : Int32) * nI k = nI (20 * k) := by rw [L20, pk_mul]
theorem lm148 (k : Nat) : (148 : Int32) * nI k = nI (148 * k) := by rw [L148, pk_mul]
theorem le0 {k : Nat} (h : k < 2 ^ 31) : (nI k ≤ (0 : Int32)) = (k ≤ 0) := by rw [L0, le_nI h (by omega)]
theorem ge0 {k : Nat} (h : k < 2 ^ 31) : ((0 : Int32) ≤ nI k) = (0 ≤ k) := by rw [L0, le_nI (by omega) h]
theorem lt0 {k : Nat} (h : k < 2 ^ 31) : (nI k < (0 : Int32)) = (k < 0) := by rw [L0, lt_nI h (by omega)]
theorem gt0 {k : Nat} (h : k < 2 ^ 31) : ((0 : Int32) < nI k) = (0 < k) := by rw [L0, lt_nI (by omega) h]
theorem eq0 {k : Nat} (h : k < 2 ^ 31) : (nI k = (0 : Int32)) = (k = 0) := by rw [L0, eq_nI h (by omega)]
theorem le1 {k : Nat} (h : k < 2 ^ 31) : (nI k ≤ (1 : Int32)) = (k ≤ 1) := by rw [L1, le_nI h (by omega)]
theorem ge1 {k : Nat} (h : k < 2 ^ 31) : ((1 : Int32) ≤ nI k) = (1 ≤ k) := by rw [L1, le_nI (by omega) h]
theorem lt1 {k : Nat} (h : k < 2 ^ 31) : (nI k < (1 : Int32)) = (k < 1) := by rw [L1, lt_nI h (by omega)]
theorem gt1 {k : Nat} (h : k < 2 ^ 31) : ((1 : Int32) < nI k) = (1 < k) := by rw [L1, lt_nI (by omega) h]
theorem eq1 {k : Nat} (h : k < 2 ^ 31) : (nI k = (1 : Int32)) = (k = 1) := by rw [L1, eq_nI h (by omega)]
theorem le2 {k : Nat} (h : k < 2 ^ 31) : (nI k ≤ (2 : Int32)) = (k ≤ 2) := by rw [L2, le_nI h (by omega)]
theorem ge2 {k : Nat} (h : k < 2 ^ 31) : ((2 : Int32) ≤ nI k) = (2 ≤ k) := by rw [L2, le_nI (by omega) h]
theorem lt2 {k : Nat} (h : k < 2 ^ 31) : (nI k < (2 : Int32)) = (k < 2) := by rw [L2, lt_nI h (by omega)]
theorem gt2 {k : Nat} (h : k < 2 ^ 31) : ((2 : Int32) < nI k) = (2 < k) := by rw [L2, lt_nI (by omega) h]
theorem eq2 {k : Nat} (h : k < 2 ^ 31) : (nI k = (2 : Int32)) = (k = 2) := by rw [L2, eq_nI h (by omega)]
theorem le3 {k : Nat} (h : k < 2 ^ 31) : (nI k ≤ (3 : Int32)) = (k ≤ 3) := by rw [L3, le_nI h (by omega)]
theorem ge3 {k : Nat} (h : k < 2 ^ 31) : ((3 : Int32) ≤ nI k) = (3 ≤ k) := by rw [L3, le_nI (by omega) h]
theorem lt3 {k : Nat} (h : k < 2 ^ 31) : (nI k < (3 : Int32)) = (k < 3) := by rw [L3, lt_nI h (by omega)]
theorem gt3 {k : Nat} (h : k < 2 ^ 31) : ((3 : Int32) < nI k) = (3 < k) := by rw [L3, lt_nI (by omega) h]
theorem eq3 {k : Nat} (h : k < 2 ^ 31) : (nI k = (3 : Int32)) = (k = 3) := by rw [L3, eq_nI h (by omega)]
theorem le4 {k : Nat} (h : k < 2 ^ 31) : (nI k ≤ (4 : Int32)) = (k ≤ 4) := by rw [L4, le_nI h (by omega)]
theorem ge4 {k : Nat} (h : k < 2 ^ 31) : ((4 : Int32) ≤ nI k) = (4 ≤ k) := by rw [L4, le_nI (by omega) h]
theorem lt4 {k : Nat} (h : k < 2 ^ 31) : (nI k < (4 : Int32)) = (k < 4) := by rw [L4, lt_nI h (by omega)]
theorem gt4 {k : Nat} (h : k < 2 ^ 31) : ((4 : Int32) < nI k) = (4 < k) := by rw [L4, lt_nI (by omega) h]
theorem eq4 {k : Nat} (h : k < 2 ^ 31) : (nI k = (4 : Int32)) = (k = 4) := by rw [L4, eq_nI h (by omega)]
theorem le5 {k : Nat} (h : k < 2 ^ 31) : (nI k ≤ (5 : Int32)) = (k ≤ 5) := by rw [L5, le_nI h (by omega)]
theorem ge5 {k : Nat} (h : k < 2 ^ 31) : ((5 : Int32) ≤ nI k) = (5 ≤ k) := by rw [L5, le_nI (by omega) h]
theorem lt5 {k : Nat} (h : k < 2 ^ 31) : (nI k < (5 : Int32)) = (k < 5) := by rw [L5, lt_nI h (by omega)]
theorem gt5 {k : Nat} (h : k < 2 ^ 31) : ((5 : Int32) < nI k) = (5 < k) := by rw [L5, lt_nI (by omega) h]
theorem eq5 {k : Nat} (h : k < 2 ^ 31) : (nI k = (5 : Int32)) = (k = 5) := by rw [L5, eq_nI h (by omega)]
theorem le6 {k : Nat} (h : k < 2 ^ 31) : (nI k ≤ (6 : Int32)) = (k ≤ 6) := by rw [L6, le_nI h (by omega)]
theorem ge6 {k : Nat} (h : k < 2 ^ 31) : ((6 : Int32) ≤ nI k) = (6 ≤ k) := by rw [L6, le_nI (by omega) h]
theorem lt6 {k : Nat} (h : k < 2 ^ 31) : (nI k < (6 : Int32)) = (k < 6) := by rw [L6, lt_nI h (by omega)]
theorem gt6 {k : Nat} (h : k < 2 ^ 31) : ((6 : Int32) < nI k) = (6 < k) := by rw [L6, lt_nI (by omega) h]
theorem eq6 {k : Nat} (h : k < 2 ^ 31) : (nI k = (6 : Int32)) = (k = 6) := by rw [L6, eq_nI h (by omega)]
theorem le7 {k : Nat} (h : k < 2 ^ 31) : (nI k ≤ (7 : Int32)) = (k ≤ 7) := by rw [L7, le_nI h (by omega)]
theorem ge7 {k : Nat} (h : k < 2 ^ 31) : ((7 : Int32) ≤ nI k) = (7 ≤ k) := by rw [L7, le_nI (by omega) h]
theorem lt7 {k : Nat} (h : k < 2 ^ 31) : (nI k < (7 : Int32)) = (k < 7) := by rw [L7, lt_nI h (by omega)]
theorem gt7 {k : Nat} (h : k < 2 ^ 31) : ((7 : Int32) < nI k) = (7 < k) := by rw [L7, lt_nI (by omega) h]
theorem eq7 {k : Nat} (h : k < 2 ^ 31) : (nI k = (7 : Int32)) = (k = 7) := by rw [L7, eq_nI h (by omega)]
theorem le8 {k : Nat} (h : k < 2 ^ 31) : (nI k ≤ (8 : Int32)) = (k ≤ 8) := by rw [L8, le_nI h (by omega)]
theorem ge8 {k : Nat} (h : k < 2 ^ 31) : ((8 : Int32) ≤ nI k) = (8 ≤ k) := by rw [L8, le_nI (by omega) h]
theorem lt8 {k : Nat} (h : k < 2 ^ 31) : (nI k < (8 : Int32)) = (k < 8) := by rw [L8, lt_nI h (by omega)]
theorem gt8 {k : Nat} (h : k < 2 ^ 31) : ((8 : Int32) < nI k) = (8 < k) := by rw [L8, lt_nI (by omega) h]
theorem eq8 {k : Nat} (h : k < 2 ^ 31) : (nI k = (8 : Int32)) = (k = 8) := by rw [L8, eq_nI h (by omega)]
theorem le9 {k : Nat} (h : k < 2 ^ 31) : (nI k ≤ (9 : Int32)) = (k ≤ 9) := by rw [L9, le_nI h (by omega)]
theorem ge9 {k : Nat} (h : k < 2 ^ 31) : ((9 : Int32) ≤ nI k) = (9 ≤ k) := by rw [L9, le_nI (by omega) h]
theorem lt9 {k : Nat} (h : k < 2 ^ 31) : (nI k < (9 : Int32)) = (k < 9) := by rw [L9, lt_nI h (by omega)]
theorem gt9 {k : Nat} (h : k < 2 ^ 31) : ((9 : Int32) < nI k) = (9 < k) := by rw [L9, lt_nI (by omega) h]
theorem eq9 {k : Nat} (h : k < 2 ^ 31) : (nI k = (9 : Int32)) = (k = 9) := by rw [L9, eq_nI h (by omega)]
theorem le10 {k : Nat} (h : k < 2 ^ 31) : (nI k ≤ (10 : Int32)) = (k ≤ 10) := by rw [L10, le_nI h (by omega)]
theorem ge10 {k : Nat} (h : k < 2 ^ 31) : ((10 : Int32) ≤ nI k) = (10 ≤ k) := by rw [L10, le_nI (by omega) h]
theorem lt10 {k : Nat} (h : k < 2 ^ 31) : (nI k < (10 : Int32)) = (k < 10) := by rw [L10, lt_nI h (by omega)]
theorem gt10 {k : Nat} (h : k < 2 ^ 31) : ((10 : Int32) < nI k) = (10 < k) := by rw [L10, lt_nI (by omega) h]
theorem eq10 {k : Nat} (h : k < 2 ^ 31) : (nI k = (10 : Int32)) = (k = 10) := by rw [L10, eq_nI h (by omega)]
theorem le14 {k : Nat} (h : k < 2 ^ 31) : (nI k ≤ (14 : Int32)) = (k ≤ 14) := by rw [L14, le_nI h (by omega)]
theorem ge14 {k : Nat} (h : k < 2 ^ 31) : ((14 : Int32) ≤ nI k) = (14 ≤ k) := by rw [L14, le_nI (by omega) h]
theorem lt14 {k : Nat} (h : k < 2 ^ 31) : (nI k < (14 : Int32)) = (k < 14) := by rw [L14, lt_nI h (by omega)]
theorem gt14 {k : Nat} (h : k < 2 ^ 31) : ((14 : Int32) < nI k) = (14 < k) := by rw [L14, lt_nI (by omega) h]
theorem eq14 {k : Nat} (h : k < 2 ^ 31) : (nI k = (14 : Int32)) = (k = 14) := by rw [L14, eq_nI h (by omega)]
theorem le16 {k : Nat} (h : k < 2 ^ 31) : (nI k ≤ (16 : Int32)) = (k ≤ 16) := by rw [L16, le_nI h (by omega)]
theorem ge16 {k : Nat} (h : k < 2 ^ 31) : ((16 : Int32) ≤ nI k) = (16 ≤ k) := by rw [L16, le_nI (by omega) h]
theorem lt16 {k : Nat} (h : k < 2 ^ 31) : (nI k < (16 : Int32)) = (k < 16) := by rw [L16, lt_nI h (by omega)]
theorem gt16 {k : Nat} (h : k < 2 ^ 31) : ((16 : Int32) < nI k) = (16 < k) := by rw [L16, lt_nI (by omega) h]
theorem eq16 {k : Nat} (h : k < 2 ^ 31) : (nI k = (16 : Int32)) = (k = 16) := by rw [L16, eq_nI h (by omega)]
theorem le17 {k : Nat} (h : k < 2 ^ 31) : (nI k ≤ (17 : Int32)) = (k ≤ 17) := by rw [L17, le_nI h (by omega)]
theorem ge17 {k : Nat} (h : k < 2 ^ 31) : ((17 : Int32) ≤ nI k) = (17 ≤ k) := by rw [L17, le_nI (by omega) h]
theorem lt17 {k : Nat} (h : k < 2 ^ 31) : (nI k < (17 : Int32)) = (k < 17) := by rw [L17, lt_nI h (by omega)]
theorem gt17 {k : Nat} (h : k < 2 ^ 31) : ((17 : Int32) < nI k) = (17 < k) := by rw [L17, lt_nI (by omega) h]
theorem eq17 {k : Nat} (h : k < 2 ^ 31) : (nI k = (17 : Int32)) = (k = 17) := by rw [L17, eq_nI h (by omega)]
theorem le20 {k : Nat} (h : k < 2 ^ 31) : (nI k ≤ (20 : Int32)) = (k ≤ 20) := by rw [L20, le_nI h (by omega)]
theorem ge20 {k : Nat} (h : k < 2 ^ 31) : ((20 : Int32) ≤ nI k) = (20 ≤ k) := by rw [L20, le_nI (by omega) h]
theorem lt20 {k : Nat} (h : k < 2 ^ 31) : (nI k < (20 : Int32)) = (k < 20) := by rw [L20, lt_nI h (by omega)]
theorem gt20 {k : Nat} (h : k < 2 ^ 31) : ((20 : Int32) < nI k) = (20 < k) := by rw [L20, lt_nI (by omega) h]
theorem eq20 {k : Nat} (h : k < 2 ^ 31) : (nI k = (20 : Int32)) = (k = 20) := by rw [L20, eq_nI h (by omega)]
theorem le27 {k : Nat} (h : k < 2 ^ 31) : (nI k ≤ (27 : Int32)) = (k ≤ 27) := by rw [L27, le_nI h (by omega)]
theorem ge27 {k : Nat} (h : k < 2 ^ 31) : ((27 : Int32) ≤ nI k) = (27 ≤ k) := by rw [L27, le_nI (by omega) h]
theorem lt27 {k : Nat} (h : k < 2 ^ 31) : (nI k < (27 : Int32)) = (k < 27) := by rw [L27, lt_nI h (by omega)]
theorem gt27 {k : Nat} (h : k < 2 ^ 31) : ((27 : Int32) < nI k) = (27 < k) := by rw [L27, lt_nI (by omega) h]
theorem eq27 {k : Nat} (h : k < 2 ^ 31) : (nI k = (27 : Int32)) = (k = 27) := by rw [L27, eq_nI h (by omega)]
theorem le37 {k : Nat} (h : k < 2 ^ 31) : (nI k ≤ (37 : Int32)) = (k ≤ 37) := by rw [L37, le_nI h (by omega)]
theorem ge37 {k : Nat} (h : k < 2 ^ 31) : ((37 : Int32) ≤ nI k) = (37 ≤ k) := by rw [L37, le_nI (by omega) h]
theorem lt37 {k : Nat} (h : k < 2 ^ 31) : (nI k < (37 : Int32)) = (k < 37) := by rw [L37, lt_nI h (by omega)]
theorem gt37 {k : Nat} (h : k < 2 ^ 31) : ((37 : Int32) < nI k) = (37 < k) := by rw [L37, lt_nI (by omega) h]
theorem eq37 {k : Nat} (h : k < 2 ^ 31) : (nI k = (37 : Int32)) = (k = 37) := by rw [L37, eq_nI h (by omega)]
theorem le47 {k : Nat} (h : k < 2 ^ 31) : (nI k ≤ (47 : Int32)) = (k ≤ 47) := by rw [L47, le_nI h (by omega)]
theorem ge47 {k : Nat} (h : k < 2 ^ 31) : ((47 : Int32) ≤ nI k) = (47 ≤ k) := by rw [L47, le_nI (by omega) h]
theorem lt47 {k : Nat} (h : k < 2 ^ 31) : (nI k < (47 : Int32)) = (k < 47) := by rw [L47, lt_nI h (by omega)]
theorem gt47 {k : Nat} (h : k < 2 ^ 31) : ((47 : Int32) < nI k) = (47 < k) := by rw [L47, lt_nI (by omega) h]
theorem eq47 {k : Nat} (h : k < 2 ^ 31) : (nI k = (47 : Int32)) = (k = 47) := by rw [L47, eq_nI h (by omega)]
theorem le50 {k : Nat} (h : k < 2 ^ 31) : (nI k ≤ (50 : Int32)) = (k ≤ 50) := by rw [L50, le_nI h (by omega)]
theorem ge50 {k : Nat} (h : k < 2 ^ 31) : ((50 : Int32) ≤ nI k) = (50 ≤ k) := by rw [L50, le_nI (by omega) h]
theorem lt50 {k : Nat} (h : k < 2 ^ 31) : (nI k < (50 : Int32)) = (k < 50) := by rw [L50, lt_nI h (by omega)]
theorem gt50 {k : Nat} (h : k < 2 ^ 31) : ((50 : Int32) < nI k) = (50 < k) := by rw [L50, lt_nI (by omega) h]
theorem eq50 {k : Nat} (h : k < 2 ^ 31) : (nI k = (50 : Int32)) = (k = 50) := by rw [L50, eq_nI h (by omega)]
theorem le57 {k : Nat} (h : k < 2 ^ 31) : (nI k ≤ (57 : Int32)) = (k ≤ 57) := by rw [L57, le_nI h (by omega)]
theorem ge57 {k : Nat} (h : k < 2 ^ 31) : ((57 : Int32) ≤ nI k) = (57 ≤ k) := by rw [L57, le_nI (by omega) h]
theorem lt57 {k : Nat} (h : k < 2 ^ 31) : (nI k < (57 : Int32)) = (k < 57) := by rw [L57, lt_nI h (by omega)]
theorem gt57 {k : Nat} (h : k < 2 ^ 31) : ((57 : Int32) < nI k) = (57 < k) := by rw [L57, lt_nI (by omega) h]
theorem eq57 {k : Nat} (h : k < 2 ^ 31) : (nI k = (57 : Int32)) = (k = 57) := by rw [L57, eq_nI h (by omega)]
theorem le67 {k : Nat} (h : k < 2 ^ 31) : (nI k ≤ (67 : Int32)) = (k ≤ 67) := by rw [L67, le_nI h (by omega)]
theorem ge67 {k : Nat} (h : k < 2 ^ 31) : ((67 : Int32) ≤ nI k) = (67 ≤ k) := by rw [L67, le_nI (by omega) h]
theorem lt67 {k : Nat} (h : k < 2 ^ 31) : (nI k < (67 : Int32)) = (k < 67) := by rw [L67, lt_nI h (by omega)]
theorem gt67 {k : Nat} (h : k < 2 ^ 31) : ((67 : Int32) < nI k) = (67 < k) := by rw [L67, lt_nI (by omega) h]
theorem eq67 {k : Nat} (h : k < 2 ^ 31) : (nI k = (67 : Int32)) = (k = 67) := by rw [L67, eq_nI h (by omega)]
theorem le77 {k : Nat} (h : k < 2 ^ 31) : (nI k ≤ (77 : Int32)) = (k ≤ 77) := by rw [L77, le_nI h (by omega)]
theorem ge77 {k : Nat} (h : k < 2 ^ 31) : ((77 : Int32) ≤ nI k) = (77 ≤ k) := by rw [L77, le_nI (by omega) h]
theorem lt77 {k : Nat} (h : k < 2 ^ 31) : (nI k < (77 : Int32)) = (k < 77) := by rw [L77, lt_nI h (by omega)]
theorem gt77 {k : Nat} (h : k < 2 ^ 31) : ((77 : Int32) < nI k) = (77 < k) := by rw [L77, lt_nI (by omega) h]
theorem eq77 {k : Nat} (h : k < 2 ^ 31) : (nI k = (77 : Int32)) = (k = 77) := by rw [L77, eq_nI h (by omega)]
theorem le80 {k : Nat} (h : k < 2 ^ 31) : (nI k ≤ (80 : Int32)) = (k ≤ 80) := by rw [L80, le_nI h (by omega)]
theorem ge80 {k : Nat} (h : k < 2 ^ 31) : ((80 : Int32) ≤ nI k) = (80 ≤ k) := by rw [L80, le_nI (by omega) h]
theorem lt80 {k : Nat} (h : k < 2 ^ 31) : (nI k < (80 : Int32)) = (k < 80) := by rw [L80, lt_nI h (by omega)]
theorem gt80 {k : Nat} (h : k < 2 ^ 31) : ((80 : Int32) < nI k) = (80 < k) := by rw [L80, lt_nI (by omega) h]
theorem eq80 {k : Nat} (h : k < 2 ^ 31) : (nI k = (80 : Int32)) = (k = 80) := by rw [L80, eq_nI h (by omega)]
theorem le87 {k : Nat} (h : k < 2 ^ 31) : (nI k ≤ (87 : Int32)) = (k ≤ 87) := by rw [L87, le_nI h (by omega)]
theorem ge87 {k : Nat} (h : k < 2 ^ 31) : ((87 : Int32) ≤ nI k) = (87 ≤ k) := by rw [L87, le_nI (by omega) h]
theorem lt87 {k : Nat} (h : k < 2 ^ 31) : (nI k < (87 : Int32)) = (k < 87) := by rw [L87, lt_nI h (by omega)]
theorem gt87 {k : Nat} (h : k < 2 ^ 31) : ((87 : Int32) < nI k) = (87 < k) := by rw [L87, lt_nI (by omega) h]
theorem eq87 {k : Nat} (h : k < 2 ^ 31) : (nI k = (87 : Int32)) = (k = 87) := by rw [L87, eq_nI h (by omega)]
theorem le97 {k : Nat} (h : k < 2 ^ 31) : (nI k ≤ (97 : Int32)) = (k ≤ 97) := by rw [L97, le_nI h (by omega)]
theorem ge97 {k : Nat} (h : k < 2 ^ 31) : ((97 : Int32) ≤ nI k) = (97 ≤ k) := by rw [L97, le_nI (by omega) h]
theorem lt97 {k : Nat} (h : k < 2 ^ 31) : (nI k < (97 : Int32)) = (k < 97) := by rw [L97, lt_nI h (by omega)]
theorem gt97 {k : Nat} (h : k < 2 ^ 31) : ((97 : Int32) < nI k) = (97 < k) := by rw [L97, lt_nI (by omega) h]
theorem eq97 {k : Nat} (h : k < 2 ^ 31) : (nI k = (97 : Int32)) = (k = 97) := by rw [L97, eq_nI h (by omega)]
theorem le99 {k : Nat} (h : k < 2 ^ 31) : (nI k ≤ (99 : Int32)) = (k ≤ 99) := by rw [L99, le_nI h (by omega)]
theorem ge99 {k : Nat} (h : k < 2 ^ 31) : ((99 : Int32) ≤ nI k) = (99 ≤ k) := by rw [L99, le_nI (by omega) h]
theorem lt99 {k : Nat} (h : k < 2 ^ 31) : (nI k < (99 : Int32)) = (k < 99) := by rw [L99, lt_nI h (by omega)]
theorem gt99 {k : Nat} (h : k < 2 ^ 31) : ((99 : Int32) < nI k) = (99 < k) := by rw [L99, lt_nI (by omega) h]
theorem eq99 {k : Nat} (h : k < 2 ^ 31) : (nI k = (99 : Int32)) = (k = 99) := by rw [L99, eq_nI h (by omega)]
theorem le100 {k : Nat} (h : k < 2 ^ 31) : (nI k ≤ (100 : Int32)) = (k ≤ 100) := by rw [L100, le_nI h (by omega)]
theorem ge100 {k : Nat} (h : k < 2 ^ 31) : ((100 : Int32) ≤ nI k) = (100 ≤ k) := by rw [L100, le_nI (by omega) h]
theorem lt100 {k : Nat} (h : k < 2 ^ 31) : (nI k < (100 : Int32)) = (k < 100) := by rw [L100, lt_nI h (by omega)]
theorem gt100 {k : Nat} (h : k < 2 ^ 31) : ((100 : Int32) < nI k) = (100 < k) := by rw [L100, lt_nI (by omega) h]
theorem eq100 {k : Nat} (h : k < 2 ^ 31) : (nI k = (100 : Int32)) = (k = 100) := by rw [L100, eq_nI h (by omega)]
theorem le106 {k : Nat} (h : k < 2 ^ 31) : (nI k ≤ (106 : Int32)) = (k ≤ 106) := by rw [L106, le_nI h (by omega)]
theorem ge106 {k : Nat} (h : k < 2 ^ 31) : ((106 : Int32) ≤ nI k) = (106 ≤ k) := by rw [L106, le_nI (by omega) h]
theorem lt106 {k : Nat} (h : k < 2 ^ 31) : (nI k < (106 : Int32)) = (k < 106) := by rw [L106, lt_nI h (by omega)]
theorem gt106 {k : Nat} (h : k < 2 ^ 31) : ((106 : Int32) < nI k) = (106 < k) := by rw [L106, lt_nI (by omega) h]
theorem eq106 {k : Nat} (h : k < 2 ^ 31) : (nI k = (106 : Int32)) = (k = 106) := by rw [L106, eq_nI h (by omega)]
theorem le111 {k : Nat} (h : k < 2 ^ 31) : (nI k ≤ (111 : Int32)) = (k ≤ 111) := by rw [L111, le_nI h (by omega)]
theorem ge111 {k : Nat} (h : k < 2 ^ 31) : ((111 : Int32) ≤ nI k) = (111 ≤ k) := by rw [L111, le_nI (by omega) h]
theorem lt111 {k : Nat} (h : k < 2 ^ 31) : (nI k < (111 : Int32)) = (k < 111) := by rw [L111, lt_nI h (by omega)]
theorem gt111 {k : Nat} (h : k < 2 ^ 31) : ((111 : Int32) < nI k) = (111 < k) := by rw [L111, lt_nI (by omega) h]
theorem eq111 {k : Nat} (h : k < 2 ^ 31) : (nI k = (111 : Int32)) = (k = 111) := by rw [L111, eq_nI h (by omega)]
theorem le125 {k : Nat} (h : k < 2 ^ 31) : (nI k ≤ (125 : Int32)) = (k ≤ 125) := by rw [L125, le_nI h (by omega)]
theorem ge125 {k : Nat} (h : k < 2 ^ 31) : ((125 : Int32) ≤ nI k) = (125 ≤ k) := by rw [L125, le_nI (by omega) h]
theorem lt125 {k : Nat} (h : k < 2 ^ 31) : (nI k < (125 : Int32)) = (k < 125) := by rw [L125, lt_nI h (by omega)]
theorem gt125 {k : Nat} (h : k < 2 ^ 31) : ((125 : Int32) < nI k) = (125 < k) := by rw [L125, lt_nI (by omega) h]
theorem eq125 {k : Nat} (h : k < 2 ^ 31) : (nI k = (125 : Int32)) = (k = 125) := by rw [L125, eq_nI h (by omega)]
theorem le148 {k : Nat} (h : k < 2 ^ 31) : (nI k ≤ (148 : Int32)) = (k ≤ 148) := by rw [L148, le_nI h (by omega)]
theorem ge148 {k : Nat} (h : k < 2 ^ 31) : ((148 : Int32) ≤ nI k) = (148 ≤ k) := by rw [L148, le_nI (by omega) h]
theorem lt148 {k : Nat} (h : k < 2 ^ 31) : (nI k < (148 : Int32)) = (k < 148) := by rw [L148, lt_nI h (by omega)]
theorem gt148 {k : Nat} (h : k < 2 ^ 31) : ((148 : Int32) < nI k) = (148 < k) := by rw [L148, lt_nI (by omega) h]
theorem eq148 {k : Nat} (h : k < 2 ^ 31) : (nI k = (148 : Int32)) = (k = 148) := by rw [L148, eq_nI h (by omega)]
theorem le200 {k : Nat} (h : k < 2 ^ 31) : (nI k ≤ (200 : Int32)) = (k ≤ 200) := by rw [L200, le_nI h (by omega)]
theorem ge200 {k : Nat} (h : k < 2 ^ 31) : ((200 : Int32) ≤ nI k) = (200 ≤ k) := by rw [L200, le_nI (by omega) h]
theorem lt200 {k : Nat} (h : k < 2 ^ 31) : (nI k < (200 : Int32)) = (k < 200) := by rw [L200, lt_nI h (by omega)]
theorem gt200 {k : Nat} (h : k < 2 ^ 31) : ((200 : Int32) < nI k) = (200 < k) := by rw [L200, lt_nI (by omega) h]
theorem eq200 {k : Nat} (h : k < 2 ^ 31) : (nI k = (200 : Int32)) = (k = 200) := by rw [L200, eq_nI h (by omega)]
theorem le300 {k : Nat} (h : k < 2 ^ 31) : (nI k ≤ (300 : Int32)) = (k ≤ 300) := by rw [L300, le_nI h (by omega)]
theorem ge300 {k : Nat} (h : k < 2 ^ 31) : ((300 : Int32) ≤ nI k) = (300 ≤ k) := by rw [L300, le_nI (by omega) h]
theorem lt300 {k : Nat} (h : k < 2 ^ 31) : (nI k < (300 : Int32)) = (k < 300) := by rw [L300, lt_nI h (by omega)]
theorem gt300 {k : Nat} (h : k < 2 ^ 31) : ((300 : Int32) < nI k) = (300 < k) := by rw [L300, lt_nI (by omega) h]
theorem eq300 {k : Nat} (h : k < 2 ^ 31) : (nI k = (300 : Int32)) = (k = 300) := by rw [L300, eq_nI h (by omega)]
theorem le1332 {k : Nat} (h : k < 2 ^ 31) : (nI k ≤ (1332 : Int32)) = (k ≤ 1332) := by rw [L1332, le_nI h (by omega)]
theorem ge1332 {k : Nat} (h : k < 2 ^ 31) : ((1332 : Int32) ≤ nI k) = (1332 ≤ k) := by rw [L1332, le_nI (by omega) h]
theorem lt1332 {k : Nat} (h : k < 2 ^ 31) : (nI k < (1332 : Int32)) = (k < 1332) := by rw [L1332, lt_nI h (by omega)]
theorem gt1332 {k : Nat} (h : k < 2 ^ 31) : ((1332 : Int32) < nI k) = (1332 < k) := by rw [L1332, lt_nI (by omega) h]
theorem eq1332 {k : Nat} (h : k < 2 ^ 31) : (nI k = (1332 : Int32)) = (k = 1332) := by rw [L1332, eq_nI h (by omega)]
theorem le9999 {k : Nat} (h : k < 2 ^ 31) : (nI k ≤ (9999 : Int32)) = (k ≤ 9999) := by rw [L9999, le_nI h (by omega)]
theorem ge9999 {k : Nat} (h : k < 2 ^ 31) : ((9999 : Int32) ≤ nI k) = (9999 ≤ k) := by rw [L9999, le_nI (by omega) h]
theorem lt9999 {k : Nat} (h : k < 2 ^ 31) : (nI k < (9999 : Int32)) = (k < 9999) := by rw [L9999, lt_nI h (by omega)]
theorem gt9999 {k : Nat} (h : k < 2 ^ 31) : ((9999 : Int32) < nI k) = (9999 < k) := by rw [L9999, lt_nI (by omega) h]
theorem eq9999 {k : Nat} (h : k < 2 ^ 31) : (nI k = (9999 : Int32)) = (k = 9999) := by rw [L9999, eq_nI h (by omega)]
theorem le1000000 {k : Nat} (h : k < 2 ^ 31) : (nI k ≤ (1000000 : Int32)) = (k ≤ 1000000) := by rw [L1000000, le_nI h (by omega)]
theorem ge1000000 {k : Nat} (h : k < 2 ^ 31) : ((1000000 : Int32) ≤ nI k) = (1000000 ≤ k) := by rw [L1000000, le_nI (by omega) h]
theorem lt1000000 {k : Nat} (h : k < 2 ^ 31) : (nI k < (1000000 : Int32)) = (k < 1000000) := by rw [L1000000, lt_nI h (by omega)]
theorem gt1000000 {k : Nat} (h : k < 2 ^ 31) : ((1000000 : Int32) < nI k) = (1000000 < k) := by rw [L1000000, lt_nI (by omega) h]
theorem eq1000000 {k : Nat} (h : k < 2 ^ 31) : (nI k = (1000000 : Int32)) = (k = 1000000) := by rw [L1000000, eq_nI h (by omega)]
theorem nI_m1 {k : Nat} (h : 0 < k) : nI k + (-1) = nI (k - 1) := by
  obtain ⟨j, rfl⟩ : ∃ j, k = j + 1 := ⟨k - 1, by omega⟩
  rw [pk_m1]
  rfl
theorem nI_s1 {k : Nat} (h : 0 < k) : nI k - 1 = nI (k - 1) := by
  rw [L1, pk_sub h]
theorem nI_ne6 {k : Nat} (h : k < 2 ^ 31) : (nI k = (-6 : Int32)) = False := by
  refine propext ⟨fun q => ?_, fun q => q.elim⟩
  have := congrArg Int32.toInt q
  rw [nI_toInt h] at this
  have h6 : (-6 : Int32).toInt = -6 := by decide +kernel
  omega
/-- bits -/
def bt (m : Int32) (k : Nat) : Bool := m.toBitVec.getLsbD k
theorem sm32 : ∀ k, k < 32 → ((nI k &&& 31).toBitVec.smod 32).toNat = k := by decide +kernel
theorem tb_shl (m : Int32) {k : Nat} (h : k < 32) : (m <<< (nI k &&& 31)).toBitVec = m.toBitVec <<< k := by
  rw [Int32.toBitVec_shiftLeft, BitVec.shiftLeft_eq', sm32 k h]
theorem tb_shr (m : Int32) {k : Nat} (h : k < 32) : (m >>> (nI k &&& 31)).toBitVec = m.toBitVec.sshiftRight k := by
  rw [Int32.toBitVec_shiftRight, BitVec.sshiftRight_eq', sm32 k h]
theorem bt_ext {a b : Int32} (h : ∀ j, j < 32 → bt a j = bt b j) : a = b := by
  apply Int32.toBitVec_inj.mp
  apply BitVec.eq_of_getLsbD_eq
  intro i hi
  exact h i hi
theorem bt_or (a b : Int32) (j : Nat) : bt (a ||| b) j = (bt a j || bt b j) := by simp [bt]
theorem bt_and (a b : Int32) (j : Nat) : bt (a &&& b) j = (bt a j && bt b j) := by simp [bt]
theorem bt_xor (a b : Int32) (j : Nat) : bt (a ^^^ b) j = (bt a j ^^ bt b j) := by simp [bt]
theorem bt_0 (j : Nat) : bt 0 j = false := by simp [bt]
theorem bt_1 : ∀ j, j < 32 → bt 1 j = decide (j = 0) := by decide +kernel
theorem bt_m1 : ∀ j, j < 32 → bt (-1) j = true := by decide +kernel
theorem bt_big (m : Int32) {j : Nat} (h : 32 ≤ j) : bt m j = false := BitVec.getLsbD_of_ge _ _ h
theorem bt_shl1 {k j : Nat} (hk : k < 32) (hj : j < 32) : bt ((1 : Int32) <<< (nI k &&& 31)) j = decide (j = k) := by
  unfold bt
  rw [tb_shl _ hk, BitVec.getLsbD_shiftLeft]
  have h1 := bt_1 (j - k) (by omega)
  unfold bt at h1
  rw [h1]
  by_cases h : j = k
  · subst h
    simp [hj]
  · by_cases h2 : j < k
    · simp [h2, h]
    · have : ¬ j - k = 0 := by omega
      simp [this, h]
theorem bt_get (m : Int32) {k : Nat} (h : k < 32) : (m >>> (nI k &&& 31)) &&& 1 = if bt m k then 1 else 0 := by
  apply bt_ext
  intro j hj
  rw [bt_and, bt_1 j hj]
  by_cases h0 : j = 0
  · subst h0
    have h1 : bt (m >>> (nI k &&& 31)) 0 = bt m k := by
      unfold bt
      rw [tb_shr _ h, BitVec.getLsbD_sshiftRight]
      simp [h]
    rw [h1]
    cases bt m k
    · simp [bt_0]
    · simp [bt_1]
  · cases bt m k
    · simp [bt_0, h0]
    · simp [bt_1 j hj, h0]
theorem bt_is0 (m : Int32) {k : Nat} (h : k < 32) : ((m >>> (nI k &&& 31)) &&& 1 = 0) = (bt m k = false) := by
  rw [bt_get m h]
  cases bt m k
  · simp
  · simp
theorem bt_set (m : Int32) {k j : Nat} (hk : k < 32) (hj : j < 32) : bt (m ||| ((1 : Int32) <<< (nI k &&& 31))) j = (bt m j || decide (j = k)) := by rw [bt_or, bt_shl1 hk hj]
/-- a mask out of a test -/
def mask (f : Nat → Bool) : Nat → Int32
  | 0 => 0
  | n + 1 => if f n then mask f n ||| ((1 : Int32) <<< (nI n &&& 31)) else mask f n
theorem bt_mask (f : Nat → Bool) : ∀ {n : Nat} (_ : n ≤ 32) {j : Nat} (_ : j < 32), bt (mask f n) j = (decide (j < n) && f j)
  | 0, _, j, _ => by simp [mask, bt_0]
  | n + 1, hn, j, hj => by
    unfold mask
    have ih := bt_mask f (n := n) (by omega) hj
    by_cases h : f n = true
    · rw [if_pos h, bt_set _ (by omega) hj, ih]
      by_cases h1 : j = n
      · subst h1
        simp [h]
      · by_cases h2 : j < n
        · have : j < n + 1 := by omega
          simp [h1, h2, this]
        · have : ¬ j < n + 1 := by omega
          simp [h1, h2, this]
    · rw [if_neg h, ih]
      by_cases h1 : j = n
      · subst h1
        simp [h]
      · by_cases h2 : j < n
        · have : j < n + 1 := by omega
          simp [h2, this]
        · have : ¬ j < n + 1 := by omega
          simp [h2, this]
theorem mask_is {f : Nat → Bool} {n : Nat} (hn : n ≤ 32) {m : Int32} (h : ∀ j, j < 32 → bt m j = (decide (j < n) && f j)) : m = mask f n := bt_ext fun j hj => (h j hj).trans (bt_mask f hn hj).symm
theorem mask_congr {f g : Nat → Bool} : ∀ {n : Nat}, (∀ k, k < n → f k = g k) → mask f n = mask g n
  | 0, _ => rfl
  | n + 1, h => by
    unfold mask
    rw [h n (by omega), mask_congr (fun k hk => h k (by omega))]
theorem mask_step (f : Nat → Bool) {n : Nat} {v : Int32} (h : v = if f n then 1 else 0) (hn : n < 32) : mask f n ||| (v <<< (nI n &&& 31)) = mask f (n + 1) := by
  subst h
  show _ = if f n then mask f n ||| ((1 : Int32) <<< (nI n &&& 31)) else mask f n
  by_cases h : f n = true
  · rw [if_pos h, if_pos h]
  · rw [if_neg h, if_neg h]
    have h0 : (0 : Int32) <<< (nI n &&& 31) = 0 := by
      apply Int32.toBitVec_inj.mp
      rw [tb_shl _ hn]
      simp
    rw [h0]
    apply bt_ext
    intro j _
    rw [bt_or, bt_0, Bool.or_false]
/-- sums of Nats -/
def sm (f : Nat → Nat) : Nat → Nat
  | 0 => 0
  | n + 1 => sm f n + f n
theorem sm_congr {f g : Nat → Nat} : ∀ {n : Nat}, (∀ k, k < n → f k = g k) → sm f n = sm g n
  | 0, _ => rfl
  | n + 1, h => by
    unfold sm
    rw [h n (by omega), sm_congr (fun k hk => h k (by omega))]
theorem sm_add (f g : Nat → Nat) : ∀ n : Nat, sm (fun k => f k + g k) n = sm f n + sm g n
  | 0 => rfl
  | n + 1 => by
    unfold sm
    rw [sm_add f g n]
    omega
theorem sm_0 : ∀ n : Nat, sm (fun _ => 0) n = 0
  | 0 => rfl
  | n + 1 => by
    unfold sm
    rw [sm_0 n]
theorem sm_swap (f : Nat → Nat → Nat) (m : Nat) : ∀ n : Nat, sm (fun i => sm (fun j => f i j) m) n = sm (fun j => sm (fun i => f i j) n) m
  | 0 => by
    show 0 = sm (fun j => 0) m
    rw [sm_0]
  | n + 1 => by
    show sm (fun i => sm (fun j => f i j) m) n + sm (fun j => f n j) m = sm (fun j => sm (fun i => f i j) n + f n j) m
    rw [sm_swap f m n, ← sm_add]
theorem sm_mul (c : Nat) (f : Nat → Nat) : ∀ n : Nat, sm (fun k => c * f k) n = c * sm f n
  | 0 => rfl
  | n + 1 => by
    unfold sm
    rw [sm_mul c f n, Nat.mul_add]
theorem sm_one {x : Nat} (c : Nat) : ∀ n : Nat, sm (fun k => if k = x then c else 0) n = if x < n then c else 0
  | 0 => rfl
  | n + 1 => by
    unfold sm
    rw [sm_one c n]
    by_cases h : n = x
    · subst h
      rw [if_neg (by omega), if_pos rfl, if_pos (by omega)]
      omega
    · rw [if_neg h]
      by_cases h2 : x < n
      · rw [if_pos h2, if_pos (by omega)]
        omega
      · rw [if_neg h2, if_neg (by omega)]
theorem sm_le {f : Nat → Nat} {c : Nat} : ∀ {n : Nat}, (∀ k, k < n → f k ≤ c) → sm f n ≤ n * c
  | 0, _ => by simp [sm]
  | n + 1, h => by
    unfold sm
    have h1 := sm_le (f := f) (c := c) (n := n) (fun k hk => h k (by omega))
    have h2 := h n (by omega)
    rw [Nat.add_mul]
    omega
