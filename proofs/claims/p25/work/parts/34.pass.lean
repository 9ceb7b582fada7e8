theorem ind_le (b : Bool) : ind b ≤ 1 := by cases b <;> decide
theorem nI_tn (x : Int32) : x = nI x.toBitVec.toNat := by
  apply Int32.toBitVec_inj.mp
  show x.toBitVec = BitVec.ofNat 32 x.toBitVec.toNat
  rw [BitVec.ofNat_toNat, BitVec.setWidth_eq]
theorem mask_small (f : Nat → Bool) {n : Nat} (hn : n ≤ 10) : ∃ v, v < 1024 ∧ mask f n = nI v := by
  refine ⟨(mask f n).toBitVec.toNat, ?_, nI_tn _⟩
  have : (mask f n).toBitVec.toNat < 2 ^ 10 := by
    apply Nat.lt_pow_two_of_testBit
    intro i hi
    have h1 : bt (mask f n) i = false := by
      by_cases h32 : i < 32
      · rw [bt_mask _ (by omega) h32]
        have : ¬ i < n := by omega
        simp [this]
      · exact bt_big _ (by omega)
    exact h1
  omega
def cnt (x : Int32) : Nat := sm (fun i => ind (bt x i)) 14
theorem bits_all : ∀ v, v < 1024 → f_J6_bitCount_0f7a4 (nI v) = some (nI (cnt (nI v))) := by decide +kernel
theorem cnt_le (x : Int32) : cnt x ≤ 14 := by
  have := sm_le (f := fun i => ind (bt x i)) (c := 1) (n := 14) (fun k _ => ind_le _)
  unfold cnt
  omega
