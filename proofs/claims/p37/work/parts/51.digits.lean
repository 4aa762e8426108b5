/-! ===== six digits of 64: a state of a fight ===== -/
def dg (N k : Nat) : Nat := N / 64 ^ k % 64
def sd (N k d : Nat) : Nat := (N / 64 ^ (k + 1)) * 64 ^ (k + 1) + d * 64 ^ k + N % 64 ^ k
theorem k6 {k : Nat} (h : k < 6) : k = 0 ∨ k = 1 ∨ k = 2 ∨ k = 3 ∨ k = 4 ∨ k = 5 := by omega
theorem dg_lt (N k : Nat) : dg N k < 64 := Nat.mod_lt _ (by decide)
theorem sd_lt {N k d : Nat} (hN : N < 64 ^ 6) (hk : k < 6) (hd : d < 64) : sd N k d < 64 ^ 6 := by
  rcases k6 hk with rfl | rfl | rfl | rfl | rfl | rfl <;> simp only [sd, Nat.reducePow, Nat.reduceAdd] at hN ⊢ <;> omega
theorem dg_sd {N k d : Nat} (hk : k < 6) (hd : d < 64) : dg (sd N k d) k = d := by
  rcases k6 hk with rfl | rfl | rfl | rfl | rfl | rfl <;> simp only [dg, sd, Nat.reducePow, Nat.reduceAdd] <;> omega
theorem dg_sd_ne {N k j d : Nat} (hk : k < 6) (hj : j < 6) (hd : d < 64) (h : j ≠ k) : dg (sd N k d) j = dg N j := by
  rcases k6 hk with rfl | rfl | rfl | rfl | rfl | rfl <;> rcases k6 hj with rfl | rfl | rfl | rfl | rfl | rfl <;> first | exact absurd rfl h | (simp only [dg, sd, Nat.reducePow, Nat.reduceAdd]; omega)
theorem dg_ext {N N2 : Nat} (h1 : N < 64 ^ 6) (h2 : N2 < 64 ^ 6) (h : ∀ k, k < 6 → dg N k = dg N2 k) : N = N2 := by
  have a0 := h 0 (by decide)
  have a1 := h 1 (by decide)
  have a2 := h 2 (by decide)
  have a3 := h 3 (by decide)
  have a4 := h 4 (by decide)
  have a5 := h 5 (by decide)
  simp only [dg, Nat.reducePow] at *
  omega
theorem sd_sub {N k f : Nat} (hk : k < 6) (hf : f ≤ dg N k) : N - f * 64 ^ k = sd N k (dg N k - f) := by
  rcases k6 hk with rfl | rfl | rfl | rfl | rfl | rfl <;> simp only [dg, sd, Nat.reducePow, Nat.reduceAdd] at hf ⊢ <;> omega
theorem sd_add {N k f : Nat} (hk : k < 6) : N + f * 64 ^ k = sd N k (dg N k + f) := by
  rcases k6 hk with rfl | rfl | rfl | rfl | rfl | rfl <;> simp only [dg, sd, Nat.reducePow, Nat.reduceAdd] <;> omega
theorem dg_mul_le {N k : Nat} (hk : k < 6) : dg N k * 64 ^ k ≤ N := by
  rcases k6 hk with rfl | rfl | rfl | rfl | rfl | rfl <;> simp only [dg, Nat.reducePow] <;> omega
theorem and_shift (N m s : Nat) : N &&& (m * 2 ^ s) = (N / 2 ^ s &&& m) * 2 ^ s := by
  apply Nat.eq_of_testBit_eq
  intro i
  rw [Nat.testBit_and, Nat.testBit_mul_two_pow, Nat.testBit_mul_two_pow, Nat.testBit_and, Nat.testBit_div_two_pow]
  by_cases h : s ≤ i
  · simp [h, show i - s + s = i by omega, Nat.add_comm]
  · simp [h]
theorem and_not (x m : Int64) : x &&& (m ^^^ (-1)) = x - (x &&& m) := by
  apply Int64.toBitVec_inj.mp
  rw [Int64.toBitVec_and, Int64.toBitVec_xor, Int64.toBitVec_sub, Int64.toBitVec_and]
  have h1 : (-1 : Int64).toBitVec = BitVec.allOnes 64 := by decide
  rw [h1, BitVec.xor_allOnes]
  have h2 : (x.toBitVec &&& m.toBitVec) + (x.toBitVec &&& ~~~m.toBitVec) = x.toBitVec := by
    rw [BitVec.add_eq_or_of_and_eq_zero]
    · apply BitVec.eq_of_getLsbD_eq
      intro i hi
      simp only [BitVec.getLsbD_or, BitVec.getLsbD_and, BitVec.getLsbD_not, hi, decide_true, Bool.true_and]
      cases x.toBitVec.getLsbD i <;> cases m.toBitVec.getLsbD i <;> rfl
    · apply BitVec.eq_of_getLsbD_eq
      intro i hi
      simp only [BitVec.getLsbD_and, BitVec.getLsbD_not, hi, decide_true, Bool.true_and, BitVec.getLsbD_zero]
      cases x.toBitVec.getLsbD i <;> cases m.toBitVec.getLsbD i <;> rfl
  generalize x.toBitVec &&& m.toBitVec = a at h2 ⊢
  generalize x.toBitVec &&& ~~~m.toBitVec = b at h2 ⊢
  rw [← h2, BitVec.add_comm, BitVec.add_sub_cancel]
theorem lN_subN {a b : Nat} (h : b ≤ a) : lN a - lN b = lN (a - b) := lN_sub h
theorem p64 (k : Nat) : 64 ^ k = 2 ^ (6 * k) := by rw [show (64 : Nat) = 2 ^ 6 from rfl, ← Nat.pow_mul]
theorem dg_and (N k : Nat) {m : Nat} (hm : m < 64) : N / 2 ^ (6 * k) &&& m = dg N k &&& m := by
  apply Nat.eq_of_testBit_eq
  intro i
  rw [Nat.testBit_and, Nat.testBit_and, dg, p64, show (64 : Nat) = 2 ^ 6 from rfl, Nat.testBit_mod_two_pow]
  by_cases hi : i < 6
  · simp [hi]
  · have : m.testBit i = false := Nat.testBit_lt_two_pow (Nat.lt_of_lt_of_le hm (by have := Nat.pow_le_pow_right (show 0 < 2 by decide) (show 6 ≤ i by omega); omega))
    simp [this]
theorem mul64_lt {k d : Nat} (hk : k < 6) (hd : d < 64) : d * 64 ^ k < 2 ^ 64 := by
  rcases k6 hk with rfl | rfl | rfl | rfl | rfl | rfl <;> simp only [Nat.reducePow] <;> omega
/-- a digit that was 0 is put -/
theorem or_put {N k d : Nat} (hN : N < 64 ^ 6) (hk : k < 6) (hd : d < 64) (h0 : dg N k = 0) : lN N ||| lN (d * 64 ^ k) = lN (sd N k d) := by
  have hm := mul64_lt hk hd
  have ha : N &&& (d * 64 ^ k) = 0 := by rw [p64, and_shift, dg_and N k hd, h0]; simp
  have e : N ||| (d * 64 ^ k) = N + d * 64 ^ k := by
    have h1 : (BitVec.ofNat 64 N) &&& (BitVec.ofNat 64 (d * 64 ^ k)) = 0#64 := by
      apply BitVec.eq_of_toNat_eq
      rw [BitVec.toNat_and, BitVec.toNat_ofNat, BitVec.toNat_ofNat, Nat.mod_eq_of_lt (by omega), Nat.mod_eq_of_lt hm, ha]
      rfl
    have h2 := BitVec.add_eq_or_of_and_eq_zero _ _ h1
    have h3 := congrArg BitVec.toNat h2
    have hs : N + d * 64 ^ k < 2 ^ 64 := by
      rcases k6 hk with rfl | rfl | rfl | rfl | rfl | rfl <;> simp only [Nat.reducePow] at hN ⊢ <;> omega
    rw [BitVec.toNat_add, BitVec.toNat_or, BitVec.toNat_ofNat, BitVec.toNat_ofNat, Nat.mod_eq_of_lt (show N < 2 ^ 64 by omega), Nat.mod_eq_of_lt hm, Nat.mod_eq_of_lt hs] at h3
    exact h3.symm
  rw [wb_or (by omega) hm, e, sd_add hk, h0, Nat.zero_add]
/-- clearing the bits of m in digit k -/
theorem and_clear {N k m : Nat} (hN : N < 64 ^ 6) (hk : k < 6) (hm : m < 64) : lN N &&& ((lN m <<< ((nI (6 * k)).toInt64 &&& 63)) ^^^ (-1)) = lN (sd N k (dg N k - (dg N k &&& m))) := by
  rw [wb_shl m (by omega), and_not]
  have h1 : m * 2 ^ (6 * k) < 2 ^ 64 := by
    have : m * 2 ^ (6 * k) ≤ 63 * 2 ^ 30 := Nat.mul_le_mul (by omega) (Nat.pow_le_pow_right (by decide) (by omega))
    omega
  have hN2 : N < 2 ^ 64 := by omega
  rw [wb_and hN2 h1, and_shift]
  have h2 := dg_and N k hm
  rw [h2, ← p64]
  have h3 : dg N k &&& m ≤ dg N k := Nat.and_le_left
  rw [lN_sub (Nat.le_trans (Nat.mul_le_mul_right _ h3) (dg_mul_le hk)), sd_sub hk h3]

