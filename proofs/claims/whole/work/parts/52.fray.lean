/-! ===== the class: a state's digits, who is struck, healed, chosen ===== -/
section ZFr
variable {X : zf_X} {M : zf_M} {Q : Option Value → zf_M → Prop} {N k f : Nat}
theorem i6 (k : Nat) : (6 : Int32) * nI k = nI (6 * k) := pk_mul 6 k
theorem and63 (n : Nat) : nI n &&& 63 = nI (n % 64) := by
  rw [pk_and (nI n) (m := 63) 6 (by decide)]
  congr 1
  show (BitVec.ofNat 32 n).toNat % 64 = n % 64
  rw [BitVec.toNat_ofNat]
  omega
theorem and31 (n : Nat) : nI n &&& 31 = nI (n % 32) := by
  rw [pk_and (nI n) (m := 31) 5 (by decide)]
  congr 1
  show (BitVec.ofNat 32 n).toNat % 32 = n % 32
  rw [BitVec.toNat_ofNat]
  omega
/-- part -/
theorem s11 (hN : N < 64 ^ 6) (hk : k < 6) (h : Q (some (.int (nI (dg N k)))) M) : zC X 11 [.long (lN N), .int (nI k)] M Q := by
  rw [c11]
  simp only [w11_0, w11_1, w11_3, w11_4, w11_5, w11_6, w11_7, w11_9, w11_10, zk_sI, zk_sJ, zk_sP, zn_sI, zn_sJ, zn_sP, zI_sI, zI_sJ, zI_sP, zJ_sI, zJ_sJ, zJ_sP, zP_sI, zP_sJ, zP_sP, Option.toList_some, Option.toList_none, List.cons_append, List.nil_append]
  rw [i6, wb_shr (by omega) (by omega), lN_i, and63]
  rw [dg, p64] at h
  exact h
/-- lifeOf -/
theorem s12 {n : Nat} (h : Q (some (.int (nI (n % 32)))) M) : zC X 12 [.int (nI n)] M Q := by
  rw [c12]
  simp only [w12_0, w12_1, w12_3, w12_4, zk_sI, zk_sJ, zk_sP, zn_sI, zn_sJ, zn_sP, zI_sI, zI_sJ, zI_sP, zJ_sI, zJ_sJ, zJ_sP, zP_sI, zP_sJ, zP_sP, Option.toList_some, Option.toList_none, List.cons_append, List.nil_append]
  rw [and31]
  exact h
/-- afterFlight -/
theorem s15 {a : Nat} (hN : N < 64 ^ 6) (hk : k < 6) (h : Q (some (.long (lN (sd N k (dg N k % 32))))) M) : zC X 15 [.ref a, .long (lN N), .int (nI k)] M Q := by
  rw [c15]
  simp only [w15_0, w15_1, w15_4, w15_6, w15_7, w15_8, w15_9, w15_12, w15_13, w15_14, zk_sI, zk_sJ, zk_sP, zn_sI, zn_sJ, zn_sP, zI_sI, zI_sJ, zI_sP, zJ_sI, zJ_sJ, zJ_sP, zP_sI, zP_sJ, zP_sP, Option.toList_some, Option.toList_none, List.cons_append, List.nil_append]
  have e : (32 : Int64) = lN 32 := rfl
  rw [i6, e, and_clear hN hk (by decide)]
  have h2 : ∀ d, d < 64 → d - (d &&& 32) = d % 32 := by decide +kernel
  rw [h2 _ (dg_lt N k)]
  exact h
/-- struck -/
def zstr (d f : Nat) : Nat := if d % 32 ≤ f then 0 else d - f
theorem s20 {j : Int32} (hN : N < 64 ^ 6) (hk : j = nI k ∧ k < 6 ∨ j = -1) (hf : f < 32) (h : Q (some (.long (if j = -1 then lN N else lN (sd N k (zstr (dg N k) f))))) M) : zC X 20 [.long (lN N), .int j, .int (nI f)] M Q := by
  rw [c20]
  simp only [w20_0, w20_1, w20_4, w20_5, w20_6, w20_8, w20_9, w20_10, w20_12, w20_13, w20_15, w20_16, w20_19, w20_20, w20_21, w20_22, w20_25, w20_26, w20_29, w20_30, w20_32, w20_34, w20_37, w20_38, w20_41, w20_43, w20_44, w20_47, w20_48, w20_49, w20_52, w20_53, w20_54, w20_55, w20_57, w20_58, w20_59, zk_sI, zk_sJ, zk_sP, zn_sI, zn_sJ, zn_sP, zI_sI, zI_sJ, zI_sP, zJ_sI, zJ_sJ, zJ_sP, zP_sI, zP_sJ, zP_sP, Option.toList_some, Option.toList_none, List.cons_append, List.nil_append]
  trace_state
  sorry
end ZFr
