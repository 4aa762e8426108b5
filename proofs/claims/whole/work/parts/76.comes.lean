/-! ===== the model: the next states ===== -/
/-- where a packed state's search begins -/
def zht (s : Int64) : Nat := (((s * 2654435761) >>> ((20 : Int32).toInt64 &&& 63)) &&& 2047).toInt32.toNatClampNeg
theorem zht_e (s : Int64) : (((s * 2654435761) >>> ((20 : Int32).toInt64 &&& 63)) &&& 2047).toInt32 = nI (zht s) ∧ zht s < 2048 := by
  unfold zht
  generalize (s * 2654435761) >>> ((20 : Int32).toInt64 &&& 63) = x
  obtain ⟨n, n1, rfl⟩ := wb_of x
  have m : lN n &&& 2047 = lN (n % 2048) := wb_mask (k := 11) n1 (by decide)
  rw [m, lN_i, n_cl (by omega)]
  exact ⟨rfl, Nat.mod_lt _ (by decide)⟩
/-- the next states: n of them, sp where they stand in the table -/
def zTI (M : zf_M) (n : Nat) (sp : Nat → Nat) : Prop := zf_I M 58 16 = nI n ∧ n ≤ 800 ∧ (∀ i j, i < n → j < n → zf_J M 68 i = zf_J M 68 j → i = j) ∧
  (∀ i, i < n → ∃ d, d < 2048 ∧ sp i = (zht (zf_J M 68 i) + d) % 2048 ∧ zf_I M 70 (sp i) = nI (i + 1) ∧ ∀ e, e < d → zf_I M 70 ((zht (zf_J M 68 i) + e) % 2048) ≠ 0) ∧
  (∀ p, p < 2048 → zf_I M 70 p = 0 ∨ ∃ i, i < n ∧ zf_I M 70 p = nI (i + 1) ∧ sp i = p)
theorem zTI_free {M : zf_M} {n : Nat} {sp : Nat → Nat} (h : zTI M n sp) (s : Int64) (hf : ∀ e, e < 2048 → zf_I M 70 ((zht s + e) % 2048) ≠ 0) : False := by
  obtain ⟨h1, h2, h3, h4, h5⟩ := h
  have key := pigeon n 2048 sp (fun p hp => by
    have hne : zf_I M 70 p ≠ 0 := by
      have hl := (zht_e s).2
      have := hf ((p + 2048 - zht s) % 2048) (Nat.mod_lt _ (by decide))
      rw [show (zht s + (p + 2048 - zht s) % 2048) % 2048 = p by omega] at this
      exact this
    rcases h5 p hp with g | ⟨i, g1, g2, g3⟩
    · exact absurd g hne
    · exact ⟨i, g1, g3⟩)
  omega
section ZMco
variable {X : zf_X} {M : zf_M} {Q : Option Value → zf_M → Prop} {n N w : Nat} {sp : Nat → Nat}
/-- a state more in the model -/
def zjm (M : zf_M) (n p : Nat) (s w : Int64) : zf_M := zf_sJ (zf_sI (zf_sI (zf_sJ (zf_sJ M 68 n s) 69 n 0) 58 16 (nI (n + 1))) 70 p (nI (n + 1))) 69 n w
theorem s126e (hP : zPk M) (hS : zSM M N) (h : zW X 126 20 [.val (.ref 58), .val (.long (lN w)), .second, .val (.long (lN (zpk N 6))), .second, .val (.int (nI (zht (lN (zpk N 6)))))] [] M Q) : zC X 126 [.ref 58, .long (lN w)] M Q := by
  rw [c126]
  simp only [w126_0, w126_1, w126_4, w126_5, w126_6, w126_9, w126_10, w126_12, w126_13, w126_16, w126_17, w126_18, zk_sI, zk_sJ, zk_sP, zn_sI, zn_sJ, zn_sP, zI_sI, zI_sJ, zI_sP, zJ_sI, zJ_sJ, zJ_sP, zP_sI, zP_sJ, zP_sP, Option.toList_some, Option.toList_none, List.cons_append, List.nil_append, zk_of hP.1, zn_of hP.1, zix, ziN, ne_eq, reduceCtorEq, not_false_eq_true, true_and, and_true, Option.getD_some, Nat.reduceLeDiff, Nat.reduceLT, c_ofNat, zkd58, zp_58_1 hP, zp_58_2 hP, zp_58_6 hP, zp_58_7 hP, zp_58_10 hP, zp_58_11 hP, zp_58_12 hP, zp_58_14 hP, zp_58_15 hP, zp_58_17 hP, zp_58_18 hP, zp_58_19 hP, zp_58_20 hP, zp_58_21 hP, zp_58_22 hP, zp_58_24 hP, zp_58_26 hP, zp_58_29 hP, zp_58_32 hP, zp_58_33 hP, zp_58_34 hP, zp_58_35 hP, zp_58_36 hP, zp_58_37 hP, zp_58_38 hP, zp_58_39 hP]
  refine s123 hP hS ?_
  have hh1 := (zht_e (lN (zpk N 6))).1
  simp only [w126_0, w126_1, w126_4, w126_5, w126_6, w126_9, w126_10, w126_12, w126_13, w126_16, w126_17, w126_18, zk_sI, zk_sJ, zk_sP, zn_sI, zn_sJ, zn_sP, zI_sI, zI_sJ, zI_sP, zJ_sI, zJ_sJ, zJ_sP, zP_sI, zP_sJ, zP_sP, Option.toList_some, Option.toList_none, List.cons_append, List.nil_append, hh1]
  exact h
end ZMco
