/-! ===== the law, run ===== -/
theorem t_7 : (7 : Int32).toInt = 7 := by decide
theorem m7_e {n : Nat} (hn : n ≤ 3584) : (nI n - 7).toInt = (n : Int) - 7 := by
  by_cases h : 7 ≤ n
  · have e : nI n - 7 = nI (n - 7) := pk_sub (b := 7) h
    rw [e, nI_toInt (by omega)]
    omega
  · have key : ∀ l, l < 7 → (nI l - 7).toInt = (l : Int) - 7 := by decide
    exact key n (by omega)
theorem out_33 {k : Int32} (h0 : k ≠ 0) (h1 : k ≠ 1) (h2 : k ≠ 2) (h3 : k ≠ 3) (h4 : k ≠ 4) (h5 : k ≠ 5) (h6 : k ≠ 6) (h7 : k ≠ 7) (h8 : k ≠ 8) (h9 : k ≠ 9) (h10 : k ≠ 10) (h11 : k ≠ 11) (h12 : k ≠ 12) (h13 : k ≠ 13) (h14 : k ≠ 14) (h15 : k ≠ 15) (h16 : k ≠ 16) (h17 : k ≠ 17) (h18 : k ≠ 18) (h19 : k ≠ 19) (h20 : k ≠ 20) (h21 : k ≠ 21) (h22 : k ≠ 22) (h23 : k ≠ 23) (h24 : k ≠ 24) (h25 : k ≠ 25) (h26 : k ≠ 26) (h27 : k ≠ 27) (h28 : k ≠ 28) (h29 : k ≠ 29) (h30 : k ≠ 30) (h31 : k ≠ 31) (h32 : k ≠ 32) (h33 : k ≠ 33) : k.toInt < 0 ∨ 33 < k.toInt := by
  rw [ne_eq, ← Int32.toInt_inj] at h0 h1 h2 h3 h4 h5 h6 h7 h8 h9 h10 h11 h12 h13 h14 h15 h16 h17 h18 h19 h20 h21 h22 h23 h24 h25 h26 h27 h28 h29 h30 h31 h32 h33

  rw [show (0 : Int32).toInt = 0 by decide] at h0
  rw [show (1 : Int32).toInt = 1 by decide] at h1
  rw [show (2 : Int32).toInt = 2 by decide] at h2
  rw [show (3 : Int32).toInt = 3 by decide] at h3
  rw [show (4 : Int32).toInt = 4 by decide] at h4
  rw [show (5 : Int32).toInt = 5 by decide] at h5
  rw [show (6 : Int32).toInt = 6 by decide] at h6
  rw [show (7 : Int32).toInt = 7 by decide] at h7
  rw [show (8 : Int32).toInt = 8 by decide] at h8
  rw [show (9 : Int32).toInt = 9 by decide] at h9
  rw [show (10 : Int32).toInt = 10 by decide] at h10
  rw [show (11 : Int32).toInt = 11 by decide] at h11
  rw [show (12 : Int32).toInt = 12 by decide] at h12
  rw [show (13 : Int32).toInt = 13 by decide] at h13
  rw [show (14 : Int32).toInt = 14 by decide] at h14
  rw [show (15 : Int32).toInt = 15 by decide] at h15
  rw [show (16 : Int32).toInt = 16 by decide] at h16
  rw [show (17 : Int32).toInt = 17 by decide] at h17
  rw [show (18 : Int32).toInt = 18 by decide] at h18
  rw [show (19 : Int32).toInt = 19 by decide] at h19
  rw [show (20 : Int32).toInt = 20 by decide] at h20
  rw [show (21 : Int32).toInt = 21 by decide] at h21
  rw [show (22 : Int32).toInt = 22 by decide] at h22
  rw [show (23 : Int32).toInt = 23 by decide] at h23
  rw [show (24 : Int32).toInt = 24 by decide] at h24
  rw [show (25 : Int32).toInt = 25 by decide] at h25
  rw [show (26 : Int32).toInt = 26 by decide] at h26
  rw [show (27 : Int32).toInt = 27 by decide] at h27
  rw [show (28 : Int32).toInt = 28 by decide] at h28
  rw [show (29 : Int32).toInt = 29 by decide] at h29
  rw [show (30 : Int32).toInt = 30 by decide] at h30
  rw [show (31 : Int32).toInt = 31 by decide] at h31
  rw [show (32 : Int32).toInt = 32 by decide] at h32
  rw [show (33 : Int32).toInt = 33 by decide] at h33
  omega
section ZLb
variable {X : zf_X} {M : zf_M} {q : tQ}
/-- what the law owes -/
def zEnd (v : Option Value) (M : zf_M) : Prop := v = some (.int 1) ∧ M.1 = zSH
theorem law_loop (hx : X.1 ≤ 3584) : ∀ (m i : Nat) (q : tQ) (M : zf_M), X.1 ≤ i + m → i ≤ X.1 → zR q M → zW X 1000 18 [.val (.ref 1000002), .val (.ref 0), .val (.ref 58), .val (.int (nI i))] [] M zEnd := by
  have out : ∀ (i : Nat) (q : tQ) (M : zf_M), X.1 < i + 7 → i ≤ X.1 → zR q M → zW X 1000 18 [.val (.ref 1000002), .val (.ref 0), .val (.ref 58), .val (.int (nI i))] [] M zEnd := by
    intro i q M h1 h2 hR
    obtain ⟨hv, hP, hC, hM⟩ := hR
    have hlt : (nI X.1 - 7 < nI i) = True := by
      refine eq_true ?_
      rw [Int32.lt_iff_toInt_lt, m7_e hx, nI_toInt (by omega)]
      omega
    rw [w1000_18]
    simp only [w1000_19, w1000_20, w1000_21, w1000_23, w1000_24, w1000_1249, w1000_1250, zk_sI, zk_sJ, zk_sP, zn_sI, zn_sJ, zn_sP, zI_sI, zI_sJ, zI_sP, zJ_sI, zJ_sJ, zJ_sP, zP_sI, zP_sJ, zP_sP, Option.toList_some, Option.toList_none, List.cons_append, List.nil_append, wL_20 hP, c_ofNat, hlt, true_implies, not_true_eq_false, false_implies, and_true]
    exact ⟨rfl, rfl, hP.1⟩
  intro m
  induction m with
  | zero =>
    intro i q M h1 h2 hR
    exact out i q M (by omega) h2 hR
  | succ m ih =>
    intro i q M h1 h2 hR
    by_cases h7 : X.1 < i + 7
    · exact out i q M h7 h2 hR
    · obtain ⟨hv, hP, hC, hM⟩ := hR
      have hR : zR q M := ⟨hv, hP, hC, hM⟩
      have hi7 : i + 7 ≤ X.1 := by omega
      have hx2 : X.1 < 2 ^ 31 := by omega
      have nxt : ∀ q' M', zR q' M' → zW X 1000 18 [.val (.ref 1000002), .val (.ref 0), .val (.ref 58), .val (.int (nI (i + 7)))] [] M' zEnd := fun q' M' r => ih (i + 7) q' M' (by omega) hi7 r
      have hlt : (nI X.1 - 7 < nI i) = False := by
        refine eq_false ?_
        rw [Int32.lt_iff_toInt_lt, m7_e hx, nI_toInt (by omega)]
        omega
      have a7 : nI i + 7 = nI (i + 7) := nI_add i 7
      rw [w1000_18]
      simp only [w1000_19, w1000_20, w1000_21, w1000_23, w1000_24, w1000_27, w1000_28, w1000_29, w1000_30, w1000_32, zk_sI, zk_sJ, zk_sP, zn_sI, zn_sJ, zn_sP, zI_sI, zI_sJ, zI_sP, zJ_sI, zJ_sJ, zJ_sP, zP_sI, zP_sJ, zP_sP, Option.toList_some, Option.toList_none, List.cons_append, List.nil_append, wL_20 hP, wL_29 hP, c_ofNat, hlt, n_cl (show i < 2 ^ 31 by omega), n_in (show i < X.1 by omega) hx2, true_implies, not_false_eq_true, false_implies, true_and]
      generalize X.2 i &&& 63 = y
      by_cases e0 : y = 0
      · rw [e0, w1000_33_0]
        exact law_0 hR hi7 hx2 nxt
      by_cases e1 : y = 1
      · rw [e1, w1000_33_1]
        exact law_1 hR hi7 hx2 nxt
      by_cases e2 : y = 2
      · rw [e2, w1000_33_2]
        exact law_2 hR hi7 hx2 nxt
      by_cases e3 : y = 3
      · rw [e3, w1000_33_3]
        exact law_3 hR hi7 hx2 nxt
      by_cases e4 : y = 4
      · rw [e4, w1000_33_4]
        exact law_4 hR hi7 hx2 nxt
      by_cases e5 : y = 5
      · rw [e5, w1000_33_5]
        exact law_5 hR hi7 hx2 nxt
      by_cases e6 : y = 6
      · rw [e6, w1000_33_6]
        exact law_6 hR hi7 hx2 nxt
      by_cases e7 : y = 7
      · rw [e7, w1000_33_7]
        exact law_7 hR hi7 hx2 nxt
      by_cases e8 : y = 8
      · rw [e8, w1000_33_8]
        exact law_8 hR hi7 hx2 nxt
      by_cases e9 : y = 9
      · rw [e9, w1000_33_9]
        exact law_9 hR hi7 hx2 nxt
      by_cases e10 : y = 10
      · rw [e10, w1000_33_10]
        exact law_10 hR hi7 hx2 nxt
      by_cases e11 : y = 11
      · rw [e11, w1000_33_11]
        exact law_11 hR hi7 hx2 nxt
      by_cases e12 : y = 12
      · rw [e12, w1000_33_12]
        exact law_12 hR hi7 hx2 nxt
      by_cases e13 : y = 13
      · rw [e13, w1000_33_13]
        exact law_13 hR hi7 hx2 nxt
      by_cases e14 : y = 14
      · rw [e14, w1000_33_14]
        exact law_14 hR hi7 hx2 nxt
      by_cases e15 : y = 15
      · rw [e15, w1000_33_15]
        exact law_15 hR hi7 hx2 nxt
      by_cases e16 : y = 16
      · rw [e16, w1000_33_16]
        exact law_16 hR hi7 hx2 nxt
      by_cases e17 : y = 17
      · rw [e17, w1000_33_17]
        exact law_17 hR hi7 hx2 nxt
      by_cases e18 : y = 18
      · rw [e18, w1000_33_18]
        exact law_18 hR hi7 hx2 nxt
      by_cases e19 : y = 19
      · rw [e19, w1000_33_19]
        exact law_19 hR hi7 hx2 nxt
      by_cases e20 : y = 20
      · rw [e20, w1000_33_20]
        exact law_20 hR hi7 hx2 nxt
      by_cases e21 : y = 21
      · rw [e21, w1000_33_21]
        exact law_21 hR hi7 hx2 nxt
      by_cases e22 : y = 22
      · rw [e22, w1000_33_22]
        exact law_22 hR hi7 hx2 nxt
      by_cases e23 : y = 23
      · rw [e23, w1000_33_23]
        exact law_23 hR hi7 hx2 nxt
      by_cases e24 : y = 24
      · rw [e24, w1000_33_24]
        exact law_24 hR hi7 hx2 nxt
      by_cases e25 : y = 25
      · rw [e25, w1000_33_25]
        exact law_25 hR hi7 hx2 nxt
      by_cases e26 : y = 26
      · rw [e26, w1000_33_26]
        exact law_26 hR hi7 hx2 nxt
      by_cases e27 : y = 27
      · rw [e27, w1000_33_27]
        exact law_27 hR hi7 hx2 nxt
      by_cases e28 : y = 28
      · rw [e28, w1000_33_28]
        exact law_28 hR hi7 hx2 nxt
      by_cases e29 : y = 29
      · rw [e29, w1000_33_29]
        exact law_29 hR hi7 hx2 nxt
      by_cases e30 : y = 30
      · rw [e30, w1000_33_30]
        exact law_30 hR hi7 hx2 nxt
      by_cases e31 : y = 31
      · rw [e31, w1000_33_31]
        exact law_31 hR hi7 hx2 nxt
      by_cases e32 : y = 32
      · rw [e32, w1000_33_32]
        exact law_32 hR hi7 hx2 nxt
      by_cases e33 : y = 33
      · rw [e33, w1000_33_33]
        exact law_33 hR hi7 hx2 nxt
      rw [w1000_33_e (out_33 e0 e1 e2 e3 e4 e5 e6 e7 e8 e9 e10 e11 e12 e13 e14 e15 e16 e17 e18 e19 e20 e21 e22 e23 e24 e25 e26 e27 e28 e29 e30 e31 e32 e33)]
      simp only [w1000_1243, w1000_1246, a7]
      exact nxt q M hR
theorem law_run (hx : X.1 ≤ 3584) : zW X 1000 0 [.val (.ref 1000002), .unset, .unset, .unset] [] Mz zEnd := by
  have l0 : Mz.1.length = 0 := rfl
  have l1 : K11.1.length = 58 := by decide +kernel
  simp only [w1000_0, w1000_3, w1000_4, l0]
  refine ⟨by decide, ?_⟩
  change zC X 49 [.ref 0] K0 _
  refine mk49 ?_
  simp only [w1000_7, w1000_8, w1000_11, w1000_12, zk_sI, zk_sJ, zk_sP, zn_sI, zn_sJ, zn_sP, zI_sI, zI_sJ, zI_sP, zJ_sI, zJ_sJ, zJ_sP, zP_sI, zP_sJ, zP_sP, Option.toList_some, Option.toList_none, List.cons_append, List.nil_append, l1]
  refine ⟨by decide, ?_⟩
  refine mk102 ?_
  simp only [w1000_15, w1000_16, w1000_17, zk_sI, zk_sJ, zk_sP, zn_sI, zn_sJ, zn_sP, zI_sI, zI_sJ, zI_sP, zJ_sI, zJ_sJ, zJ_sP, zP_sI, zP_sJ, zP_sP, Option.toList_some, Option.toList_none, List.cons_append, List.nil_append]
  exact law_loop hx X.1 0 q0 K14 (by omega) (Nat.zero_le _) ⟨vQ_0, zPk_0, zKC_0, zKM_0⟩
end ZLb
