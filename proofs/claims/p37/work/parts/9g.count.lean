/-! ===== count, played ===== -/
def aPl (q : tQ) (k : Int32) : Int32 := if k = 0 then (qP q).1.1 else if k = 1 then (qP q).1.2.1 else if k = 2 then (qP q).1.2.2 else if zin k 10 15 then (qP q).2 (k - 10).toNatClampNeg else -2
section ZCn
variable {X : zf_X} {M : zf_M} {Q : Option Value → zf_M → Prop} {q : tQ}

theorem out_2 {k : Int32} (h0 : k ≠ 0) (h1 : k ≠ 1) (h2 : k ≠ 2) : k.toInt < 0 ∨ 2 < k.toInt := by
  rw [ne_eq, ← Int32.toInt_inj] at h0 h1 h2
  rw [t_0] at h0
  rw [t_1] at h1
  rw [t_2] at h2
  omega
theorem t_10 : (10 : Int32).toInt = 10 := by decide
theorem t_15 : (15 : Int32).toInt = 15 := by decide
theorem t_16 : (16 : Int32).toInt = 16 := by decide
theorem pl_in {k : Int32} : (¬ k < 10 ∧ k < 16) ↔ zin k 10 15 := by
  show _ ↔ (10 ≤ k ∧ k ≤ 15)
  rw [Int32.lt_iff_toInt_lt, Int32.lt_iff_toInt_lt, Int32.le_iff_toInt_le, Int32.le_iff_toInt_le, t_10, t_15, t_16]
  omega
theorem pl_o {k : Int32} (h : zin k 10 15) : ∃ j, j < 6 ∧ k = nI (10 + j) ∧ k - 10 = nI j := by
  obtain ⟨n, n1, rfl, n2⟩ := zin_16 (h := 15) (by decide) (by decide) h
  have e : (10 : Int32) = nI 10 := rfl
  rw [e, n_le (by decide) (by omega)] at n2
  refine ⟨n - 10, by omega, by congr 1; omega, ?_⟩
  rw [e]
  exact pk_sub n2
theorem C75 {k : Int32} (hP : zPk M) (hC : zKC q M) (h : ∀ M1, zUp M M1 → zKC q M1 → Q (some (.int (aPl q k))) M1) : zC X 75 [.ref 0, .int k] M Q := by
  have h0 := h M (zUp_rf hP) hC
  have hp := hC.2.2.2.2.2.2.1
  unfold aPl at h0
  rw [c75]
  by_cases e0 : k = 0
  · rw [if_pos e0] at h0
    rw [e0]
    simp only [w75_0, w75_1_0, w75_28, w75_29, w75_32, w75_35, zk_sI, zk_sJ, zk_sP, zn_sI, zn_sJ, zn_sP, zI_sI, zI_sJ, zI_sP, zJ_sI, zJ_sJ, zJ_sP, zP_sI, zP_sJ, zP_sP, Option.toList_some, Option.toList_none, List.cons_append, List.nil_append, zk_of hP.1, zn_of hP.1, zix, ziN, ne_eq, reduceCtorEq, not_false_eq_true, true_and, and_true, Option.getD_some, Nat.reduceLeDiff, Nat.reduceLT, c_ofNat, zkd0, zp_0_0 hP, zp_0_1 hP, zp_0_2 hP, zp_0_3 hP, zp_0_4 hP, zp_0_5 hP, zp_0_6 hP, zp_0_7 hP, zkd43, zp_43_3 hP, hp.1]
    exact h0
  by_cases e1 : k = 1
  · rw [if_neg e0, if_pos e1] at h0
    rw [e1]
    simp only [w75_0, w75_1_1, w75_36, w75_37, w75_40, w75_43, zk_sI, zk_sJ, zk_sP, zn_sI, zn_sJ, zn_sP, zI_sI, zI_sJ, zI_sP, zJ_sI, zJ_sJ, zJ_sP, zP_sI, zP_sJ, zP_sP, Option.toList_some, Option.toList_none, List.cons_append, List.nil_append, zk_of hP.1, zn_of hP.1, zix, ziN, ne_eq, reduceCtorEq, not_false_eq_true, true_and, and_true, Option.getD_some, Nat.reduceLeDiff, Nat.reduceLT, c_ofNat, zkd0, zp_0_0 hP, zp_0_1 hP, zp_0_2 hP, zp_0_3 hP, zp_0_4 hP, zp_0_5 hP, zp_0_6 hP, zp_0_7 hP, zkd43, zp_43_3 hP, hp.2.1]
    exact h0
  by_cases e2 : k = 2
  · rw [if_neg e0, if_neg e1, if_pos e2] at h0
    rw [e2]
    simp only [w75_0, w75_1_2, w75_44, w75_45, w75_48, w75_51, zk_sI, zk_sJ, zk_sP, zn_sI, zn_sJ, zn_sP, zI_sI, zI_sJ, zI_sP, zJ_sI, zJ_sJ, zJ_sP, zP_sI, zP_sJ, zP_sP, Option.toList_some, Option.toList_none, List.cons_append, List.nil_append, zk_of hP.1, zn_of hP.1, zix, ziN, ne_eq, reduceCtorEq, not_false_eq_true, true_and, and_true, Option.getD_some, Nat.reduceLeDiff, Nat.reduceLT, c_ofNat, zkd0, zp_0_0 hP, zp_0_1 hP, zp_0_2 hP, zp_0_3 hP, zp_0_4 hP, zp_0_5 hP, zp_0_6 hP, zp_0_7 hP, zkd43, zp_43_3 hP, hp.2.2.1]
    exact h0
  rw [if_neg e0, if_neg e1, if_neg e2] at h0
  simp only [w75_0, w75_1_e (out_2 e0 e1 e2), w75_52, w75_53, w75_55, w75_58, w75_59, w75_61, w75_64, w75_66, w75_69, w75_70, w75_73, w75_76, w75_77, w75_79, w75_80, w75_81, zk_sI, zk_sJ, zk_sP, zn_sI, zn_sJ, zn_sP, zI_sI, zI_sJ, zI_sP, zJ_sI, zJ_sJ, zJ_sP, zP_sI, zP_sJ, zP_sP, Option.toList_some, Option.toList_none, List.cons_append, List.nil_append, zk_of hP.1, zn_of hP.1, zix, ziN, ne_eq, reduceCtorEq, not_false_eq_true, true_and, and_true, Option.getD_some, Nat.reduceLeDiff, Nat.reduceLT, c_ofNat, zkd0, zp_0_0 hP, zp_0_1 hP, zp_0_2 hP, zp_0_3 hP, zp_0_4 hP, zp_0_5 hP, zp_0_6 hP, zp_0_7 hP, zkd43, zp_43_3 hP, zkd44, znd44, zfx44]
  refine ⟨fun g => ?_, fun g => ⟨fun g2 => ?_, fun g2 => ?_⟩⟩
  · rw [if_neg (fun z => (pl_in.mpr z).1 g)] at h0
    exact h0
  · have hz := pl_in.mp ⟨g, g2⟩
    obtain ⟨j, j1, j2, j3⟩ := pl_o hz
    rw [if_pos hz, j3, n_cl (by omega)] at h0
    rw [j3, n_cl (by omega), hp.2.2.2 j j1]
    exact ⟨vp_in_nI j1 (by decide), h0⟩
  · rw [if_neg (fun z => g2 (pl_in.mpr z).2)] at h0
    exact h0
end ZCn

