/-! ===== the model: who is set ===== -/
section ZMt
variable {X : zf_X} {M : zf_M} {Q : Option Value → zf_M → Prop}
/-- slotsNow -/
theorem s128 {a b : Nat} (hP : zPk M) (ha : zf_I M 58 3 = nI a) (hb : zf_I M 58 9 = nI b) (h : Q (some (.int (nI (a * b)))) M) : zC X 128 [.ref 58] M Q := by
  rw [c128]
  have e : nI a * nI b = nI (a * b) := pk_mul a b
  simp only [w128_0, w128_1, w128_4, w128_5, w128_8, w128_9, zk_sI, zk_sJ, zk_sP, zn_sI, zn_sJ, zn_sP, zI_sI, zI_sJ, zI_sP, zJ_sI, zJ_sJ, zJ_sP, zP_sI, zP_sJ, zP_sP, Option.toList_some, Option.toList_none, List.cons_append, List.nil_append, zk_of hP.1, zn_of hP.1, zix, ziN, ne_eq, reduceCtorEq, not_false_eq_true, true_and, and_true, Option.getD_some, Nat.reduceLeDiff, Nat.reduceLT, c_ofNat, zkd58, zp_58_1 hP, zp_58_2 hP, zp_58_6 hP, zp_58_7 hP, zp_58_10 hP, zp_58_11 hP, zp_58_12 hP, zp_58_14 hP, zp_58_15 hP, zp_58_17 hP, zp_58_18 hP, zp_58_19 hP, zp_58_20 hP, zp_58_21 hP, zp_58_22 hP, zp_58_24 hP, zp_58_26 hP, zp_58_29 hP, zp_58_32 hP, zp_58_33 hP, zp_58_34 hP, zp_58_35 hP, zp_58_36 hP, zp_58_37 hP, zp_58_38 hP, zp_58_39 hP, ha, hb, e]
  exact h
/-- sets -/
theorem s115 {b : Nat} (hP : zPk M) (h : ∀ M1, zF (fun c => c = 58 ∨ c = 61 ∨ c = 62) M M1 → (∀ j, j ≠ 8 → zf_I M1 58 j = zf_I M 58 j) → zf_I M1 58 8 = zf_I M 58 5 → (∀ k, k < 6 → zf_I M1 61 k = zf_I M 60 k ∧ zf_I M1 62 k = nI (if k < 3 then b else 0)) → Q none M1) : zC X 115 [.ref 58, .int (nI b)] M Q := by
  rw [c115]
  have loop : ∀ (m k : Nat) (M1 : zf_M), k + m = 6 → zF (fun c => c = 61 ∨ c = 62) M M1 → (∀ i, i < k → zf_I M1 61 i = zf_I M 60 i ∧ zf_I M1 62 i = nI (if i < 3 then b else 0)) → zW X 115 2 [.val (.ref 58), .val (.int (nI b)), .val (.int (nI k))] [] M1 Q := by
    intro m
    induction m with
    | zero =>
      intro k M1 hk hF h1
      obtain rfl : k = 6 := by omega
      have hP1 := zPk_F hP hF
      rw [w115_2]
      simp only [w115_0, w115_1, w115_3, w115_5, w115_8, w115_9, w115_12, w115_13, w115_14, w115_17, w115_18, w115_19, w115_20, w115_21, w115_24, w115_25, w115_26, w115_27, w115_30, w115_31, w115_34, w115_35, w115_36, w115_39, w115_42, w115_43, w115_44, w115_47, w115_50, zk_sI, zk_sJ, zk_sP, zn_sI, zn_sJ, zn_sP, zI_sI, zI_sJ, zI_sP, zJ_sI, zJ_sJ, zJ_sP, zP_sI, zP_sJ, zP_sP, Option.toList_some, Option.toList_none, List.cons_append, List.nil_append, zk_of hP1.1, zn_of hP1.1, zix, ziN, ne_eq, reduceCtorEq, not_false_eq_true, true_and, and_true, Option.getD_some, Nat.reduceLeDiff, Nat.reduceLT, c_ofNat, zkd58, zp_58_1 hP1, zp_58_2 hP1, zp_58_6 hP1, zp_58_7 hP1, zp_58_10 hP1, zp_58_11 hP1, zp_58_12 hP1, zp_58_14 hP1, zp_58_15 hP1, zp_58_17 hP1, zp_58_18 hP1, zp_58_19 hP1, zp_58_20 hP1, zp_58_21 hP1, zp_58_22 hP1, zp_58_24 hP1, zp_58_26 hP1, zp_58_29 hP1, zp_58_32 hP1, zp_58_33 hP1, zp_58_34 hP1, zp_58_35 hP1, zp_58_36 hP1, zp_58_37 hP1, zp_58_38 hP1, zp_58_39 hP1, zkd59, znd59, zfx59, zkd60, znd60, zfx60, zkd61, znd61, zfx61, zkd62, znd62, zfx62, zkd63, znd63, zfx63, zkd64, znd64, zfx64, zkd65, znd65, zfx65]
      refine ⟨fun _ => h _ (zF_sI (zF_mo hF (fun c hc => Or.inr hc)) (Or.inl rfl)) (fun j hj => ?_) ?_ (fun i hi => ?_), fun z => absurd (by decide) z⟩
      · rw [zI_sI, if_pos rfl, if_neg hj, (hF.2.1 58 (by omega) j).1]
      · rw [zI_sI, if_pos rfl, if_pos rfl, (hF.2.1 58 (by omega) 5).1]
      · rw [zI_sI, if_neg (by decide), zI_sI, if_neg (by decide)]
        exact h1 i hi
    | succ m ih =>
      intro k M1 hk hF h1
      have hP1 := zPk_F hP hF
      have fin : ∀ v, v = nI (if k < 3 then b else 0) → zW X 115 2 [.val (.ref 58), .val (.int (nI b)), .val (.int (nI (k + 1)))] [] (zf_sI (zf_sI M1 61 k (zf_I M1 60 k)) 62 k v) Q := by
        intro v hv
        refine ih (k + 1) _ (by omega) (zF_sI (zF_sI hF (Or.inl rfl)) (Or.inr rfl)) (fun i hi => ?_)
        simp only [zI_sI, Nat.reduceEqDiff, if_false, if_true]
        by_cases e : i = k
        · rw [if_pos e, if_pos e, hv, (hF.2.1 60 (by omega) k).1, e]
          exact ⟨rfl, rfl⟩
        · rw [if_neg e, if_neg e]
          exact h1 i (by omega)
      rw [w115_2]
      simp only [w115_0, w115_1, w115_3, w115_5, w115_8, w115_9, w115_12, w115_13, w115_14, w115_17, w115_18, w115_19, w115_20, w115_21, w115_24, w115_25, w115_26, w115_27, w115_30, w115_31, w115_34, w115_35, w115_36, w115_39, w115_42, w115_43, w115_44, w115_47, w115_50, zk_sI, zk_sJ, zk_sP, zn_sI, zn_sJ, zn_sP, zI_sI, zI_sJ, zI_sP, zJ_sI, zJ_sJ, zJ_sP, zP_sI, zP_sJ, zP_sP, Option.toList_some, Option.toList_none, List.cons_append, List.nil_append, zk_of hP1.1, zn_of hP1.1, zix, ziN, ne_eq, reduceCtorEq, not_false_eq_true, true_and, and_true, Option.getD_some, Nat.reduceLeDiff, Nat.reduceLT, c_ofNat, zkd58, zp_58_1 hP1, zp_58_2 hP1, zp_58_6 hP1, zp_58_7 hP1, zp_58_10 hP1, zp_58_11 hP1, zp_58_12 hP1, zp_58_14 hP1, zp_58_15 hP1, zp_58_17 hP1, zp_58_18 hP1, zp_58_19 hP1, zp_58_20 hP1, zp_58_21 hP1, zp_58_22 hP1, zp_58_24 hP1, zp_58_26 hP1, zp_58_29 hP1, zp_58_32 hP1, zp_58_33 hP1, zp_58_34 hP1, zp_58_35 hP1, zp_58_36 hP1, zp_58_37 hP1, zp_58_38 hP1, zp_58_39 hP1, zkd59, znd59, zfx59, zkd60, znd60, zfx60, zkd61, znd61, zfx61, zkd62, znd62, zfx62, zkd63, znd63, zfx63, zkd64, znd64, zfx64, zkd65, znd65, zfx65, n_cl (show k < 2 ^ 31 by omega), n_in (show k < 6 by omega) (show 6 < 2 ^ 31 by decide), n_a1]
      rw [c_6, n_le (by decide) (by omega), c_3, n_le (by decide) (by omega)]
      refine ⟨fun z => by omega, fun _ => ⟨fun z => fin _ ?_, fun z => fin _ ?_⟩⟩
      · rw [if_neg (by omega)]
        rfl
      · rw [if_pos (by omega)]
  simp only [w115_0, w115_1, w115_3, w115_5, w115_8, w115_9, w115_12, w115_13, w115_14, w115_17, w115_18, w115_19, w115_20, w115_21, w115_24, w115_25, w115_26, w115_27, w115_30, w115_31, w115_34, w115_35, w115_36, w115_39, w115_42, w115_43, w115_44, w115_47, w115_50, zk_sI, zk_sJ, zk_sP, zn_sI, zn_sJ, zn_sP, zI_sI, zI_sJ, zI_sP, zJ_sI, zJ_sJ, zJ_sP, zP_sI, zP_sJ, zP_sP, Option.toList_some, Option.toList_none, List.cons_append, List.nil_append]
  exact loop 6 0 M rfl (zF_rf _ _) (fun i hi => by omega)
end ZMt
