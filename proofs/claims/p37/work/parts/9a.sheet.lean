/-! ===== sheets: the class's ===== -/
/-- a sheet's cells -/
def zSw (M : zf_M) (a : Nat) : Prop := a < 1000 ∧ zf_k M a = 7 ∧ zf_P M a 0 = some (a + 1) ∧ zf_n M 10 (a + 1) = 60 ∧ zf_k M (a + 1) = 10
theorem k4 {k : Nat} (h : k < 4) : k = 0 ∨ k = 1 ∨ k = 2 ∨ k = 3 := by omega
theorem zSw_of {M : zf_M} (hP : zPk M) {s : Nat} (hs : s < 4) : zSw M (50 + 2 * s) ∧ zf_P M 45 s = some (50 + 2 * s) := by
  rcases k4 hs with rfl | rfl | rfl | rfl
  · exact ⟨⟨by decide, by rw [zk_of hP.1]; rfl, zp_50_0 hP, by rw [zn_of hP.1]; rfl, by rw [zk_of hP.1]; rfl⟩, zp_45_0 hP⟩
  · exact ⟨⟨by decide, by rw [zk_of hP.1]; rfl, zp_52_0 hP, by rw [zn_of hP.1]; rfl, by rw [zk_of hP.1]; rfl⟩, zp_45_1 hP⟩
  · exact ⟨⟨by decide, by rw [zk_of hP.1]; rfl, zp_54_0 hP, by rw [zn_of hP.1]; rfl, by rw [zk_of hP.1]; rfl⟩, zp_45_2 hP⟩
  · exact ⟨⟨by decide, by rw [zk_of hP.1]; rfl, zp_56_0 hP, by rw [zn_of hP.1]; rfl, by rw [zk_of hP.1]; rfl⟩, zp_45_3 hP⟩
/-- how an item is kept -/
def zcv (form v : Int32) : Int32 := if form = 0 then v.toInt8.toInt32 else if form = 1 then v.toInt16.toInt32 else v
section ZSh
variable {X : zf_X} {M : zf_M} {Q : Option Value → zf_M → Prop} {q : tQ} {a n : Nat}
theorem sheet_in {s : Int32} : (0 ≤ s ∧ s < 4) ↔ zin s 0 3 := by
  show _ ↔ (0 ≤ s ∧ s ≤ 3)
  rw [Int32.le_iff_toInt_le, Int32.le_iff_toInt_le, Int32.lt_iff_toInt_lt, t_0, t_3, show (4 : Int32).toInt = 4 by decide]
  omega
/-- isSheet -/
theorem s87 {s : Int32} (h : Q (some (.int (zB (zin s 0 3)))) M) : zC X 87 [.int s] M Q := by
  rw [c87]
  simp only [w87_0, w87_1, w87_4, w87_5, w87_6, w87_9, w87_10, w87_13, w87_14, zk_sI, zk_sJ, zk_sP, zn_sI, zn_sJ, zn_sP, zI_sI, zI_sJ, zI_sP, zJ_sI, zJ_sJ, zJ_sP, zP_sI, zP_sJ, zP_sP, Option.toList_some, Option.toList_none, List.cons_append, List.nil_append]
  refine ⟨fun g => zB_2 (fun z => Int32.not_lt.mpr z.1 g) h, fun g => ⟨fun g2 => zB_2 (fun z => Int32.not_lt.mpr g2 (sheet_in.mpr z).2) h, fun g2 => zB_1 (sheet_in.mp ⟨Int32.not_lt.mp g, Int32.not_le.mp g2⟩) h⟩⟩
/-- isForm -/
theorem s88 {s : Int32} (h : Q (some (.int (zB (zin s 0 2)))) M) : zC X 88 [.int s] M Q := by
  rw [c88]
  simp only [w88_0, w88_1, w88_4, w88_5, w88_6, w88_9, w88_10, w88_13, w88_14, zk_sI, zk_sJ, zk_sP, zn_sI, zn_sJ, zn_sP, zI_sI, zI_sJ, zI_sP, zJ_sI, zJ_sJ, zJ_sP, zP_sI, zP_sJ, zP_sP, Option.toList_some, Option.toList_none, List.cons_append, List.nil_append]
  refine ⟨fun g => zB_2 (fun z => Int32.not_lt.mpr z.1 g) h, fun g => ⟨fun g2 => zB_2 (fun z => Int32.not_lt.mpr z.2 g2) h, fun g2 => zB_1 ⟨Int32.not_lt.mp g, Int32.not_lt.mp g2⟩ h⟩⟩
/-- found -/
theorem s93 {v : Int32} (hP : zPk M) (h : Q (some (.int (-10 - v))) (zf_sI M 0 12 v)) : zC X 93 [.ref 0, .int v] M Q := by
  rw [c93]
  simp only [w93_0, w93_1, w93_2, w93_5, w93_7, w93_8, w93_9, zk_sI, zk_sJ, zk_sP, zn_sI, zn_sJ, zn_sP, zI_sI, zI_sJ, zI_sP, zJ_sI, zJ_sJ, zJ_sP, zP_sI, zP_sJ, zP_sP, Option.toList_some, Option.toList_none, List.cons_append, List.nil_append, zk_of hP.1, zn_of hP.1, zix, ziN, ne_eq, reduceCtorEq, not_false_eq_true, true_and, and_true, Option.getD_some, Nat.reduceLeDiff, Nat.reduceLT, c_ofNat, zkd0, zp_0_0 hP, zp_0_1 hP, zp_0_2 hP, zp_0_3 hP, zp_0_4 hP, zp_0_5 hP, zp_0_6 hP, zp_0_7 hP]
  exact h
/-- has -/
theorem s45 {i : Int32} (hw : zSw M a) (hn : zf_I M a 2 = nI n) (hn6 : n ≤ 60) (h : Q (some (.int (zB (vhas n i)))) M) : zC X 45 [.ref a, .int i] M Q := by
  obtain ⟨h1, h2, h3, h4, h5⟩ := hw
  have f1 := zfx_lt (X := X) (a := a + 1) (by omega)
  rw [c45]
  simp only [w45_0, w45_1, w45_4, w45_5, w45_6, w45_9, w45_12, w45_13, w45_14, w45_17, w45_18, w45_21, w45_22, w45_25, w45_26, zk_sI, zk_sJ, zk_sP, zn_sI, zn_sJ, zn_sP, zI_sI, zI_sJ, zI_sP, zJ_sI, zJ_sJ, zJ_sP, zP_sI, zP_sJ, zP_sP, Option.toList_some, Option.toList_none, List.cons_append, List.nil_append, h2, h3, h4, h5, hn, f1, zix, ne_eq, reduceCtorEq, not_false_eq_true, true_and, and_true, Option.getD_some]
  have c60 : Int32.ofNat 60 = nI 60 := rfl
  refine ⟨fun g => zB_2 (fun z => Int32.not_lt.mpr z.1 g) h, fun g1 => ⟨fun g => zB_2 (fun z => Int32.not_lt.mpr g z.2) h, fun g2 => ⟨⟨by decide, by decide⟩, fun g => ?_, fun g => zB_1 ⟨Int32.not_lt.mp g1, Int32.not_le.mp g2⟩ h⟩⟩⟩
  obtain ⟨j, j1, rfl⟩ := vhas_oN (n := n) ⟨Int32.not_lt.mp g1, Int32.not_le.mp g2⟩ (by omega)
  rw [c60, n_le (by decide) (by omega)] at g
  omega
theorem vh_1 {n i : Nat} (hi : i < n) (hn : n < 2 ^ 31) : zB (vhas n (nI i)) = 1 := zB_t ⟨nI_pos' (by omega), (n_lt (by omega) hn).mpr hi⟩
/-- item -/
theorem s47 {i : Nat} (hw : zSw M a) (hn : zf_I M a 2 = nI n) (hn6 : n ≤ 60) (hi : i < n) (h : Q (some (.int (zf_I M (a + 1) i))) M) : zC X 47 [.ref a, .int (nI i)] M Q := by
  have hw2 := hw
  obtain ⟨h1, h2, h3, h4, h5⟩ := hw
  have f1 := zfx_lt (X := X) (a := a + 1) (by omega)
  rw [c47]
  simp only [w47_0, w47_1, w47_2, w47_5, w47_8, w47_9, w47_12, w47_13, w47_14, w47_17, w47_18, zk_sI, zk_sJ, zk_sP, zn_sI, zn_sJ, zn_sP, zI_sI, zI_sJ, zI_sP, zJ_sI, zJ_sJ, zJ_sP, zP_sI, zP_sJ, zP_sP, Option.toList_some, Option.toList_none, List.cons_append, List.nil_append, h2]
  have n10 : ¬ (1 : Int32) = 0 := by decide
  refine ⟨trivial, s45 hw2 hn hn6 ?_⟩
  rw [vh_1 hi (by omega)]
  simp only [w47_0, w47_1, w47_2, w47_5, w47_8, w47_9, w47_12, w47_13, w47_14, w47_17, w47_18, zk_sI, zk_sJ, zk_sP, zn_sI, zn_sJ, zn_sP, zI_sI, zI_sJ, zI_sP, zJ_sI, zJ_sJ, zJ_sP, zP_sI, zP_sJ, zP_sP, Option.toList_some, Option.toList_none, List.cons_append, List.nil_append, h2, h3, h4, h5, f1, zix, n_cl (show i < 2 ^ 31 by omega), n_in (show i < 60 by omega) (show 60 < 2 ^ 31 by decide), ne_eq, reduceCtorEq, not_false_eq_true, true_and, and_true, Option.getD_some]
  exact ⟨fun z => absurd z n10, fun _ => h⟩
/-- store -/
theorem s48 {i : Nat} {v : Int32} (hw : zSw M a) (hn : zf_I M a 2 = nI n) (hn6 : n ≤ 60) (hi : i < n) (h : Q none (zf_sI M (a + 1) i (zcv (zf_I M a 1) v))) : zC X 48 [.ref a, .int (nI i), .int v] M Q := by
  have hw2 := hw
  obtain ⟨h1, h2, h3, h4, h5⟩ := hw
  have f1 := zfx_lt (X := X) (a := a + 1) (by omega)
  rw [c48]
  simp only [w48_0, w48_1, w48_2, w48_5, w48_8, w48_9, w48_12, w48_13, w48_14, w48_17, w48_20, w48_21, w48_22, w48_25, w48_26, w48_29, w48_30, w48_33, w48_34, w48_35, w48_38, w48_39, w48_40, zk_sI, zk_sJ, zk_sP, zn_sI, zn_sJ, zn_sP, zI_sI, zI_sJ, zI_sP, zJ_sI, zJ_sJ, zJ_sP, zP_sI, zP_sJ, zP_sP, Option.toList_some, Option.toList_none, List.cons_append, List.nil_append, h2]
  have n10 : ¬ (1 : Int32) = 0 := by decide
  refine ⟨trivial, s45 hw2 hn hn6 ?_⟩
  rw [vh_1 hi (by omega)]
  unfold zcv at h
  simp only [w48_0, w48_1, w48_2, w48_5, w48_8, w48_9, w48_12, w48_13, w48_14, w48_17, w48_20, w48_21, w48_22, w48_25, w48_26, w48_29, w48_30, w48_33, w48_34, w48_35, w48_38, w48_39, w48_40, zk_sI, zk_sJ, zk_sP, zn_sI, zn_sJ, zn_sP, zI_sI, zI_sJ, zI_sP, zJ_sI, zJ_sJ, zJ_sP, zP_sI, zP_sJ, zP_sP, Option.toList_some, Option.toList_none, List.cons_append, List.nil_append, h2, h3, h4, h5, f1, zix, n_cl (show i < 2 ^ 31 by omega), n_in (show i < 60 by omega) (show 60 < 2 ^ 31 by decide), ne_eq, reduceCtorEq, not_false_eq_true, true_and, and_true, Option.getD_some]
  refine ⟨fun z => absurd z n10, fun _ => ⟨fun g => ⟨fun g2 => ?_, fun g2 => ?_⟩, fun g => ?_⟩⟩
  · rw [if_neg g, if_neg g2] at h
    exact h
  · rw [if_neg g, if_pos (Classical.not_not.mp g2)] at h
    exact h
  · rw [if_pos (Classical.not_not.mp g)] at h
    exact h
/-- renew -/
theorem s44 {f : Int32} (hw : zSw M a) (h : ∀ M1, zF (fun c => c = a ∨ c = a + 1) M M1 → zf_I M1 a 1 = f → zf_I M1 a 2 = nI n → zf_I M1 a 3 = 0 → (∀ j, j < 60 → zf_I M1 (a + 1) j = 0) → Q none M1) : zC X 44 [.ref a, .int f, .int (nI n)] M Q := by
  rw [c44]
  have hw2 := hw
  obtain ⟨h1, h2, h3, h4, h5⟩ := hw
  have f1 := zfx_lt (X := X) (a := a + 1) (by omega)
  simp only [w44_0, w44_1, w44_2, w44_5, w44_6, w44_7, w44_10, w44_11, w44_12, w44_15, w44_16, w44_18, w44_19, w44_22, w44_23, w44_26, w44_27, w44_30, w44_31, w44_32, w44_33, w44_36, w44_39, zk_sI, zk_sJ, zk_sP, zn_sI, zn_sJ, zn_sP, zI_sI, zI_sJ, zI_sP, zJ_sI, zJ_sJ, zJ_sP, zP_sI, zP_sJ, zP_sP, Option.toList_some, Option.toList_none, List.cons_append, List.nil_append, h2]
  have hF0 : zF (fun c => c = a ∨ c = a + 1) M (zf_sI (zf_sI (zf_sI M a 1 f) a 2 (nI n)) a 3 0) := zF_sI (zF_sI (zF_sI (zF_rf _ _) (Or.inl rfl)) (Or.inl rfl)) (Or.inl rfl)
  have loop : ∀ (m i : Nat) (M1 : zf_M), i + m = 60 → zF (fun c => c = a ∨ c = a + 1) M M1 → zf_I M1 a 1 = f → zf_I M1 a 2 = nI n → zf_I M1 a 3 = 0 → (∀ j, j < i → zf_I M1 (a + 1) j = 0) → zW X 44 17 [.val (.ref a), .val (.int f), .val (.int (nI n)), .val (.int (nI i))] [] M1 Q := by
    intro m
    induction m with
    | zero =>
      intro i M1 hi hF x1 x2 x3 x4
      obtain rfl : i = 60 := by omega
      have k2 : zf_k M1 a = 7 := by rw [zF_k hF]; exact h2
      have k5 : zf_k M1 (a + 1) = 10 := by rw [zF_k hF]; exact h5
      have p3 : zf_P M1 a 0 = some (a + 1) := by rw [hF.2.2]; exact h3
      have m4 : zf_n M1 10 (a + 1) = 60 := by rw [zF_n hF]; exact h4
      rw [w44_17]
      simp only [w44_0, w44_1, w44_2, w44_5, w44_6, w44_7, w44_10, w44_11, w44_12, w44_15, w44_16, w44_18, w44_19, w44_22, w44_23, w44_26, w44_27, w44_30, w44_31, w44_32, w44_33, w44_36, w44_39, zk_sI, zk_sJ, zk_sP, zn_sI, zn_sJ, zn_sP, zI_sI, zI_sJ, zI_sP, zJ_sI, zJ_sJ, zJ_sP, zP_sI, zP_sJ, zP_sP, Option.toList_some, Option.toList_none, List.cons_append, List.nil_append, k2, k5, p3, m4, f1, zix, ne_eq, reduceCtorEq, not_false_eq_true, true_and, and_true, Option.getD_some]
      exact ⟨⟨by decide, by decide⟩, fun _ => h M1 hF x1 x2 x3 x4, fun z => absurd (by decide) z⟩
    | succ m ih =>
      intro i M1 hi hF x1 x2 x3 x4
      have k2 : zf_k M1 a = 7 := by rw [zF_k hF]; exact h2
      have k5 : zf_k M1 (a + 1) = 10 := by rw [zF_k hF]; exact h5
      have p3 : zf_P M1 a 0 = some (a + 1) := by rw [hF.2.2]; exact h3
      have m4 : zf_n M1 10 (a + 1) = 60 := by rw [zF_n hF]; exact h4
      rw [w44_17]
      simp only [w44_0, w44_1, w44_2, w44_5, w44_6, w44_7, w44_10, w44_11, w44_12, w44_15, w44_16, w44_18, w44_19, w44_22, w44_23, w44_26, w44_27, w44_30, w44_31, w44_32, w44_33, w44_36, w44_39, zk_sI, zk_sJ, zk_sP, zn_sI, zn_sJ, zn_sP, zI_sI, zI_sJ, zI_sP, zJ_sI, zJ_sJ, zJ_sP, zP_sI, zP_sJ, zP_sP, Option.toList_some, Option.toList_none, List.cons_append, List.nil_append, k2, k5, p3, m4, f1, zix, n_a1, n_cl (show i < 2 ^ 31 by omega), n_in (show i < 60 by omega) (show 60 < 2 ^ 31 by decide), ne_eq, reduceCtorEq, not_false_eq_true, true_and, and_true, Option.getD_some]
      rw [c_ofNat, n_le (by decide) (by omega)]
      refine ⟨⟨by decide, by decide⟩, fun z => by omega, fun _ => ih (i + 1) _ (by omega) (zF_sI hF (Or.inr rfl)) ?_ ?_ ?_ (fun j hj => ?_)⟩
      · rw [zI_ne (by omega)]
        exact x1
      · rw [zI_ne (by omega)]
        exact x2
      · rw [zI_ne (by omega)]
        exact x3
      · by_cases e : j = i
        · rw [e, zI_eq]
        · rw [zI_ne (by omega)]
          exact x4 j (by omega)
  refine ⟨trivial, trivial, ⟨trivial, Or.inl trivial⟩, loop 60 0 _ rfl hF0 ?_ ?_ ?_ (fun j hj => by omega)⟩
  · rw [zI_ne (by omega), zI_ne (by omega), zI_eq]
  · rw [zI_ne (by omega), zI_eq]
  · rw [zI_eq]
end ZSh

