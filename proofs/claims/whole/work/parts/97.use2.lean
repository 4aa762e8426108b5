/-! ===== day, use ===== -/
def aDay (q : tQ) : Int32 := if (qD q).1 = 0 ∨ (qB q).1.1 = 0 then -3 else if zwd q (qD q).1 = true then -5 else nI (zsu q (zbe q (2 ^ (qD q).1 - 1)) (qD q).1)
def aUse (q : tQ) : Int32 := if (qD q).1 = 0 ∨ (qB q).1.1 = 0 then -3 else if zwd q (qD q).1 = true then -5 else nI (zbe q (2 ^ (qD q).1 - 1))
section ZUt
variable {X : zf_X} {M : zf_M} {Q : Option Value → zf_M → Prop} {q : tQ}
theorem C69 (hv : vQ q) (hP : zPk M) (hC : zKC q M) (h : ∀ M1, zUp M M1 → zKC q M1 → Q (some (.int (aDay q))) M1) : zC X 69 [.ref 0] M Q := by
  have h6 := hv.2.2.2.1.1
  have p64 := pow_64 (qD q).1 (by omega)
  have hbe := zbe_le q (2 ^ (qD q).1 - 1)
  rw [c69]
  simp only [w69_0, w69_1, zk_sI, zk_sJ, zk_sP, zn_sI, zn_sJ, zn_sP, zI_sI, zI_sJ, zI_sP, zJ_sI, zJ_sJ, zJ_sP, zP_sI, zP_sJ, zP_sP, Option.toList_some, Option.toList_none, List.cons_append, List.nil_append, zk_of hP.1, zn_of hP.1, zix, ziN, ne_eq, reduceCtorEq, not_false_eq_true, true_and, and_true, Option.getD_some, Nat.reduceLeDiff, Nat.reduceLT, c_ofNat, zkd0, zp_0_0 hP, zp_0_1 hP, zp_0_2 hP, zp_0_3 hP, zp_0_4 hP, zp_0_5 hP, zp_0_6 hP, zp_0_7 hP]
  refine C100 hv hP hC (fun M1 u1 k1 d1 => ?_)
  have hP1 := u1.1
  have hfin := h M1 u1 k1
  unfold aDay at hfin
  have n3 : ¬ (0 : Int32) ≤ -3 := by decide
  have n5' : ¬ (0 : Int32) ≤ -5 := by decide
  by_cases g1 : (qD q).1 = 0 ∨ (qB q).1.1 = 0
  · rw [aRD, if_pos g1]
    rw [if_pos g1] at hfin
    simp only [w69_4, w69_5, w69_6, w69_9, w69_10, w69_13, w69_14, w69_17, w69_18, w69_21, w69_24, w69_27, zk_sI, zk_sJ, zk_sP, zn_sI, zn_sJ, zn_sP, zI_sI, zI_sJ, zI_sP, zJ_sI, zJ_sJ, zJ_sP, zP_sI, zP_sJ, zP_sP, Option.toList_some, Option.toList_none, List.cons_append, List.nil_append, n3, not_false_eq_true, false_implies, true_implies, true_and]
    exact hfin
  · rw [aRD, if_neg g1] at d1 ⊢
    rw [if_neg g1] at hfin
    by_cases g2 : zwd q (qD q).1 = true
    · rw [if_pos g2] at hfin ⊢
      simp only [w69_4, w69_5, w69_6, w69_9, w69_10, w69_13, w69_14, w69_17, w69_18, w69_21, w69_24, w69_27, zk_sI, zk_sJ, zk_sP, zn_sI, zn_sJ, zn_sP, zI_sI, zI_sJ, zI_sP, zJ_sI, zJ_sJ, zJ_sP, zP_sI, zP_sJ, zP_sP, Option.toList_some, Option.toList_none, List.cons_append, List.nil_append, n5', not_false_eq_true, false_implies, true_implies, true_and]
      exact hfin
    · rw [if_neg g2] at hfin d1 ⊢
      have hw : zwd q (qD q).1 = false := by
        cases e : zwd q (qD q).1 with
        | false => rfl
        | true => exact absurd e g2
      simp only [w69_4, w69_5, w69_6, w69_9, w69_10, w69_13, w69_14, w69_17, w69_18, w69_21, w69_24, zk_sI, zk_sJ, zk_sP, zn_sI, zn_sJ, zn_sP, zI_sI, zI_sJ, zI_sP, zJ_sI, zJ_sJ, zJ_sP, zP_sI, zP_sJ, zP_sP, Option.toList_some, Option.toList_none, List.cons_append, List.nil_append, zk_of hP1.1, zn_of hP1.1, zix, ziN, ne_eq, reduceCtorEq, not_false_eq_true, true_and, and_true, Option.getD_some, Nat.reduceLeDiff, Nat.reduceLT, c_ofNat, zkd0, zp_0_0 hP1, zp_0_1 hP1, zp_0_2 hP1, zp_0_3 hP1, zp_0_4 hP1, zp_0_5 hP1, zp_0_6 hP1, zp_0_7 hP1, zkd26, zp_26_0 hP1, zp_26_1 hP1, zp_26_2 hP1, Int32.le_refl, not_true_eq_false, false_implies, true_implies, and_true]
      refine C5 hv hP1 k1 hw (d1 rfl) ?_
      simp only [w69_24, zk_sI, zk_sJ, zk_sP, zn_sI, zn_sJ, zn_sP, zI_sI, zI_sJ, zI_sP, zJ_sI, zJ_sJ, zJ_sP, zP_sI, zP_sJ, zP_sP, Option.toList_some, Option.toList_none, List.cons_append, List.nil_append, zk_of hP1.1, zn_of hP1.1, zix, ziN, ne_eq, reduceCtorEq, not_false_eq_true, true_and, and_true, Option.getD_some, Nat.reduceLeDiff, Nat.reduceLT, c_ofNat, zkd0, zp_0_0 hP1, zp_0_1 hP1, zp_0_2 hP1, zp_0_3 hP1, zp_0_4 hP1, zp_0_5 hP1, zp_0_6 hP1, zp_0_7 hP1, zkd26, zp_26_0 hP1, zp_26_1 hP1, zp_26_2 hP1]
      refine C4 hv hP1 k1 hw (d1 rfl) (by omega) ?_
      simp only [w69_27, zk_sI, zk_sJ, zk_sP, zn_sI, zn_sJ, zn_sP, zI_sI, zI_sJ, zI_sP, zJ_sI, zJ_sJ, zJ_sP, zP_sI, zP_sJ, zP_sP, Option.toList_some, Option.toList_none, List.cons_append, List.nil_append]
      exact hfin
theorem C70 (hv : vQ q) (hP : zPk M) (hC : zKC q M) (h : ∀ M1, zUp M M1 → zKC q M1 → Q (some (.int (aUse q))) M1) : zC X 70 [.ref 0] M Q := by
  rw [c70]
  simp only [w70_0, w70_1, zk_sI, zk_sJ, zk_sP, zn_sI, zn_sJ, zn_sP, zI_sI, zI_sJ, zI_sP, zJ_sI, zJ_sJ, zJ_sP, zP_sI, zP_sJ, zP_sP, Option.toList_some, Option.toList_none, List.cons_append, List.nil_append, zk_of hP.1, zn_of hP.1, zix, ziN, ne_eq, reduceCtorEq, not_false_eq_true, true_and, and_true, Option.getD_some, Nat.reduceLeDiff, Nat.reduceLT, c_ofNat, zkd0, zp_0_0 hP, zp_0_1 hP, zp_0_2 hP, zp_0_3 hP, zp_0_4 hP, zp_0_5 hP, zp_0_6 hP, zp_0_7 hP]
  refine C100 hv hP hC (fun M1 u1 k1 d1 => ?_)
  have hP1 := u1.1
  have hfin := h M1 u1 k1
  unfold aUse at hfin
  have n3 : ¬ (0 : Int32) ≤ -3 := by decide
  have n5' : ¬ (0 : Int32) ≤ -5 := by decide
  by_cases g1 : (qD q).1 = 0 ∨ (qB q).1.1 = 0
  · rw [aRD, if_pos g1]
    rw [if_pos g1] at hfin
    simp only [w70_4, w70_5, w70_6, w70_9, w70_10, w70_13, w70_14, w70_17, w70_20, zk_sI, zk_sJ, zk_sP, zn_sI, zn_sJ, zn_sP, zI_sI, zI_sJ, zI_sP, zJ_sI, zJ_sJ, zJ_sP, zP_sI, zP_sJ, zP_sP, Option.toList_some, Option.toList_none, List.cons_append, List.nil_append, n3, not_false_eq_true, false_implies, true_implies, true_and]
    exact hfin
  · rw [aRD, if_neg g1] at d1 ⊢
    rw [if_neg g1] at hfin
    by_cases g2 : zwd q (qD q).1 = true
    · rw [if_pos g2] at hfin ⊢
      simp only [w70_4, w70_5, w70_6, w70_9, w70_10, w70_13, w70_14, w70_17, w70_20, zk_sI, zk_sJ, zk_sP, zn_sI, zn_sJ, zn_sP, zI_sI, zI_sJ, zI_sP, zJ_sI, zJ_sJ, zJ_sP, zP_sI, zP_sJ, zP_sP, Option.toList_some, Option.toList_none, List.cons_append, List.nil_append, n5', not_false_eq_true, false_implies, true_implies, true_and]
      exact hfin
    · rw [if_neg g2] at hfin d1 ⊢
      have hw : zwd q (qD q).1 = false := by
        cases e : zwd q (qD q).1 with
        | false => rfl
        | true => exact absurd e g2
      simp only [w70_4, w70_5, w70_6, w70_9, w70_10, w70_13, w70_14, w70_17, zk_sI, zk_sJ, zk_sP, zn_sI, zn_sJ, zn_sP, zI_sI, zI_sJ, zI_sP, zJ_sI, zJ_sJ, zJ_sP, zP_sI, zP_sJ, zP_sP, Option.toList_some, Option.toList_none, List.cons_append, List.nil_append, zk_of hP1.1, zn_of hP1.1, zix, ziN, ne_eq, reduceCtorEq, not_false_eq_true, true_and, and_true, Option.getD_some, Nat.reduceLeDiff, Nat.reduceLT, c_ofNat, zkd0, zp_0_0 hP1, zp_0_1 hP1, zp_0_2 hP1, zp_0_3 hP1, zp_0_4 hP1, zp_0_5 hP1, zp_0_6 hP1, zp_0_7 hP1, zkd26, zp_26_0 hP1, zp_26_1 hP1, zp_26_2 hP1, Int32.le_refl, not_true_eq_false, false_implies, true_implies, and_true]
      refine C5 hv hP1 k1 hw (d1 rfl) ?_
      simp only [w70_20, zk_sI, zk_sJ, zk_sP, zn_sI, zn_sJ, zn_sP, zI_sI, zI_sJ, zI_sP, zJ_sI, zJ_sJ, zJ_sP, zP_sI, zP_sJ, zP_sP, Option.toList_some, Option.toList_none, List.cons_append, List.nil_append]
      exact hfin
/-- findUse -/
theorem M146 (hv : vQ q) (hP : zPk M) (hM : zKM q M) (h : ∀ M1, zDn M M1 → zKM q M1 → (¬ ((qD q).1 = 0 ∨ (qB q).1.1 = 0) → zwd q (qD q).1 = false → zf_I M1 58 30 = nI (zbe q (2 ^ (qD q).1 - 1))) → Q (some (.int (aDay q))) M1) : zC X 146 [.ref 58] M Q := by
  have h6 := hv.2.2.2.1.1
  have hb9 := hv.2.2.2.1.2.2.1
  have hp6 := hv.2.2.2.1.2.1
  have h3 := hv.2.1.1.1
  have hD := hM.2.2.2.1
  have p64 := pow_64 (qD q).1 (by omega)
  unfold aDay at h
  have h0 : ((qD q).1 = 0 ∨ (qB q).1.1 = 0) → Q (some (.int (-3))) M := by
    intro g
    have := h M (zF_rf _ _) hM
    rw [if_pos g] at this
    exact this (fun z => absurd g z)
  have e60 : zf_I M 60 (Int32.toNatClampNeg 0) = zvo (zat (qB q).1 0) := (hM.2.1 0 (by decide)).1
  have z0 : (zvo (zat (qB q).1 0) = -1) = ((qB q).1.1 = 0) := by
    refine propext ((zvo_n (fun f e => ?_)).trans ?_)
    · have := zat_lt hv.2.1.1 e
      have := hv.1.1
      omega
    · unfold zat
      by_cases g : 0 < (qB q).1.1
      · rw [if_pos g]
        exact ⟨fun z => (by cases z), fun z => (by omega)⟩
      · rw [if_neg g]
        exact ⟨fun _ => by omega, fun _ => rfl⟩
  have z1 : (nI (qD q).1 = 0) = ((qD q).1 = 0) := by rw [c_0, n_eq (by omega) (by decide)]
  have v0 : vp_in 0 6 := vp_in_nI (n := 0) (by decide) (by decide)
  rw [c146]
  have ey : ∀ a b, nI a + nI b = nI (a + b) := fun a b => nI_add a b
  have e2m : ∀ a, (2 : Int32) * nI a = nI (2 * a) := fun a => pk_mul 2 a
  have phase2 : ¬ ((qD q).1 = 0 ∨ (qB q).1.1 = 0) → zwd q (qD q).1 = false → ∀ M1, zDn M M1 → zKM q M1 → (∀ f, f < (qD q).1 → zf_I M1 76 (2 * f) = zcc q f 0 ∧ zf_I M1 76 (2 * f + 1) = zcc q f (qD q).2.2.2) → ∀ (l5 l6 l7 : Slot), zW X 146 116 [.val (.ref 58), .val (.int 0), .val (.int (-1)), .val (.int 0), .val (.int 0), l5, l6, l7] [] M1 Q := by
    intro hn hw M1 u1 k1 c1 l5 l6 l7
    have hno := zwd_no hw
    have hcn : ∀ f, f < (qD q).1 → zcn q f 0 ≤ 1000000 ∧ zcn q f (qD q).2.2.2 ≤ 1000000 := fun f hf => ⟨(zcn_ok hv hf (by decide) (hno f hf).1).2, (zcn_ok hv hf hb9 (hno f hf).2).2⟩
    have hsb : ∀ u n, n ≤ (qD q).1 → zsu q u n ≤ 6000000 := fun u n hn => by
      have := zsu_le (u := u) hcn n hn
      omega
    rw [if_neg hn, if_neg (show ¬ zwd q (qD q).1 = true by rw [hw]; decide)] at h
    have inner : ∀ (u : Nat) (mo fe : Int32) (M2 : zf_M), u < 64 → zDn M M2 → zKM q M2 → (∀ f, f < (qD q).1 → zf_I M2 76 (2 * f) = zcc q f 0 ∧ zf_I M2 76 (2 * f + 1) = zcc q f (qD q).2.2.2) → zW X 146 185 [.val (.ref 58), .val (.int 0), .val (.int mo), .val (.int fe), .val (.int (nI u)), .val (.int (nI (zsu q u (qD q).1))), .val (.int (nI (zpn u (qD q).1))), .val (.int (nI (qD q).1))] [] M2 Q → ∀ m i, i + m = (qD q).1 → zW X 146 136 [.val (.ref 58), .val (.int 0), .val (.int mo), .val (.int fe), .val (.int (nI u)), .val (.int (nI (zsu q u i))), .val (.int (nI (zpn u i))), .val (.int (nI i))] [] M2 Q := by
      intro u mo fe M2 hu u2 k2 c2 hk m
      have hP2 := zPk_F hP u2
      induction m with
      | zero =>
        intro i hi
        obtain rfl : i = (qD q).1 := by omega
        rw [w146_136]
        simp only [w146_138, w146_139, w146_142, zk_sI, zk_sJ, zk_sP, zn_sI, zn_sJ, zn_sP, zI_sI, zI_sJ, zI_sP, zJ_sI, zJ_sJ, zJ_sP, zP_sI, zP_sJ, zP_sP, Option.toList_some, Option.toList_none, List.cons_append, List.nil_append, zk_of hP2.1, zn_of hP2.1, zix, ziN, ne_eq, reduceCtorEq, not_false_eq_true, true_and, and_true, Option.getD_some, Nat.reduceLeDiff, Nat.reduceLT, c_ofNat, zkd58, zp_58_1 hP2, zp_58_2 hP2, zp_58_6 hP2, zp_58_7 hP2, zp_58_10 hP2, zp_58_11 hP2, zp_58_12 hP2, zp_58_14 hP2, zp_58_15 hP2, zp_58_17 hP2, zp_58_18 hP2, zp_58_19 hP2, zp_58_20 hP2, zp_58_21 hP2, zp_58_22 hP2, zp_58_24 hP2, zp_58_26 hP2, zp_58_29 hP2, zp_58_32 hP2, zp_58_33 hP2, zp_58_34 hP2, zp_58_35 hP2, zp_58_36 hP2, zp_58_37 hP2, zp_58_38 hP2, zp_58_39 hP2, k2.2.2.2.1.1, Int32.le_refl]
        exact ⟨fun _ => hk, fun z => absurd trivial z⟩
      | succ m ih =>
        intro i hi
        have hfi : i < (qD q).1 := by omega
        obtain ⟨d1, d2⟩ := c2 i hfi
        obtain ⟨n1, n2⟩ := hno i hfi
        have e1 := (zcn_ok hv hfi (show 0 ≤ 9 by decide) n1).1
        have e2 := (zcn_ok hv hfi hb9 n2).1
        have eb := bit_e u hu i (by omega)
        have hbl : u / 2 ^ i % 2 < 2 := Nat.mod_lt _ (by decide)
        have nxt := ih (i + 1) (by omega)
        rw [zsu, zpn] at nxt
        have ev : zf_I M2 76 (2 * i + u / 2 ^ i % 2) = nI (if u / 2 ^ i % 2 = 1 then zcn q i (qD q).2.2.2 else zcn q i 0) := by
          by_cases g : u / 2 ^ i % 2 = 1
          · rw [if_pos g, g, d2, e2]
          · rw [if_neg g, show u / 2 ^ i % 2 = 0 by omega, Nat.add_zero, d1, e1]
        rw [w146_136]
        simp only [w146_138, w146_139, w146_142, w146_145, w146_147, w146_148, w146_151, w146_152, w146_154, w146_155, w146_157, w146_159, w146_160, w146_161, w146_162, w146_163, w146_164, w146_165, w146_167, w146_169, w146_171, w146_173, w146_174, w146_175, w146_176, w146_177, w146_179, w146_182, zk_sI, zk_sJ, zk_sP, zn_sI, zn_sJ, zn_sP, zI_sI, zI_sJ, zI_sP, zJ_sI, zJ_sJ, zJ_sP, zP_sI, zP_sJ, zP_sP, Option.toList_some, Option.toList_none, List.cons_append, List.nil_append, zk_of hP2.1, zn_of hP2.1, zix, ziN, ne_eq, reduceCtorEq, not_false_eq_true, true_and, and_true, Option.getD_some, Nat.reduceLeDiff, Nat.reduceLT, c_ofNat, zkd58, zp_58_1 hP2, zp_58_2 hP2, zp_58_6 hP2, zp_58_7 hP2, zp_58_10 hP2, zp_58_11 hP2, zp_58_12 hP2, zp_58_14 hP2, zp_58_15 hP2, zp_58_17 hP2, zp_58_18 hP2, zp_58_19 hP2, zp_58_20 hP2, zp_58_21 hP2, zp_58_22 hP2, zp_58_24 hP2, zp_58_26 hP2, zp_58_29 hP2, zp_58_32 hP2, zp_58_33 hP2, zp_58_34 hP2, zp_58_35 hP2, zp_58_36 hP2, zp_58_37 hP2, zp_58_38 hP2, zp_58_39 hP2, zkd76, znd76, zfx76, k2.2.2.2.1.1, eb, e2m, ey, n_a1, n_cl (show 2 * i + u / 2 ^ i % 2 < 2 ^ 31 by omega), n_in (show 2 * i + u / 2 ^ i % 2 < 12 by omega) (show 12 < 2 ^ 31 by decide), ev]
        rw [n_le (by omega) (by omega)]
        exact ⟨fun z => by omega, fun _ => nxt⟩
    have outer : ∀ (m k : Nat) (M2 : zf_M) (l5 l6 l7 : Slot), k + 1 + m = 2 ^ (qD q).1 → zDn M M2 → zKM q M2 → (∀ f, f < (qD q).1 → zf_I M2 76 (2 * f) = zcc q f 0 ∧ zf_I M2 76 (2 * f + 1) = zcc q f (qD q).2.2.2) → zf_I M2 58 30 = nI (zbe q k) → zW X 146 116 [.val (.ref 58), .val (.int 0), .val (.int (nI (zsu q (zbe q k) (qD q).1))), .val (.int (nI (zpc (zbe q k)))), .val (.int (nI (k + 1))), l5, l6, l7] [] M2 Q := by
      intro m
      induction m with
      | zero =>
        intro k M2 l5 l6 l7 hk u2 k2 c2 b2
        have hP2 := zPk_F hP u2
        have hk' : 2 ^ (qD q).1 - 1 = k := by omega
        have hfin := h M2 u2 k2
        rw [hk'] at hfin
        rw [w146_116]
        simp only [w146_118, w146_119, w146_120, w146_123, w146_124, w146_230, w146_231, zk_sI, zk_sJ, zk_sP, zn_sI, zn_sJ, zn_sP, zI_sI, zI_sJ, zI_sP, zJ_sI, zJ_sJ, zJ_sP, zP_sI, zP_sJ, zP_sP, Option.toList_some, Option.toList_none, List.cons_append, List.nil_append, zk_of hP2.1, zn_of hP2.1, zix, ziN, ne_eq, reduceCtorEq, not_false_eq_true, true_and, and_true, Option.getD_some, Nat.reduceLeDiff, Nat.reduceLT, c_ofNat, zkd58, zp_58_1 hP2, zp_58_2 hP2, zp_58_6 hP2, zp_58_7 hP2, zp_58_10 hP2, zp_58_11 hP2, zp_58_12 hP2, zp_58_14 hP2, zp_58_15 hP2, zp_58_17 hP2, zp_58_18 hP2, zp_58_19 hP2, zp_58_20 hP2, zp_58_21 hP2, zp_58_22 hP2, zp_58_24 hP2, zp_58_26 hP2, zp_58_29 hP2, zp_58_32 hP2, zp_58_33 hP2, zp_58_34 hP2, zp_58_35 hP2, zp_58_36 hP2, zp_58_37 hP2, zp_58_38 hP2, zp_58_39 hP2, k2.2.2.2.1.1, one_e (qD q).1 (by omega)]
        rw [n_le (by omega) (by omega)]
        exact ⟨fun _ => hfin (fun _ _ => b2), fun z => by omega⟩
      | succ m ih =>
        intro k M2 l5 l6 l7 hk u2 k2 c2 b2
        have hP2 := zPk_F hP u2
        have hbk := zbe_le q k
        have s1 := hsb (k + 1) _ (Nat.le_refl _)
        have s2 := hsb (zbe q k) _ (Nat.le_refl _)
        have c3 := zpc_le (k + 1)
        have c4 := zpc_le (zbe q k)
        have hpn := zpn_e (qD q).1 (by omega) (k + 1) (by omega) (by omega)
        rw [w146_116]
        simp only [w146_118, w146_119, w146_120, w146_123, w146_124, w146_127, w146_128, w146_130, w146_131, w146_133, w146_134, zk_sI, zk_sJ, zk_sP, zn_sI, zn_sJ, zn_sP, zI_sI, zI_sJ, zI_sP, zJ_sI, zJ_sJ, zJ_sP, zP_sI, zP_sJ, zP_sP, Option.toList_some, Option.toList_none, List.cons_append, List.nil_append, zk_of hP2.1, zn_of hP2.1, zix, ziN, ne_eq, reduceCtorEq, not_false_eq_true, true_and, and_true, Option.getD_some, Nat.reduceLeDiff, Nat.reduceLT, c_ofNat, zkd58, zp_58_1 hP2, zp_58_2 hP2, zp_58_6 hP2, zp_58_7 hP2, zp_58_10 hP2, zp_58_11 hP2, zp_58_12 hP2, zp_58_14 hP2, zp_58_15 hP2, zp_58_17 hP2, zp_58_18 hP2, zp_58_19 hP2, zp_58_20 hP2, zp_58_21 hP2, zp_58_22 hP2, zp_58_24 hP2, zp_58_26 hP2, zp_58_29 hP2, zp_58_32 hP2, zp_58_33 hP2, zp_58_34 hP2, zp_58_35 hP2, zp_58_36 hP2, zp_58_37 hP2, zp_58_38 hP2, zp_58_39 hP2, k2.2.2.2.1.1, one_e (qD q).1 (by omega)]
        rw [n_le (by omega) (by omega)]
        refine ⟨fun z => by omega, fun _ => ?_⟩
        refine inner (k + 1) _ _ M2 (by omega) u2 k2 c2 ?_ (qD q).1 0 (Nat.zero_add _)
        rw [hpn]
        simp only [w146_185, w146_187, w146_188, w146_191, w146_194, w146_196, w146_197, w146_200, w146_202, w146_203, w146_206, w146_208, w146_209, w146_212, w146_214, w146_215, w146_217, w146_218, w146_219, w146_221, w146_224, w146_227, zk_sI, zk_sJ, zk_sP, zn_sI, zn_sJ, zn_sP, zI_sI, zI_sJ, zI_sP, zJ_sI, zJ_sJ, zJ_sP, zP_sI, zP_sJ, zP_sP, Option.toList_some, Option.toList_none, List.cons_append, List.nil_append, zk_of hP2.1, zn_of hP2.1, zix, ziN, ne_eq, reduceCtorEq, not_false_eq_true, true_and, and_true, Option.getD_some, Nat.reduceLeDiff, Nat.reduceLT, c_ofNat, zkd58, zp_58_1 hP2, zp_58_2 hP2, zp_58_6 hP2, zp_58_7 hP2, zp_58_10 hP2, zp_58_11 hP2, zp_58_12 hP2, zp_58_14 hP2, zp_58_15 hP2, zp_58_17 hP2, zp_58_18 hP2, zp_58_19 hP2, zp_58_20 hP2, zp_58_21 hP2, zp_58_22 hP2, zp_58_24 hP2, zp_58_26 hP2, zp_58_29 hP2, zp_58_32 hP2, zp_58_33 hP2, zp_58_34 hP2, zp_58_35 hP2, zp_58_36 hP2, zp_58_37 hP2, zp_58_38 hP2, zp_58_39 hP2, k2.2.2.2.1.2.1, n_a1]
        rw [n_lt (by omega) (by omega), n_lt (by omega) (by omega), n_eq (by omega) (by omega), n_le (by omega) (by omega)]
        have skip : ¬ (zpc (k + 1) ≤ (qD q).2.2.1 ∧ (zsu q (zbe q k) (qD q).1 < zsu q (k + 1) (qD q).1 ∨ zsu q (k + 1) (qD q).1 = zsu q (zbe q k) (qD q).1 ∧ zpc (k + 1) < zpc (zbe q k))) → ∀ l5 l6 l7, zW X 146 116 [.val (.ref 58), .val (.int 0), .val (.int (nI (zsu q (zbe q k) (qD q).1))), .val (.int (nI (zpc (zbe q k)))), .val (.int (nI (k + 1 + 1))), l5, l6, l7] [] M2 Q := by
          intro g l5 l6 l7
          have nxt := ih (k + 1) M2 l5 l6 l7 (by omega) u2 k2 c2
          rw [zbe, if_neg g] at nxt
          exact nxt b2
        have take : (zpc (k + 1) ≤ (qD q).2.2.1 ∧ (zsu q (zbe q k) (qD q).1 < zsu q (k + 1) (qD q).1 ∨ zsu q (k + 1) (qD q).1 = zsu q (zbe q k) (qD q).1 ∧ zpc (k + 1) < zpc (zbe q k))) → ∀ l5 l6 l7, zW X 146 116 [.val (.ref 58), .val (.int 0), .val (.int (nI (zsu q (k + 1) (qD q).1))), .val (.int (nI (zpc (k + 1)))), .val (.int (nI (k + 1 + 1))), l5, l6, l7] [] (zf_sI M2 58 30 (nI (k + 1))) Q := by
          intro g l5 l6 l7
          have nxt := ih (k + 1) (zf_sI M2 58 30 (nI (k + 1))) l5 l6 l7 (by omega) (zF_sI u2 (by omega)) (zKM_fr k2 (fun c j k _ => zI_ne (by unfold kM at k; omega))) (fun f hf => by rw [zI_ne (by omega), zI_ne (by omega)]; exact c2 f hf)
          rw [zbe, if_pos g] at nxt
          exact nxt zI_eq
        exact ⟨fun g => skip (by omega) _ _ _, fun g => ⟨fun g2 => take (by omega) _ _ _, fun g2 => ⟨fun g3 => skip (by omega) _ _ _, fun g3 => ⟨fun g4 => skip (by omega) _ _ _, fun g4 => take (by omega) _ _ _⟩⟩⟩⟩
    have hP1 := zPk_F hP u1
    have s0 := hsb 0 _ (Nat.le_refl (qD q).1)
    have hpn := zpn_e (qD q).1 (by omega) 0 (by decide) (by omega)
    rw [w146_116]
    simp only [w146_118, w146_119, w146_120, w146_123, w146_124, w146_127, w146_128, w146_130, w146_131, w146_133, w146_134, zk_sI, zk_sJ, zk_sP, zn_sI, zn_sJ, zn_sP, zI_sI, zI_sJ, zI_sP, zJ_sI, zJ_sJ, zJ_sP, zP_sI, zP_sJ, zP_sP, Option.toList_some, Option.toList_none, List.cons_append, List.nil_append, zk_of hP1.1, zn_of hP1.1, zix, ziN, ne_eq, reduceCtorEq, not_false_eq_true, true_and, and_true, Option.getD_some, Nat.reduceLeDiff, Nat.reduceLT, c_ofNat, zkd58, zp_58_1 hP1, zp_58_2 hP1, zp_58_6 hP1, zp_58_7 hP1, zp_58_10 hP1, zp_58_11 hP1, zp_58_12 hP1, zp_58_14 hP1, zp_58_15 hP1, zp_58_17 hP1, zp_58_18 hP1, zp_58_19 hP1, zp_58_20 hP1, zp_58_21 hP1, zp_58_22 hP1, zp_58_24 hP1, zp_58_26 hP1, zp_58_29 hP1, zp_58_32 hP1, zp_58_33 hP1, zp_58_34 hP1, zp_58_35 hP1, zp_58_36 hP1, zp_58_37 hP1, zp_58_38 hP1, zp_58_39 hP1, k1.2.2.2.1.1, one_e (qD q).1 (by omega)]
    refine ⟨fun z => ?_, fun _ => ?_⟩
    · rw [c_0, n_le (by omega) (by decide)] at z
      omega
    · refine inner 0 _ _ M1 (by decide) u1 k1 c1 ?_ (qD q).1 0 (Nat.zero_add _)
      rw [hpn]
      have lt1 : (-1 : Int32) < nI (zsu q 0 (qD q).1) := by
        rw [Int32.lt_iff_toInt_lt, t_m1, nI_toInt (by omega)]
        omega
      simp only [w146_185, w146_187, w146_188, w146_191, w146_194, w146_196, w146_197, w146_200, w146_202, w146_203, w146_206, w146_208, w146_209, w146_212, w146_214, w146_215, w146_217, w146_218, w146_219, w146_221, w146_224, w146_227, zk_sI, zk_sJ, zk_sP, zn_sI, zn_sJ, zn_sP, zI_sI, zI_sJ, zI_sP, zJ_sI, zJ_sJ, zJ_sP, zP_sI, zP_sJ, zP_sP, Option.toList_some, Option.toList_none, List.cons_append, List.nil_append, zk_of hP1.1, zn_of hP1.1, zix, ziN, ne_eq, reduceCtorEq, not_false_eq_true, true_and, and_true, Option.getD_some, Nat.reduceLeDiff, Nat.reduceLT, c_ofNat, zkd58, zp_58_1 hP1, zp_58_2 hP1, zp_58_6 hP1, zp_58_7 hP1, zp_58_10 hP1, zp_58_11 hP1, zp_58_12 hP1, zp_58_14 hP1, zp_58_15 hP1, zp_58_17 hP1, zp_58_18 hP1, zp_58_19 hP1, zp_58_20 hP1, zp_58_21 hP1, zp_58_22 hP1, zp_58_24 hP1, zp_58_26 hP1, zp_58_29 hP1, zp_58_32 hP1, zp_58_33 hP1, zp_58_34 hP1, zp_58_35 hP1, zp_58_36 hP1, zp_58_37 hP1, zp_58_38 hP1, zp_58_39 hP1, k1.2.2.2.1.2.1, lt1, true_implies, not_true_eq_false, false_implies, and_true]
      refine ⟨fun z => ?_, fun _ => ?_⟩
      · rw [n_lt (by omega) (by decide)] at z
        have e0 : zpc 0 = 0 := rfl
        omega
      · rw [n_a1]
        exact outer (2 ^ (qD q).1 - 1) 0 (zf_sI M1 58 30 (nI 0)) _ _ _ (by omega) (zF_sI u1 (by omega)) (zKM_fr k1 (fun c j k _ => zI_ne (by unfold kM at k; omega))) (fun f hf => by rw [zI_ne (by omega), zI_ne (by omega)]; exact c1 f hf) zI_eq
  have phase1 : ¬ ((qD q).1 = 0 ∨ (qB q).1.1 = 0) → ∀ (m i : Nat) (M1 : zf_M), i + m = (qD q).1 → zDn M M1 → zKM q M1 → (∀ f, f < i → zf_I M1 76 (2 * f) = zcc q f 0 ∧ zf_I M1 76 (2 * f + 1) = zcc q f (qD q).2.2.2) → zW X 146 24 [.val (.ref 58), .val (.int (if zwd q i = true then 1 else 0)), .val (.int (nI i)), .unset, .unset, .unset, .unset, .unset] [] M1 Q := by
    intro hn m
    induction m with
    | zero =>
      intro i M1 hi u1 k1 c1
      obtain rfl : i = (qD q).1 := by omega
      have hP1 := zPk_F hP u1
      rw [w146_24]
      simp only [w146_25, w146_26, w146_29, w146_32, w146_33, w146_36, w146_37, w146_38, w146_39, w146_40, w146_41, w146_42, w146_45, w146_46, w146_47, w146_50, w146_51, w146_52, w146_53, w146_54, w146_55, w146_56, w146_57, w146_58, w146_61, w146_62, w146_63, w146_66, w146_67, w146_70, w146_71, w146_72, w146_73, w146_74, w146_77, w146_78, w146_81, w146_82, w146_83, w146_84, w146_85, w146_86, w146_87, w146_90, w146_91, w146_94, w146_95, w146_96, w146_99, w146_102, w146_103, w146_106, w146_108, w146_109, w146_110, w146_111, w146_112, w146_113, w146_114, zk_sI, zk_sJ, zk_sP, zn_sI, zn_sJ, zn_sP, zI_sI, zI_sJ, zI_sP, zJ_sI, zJ_sJ, zJ_sP, zP_sI, zP_sJ, zP_sP, Option.toList_some, Option.toList_none, List.cons_append, List.nil_append, zk_of hP1.1, zn_of hP1.1, zix, ziN, ne_eq, reduceCtorEq, not_false_eq_true, true_and, and_true, Option.getD_some, Nat.reduceLeDiff, Nat.reduceLT, c_ofNat, zkd58, zp_58_1 hP1, zp_58_2 hP1, zp_58_6 hP1, zp_58_7 hP1, zp_58_10 hP1, zp_58_11 hP1, zp_58_12 hP1, zp_58_14 hP1, zp_58_15 hP1, zp_58_17 hP1, zp_58_18 hP1, zp_58_19 hP1, zp_58_20 hP1, zp_58_21 hP1, zp_58_22 hP1, zp_58_24 hP1, zp_58_26 hP1, zp_58_29 hP1, zp_58_32 hP1, zp_58_33 hP1, zp_58_34 hP1, zp_58_35 hP1, zp_58_36 hP1, zp_58_37 hP1, zp_58_38 hP1, zp_58_39 hP1, k1.2.2.2.1.1, Int32.le_refl, not_true_eq_false, false_implies, true_implies, and_true]
      cases hw : zwd q (qD q).1 with
      | false =>
        simp only [Bool.false_eq_true, if_false]
        exact ⟨fun _ => phase2 hn hw M1 u1 k1 c1 _ _ _, fun z => absurd trivial z⟩
      | true =>
        have := h M1 u1 k1
        rw [if_neg hn, if_pos hw] at this
        simp only [if_true]
        exact ⟨fun z => absurd z (by decide), fun _ => this (fun _ z => by rw [hw] at z; cases z)⟩
    | succ m ih =>
      intro i M1 hi u1 k1 c1
      have hP1 := zPk_F hP u1
      have x0 := n_cl (show 2 * i < 2 ^ 31 by omega)
      have x1 := n_in (show 2 * i < 12 by omega) (show 12 < 2 ^ 31 by decide)
      have y0 := n_cl (show 2 * i + 1 < 2 ^ 31 by omega)
      have y1 := n_in (show 2 * i + 1 < 12 by omega) (show 12 < 2 ^ 31 by decide)
      rw [w146_24]
      simp only [w146_25, w146_26, w146_29, w146_32, w146_33, w146_36, w146_37, w146_38, w146_39, w146_40, w146_41, w146_42, zk_sI, zk_sJ, zk_sP, zn_sI, zn_sJ, zn_sP, zI_sI, zI_sJ, zI_sP, zJ_sI, zJ_sJ, zJ_sP, zP_sI, zP_sJ, zP_sP, Option.toList_some, Option.toList_none, List.cons_append, List.nil_append, zk_of hP1.1, zn_of hP1.1, zix, ziN, ne_eq, reduceCtorEq, not_false_eq_true, true_and, and_true, Option.getD_some, Nat.reduceLeDiff, Nat.reduceLT, c_ofNat, zkd58, zp_58_1 hP1, zp_58_2 hP1, zp_58_6 hP1, zp_58_7 hP1, zp_58_10 hP1, zp_58_11 hP1, zp_58_12 hP1, zp_58_14 hP1, zp_58_15 hP1, zp_58_17 hP1, zp_58_18 hP1, zp_58_19 hP1, zp_58_20 hP1, zp_58_21 hP1, zp_58_22 hP1, zp_58_24 hP1, zp_58_26 hP1, zp_58_29 hP1, zp_58_32 hP1, zp_58_33 hP1, zp_58_34 hP1, zp_58_35 hP1, zp_58_36 hP1, zp_58_37 hP1, zp_58_38 hP1, zp_58_39 hP1, zkd76, znd76, zfx76, k1.2.2.2.1.1, e2m]
      rw [n_le (by omega) (by omega)]
      refine ⟨fun z => by omega, fun _ => ?_⟩
      refine M145 hv hP1 k1 (by omega) (fun M2 u2 hP2 k2 => ?_)
      rw [if_pos rfl]
      simp only [w146_45, w146_46, w146_47, w146_50, w146_51, w146_52, w146_53, w146_54, w146_55, w146_56, w146_57, w146_58, zk_sI, zk_sJ, zk_sP, zn_sI, zn_sJ, zn_sP, zI_sI, zI_sJ, zI_sP, zJ_sI, zJ_sJ, zJ_sP, zP_sI, zP_sJ, zP_sP, Option.toList_some, Option.toList_none, List.cons_append, List.nil_append, zk_of hP2.1, zn_of hP2.1, zix, ziN, ne_eq, reduceCtorEq, not_false_eq_true, true_and, and_true, Option.getD_some, Nat.reduceLeDiff, Nat.reduceLT, c_ofNat, zkd58, zp_58_1 hP2, zp_58_2 hP2, zp_58_6 hP2, zp_58_7 hP2, zp_58_10 hP2, zp_58_11 hP2, zp_58_12 hP2, zp_58_14 hP2, zp_58_15 hP2, zp_58_17 hP2, zp_58_18 hP2, zp_58_19 hP2, zp_58_20 hP2, zp_58_21 hP2, zp_58_22 hP2, zp_58_24 hP2, zp_58_26 hP2, zp_58_29 hP2, zp_58_32 hP2, zp_58_33 hP2, zp_58_34 hP2, zp_58_35 hP2, zp_58_36 hP2, zp_58_37 hP2, zp_58_38 hP2, zp_58_39 hP2, zkd76, znd76, zfx76, x0, x1, e2m, n_a1]
      have hF2 : zF (fun c => 58 ≤ c) M2 (zf_sI M2 76 (2 * i) (zcc q i 0)) := zF_sI (zF_rf _ _) (by omega)
      have hP2' := zPk_F hP2 hF2
      have k2' : zKM q (zf_sI M2 76 (2 * i) (zcc q i 0)) := zKM_fr k2 (fun c j k _ => zI_ne (by unfold kM at k; omega))
      have u2' : zDn M (zf_sI M2 76 (2 * i) (zcc q i 0)) := zF_tr u1 (zF_tr (zDn_X u2) hF2)
      have d2 : (∀ f, f < i → zf_I (zf_sI M2 76 (2 * i) (zcc q i 0)) 76 (2 * f) = zcc q f 0 ∧ zf_I (zf_sI M2 76 (2 * i) (zcc q i 0)) 76 (2 * f + 1) = zcc q f (qD q).2.2.2) ∧ zf_I (zf_sI M2 76 (2 * i) (zcc q i 0)) 76 (2 * i) = zcc q i 0 := by
        refine ⟨fun f hf => ?_, zI_eq⟩
        rw [zI_ne (by omega), zI_ne (by omega), (u2.1.2.1 76 (by omega) _).1, (u2.1.2.1 76 (by omega) _).1]
        exact c1 f hf
      clear hF2
      generalize zf_sI M2 76 (2 * i) (zcc q i 0) = M3 at *
      refine M145 hv hP2' k2' (by omega) (fun M4 u4 hP4 k4 => ?_)
      rw [if_neg (show ¬ (1 : Int32) = 0 by decide)]
      have hF4 : zF (fun c => 58 ≤ c) M4 (zf_sI M4 76 (2 * i + 1) (zcc q i (qD q).2.2.2)) := zF_sI (zF_rf _ _) (by omega)
      have k4' : zKM q (zf_sI M4 76 (2 * i + 1) (zcc q i (qD q).2.2.2)) := zKM_fr k4 (fun c j k _ => zI_ne (by unfold kM at k; omega))
      have u4' : zDn M (zf_sI M4 76 (2 * i + 1) (zcc q i (qD q).2.2.2)) := zF_tr u2' (zF_tr (zDn_X u4) hF4)
      have f0 : zf_I (zf_sI M4 76 (2 * i + 1) (zcc q i (qD q).2.2.2)) 76 (2 * i) = zcc q i 0 := by
        rw [zI_ne (by omega), (u4.1.2.1 76 (by omega) _).1]
        exact d2.2
      have f1 : zf_I (zf_sI M4 76 (2 * i + 1) (zcc q i (qD q).2.2.2)) 76 (2 * i + 1) = zcc q i (qD q).2.2.2 := zI_eq
      have d4 : ∀ f, f < i + 1 → zf_I (zf_sI M4 76 (2 * i + 1) (zcc q i (qD q).2.2.2)) 76 (2 * f) = zcc q f 0 ∧ zf_I (zf_sI M4 76 (2 * i + 1) (zcc q i (qD q).2.2.2)) 76 (2 * f + 1) = zcc q f (qD q).2.2.2 := by
        intro f hf
        by_cases e : f = i
        · rw [e]
          exact ⟨f0, f1⟩
        · rw [zI_ne (by omega), zI_ne (by omega), (u4.1.2.1 76 (by omega) _).1, (u4.1.2.1 76 (by omega) _).1]
          exact d2.1 f (by omega)
      have hP4' := zPk_F hP4 hF4
      simp only [w146_61, zk_sI, zk_sJ, zk_sP, zn_sI, zn_sJ, zn_sP, zI_sI, zI_sJ, zI_sP, zJ_sI, zJ_sJ, zJ_sP, zP_sI, zP_sJ, zP_sP, Option.toList_some, Option.toList_none, List.cons_append, List.nil_append, zk_of hP4.1, zn_of hP4.1, zix, ziN, ne_eq, reduceCtorEq, not_false_eq_true, true_and, and_true, Option.getD_some, Nat.reduceLeDiff, Nat.reduceLT, c_ofNat, zkd76, znd76, zfx76, y0, y1]
      clear hF4
      generalize zf_sI M4 76 (2 * i + 1) (zcc q i (qD q).2.2.2) = M5 at *
      have neg : ∀ b, b ≤ 9 → (zcc q i b < 0) = (zcc q i b = -5) := by
        intro b hb
        rcases zchn_or (zpo_ok hv (show i < (qD q).1 by omega) hb) with g | ⟨k, k1, k2⟩
        · have g : zcc q i b = -5 := g
          rw [g]
          exact propext ⟨fun _ => rfl, fun _ => by decide⟩
        · have e : zcc q i b = nI k := k2
          rw [e]
          refine propext ⟨fun z => absurd z (nI_pos (by omega)), fun z => ?_⟩
          rw [z]
          decide
      have nxt := ih (i + 1) M5 (by omega) u4' k4' d4
      simp only [w146_62, w146_63, w146_66, w146_67, w146_70, w146_71, w146_72, w146_73, w146_74, w146_77, w146_78, w146_81, w146_82, w146_83, w146_84, w146_85, w146_86, w146_87, w146_90, w146_91, w146_94, w146_95, w146_96, w146_99, zk_sI, zk_sJ, zk_sP, zn_sI, zn_sJ, zn_sP, zI_sI, zI_sJ, zI_sP, zJ_sI, zJ_sJ, zJ_sP, zP_sI, zP_sJ, zP_sP, Option.toList_some, Option.toList_none, List.cons_append, List.nil_append, zk_of hP4'.1, zn_of hP4'.1, zix, ziN, ne_eq, reduceCtorEq, not_false_eq_true, true_and, and_true, Option.getD_some, Nat.reduceLeDiff, Nat.reduceLT, c_ofNat, zkd58, zp_58_1 hP4', zp_58_2 hP4', zp_58_6 hP4', zp_58_7 hP4', zp_58_10 hP4', zp_58_11 hP4', zp_58_12 hP4', zp_58_14 hP4', zp_58_15 hP4', zp_58_17 hP4', zp_58_18 hP4', zp_58_19 hP4', zp_58_20 hP4', zp_58_21 hP4', zp_58_22 hP4', zp_58_24 hP4', zp_58_26 hP4', zp_58_29 hP4', zp_58_32 hP4', zp_58_33 hP4', zp_58_34 hP4', zp_58_35 hP4', zp_58_36 hP4', zp_58_37 hP4', zp_58_38 hP4', zp_58_39 hP4', zkd76, znd76, zfx76, x0, x1, y0, y1, e2m, n_a1, f0, f1, neg 0 (by decide), neg _ hb9]
      have hz : zwd q (i + 1) = true ↔ zwd q i = true ∨ zcc q i 0 = -5 ∨ zcc q i (qD q).2.2.2 = -5 := by
        rw [zwd, Bool.or_eq_true, Bool.or_eq_true, decide_eq_true_eq, decide_eq_true_eq]
      have pos : (0 ≤ zcc q i (qD q).2.2.2) = ¬ zcc q i (qD q).2.2.2 = -5 := by rw [← neg _ hb9, Int32.not_lt]
      have t1 : (zwd q i = true ∨ zcc q i 0 = -5 ∨ zcc q i (qD q).2.2.2 = -5) → zW X 146 24 [.val (.ref 58), .val (.int 1), .val (.int (nI (i + 1))), .unset, .unset, .unset, .unset, .unset] [] M5 Q := by
        intro g
        rw [if_pos (hz.mpr g)] at nxt
        exact nxt
      have t0 : ¬ (zwd q i = true ∨ zcc q i 0 = -5 ∨ zcc q i (qD q).2.2.2 = -5) → zW X 146 24 [.val (.ref 58), .val (.int 0), .val (.int (nI (i + 1))), .unset, .unset, .unset, .unset, .unset] [] M5 Q := by
        intro g
        rw [if_neg (fun z => g (hz.mp z))] at nxt
        exact nxt
      have hi0 : ((if zwd q i = true then 1 else 0 : Int32) = 0) = ¬ zwd q i = true := by
        by_cases g : zwd q i = true
        · rw [if_pos g]
          exact propext ⟨fun z => absurd z (by decide), fun z => absurd g z⟩
        · rw [if_neg g]
          exact propext ⟨fun _ => g, fun _ => rfl⟩
      rw [hi0, pos]
      exact ⟨fun g => t1 (Or.inl (Classical.not_not.mp g)), fun g => ⟨fun g2 => t1 (Or.inr (Or.inl g2)), fun g2 => ⟨fun g3 => t0 (fun z => z.elim (fun y => g (fun w => w y)) (fun y => y.elim g2 g3)), fun g3 => t1 (Or.inr (Or.inr (Classical.not_not.mp g3)))⟩⟩⟩
  simp only [w146_0, w146_1, w146_4, w146_7, w146_8, w146_11, w146_12, w146_13, w146_14, w146_17, w146_19, w146_20, w146_21, w146_22, w146_23, zk_sI, zk_sJ, zk_sP, zn_sI, zn_sJ, zn_sP, zI_sI, zI_sJ, zI_sP, zJ_sI, zJ_sJ, zJ_sP, zP_sI, zP_sJ, zP_sP, Option.toList_some, Option.toList_none, List.cons_append, List.nil_append, zk_of hP.1, zn_of hP.1, zix, ziN, ne_eq, reduceCtorEq, not_false_eq_true, true_and, and_true, Option.getD_some, Nat.reduceLeDiff, Nat.reduceLT, c_ofNat, zkd58, zp_58_1 hP, zp_58_2 hP, zp_58_6 hP, zp_58_7 hP, zp_58_10 hP, zp_58_11 hP, zp_58_12 hP, zp_58_14 hP, zp_58_15 hP, zp_58_17 hP, zp_58_18 hP, zp_58_19 hP, zp_58_20 hP, zp_58_21 hP, zp_58_22 hP, zp_58_24 hP, zp_58_26 hP, zp_58_29 hP, zp_58_32 hP, zp_58_33 hP, zp_58_34 hP, zp_58_35 hP, zp_58_36 hP, zp_58_37 hP, zp_58_38 hP, zp_58_39 hP, zkd60, znd60, zfx60, hD.1, e60, z0, z1, v0, true_and]
  exact ⟨fun g => h0 (Or.inl g), fun g => ⟨fun g2 => phase1 (fun z => z.elim g g2) (qD q).1 0 M (Nat.zero_add _) (zF_rf _ _) hM (fun f hf => by omega), fun g2 => h0 (Or.inr (Classical.not_not.mp g2))⟩⟩
theorem M147 (hv : vQ q) (hP : zPk M) (hM : zKM q M) (h : ∀ M1, zDn M M1 → zKM q M1 → Q (some (.int (aDay q))) M1) : zC X 147 [.ref 58] M Q := by
  rw [c147]
  simp only [w147_0, w147_1, w147_4, zk_sI, zk_sJ, zk_sP, zn_sI, zn_sJ, zn_sP, zI_sI, zI_sJ, zI_sP, zJ_sI, zJ_sJ, zJ_sP, zP_sI, zP_sJ, zP_sP, Option.toList_some, Option.toList_none, List.cons_append, List.nil_append, zk_of hP.1, zn_of hP.1, zix, ziN, ne_eq, reduceCtorEq, not_false_eq_true, true_and, and_true, Option.getD_some, Nat.reduceLeDiff, Nat.reduceLT, c_ofNat, zkd58, zp_58_1 hP, zp_58_2 hP, zp_58_6 hP, zp_58_7 hP, zp_58_10 hP, zp_58_11 hP, zp_58_12 hP, zp_58_14 hP, zp_58_15 hP, zp_58_17 hP, zp_58_18 hP, zp_58_19 hP, zp_58_20 hP, zp_58_21 hP, zp_58_22 hP, zp_58_24 hP, zp_58_26 hP, zp_58_29 hP, zp_58_32 hP, zp_58_33 hP, zp_58_34 hP, zp_58_35 hP, zp_58_36 hP, zp_58_37 hP, zp_58_38 hP, zp_58_39 hP]
  refine M146 hv hP hM (fun M1 u1 k1 _ => ?_)
  simp only [w147_0, w147_1, w147_4, zk_sI, zk_sJ, zk_sP, zn_sI, zn_sJ, zn_sP, zI_sI, zI_sJ, zI_sP, zJ_sI, zJ_sJ, zJ_sP, zP_sI, zP_sJ, zP_sP, Option.toList_some, Option.toList_none, List.cons_append, List.nil_append]
  exact h M1 u1 k1
theorem M148 (hv : vQ q) (hP : zPk M) (hM : zKM q M) (h : ∀ M1, zDn M M1 → zKM q M1 → Q (some (.int (aUse q))) M1) : zC X 148 [.ref 58] M Q := by
  have h6 := hv.2.2.2.1.1
  have hb9 := hv.2.2.2.1.2.2.1
  rw [c148]
  simp only [w148_0, w148_1, w148_4, w148_5, w148_6, w148_9, w148_10, w148_13, w148_14, w148_17, zk_sI, zk_sJ, zk_sP, zn_sI, zn_sJ, zn_sP, zI_sI, zI_sJ, zI_sP, zJ_sI, zJ_sJ, zJ_sP, zP_sI, zP_sJ, zP_sP, Option.toList_some, Option.toList_none, List.cons_append, List.nil_append, zk_of hP.1, zn_of hP.1, zix, ziN, ne_eq, reduceCtorEq, not_false_eq_true, true_and, and_true, Option.getD_some, Nat.reduceLeDiff, Nat.reduceLT, c_ofNat, zkd58, zp_58_1 hP, zp_58_2 hP, zp_58_6 hP, zp_58_7 hP, zp_58_10 hP, zp_58_11 hP, zp_58_12 hP, zp_58_14 hP, zp_58_15 hP, zp_58_17 hP, zp_58_18 hP, zp_58_19 hP, zp_58_20 hP, zp_58_21 hP, zp_58_22 hP, zp_58_24 hP, zp_58_26 hP, zp_58_29 hP, zp_58_32 hP, zp_58_33 hP, zp_58_34 hP, zp_58_35 hP, zp_58_36 hP, zp_58_37 hP, zp_58_38 hP, zp_58_39 hP]
  refine M146 hv hP hM (fun M1 u1 k1 b1 => ?_)
  have hP1 := zPk_F hP u1
  have hfin := h M1 u1 k1
  unfold aUse at hfin
  have n3 : ¬ (0 : Int32) ≤ -3 := by decide
  have n5' : ¬ (0 : Int32) ≤ -5 := by decide
  by_cases g1 : (qD q).1 = 0 ∨ (qB q).1.1 = 0
  · rw [aDay, if_pos g1]
    rw [if_pos g1] at hfin
    simp only [w148_0, w148_1, w148_4, w148_5, w148_6, w148_9, w148_10, w148_13, w148_14, w148_17, zk_sI, zk_sJ, zk_sP, zn_sI, zn_sJ, zn_sP, zI_sI, zI_sJ, zI_sP, zJ_sI, zJ_sJ, zJ_sP, zP_sI, zP_sJ, zP_sP, Option.toList_some, Option.toList_none, List.cons_append, List.nil_append, n3, not_false_eq_true, false_implies, true_implies, true_and]
    exact hfin
  · rw [aDay, if_neg g1]
    rw [if_neg g1] at hfin
    by_cases g2 : zwd q (qD q).1 = true
    · rw [if_pos g2] at hfin ⊢
      simp only [w148_0, w148_1, w148_4, w148_5, w148_6, w148_9, w148_10, w148_13, w148_14, w148_17, zk_sI, zk_sJ, zk_sP, zn_sI, zn_sJ, zn_sP, zI_sI, zI_sJ, zI_sP, zJ_sI, zJ_sJ, zJ_sP, zP_sI, zP_sJ, zP_sP, Option.toList_some, Option.toList_none, List.cons_append, List.nil_append, n5', not_false_eq_true, false_implies, true_implies, true_and]
      exact hfin
    · rw [if_neg g2] at hfin ⊢
      have hw : zwd q (qD q).1 = false := by
        cases e : zwd q (qD q).1 with
        | false => rfl
        | true => exact absurd e g2
      have hno := zwd_no hw
      have hcn : ∀ f, f < (qD q).1 → zcn q f 0 ≤ 1000000 ∧ zcn q f (qD q).2.2.2 ≤ 1000000 := fun f hf => ⟨(zcn_ok hv hf (by decide) (hno f hf).1).2, (zcn_ok hv hf hb9 (hno f hf).2).2⟩
      have hs := zsu_le (u := zbe q (2 ^ (qD q).1 - 1)) hcn _ (Nat.le_refl _)
      have hge : (0 : Int32) ≤ nI (zsu q (zbe q (2 ^ (qD q).1 - 1)) (qD q).1) := nI_pos' (by omega)
      simp only [w148_0, w148_1, w148_4, w148_5, w148_6, w148_9, w148_10, w148_13, w148_14, w148_17, zk_sI, zk_sJ, zk_sP, zn_sI, zn_sJ, zn_sP, zI_sI, zI_sJ, zI_sP, zJ_sI, zJ_sJ, zJ_sP, zP_sI, zP_sJ, zP_sP, Option.toList_some, Option.toList_none, List.cons_append, List.nil_append, zk_of hP1.1, zn_of hP1.1, zix, ziN, ne_eq, reduceCtorEq, not_false_eq_true, true_and, and_true, Option.getD_some, Nat.reduceLeDiff, Nat.reduceLT, c_ofNat, zkd58, zp_58_1 hP1, zp_58_2 hP1, zp_58_6 hP1, zp_58_7 hP1, zp_58_10 hP1, zp_58_11 hP1, zp_58_12 hP1, zp_58_14 hP1, zp_58_15 hP1, zp_58_17 hP1, zp_58_18 hP1, zp_58_19 hP1, zp_58_20 hP1, zp_58_21 hP1, zp_58_22 hP1, zp_58_24 hP1, zp_58_26 hP1, zp_58_29 hP1, zp_58_32 hP1, zp_58_33 hP1, zp_58_34 hP1, zp_58_35 hP1, zp_58_36 hP1, zp_58_37 hP1, zp_58_38 hP1, zp_58_39 hP1, hge, not_true_eq_false, false_implies, true_implies, and_true, b1 g1 hw]
      exact hfin
end ZUt
