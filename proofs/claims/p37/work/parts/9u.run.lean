/-! ===== the law, run ===== -/
section YRu
variable {X : zf_X} {M : zf_M} {q : tQ}
theorem ySd {s : Int32} {a n : Nat} {b : Int32} (h4 : (qA q).1 = 4) (hs : zin s 0 1) (ha : a < 4) (hb : (b = -1 ∧ n = 1) ∨ ∃ m, m < 4 ∧ b = nI m ∧ n = 2) : aSide q s (nI a) b (-1) = nI n ∧ nSide q s (nI a) b (-1) = uB q (if s = 0 then (rRow (nI a) b (-1), (qB q).2) else ((qB q).1, rRow (nI a) b (-1))) ∧ (rRow (nI a) b (-1)).1 = n := by
  have na : ∀ m, m < 4 → ¬ nI m = -1 := fun m hm => by
    rw [n_ne (by omega)]
    exact fun z => z
  have nh : ∀ m, m < 4 → vhas (qA q).1 (nI m) := fun m hm => by
    rw [h4]
    refine ⟨?_, ?_⟩
    · rw [c_0, n_le (by decide) (by omega)]
      omega
    · rw [n_lt (by omega) (by decide)]
      exact hm
  have hz : rSize (nI a) b (-1) = n := by
    unfold rSize
    rw [if_neg (na a ha)]
    rcases hb with ⟨rfl, rfl⟩ | ⟨m, hm, rfl, rfl⟩
    · rw [if_pos rfl]
    · rw [if_neg (na m hm), if_pos rfl]
  have hr : bSide q s (nI a) b (-1) := by
    refine ⟨hs, Or.inr (nh a ha), ?_, Or.inl rfl, fun z => absurd z (na a ha), fun _ => rfl⟩
    rcases hb with ⟨rfl, -⟩ | ⟨m, hm, rfl, -⟩
    · exact Or.inl rfl
    · exact Or.inr (nh m hm)
  refine ⟨?_, ?_, hz⟩
  · unfold aSide
    rw [if_pos hr, hz]
  · unfold nSide
    rw [if_pos hr]
theorem yLw {n : Nat} {b w : Int32} (h1 : 1 ≤ n) (h4 : n ≤ 4) (hb : zin b 0 1) (hw : zin w (-1) 1) : aLaws (nI n) b w = 1 ∧ nLaws q (nI n) b w = uL q (n, b, w) := by
  have hn : zin (nI n) 1 6 := by
    show nI 1 ≤ nI n ∧ nI n ≤ nI 6
    rw [n_le (by decide) (by omega), n_le (by omega) (by decide)]
    omega
  have g : bLaws (nI n) b w := ⟨hn, hb, hw⟩
  refine ⟨?_, ?_⟩
  · unfold aLaws
    rw [if_pos g]
  · unfold nLaws
    rw [if_pos g, n_cl (by omega)]
theorem ySh : aSheet 0 1 24 = 24 ∧ nSheet q 0 1 24 = uS q (zud (qS q).1 0 1, zud (qS q).2.1 0 24, zud (qS q).2.2 0 (fun _ => 0)) := by
  have g : bSheet 0 1 24 := by decide
  refine ⟨?_, ?_⟩
  · unfold aSheet
    rw [if_pos g]
    decide
  · unfold nSheet
    rw [if_pos g, if_neg (by decide)]
    rfl
/-- the odds, before the fights -/
theorem law_B (hx : X.1 < 2 ^ 31) {l3 l4 l6 l7 l8 l9 l10 l11 l12 l13 l14 l15 l16 l17 l18 l19 : Slot} (h0 : yQ q) (hG : yG q q) (hR : zR q M) : zW X 1000 187 [.val (.ref 1000002), .val (.ref 0), .val (.ref 58), l3, l4, .val (.int (nI (qL q).1)), l6, l7, l8, l9, l10, l11, l12, l13, l14, l15, l16, l17, l18, l19] [] M zEnd := by
  have hP := hR.2.1
  simp only [w1000_187, w1000_188, zk_sI, zk_sJ, zk_sP, zn_sI, zn_sJ, zn_sP, zI_sI, zI_sJ, zI_sP, zJ_sI, zJ_sJ, zJ_sP, zP_sI, zP_sJ, zP_sP, Option.toList_some, Option.toList_none, List.cons_append, List.nil_append, zk_of hP.1, zn_of hP.1, zix, ziN, ne_eq, reduceCtorEq, not_false_eq_true, true_and, and_true, Option.getD_some, Nat.reduceLeDiff, Nat.reduceLT, c_ofNat, zkd0, zp_0_0 hP, zp_0_1 hP, zp_0_2 hP, zp_0_3 hP, zp_0_4 hP, zp_0_5 hP, zp_0_6 hP, zp_0_7 hP]
  refine C61 hR.1 hP hR.2.2 (fun M1 u1 k1 => ?_)
  have hR1 : zR q M1 := ⟨hR.1, u1.1, k1⟩
  have hP1 := u1.1
  simp only [w1000_191, w1000_193, zk_sI, zk_sJ, zk_sP, zn_sI, zn_sJ, zn_sP, zI_sI, zI_sJ, zI_sP, zJ_sI, zJ_sJ, zJ_sP, zP_sI, zP_sJ, zP_sP, Option.toList_some, Option.toList_none, List.cons_append, List.nil_append]
  by_cases hz : zrun (zpq q 0)
  · have hw := (yRk (zpq_ok h0.1 (by decide)) (y0p h0) (yW h0) hz.2).2.2
    have g5 : ¬ zwid' (zpq q 0) = -5 := by
      unfold zwid'
      rw [if_pos hz]
      intro z
      have z2 := congrArg Int32.toInt z
      rw [nI_toInt (by omega), show (-5 : Int32).toInt = -5 by decide] at z2
      omega
    refine ⟨fun _ => ?_, fun z => absurd g5 z⟩
    have hb := yAll_b h0
    have hs := (yCn_s h0 hz).1
    have w0 : aWays q 0 = lN ((yCn q).1 0) := aWays_e (e := 0) hG hz (by decide)
    have w1 : aWays q 1 = lN ((yCn q).1 1) := aWays_e (e := 1) hG hz (by decide)
    have w2 : aWays q 2 = lN ((yCn q).1 2) := aWays_e (e := 2) hG hz (by decide)
    have n0 : (lN ((yCn q).1 0) < 0) = False := eq_false (fun z => by
      have z := (pk_lLT (b := 0) (by omega) (by decide)).mp z
      omega)
    have n1 : (lN ((yCn q).1 1) < 0) = False := eq_false (fun z => by
      have z := (pk_lLT (b := 0) (by omega) (by decide)).mp z
      omega)
    have n2 : (lN ((yCn q).1 2) < 0) = False := eq_false (fun z => by
      have z := (pk_lLT (b := 0) (by omega) (by decide)).mp z
      omega)
    simp only [w1000_223, w1000_224, w1000_225, zk_sI, zk_sJ, zk_sP, zn_sI, zn_sJ, zn_sP, zI_sI, zI_sJ, zI_sP, zJ_sI, zJ_sJ, zJ_sP, zP_sI, zP_sJ, zP_sP, Option.toList_some, Option.toList_none, List.cons_append, List.nil_append, zk_of hP1.1, zn_of hP1.1, zix, ziN, ne_eq, reduceCtorEq, not_false_eq_true, true_and, and_true, Option.getD_some, Nat.reduceLeDiff, Nat.reduceLT, c_ofNat, zkd0, zp_0_0 hP1, zp_0_1 hP1, zp_0_2 hP1, zp_0_3 hP1, zp_0_4 hP1, zp_0_5 hP1, zp_0_6 hP1, zp_0_7 hP1]
    refine C58 hR1.1 hP1 hR1.2.2 (fun M2 u2 k2 => ?_)
    have hP2 := u2.1
    rw [w0]
    simp only [w1000_228, w1000_230, w1000_231, w1000_232, zk_sI, zk_sJ, zk_sP, zn_sI, zn_sJ, zn_sP, zI_sI, zI_sJ, zI_sP, zJ_sI, zJ_sJ, zJ_sP, zP_sI, zP_sJ, zP_sP, Option.toList_some, Option.toList_none, List.cons_append, List.nil_append, zk_of hP2.1, zn_of hP2.1, zix, ziN, ne_eq, reduceCtorEq, not_false_eq_true, true_and, and_true, Option.getD_some, Nat.reduceLeDiff, Nat.reduceLT, c_ofNat, zkd0, zp_0_0 hP2, zp_0_1 hP2, zp_0_2 hP2, zp_0_3 hP2, zp_0_4 hP2, zp_0_5 hP2, zp_0_6 hP2, zp_0_7 hP2]
    refine C58 hR1.1 hP2 k2 (fun M3 u3 k3 => ?_)
    have hP3 := u3.1
    rw [w1]
    simp only [w1000_235, w1000_237, w1000_238, w1000_239, zk_sI, zk_sJ, zk_sP, zn_sI, zn_sJ, zn_sP, zI_sI, zI_sJ, zI_sP, zJ_sI, zJ_sJ, zJ_sP, zP_sI, zP_sJ, zP_sP, Option.toList_some, Option.toList_none, List.cons_append, List.nil_append, zk_of hP3.1, zn_of hP3.1, zix, ziN, ne_eq, reduceCtorEq, not_false_eq_true, true_and, and_true, Option.getD_some, Nat.reduceLeDiff, Nat.reduceLT, c_ofNat, zkd0, zp_0_0 hP3, zp_0_1 hP3, zp_0_2 hP3, zp_0_3 hP3, zp_0_4 hP3, zp_0_5 hP3, zp_0_6 hP3, zp_0_7 hP3]
    refine C58 hR1.1 hP3 k3 (fun M4 u4 k4 => ?_)
    have hP4 := u4.1
    rw [w2]
    simp only [w1000_242, w1000_244, w1000_246, w1000_247, w1000_248, w1000_251, w1000_253, w1000_254, w1000_255, w1000_258, w1000_260, w1000_261, w1000_262, w1000_265, w1000_267, w1000_269, w1000_270, w1000_272, w1000_273, w1000_274, zk_sI, zk_sJ, zk_sP, zn_sI, zn_sJ, zn_sP, zI_sI, zI_sJ, zI_sP, zJ_sI, zJ_sJ, zJ_sP, zP_sI, zP_sJ, zP_sP, Option.toList_some, Option.toList_none, List.cons_append, List.nil_append, zk_of hP4.1, zn_of hP4.1, zix, ziN, ne_eq, reduceCtorEq, not_false_eq_true, true_and, and_true, Option.getD_some, Nat.reduceLeDiff, Nat.reduceLT, c_ofNat, zkd0, zp_0_0 hP4, zp_0_1 hP4, zp_0_2 hP4, zp_0_3 hP4, zp_0_4 hP4, zp_0_5 hP4, zp_0_6 hP4, zp_0_7 hP4, lc_lt, n0, n1, n2, false_implies, not_false_eq_true, true_implies, lN_add, hs]
    refine C57 hR1.1 hP4 k4 (fun M5 u5 k5 => ?_)
    have hR5 : zR q M5 := ⟨hR.1, u5.1, k5⟩
    rw [aAll_e hG hz]
    simp only [w1000_277, w1000_278, zk_sI, zk_sJ, zk_sP, zn_sI, zn_sJ, zn_sP, zI_sI, zI_sJ, zI_sP, zJ_sI, zJ_sJ, zJ_sP, zP_sI, zP_sJ, zP_sP, Option.toList_some, Option.toList_none, List.cons_append, List.nil_append, lc_eq]
    refine ⟨fun _ => ?_, fun z => absurd trivial z⟩
    have l5 : M5.1.length = 59 := by
      rw [u5.1.1]
      rfl
    obtain ⟨hB, hE⟩ := zRB_new hR5
    simp only [w1000_283, w1000_284, w1000_286, w1000_288, w1000_289, zk_sI, zk_sJ, zk_sP, zn_sI, zn_sJ, zn_sP, zI_sI, zI_sJ, zI_sP, zJ_sI, zJ_sJ, zJ_sP, zP_sI, zP_sJ, zP_sP, Option.toList_some, Option.toList_none, List.cons_append, List.nil_append, l5]
    refine ⟨by decide, ?_⟩
    refine law_C hx h0 hz 5 0 q _ (fun _ => 0) _ _ _ _ _ _ rfl hB hG ⟨fun e he => (hE e).trans rfl, rfl, fun e he z => absurd z (Nat.lt_irrefl 0)⟩
  · have g5 : zwid' (zpq q 0) = -5 := by
      unfold zwid'
      rw [if_neg hz]
    have hw : aWays q 0 = -9223372036854775803 := by
      unfold aWays
      rw [if_pos (by decide)]
      unfold zend'
      rw [if_neg hz]
      decide
    have hs : ¬ (22 : Int32) < nI (aSlots q) := by
      have h16 := yS16 h0
      rw [← ySl h0.1] at h16
      have e : ((22 : Int32) < nI (aSlots q)) = (22 < aSlots q) := n_lt (a := 22) (by decide) (by omega)
      rw [e]
      omega
    refine ⟨fun z => absurd g5 z, fun _ => ?_⟩
    simp only [w1000_196, w1000_197, zk_sI, zk_sJ, zk_sP, zn_sI, zn_sJ, zn_sP, zI_sI, zI_sJ, zI_sP, zJ_sI, zJ_sJ, zJ_sP, zP_sI, zP_sJ, zP_sP, Option.toList_some, Option.toList_none, List.cons_append, List.nil_append, zk_of hP1.1, zn_of hP1.1, zix, ziN, ne_eq, reduceCtorEq, not_false_eq_true, true_and, and_true, Option.getD_some, Nat.reduceLeDiff, Nat.reduceLT, c_ofNat, zkd0, zp_0_0 hP1, zp_0_1 hP1, zp_0_2 hP1, zp_0_3 hP1, zp_0_4 hP1, zp_0_5 hP1, zp_0_6 hP1, zp_0_7 hP1]
    refine C56 hP1 hR1.2.2 (fun M2 u2 k2 => ?_)
    have hP2 := u2.1
    simp only [w1000_200, w1000_202, w1000_205, w1000_206, w1000_207, zk_sI, zk_sJ, zk_sP, zn_sI, zn_sJ, zn_sP, zI_sI, zI_sJ, zI_sP, zJ_sI, zJ_sJ, zJ_sP, zP_sI, zP_sJ, zP_sP, Option.toList_some, Option.toList_none, List.cons_append, List.nil_append, zk_of hP2.1, zn_of hP2.1, zix, ziN, ne_eq, reduceCtorEq, not_false_eq_true, true_and, and_true, Option.getD_some, Nat.reduceLeDiff, Nat.reduceLT, c_ofNat, zkd0, zp_0_0 hP2, zp_0_1 hP2, zp_0_2 hP2, zp_0_3 hP2, zp_0_4 hP2, zp_0_5 hP2, zp_0_6 hP2, zp_0_7 hP2]
    refine ⟨fun z => absurd z hs, fun _ => ?_⟩
    refine C58 hR1.1 hP2 k2 (fun M3 u3 k3 => ?_)
    rw [hw]
    simp only [w1000_210, w1000_213, w1000_214, w1000_217, w1000_218, w1000_221, w1000_222, zk_sI, zk_sJ, zk_sP, zn_sI, zn_sJ, zn_sP, zI_sI, zI_sJ, zI_sP, zJ_sI, zJ_sJ, zJ_sP, zP_sI, zP_sJ, zP_sP, Option.toList_some, Option.toList_none, List.cons_append, List.nil_append, lc_eq]
    first
      | exact ⟨fun z => absurd rfl z, fun _ => ⟨rfl, rfl, Or.inl u3.1.1⟩⟩
      | exact ⟨fun z => absurd trivial z, fun _ => ⟨rfl, rfl, Or.inl u3.1.1⟩⟩
set_option maxHeartbeats 2000000 in
/-- fighters stand; sides, laws, a sheet -/
theorem law_A (hx : X.1 < 2 ^ 31) {l3 l4 l5 l6 l7 l8 l9 l10 l11 l12 l13 l14 l15 l16 l17 l18 l19 : Slot} (hR : zR q M) (hA : (qA q).1 = 4) : zW X 1000 27 [.val (.ref 1000002), .val (.ref 0), .val (.ref 58), l3, l4, l5, l6, l7, l8, l9, l10, l11, l12, l13, l14, l15, l16, l17, l18, l19] [] M zEnd := by
  have hl := zR_l hR
  have hP := hR.2.1
  simp only [w1000_27, w1000_28, w1000_29, w1000_30, zk_sI, zk_sJ, zk_sP, zn_sI, zn_sJ, zn_sP, zI_sI, zI_sJ, zI_sP, zJ_sI, zJ_sJ, zJ_sP, zP_sI, zP_sJ, zP_sP, Option.toList_some, Option.toList_none, List.cons_append, List.nil_append]
  refine sc166 (k := 4) rfl (by decide) hx hl (fun v1 => ?_)
  obtain ⟨a, a2, e1⟩ := pk_andE v1 (m := 1) 1 (by decide)
  have a2 : a < 2 := a2
  simp only [w1000_33, w1000_34, w1000_35, w1000_36, w1000_37, w1000_38, w1000_39, w1000_40, zk_sI, zk_sJ, zk_sP, zn_sI, zn_sJ, zn_sP, zI_sI, zI_sJ, zI_sP, zJ_sI, zJ_sJ, zJ_sP, zP_sI, zP_sJ, zP_sP, Option.toList_some, Option.toList_none, List.cons_append, List.nil_append, e1, y1p]
  refine sc166 (k := 5) rfl (by decide) hx hl (fun v2 => ?_)
  obtain ⟨b, b2, e2⟩ := pk_andE v2 (m := 1) 1 (by decide)
  have b2 : b < 2 := b2
  simp only [w1000_43, w1000_44, w1000_45, w1000_46, w1000_48, w1000_49, w1000_50, w1000_52, zk_sI, zk_sJ, zk_sP, zn_sI, zn_sJ, zn_sP, zI_sI, zI_sJ, zI_sP, zJ_sI, zJ_sJ, zJ_sP, zP_sI, zP_sJ, zP_sP, Option.toList_some, Option.toList_none, List.cons_append, List.nil_append, e2, y1p]
  refine sc166 (k := 6) rfl (by decide) hx hl (fun v3 => ?_)
  simp only [w1000_55, w1000_56, zk_sI, zk_sJ, zk_sP, zn_sI, zn_sJ, zn_sP, zI_sI, zI_sJ, zI_sP, zJ_sI, zJ_sJ, zJ_sP, zP_sI, zP_sJ, zP_sP, Option.toList_some, Option.toList_none, List.cons_append, List.nil_append]
  refine sc167 (k := 4) rfl (by decide) (by decide) (fun r r4 => ?_)
  simp only [w1000_59, w1000_60, w1000_62, w1000_63, w1000_64, w1000_65, w1000_67, zk_sI, zk_sJ, zk_sP, zn_sI, zn_sJ, zn_sP, zI_sI, zI_sJ, zI_sP, zJ_sI, zJ_sJ, zJ_sP, zP_sI, zP_sJ, zP_sP, Option.toList_some, Option.toList_none, List.cons_append, List.nil_append, y1p]
  refine sc166 (k := 7) rfl (by decide) hx hl (fun v4 => ?_)
  simp only [w1000_70, w1000_71, zk_sI, zk_sJ, zk_sP, zn_sI, zn_sJ, zn_sP, zI_sI, zI_sJ, zI_sP, zJ_sI, zJ_sJ, zJ_sP, zP_sI, zP_sJ, zP_sP, Option.toList_some, Option.toList_none, List.cons_append, List.nil_append]
  refine sc167 (k := 4) rfl (by decide) (by decide) (fun x1 x14 => ?_)
  simp only [w1000_74, w1000_75, w1000_76, zk_sI, zk_sJ, zk_sP, zn_sI, zn_sJ, zn_sP, zI_sI, zI_sJ, zI_sP, zJ_sI, zJ_sJ, zJ_sP, zP_sI, zP_sJ, zP_sP, Option.toList_some, Option.toList_none, List.cons_append, List.nil_append]
  have k93 : ∀ y : Int32, ((y = -1 ∧ 1 + a = 1) ∨ ∃ m, m < 4 ∧ y = nI m ∧ 1 + a = 2) → zW X 1000 93 [.val (.ref 1000002), .val (.ref 0), .val (.ref 58), .val (.int (nI (1 + a))), .val (.int (nI (1 + b))), .val (.int (nI (1 + r))), l6, l7, l8, l9, l10, l11, l12, l13, l14, l15, l16, l17, l18, l19] [.int y, .int (nI x1), .int 0, .ref 0] M zEnd := by
    intro y hy
    obtain ⟨s1, s2, s3⟩ := ySd (q := q) (s := 0) hA (by decide) x14 hy
    simp only [w1000_93, w1000_94, zk_sI, zk_sJ, zk_sP, zn_sI, zn_sJ, zn_sP, zI_sI, zI_sJ, zI_sP, zJ_sI, zJ_sJ, zJ_sP, zP_sI, zP_sJ, zP_sP, Option.toList_some, Option.toList_none, List.cons_append, List.nil_append, zk_of hP.1, zn_of hP.1, zix, ziN, ne_eq, reduceCtorEq, not_false_eq_true, true_and, and_true, Option.getD_some, Nat.reduceLeDiff, Nat.reduceLT, c_ofNat, zkd0, zp_0_0 hP, zp_0_1 hP, zp_0_2 hP, zp_0_3 hP, zp_0_4 hP, zp_0_5 hP, zp_0_6 hP, zp_0_7 hP]
    refine C53 hR.1 hP hR.2.2 (fun M1 u1 k1 => ?_)
    have v1 : vQ (nSide q 0 (nI x1) y (-1)) := vSide _ _ _ _ hR.1
    rw [s1]
    rw [s2] at k1 v1
    rw [if_pos rfl] at k1 v1
    generalize rRow (nI x1) y (-1) = B1 at k1 v1 s3
    have hP1 := u1.1
    have hl1 : M1.1.length ≤ 1000000 := zR_l (q := uB q (B1, (qB q).2)) ⟨v1, hP1, k1⟩
    simp only [w1000_97, w1000_98, w1000_101, w1000_102, w1000_103, w1000_104, w1000_106, zk_sI, zk_sJ, zk_sP, zn_sI, zn_sJ, zn_sP, zI_sI, zI_sJ, zI_sP, zJ_sI, zJ_sJ, zJ_sP, zP_sI, zP_sJ, zP_sP, Option.toList_some, Option.toList_none, List.cons_append, List.nil_append]
    refine ⟨fun z => absurd trivial z, fun _ => ?_⟩
    refine sc166 (k := 9) rfl (by decide) hx hl1 (fun v5 => ?_)
    simp only [w1000_109, w1000_110, zk_sI, zk_sJ, zk_sP, zn_sI, zn_sJ, zn_sP, zI_sI, zI_sJ, zI_sP, zJ_sI, zJ_sJ, zJ_sP, zP_sI, zP_sJ, zP_sP, Option.toList_some, Option.toList_none, List.cons_append, List.nil_append]
    refine sc167 (k := 4) rfl (by decide) (by decide) (fun x2 x24 => ?_)
    simp only [w1000_113, w1000_115, w1000_116, zk_sI, zk_sJ, zk_sP, zn_sI, zn_sJ, zn_sP, zI_sI, zI_sJ, zI_sP, zJ_sI, zJ_sJ, zJ_sP, zP_sI, zP_sJ, zP_sP, Option.toList_some, Option.toList_none, List.cons_append, List.nil_append]
    have k133 : ∀ y2 : Int32, ((y2 = -1 ∧ 1 + b = 1) ∨ ∃ m, m < 4 ∧ y2 = nI m ∧ 1 + b = 2) → zW X 1000 133 [.val (.ref 1000002), .val (.ref 0), .val (.ref 58), .val (.int (nI (1 + a))), .val (.int (nI (1 + b))), .val (.int (nI (1 + r))), l6, l7, l8, l9, l10, l11, l12, l13, l14, l15, l16, l17, l18, l19] [.int y2, .int (nI x2), .int 1, .ref 0] M1 zEnd := by
      intro y2 hy2
      obtain ⟨t1, t2, t3⟩ := ySd (q := uB q (B1, (qB q).2)) (s := 1) hA (by decide) x24 hy2
      simp only [w1000_133, w1000_134, zk_sI, zk_sJ, zk_sP, zn_sI, zn_sJ, zn_sP, zI_sI, zI_sJ, zI_sP, zJ_sI, zJ_sJ, zJ_sP, zP_sI, zP_sJ, zP_sP, Option.toList_some, Option.toList_none, List.cons_append, List.nil_append, zk_of hP1.1, zn_of hP1.1, zix, ziN, ne_eq, reduceCtorEq, not_false_eq_true, true_and, and_true, Option.getD_some, Nat.reduceLeDiff, Nat.reduceLT, c_ofNat, zkd0, zp_0_0 hP1, zp_0_1 hP1, zp_0_2 hP1, zp_0_3 hP1, zp_0_4 hP1, zp_0_5 hP1, zp_0_6 hP1, zp_0_7 hP1]
      refine C53 v1 hP1 k1 (fun M2 u2 k2 => ?_)
      have v2 : vQ (nSide (uB q (B1, (qB q).2)) 1 (nI x2) y2 (-1)) := vSide _ _ _ _ v1
      rw [t1]
      rw [t2] at k2 v2
      rw [if_neg (by decide)] at k2 v2
      generalize rRow (nI x2) y2 (-1) = B2 at k2 v2 t3
      have hP2 := u2.1
      have hl2 : M2.1.length ≤ 1000000 := zR_l (q := _) ⟨v2, hP2, k2⟩
      simp only [w1000_137, w1000_139, w1000_142, w1000_143, w1000_145, w1000_146, w1000_148, zk_sI, zk_sJ, zk_sP, zn_sI, zn_sJ, zn_sP, zI_sI, zI_sJ, zI_sP, zJ_sI, zJ_sJ, zJ_sP, zP_sI, zP_sJ, zP_sP, Option.toList_some, Option.toList_none, List.cons_append, List.nil_append]
      refine ⟨fun z => absurd trivial z, fun _ => ?_⟩
      refine sc166 (k := 11) rfl (by decide) hx hl2 (fun v6 => ?_)
      obtain ⟨d, d2, e6⟩ := pk_andE v6 (m := 1) 1 (by decide)
      have d2 : d < 2 := d2
      simp only [w1000_151, w1000_152, w1000_153, w1000_154, w1000_156, zk_sI, zk_sJ, zk_sP, zn_sI, zn_sJ, zn_sP, zI_sI, zI_sJ, zI_sP, zJ_sI, zJ_sJ, zJ_sP, zP_sI, zP_sJ, zP_sP, Option.toList_some, Option.toList_none, List.cons_append, List.nil_append, e6]
      refine sc166 (k := 12) rfl (by decide) hx hl2 (fun v7 => ?_)
      simp only [w1000_159, w1000_160, zk_sI, zk_sJ, zk_sP, zn_sI, zn_sJ, zn_sP, zI_sI, zI_sJ, zI_sP, zJ_sI, zJ_sJ, zJ_sP, zP_sI, zP_sJ, zP_sP, Option.toList_some, Option.toList_none, List.cons_append, List.nil_append]
      refine sc167 (k := 3) rfl (by decide) (by decide) (fun w w3 => ?_)
      have hd : zin (nI d) 0 1 := (zin_k (N := 1) (n := 1) rfl (by decide) (by omega)).mpr (by omega)
      have hw : zin (nI w - 1) (-1) 1 := by
        rcases (show w = 0 ∨ w = 1 ∨ w = 2 by omega) with rfl | rfl | rfl <;> decide
      obtain ⟨p1, p2⟩ := yLw (q := uB (uB q (B1, (qB q).2)) ((qB (uB q (B1, (qB q).2))).1, B2)) (n := 1 + r) (by omega) (by omega) hd hw
      simp only [w1000_163, w1000_164, w1000_165, zk_sI, zk_sJ, zk_sP, zn_sI, zn_sJ, zn_sP, zI_sI, zI_sJ, zI_sP, zJ_sI, zJ_sJ, zJ_sP, zP_sI, zP_sJ, zP_sP, Option.toList_some, Option.toList_none, List.cons_append, List.nil_append, zk_of hP2.1, zn_of hP2.1, zix, ziN, ne_eq, reduceCtorEq, not_false_eq_true, true_and, and_true, Option.getD_some, Nat.reduceLeDiff, Nat.reduceLT, c_ofNat, zkd0, zp_0_0 hP2, zp_0_1 hP2, zp_0_2 hP2, zp_0_3 hP2, zp_0_4 hP2, zp_0_5 hP2, zp_0_6 hP2, zp_0_7 hP2]
      refine C55 hP2 k2 (fun M3 u3 k3 => ?_)
      have v3 := vLaws (nI (1 + r)) (nI d) (nI w - 1) v2
      rw [p1]
      rw [p2] at k3 v3
      have hP3 := u3.1
      simp only [w1000_168, w1000_169, w1000_172, w1000_173, w1000_174, w1000_175, w1000_177, zk_sI, zk_sJ, zk_sP, zn_sI, zn_sJ, zn_sP, zI_sI, zI_sJ, zI_sP, zJ_sI, zJ_sJ, zJ_sP, zP_sI, zP_sJ, zP_sP, Option.toList_some, Option.toList_none, List.cons_append, List.nil_append, zk_of hP3.1, zn_of hP3.1, zix, ziN, ne_eq, reduceCtorEq, not_false_eq_true, true_and, and_true, Option.getD_some, Nat.reduceLeDiff, Nat.reduceLT, c_ofNat, zkd0, zp_0_0 hP3, zp_0_1 hP3, zp_0_2 hP3, zp_0_3 hP3, zp_0_4 hP3, zp_0_5 hP3, zp_0_6 hP3, zp_0_7 hP3]
      refine ⟨fun z => absurd trivial z, fun _ => ?_⟩
      obtain ⟨z1, z2⟩ := ySh (q := uL (uB (uB q (B1, (qB q).2)) ((qB (uB q (B1, (qB q).2))).1, B2)) (1 + r, nI d, nI w - 1))
      refine C76 v3 hP3 k3 (fun M4 u4 k4 => ?_)
      have v4 := vSheet 0 1 24 v3
      rw [z1]
      rw [z2] at k4 v4
      simp only [w1000_180, w1000_182, zk_sI, zk_sJ, zk_sP, zn_sI, zn_sJ, zn_sP, zI_sI, zI_sJ, zI_sP, zJ_sI, zJ_sJ, zJ_sP, zP_sI, zP_sJ, zP_sP, Option.toList_some, Option.toList_none, List.cons_append, List.nil_append]
      refine ⟨fun _ => ?_, fun z => absurd trivial z⟩
      have hQ : yQ (uS (uL (uB (uB q (B1, (qB q).2)) ((qB (uB q (B1, (qB q).2))).1, B2)) (1 + r, nI d, nI w - 1)) (zud (qS (uL (uB (uB q (B1, (qB q).2)) ((qB (uB q (B1, (qB q).2))).1, B2)) (1 + r, nI d, nI w - 1))).1 0 1, zud (qS (uL (uB (uB q (B1, (qB q).2)) ((qB (uB q (B1, (qB q).2))).1, B2)) (1 + r, nI d, nI w - 1))).2.1 0 24, zud (qS (uL (uB (uB q (B1, (qB q).2)) ((qB (uB q (B1, (qB q).2))).1, B2)) (1 + r, nI d, nI w - 1))).2.2 0 (fun _ => 0))) := by
        refine ⟨v4, ?_, ?_, ?_⟩
        · show 1 ≤ B1.1 ∧ B1.1 ≤ 2
          rw [s3]
          omega
        · show 1 ≤ B2.1 ∧ B2.1 ≤ 2
          rw [t3]
          omega
        · show 1 + r ≤ 4
          omega
      exact law_B hx hQ ⟨v4, rfl, rfl, rfl, rfl, rfl⟩ ⟨v4, u4.1, k4⟩
    refine ⟨fun z => ?_, fun z => ?_⟩
    · simp only [w1000_132, zk_sI, zk_sJ, zk_sP, zn_sI, zn_sJ, zn_sP, zI_sI, zI_sJ, zI_sP, zJ_sI, zJ_sJ, zJ_sP, zP_sI, zP_sJ, zP_sP, Option.toList_some, Option.toList_none, List.cons_append, List.nil_append]
      have g : (nI (1 + b) ≤ 1) = (1 + b ≤ 1) := n_le (b := 1) (by omega) (by decide)
      rw [g] at z
      exact k133 (-1) (Or.inl ⟨rfl, by omega⟩)
    · simp only [w1000_119, w1000_120, w1000_122, zk_sI, zk_sJ, zk_sP, zn_sI, zn_sJ, zn_sP, zI_sI, zI_sJ, zI_sP, zJ_sI, zJ_sJ, zJ_sP, zP_sI, zP_sJ, zP_sP, Option.toList_some, Option.toList_none, List.cons_append, List.nil_append]
      have g : (nI (1 + b) ≤ 1) = (1 + b ≤ 1) := n_le (b := 1) (by omega) (by decide)
      rw [g] at z
      refine sc166 (k := 10) rfl (by decide) hx hl1 (fun v8 => ?_)
      simp only [w1000_125, w1000_126, zk_sI, zk_sJ, zk_sP, zn_sI, zn_sJ, zn_sP, zI_sI, zI_sJ, zI_sP, zJ_sI, zJ_sJ, zJ_sP, zP_sI, zP_sJ, zP_sP, Option.toList_some, Option.toList_none, List.cons_append, List.nil_append]
      refine sc167 (k := 4) rfl (by decide) (by decide) (fun m m4 => ?_)
      simp only [w1000_129, zk_sI, zk_sJ, zk_sP, zn_sI, zn_sJ, zn_sP, zI_sI, zI_sJ, zI_sP, zJ_sI, zJ_sJ, zJ_sP, zP_sI, zP_sJ, zP_sP, Option.toList_some, Option.toList_none, List.cons_append, List.nil_append]
      exact k133 (nI m) (Or.inr ⟨m, m4, rfl, by omega⟩)
  refine ⟨fun z => ?_, fun z => ?_⟩
  · simp only [w1000_92, zk_sI, zk_sJ, zk_sP, zn_sI, zn_sJ, zn_sP, zI_sI, zI_sJ, zI_sP, zJ_sI, zJ_sJ, zJ_sP, zP_sI, zP_sJ, zP_sP, Option.toList_some, Option.toList_none, List.cons_append, List.nil_append]
    have g : (nI (1 + a) ≤ 1) = (1 + a ≤ 1) := n_le (b := 1) (by omega) (by decide)
    rw [g] at z
    exact k93 (-1) (Or.inl ⟨rfl, by omega⟩)
  · simp only [w1000_79, w1000_80, w1000_82, zk_sI, zk_sJ, zk_sP, zn_sI, zn_sJ, zn_sP, zI_sI, zI_sJ, zI_sP, zJ_sI, zJ_sJ, zJ_sP, zP_sI, zP_sJ, zP_sP, Option.toList_some, Option.toList_none, List.cons_append, List.nil_append]
    have g : (nI (1 + a) ≤ 1) = (1 + a ≤ 1) := n_le (b := 1) (by omega) (by decide)
    rw [g] at z
    refine sc166 (k := 8) rfl (by decide) hx hl (fun v8 => ?_)
    simp only [w1000_85, w1000_86, zk_sI, zk_sJ, zk_sP, zn_sI, zn_sJ, zn_sP, zI_sI, zI_sJ, zI_sP, zJ_sI, zJ_sJ, zJ_sP, zP_sI, zP_sJ, zP_sP, Option.toList_some, Option.toList_none, List.cons_append, List.nil_append]
    refine sc167 (k := 4) rfl (by decide) (by decide) (fun m m4 => ?_)
    simp only [w1000_89, zk_sI, zk_sJ, zk_sP, zn_sI, zn_sJ, zn_sP, zI_sI, zI_sJ, zI_sP, zJ_sI, zJ_sJ, zJ_sP, zP_sI, zP_sJ, zP_sP, Option.toList_some, Option.toList_none, List.cons_append, List.nil_append]
    exact k93 (nI m) (Or.inr ⟨m, m4, rfl, by omega⟩)
/-- the law -/
theorem law_run (hx : X.1 ≤ 260) : zW X 1000 0 [.val (.ref 1000002), .unset, .unset, .unset, .unset, .unset, .unset, .unset, .unset, .unset, .unset, .unset, .unset, .unset, .unset, .unset, .unset, .unset, .unset, .unset] [] Mz zEnd := by
  have hx2 : X.1 < 2 ^ 31 := by omega
  have l0 : Mz.1.length = 0 := rfl
  have l1 : K11.1.length = 58 := by decide +kernel
  simp only [w1000_0, w1000_3, w1000_4, l0]
  refine ⟨by decide, ?_⟩
  change zC X 49 [.ref 0] K0 _
  refine mk49 ?_
  simp only [w1000_7, w1000_8, w1000_10, zk_sI, zk_sJ, zk_sP, zn_sI, zn_sJ, zn_sP, zI_sI, zI_sJ, zI_sP, zJ_sI, zJ_sJ, zJ_sP, zP_sI, zP_sJ, zP_sP, Option.toList_some, Option.toList_none, List.cons_append, List.nil_append, l1]
  refine ⟨by decide, ?_⟩
  simp only [w1000_12, w1000_13, w1000_14, w1000_15, w1000_16, w1000_17, w1000_19, zk_sI, zk_sJ, zk_sP, zn_sI, zn_sJ, zn_sP, zI_sI, zI_sJ, zI_sP, zJ_sI, zJ_sJ, zJ_sP, zP_sI, zP_sJ, zP_sP, Option.toList_some, Option.toList_none, List.cons_append, List.nil_append]
  refine sc168 (q := q0) hx2 ⟨vQ_0, zPk_0, zKC_0⟩ rfl (fun q' M' hR' hA' => ?_)
  simp only [w1000_22, zk_sI, zk_sJ, zk_sP, zn_sI, zn_sJ, zn_sP, zI_sI, zI_sJ, zI_sP, zJ_sI, zJ_sJ, zJ_sP, zP_sI, zP_sJ, zP_sP, Option.toList_some, Option.toList_none, List.cons_append, List.nil_append]
  refine ⟨fun _ => law_A hx2 hR' hA', fun z => absurd (by decide) z⟩
end YRu
