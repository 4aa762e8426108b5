/-! ===== the model: asks ===== -/
/-- what an ask of the model may change -/
def zMX (M M1 : zf_M) : Prop := zF (fun c => c = 58 ∨ 61 ≤ c ∧ c ≤ 74) M M1 ∧ ∀ j, j ≠ 8 → j ≠ 9 → j ≠ 13 → j ≠ 16 → j ≠ 23 → zf_I M1 58 j = zf_I M 58 j
section ZMk
variable {X : zf_X} {M : zf_M} {Q : Option Value → zf_M → Prop} {q : tQ}
theorem zMX_rf (M : zf_M) : zMX M M := ⟨zF_rf _ _, fun _ _ _ _ _ _ => rfl⟩
theorem zMX_tr {M M1 M2 : zf_M} (h : zMX M M1) (h2 : zMX M1 M2) : zMX M M2 := ⟨zF_tr h.1 h2.1, fun j a b c d e => by rw [h2.2 j a b c d e, h.2 j a b c d e]⟩
theorem zMX_W {M M1 : zf_M} (h : zWF M M1) : zMX M M1 := ⟨zF_mo h.1 (fun c hc => by omega), fun j _ b c d e => h.2 j b c d e⟩
theorem zDn_X {M M1 : zf_M} (h : zMX M M1) : zDn M M1 := zF_mo h.1 (fun c hc => by omega)
theorem zKM_X {M1 : zf_M} (h : zKM q M) (hx : zMX M M1) : zKM q M1 := zKM_fr h (fun c j k _ => by
  unfold kM at k
  by_cases e : c = 58
  · rw [e]
    exact hx.2 j (by omega) (by omega) (by omega) (by omega) (by omega)
  · exact (hx.1.2.1 c (by omega) j).1)
/-- sets, of a state -/
theorem s115q {b : Nat} (hv : vQ q) (hP : zPk M) (hM : zKM q M) (hb : b ≤ 9)
    (h : ∀ M1, zMX M M1 → zPk M1 → zKM q M1 → zMS (zcq q b) (qA q).1 (qL q).2.1 (qL q).2.2 (qL q).1 M1 → Q none M1) : zC X 115 [.ref 58, .int (nI b)] M Q := by
  refine s115 hP (fun M1 g1 g2 g3 g4 => ?_)
  have hX : zMX M M1 := ⟨zF_mo g1 (fun c hc => by omega), fun j a _ _ _ _ => g2 j a⟩
  have hM1 := zKM_X hM hX
  refine h M1 hX (zPk_F hP g1) hM1 ⟨⟨⟨hv.1, hM1.1.2⟩, fun k hk => ?_, zca_n hv.2.1.1.2 hv.2.1.2.2⟩, fun k hk => ⟨?_, ?_⟩, hM1.2.2.1.1, hM1.2.2.1.2.1, ?_, hv.2.2.1⟩
  · rw [(g4 k hk).1]
    by_cases h3 : k < 3
    · have e := (hM.2.1 k h3).1
      rw [e]
      congr 1
      exact (zat_h h3).symm
    · have e := (hM.2.1 (k - 3) (by omega)).2
      rw [show 3 + (k - 3) = k by omega] at e
      rw [e]
      congr 1
      have := zat_f (nu := (qA q).2) (B := (qB q).1) (F := (qB q).2) (b := b) (k := k - 3)
      rw [show 3 + (k - 3) = k by omega] at this
      exact this.symm
  · exact (g4 k hk).2
  · exact zca_b hb k
  · rw [g3]
    exact hM.2.2.1.2.2
/-- works, of a state -/
theorem s129q {c : zCs} {am su : Int32} {r n : Nat} {p : zPm} (hM : zKM q M) (hpe : p = zpm c am su r) (hp : zPo p) (hP : zPk M) (hF : zMS c n am su r M)
    (h : ∀ M1, zMX M M1 → zPk M1 → zKM q M1 → zf_I M1 58 3 = nI (pr p) → zf_I M1 58 9 = nI (pn p) → (zrun p → zMO p M1) → Q (some (.int (if zrun p then 0 else -5))) M1) : zC X 129 [.ref 58] M Q := by
  refine s129 hpe hp hP hF (fun M1 g1 g2 g3 => h M1 (zMX_W g1) (zPk_F hP g1.1) (zKM_X hM (zMX_W g1)) ?_ g2 g3)
  rw [g1.2 3 (by decide) (by decide) (by decide) (by decide), hpe]
  exact hF.2.2.1
/-- worksAsItIs -/
theorem s130 (hv : vQ q) (hP : zPk M) (hM : zKM q M)
    (h : ∀ M1, zMX M M1 → zPk M1 → zKM q M1 → zf_I M1 58 3 = nI (pr (zpq q 0)) → zf_I M1 58 9 = nI (pn (zpq q 0)) → (zrun (zpq q 0) → zMO (zpq q 0) M1) → Q (some (.int (if zrun (zpq q 0) then 0 else -5))) M1) : zC X 130 [.ref 58] M Q := by
  rw [c130]
  simp only [w130_0, w130_1, w130_2, w130_5, w130_6, w130_9, zk_sI, zk_sJ, zk_sP, zn_sI, zn_sJ, zn_sP, zI_sI, zI_sJ, zI_sP, zJ_sI, zJ_sJ, zJ_sP, zP_sI, zP_sJ, zP_sP, Option.toList_some, Option.toList_none, List.cons_append, List.nil_append, zk_of hP.1, zn_of hP.1, zix, ziN, ne_eq, reduceCtorEq, not_false_eq_true, true_and, and_true, Option.getD_some, Nat.reduceLeDiff, Nat.reduceLT, c_ofNat, zkd58, zp_58_1 hP, zp_58_2 hP, zp_58_6 hP, zp_58_7 hP, zp_58_10 hP, zp_58_11 hP, zp_58_12 hP, zp_58_14 hP, zp_58_15 hP, zp_58_17 hP, zp_58_18 hP, zp_58_19 hP, zp_58_20 hP, zp_58_21 hP, zp_58_22 hP, zp_58_24 hP, zp_58_26 hP, zp_58_29 hP, zp_58_32 hP, zp_58_33 hP, zp_58_34 hP, zp_58_35 hP, zp_58_36 hP, zp_58_37 hP, zp_58_38 hP, zp_58_39 hP]
  refine s115q (b := 0) hv hP hM (by decide) (fun M1 g1 g2 g3 g4 => ?_)
  simp only [w130_0, w130_1, w130_2, w130_5, w130_6, w130_9, zk_sI, zk_sJ, zk_sP, zn_sI, zn_sJ, zn_sP, zI_sI, zI_sJ, zI_sP, zJ_sI, zJ_sJ, zJ_sP, zP_sI, zP_sJ, zP_sP, Option.toList_some, Option.toList_none, List.cons_append, List.nil_append, zk_of g2.1, zn_of g2.1, zix, ziN, ne_eq, reduceCtorEq, not_false_eq_true, true_and, and_true, Option.getD_some, Nat.reduceLeDiff, Nat.reduceLT, c_ofNat, zkd58, zp_58_1 g2, zp_58_2 g2, zp_58_6 g2, zp_58_7 g2, zp_58_10 g2, zp_58_11 g2, zp_58_12 g2, zp_58_14 g2, zp_58_15 g2, zp_58_17 g2, zp_58_18 g2, zp_58_19 g2, zp_58_20 g2, zp_58_21 g2, zp_58_22 g2, zp_58_24 g2, zp_58_26 g2, zp_58_29 g2, zp_58_32 g2, zp_58_33 g2, zp_58_34 g2, zp_58_35 g2, zp_58_36 g2, zp_58_37 g2, zp_58_38 g2, zp_58_39 g2]
  refine s129q (p := zpq q 0) g3 rfl (zpq_ok hv (by decide)) g2 g4 (fun M2 x1 x2 x3 x4 x5 x6 => ?_)
  simp only [w130_0, w130_1, w130_2, w130_5, w130_6, w130_9, zk_sI, zk_sJ, zk_sP, zn_sI, zn_sJ, zn_sP, zI_sI, zI_sJ, zI_sP, zJ_sI, zJ_sJ, zJ_sP, zP_sI, zP_sJ, zP_sP, Option.toList_some, Option.toList_none, List.cons_append, List.nil_append]
  exact h M2 (zMX_tr g1 x1) x2 x3 x4 x5 x6
/-- chanceOf -/
theorem s131 {p : zPm} (hP : zPk M) (hp : zPo p) (hr : zrun p) (hO : zMO p M) (h3 : zf_I M 58 3 = nI (pr p)) (h9 : zf_I M 58 9 = nI (pn p)) (h : Q (some (.int (zchn p))) M) : zC X 131 [.ref 58] M Q := by
  rw [c131]
  obtain ⟨hA, ht, -⟩ := hO
  have h2 := zrk_sm hp
  have he3 : (zrk p).2.1.1 0 ≤ zsm (zrk p).2.1 := by unfold zsm; omega
  have hle := Nat.le_trans he3 h2
  have he := hA.1 0 (by decide)
  have hb : 6 ^ (pr p * pn p) ≤ 6 ^ 22 := Nat.pow_le_pow_right (by decide) hr.1
  have h0 : 0 < 6 ^ (pr p * pn p) := Nat.pow_pos (by decide)
  have hs22 := hr.1
  rw [zchn, if_pos hr] at h
  generalize (zrk p).2.1.1 0 = e at *
  simp only [w131_0, w131_1, w131_4, w131_5, zk_sI, zk_sJ, zk_sP, zn_sI, zn_sJ, zn_sP, zI_sI, zI_sJ, zI_sP, zJ_sI, zJ_sJ, zJ_sP, zP_sI, zP_sJ, zP_sP, Option.toList_some, Option.toList_none, List.cons_append, List.nil_append, zk_of hP.1, zn_of hP.1, zix, ziN, ne_eq, reduceCtorEq, not_false_eq_true, true_and, and_true, Option.getD_some, Nat.reduceLeDiff, Nat.reduceLT, c_ofNat, zkd58, zp_58_1 hP, zp_58_2 hP, zp_58_6 hP, zp_58_7 hP, zp_58_10 hP, zp_58_11 hP, zp_58_12 hP, zp_58_14 hP, zp_58_15 hP, zp_58_17 hP, zp_58_18 hP, zp_58_19 hP, zp_58_20 hP, zp_58_21 hP, zp_58_22 hP, zp_58_24 hP, zp_58_26 hP, zp_58_29 hP, zp_58_32 hP, zp_58_33 hP, zp_58_34 hP, zp_58_35 hP, zp_58_36 hP, zp_58_37 hP, zp_58_38 hP, zp_58_39 hP, zkd71, znd71, zfx71, zkd74, znd74, zfx74]
  refine s128 (a := pr p) (b := pn p) hP h3 h9 ?_
  generalize pr p * pn p = sl at *
  generalize 6 ^ sl = t at *
  have ht63 : t < 2 ^ 63 := Nat.lt_of_le_of_lt hb (by decide)
  have b3 : t ≤ 131621703842267136 := hb
  have ht0 : ¬ lN t = 0 := fun z => by rw [lN0 ht63] at z; omega
  have e10 : ∀ a, (10 : Int64) * lN a = lN (a * 10) := fun a => by
    have : (10 : Int64) * lN a = lN (10 * a) := lN_mul 10 a
    rw [this, Nat.mul_comm]
  have e10' : ∀ a, (10 : Int64) * lN a = lN (10 * a) := fun a => lN_mul 10 a
  have loop : ∀ (m i : Nat), i + m = 6 → zW X 131 29 [.val (.ref 58), .val (.long (lN t)), .second, .val (.long (lN ((zdg e t i).1 % t))), .second, .val (.long (lN (zdg e t i).2)), .second, .val (.int (nI i))] [] M Q := by
    intro m
    induction m with
    | zero =>
      intro i hi
      obtain rfl : i = 6 := by omega
      rw [w131_29]
      simp only [w131_31, w131_33, w131_36, w131_39, w131_40, w131_41, w131_42, w131_45, w131_47, w131_48, w131_49, w131_50, w131_51, w131_52, w131_54, w131_55, w131_56, w131_57, w131_58, w131_61, w131_64, w131_66, w131_67, zk_sI, zk_sJ, zk_sP, zn_sI, zn_sJ, zn_sP, zI_sI, zI_sJ, zI_sP, zJ_sI, zJ_sJ, zJ_sP, zP_sI, zP_sJ, zP_sP, Option.toList_some, Option.toList_none, List.cons_append, List.nil_append, lN_i]
      exact ⟨fun _ => h, fun z => absurd (by decide) z⟩
    | succ m ih =>
      intro i hi
      have b2 := Nat.mod_lt (zdg e t i).1 h0
      rw [w131_29]
      simp only [w131_31, w131_33, w131_36, w131_39, w131_40, w131_41, w131_42, w131_45, w131_47, w131_48, w131_49, w131_50, w131_51, w131_52, w131_54, w131_55, w131_56, w131_57, w131_58, w131_61, w131_64, w131_66, w131_67, zk_sI, zk_sJ, zk_sP, zn_sI, zn_sJ, zn_sP, zI_sI, zI_sJ, zI_sP, zJ_sI, zJ_sJ, zJ_sP, zP_sI, zP_sJ, zP_sP, Option.toList_some, Option.toList_none, List.cons_append, List.nil_append, ht0, not_false_eq_true, true_and, n_a1]
      rw [c_6, n_le (by decide) (by omega), e10 ((zdg e t i).1 % t), pk_lDiv (by omega) h0 ht63, e10', lN_add]
      refine ⟨fun z => by omega, fun _ => ?_⟩
      rw [← pk_lDiv (a := (zdg e t i).1 % t * 10) (by omega) h0 ht63, pk_lRem (by omega) h0 ht63]
      exact ⟨ht0, ht0, ih (i + 1) (by omega)⟩
  have he' : zf_J M 71 (Int32.toNatClampNeg 0) = lN e := he
  have v0 : vp_in 0 3 := vp_in_nI (n := 0) (by decide) (by decide)
  simp only [w131_8, w131_9, w131_10, w131_11, w131_14, w131_15, w131_16, w131_17, w131_18, w131_19, w131_20, w131_22, w131_23, w131_24, w131_25, w131_26, w131_27, zk_sI, zk_sJ, zk_sP, zn_sI, zn_sJ, zn_sP, zI_sI, zI_sJ, zI_sP, zJ_sI, zJ_sJ, zJ_sP, zP_sI, zP_sJ, zP_sP, Option.toList_some, Option.toList_none, List.cons_append, List.nil_append, zk_of hP.1, zn_of hP.1, zix, ziN, ne_eq, reduceCtorEq, not_false_eq_true, true_and, and_true, Option.getD_some, Nat.reduceLeDiff, Nat.reduceLT, c_ofNat, zkd58, zp_58_1 hP, zp_58_2 hP, zp_58_6 hP, zp_58_7 hP, zp_58_10 hP, zp_58_11 hP, zp_58_12 hP, zp_58_14 hP, zp_58_15 hP, zp_58_17 hP, zp_58_18 hP, zp_58_19 hP, zp_58_20 hP, zp_58_21 hP, zp_58_22 hP, zp_58_24 hP, zp_58_26 hP, zp_58_29 hP, zp_58_32 hP, zp_58_33 hP, zp_58_34 hP, zp_58_35 hP, zp_58_36 hP, zp_58_37 hP, zp_58_38 hP, zp_58_39 hP, zkd71, znd71, zfx71, zkd74, znd74, zfx74, n_cl (show sl < 2 ^ 31 by omega), n_in (show sl < 24 by omega) (show 24 < 2 ^ 31 by decide), ht, he', ht0, not_false_eq_true, true_and]
  rw [pk_lRem (by omega) h0 ht63, pk_lDiv (by omega) h0 ht63]
  exact ⟨v0, loop 6 0 rfl⟩
theorem M133 (hv : vQ q) (hP : zPk M) (hM : zKM q M) (h : ∀ M1, zDn M M1 → zKM q M1 → Q (some (.long (zall' (zpq q 0)))) M1) : zC X 133 [.ref 58] M Q := by
  rw [c133]
  simp only [w133_0, w133_1, w133_4, w133_7, w133_9, w133_12, w133_15, w133_16, w133_19, w133_20, w133_23, w133_24, zk_sI, zk_sJ, zk_sP, zn_sI, zn_sJ, zn_sP, zI_sI, zI_sJ, zI_sP, zJ_sI, zJ_sJ, zJ_sP, zP_sI, zP_sJ, zP_sP, Option.toList_some, Option.toList_none, List.cons_append, List.nil_append, zk_of hP.1, zn_of hP.1, zix, ziN, ne_eq, reduceCtorEq, not_false_eq_true, true_and, and_true, Option.getD_some, Nat.reduceLeDiff, Nat.reduceLT, c_ofNat, zkd58, zp_58_1 hP, zp_58_2 hP, zp_58_6 hP, zp_58_7 hP, zp_58_10 hP, zp_58_11 hP, zp_58_12 hP, zp_58_14 hP, zp_58_15 hP, zp_58_17 hP, zp_58_18 hP, zp_58_19 hP, zp_58_20 hP, zp_58_21 hP, zp_58_22 hP, zp_58_24 hP, zp_58_26 hP, zp_58_29 hP, zp_58_32 hP, zp_58_33 hP, zp_58_34 hP, zp_58_35 hP, zp_58_36 hP, zp_58_37 hP, zp_58_38 hP, zp_58_39 hP]
  refine s130 hv hP hM (fun M1 g1 g2 g3 g4 g5 g6 => ?_)
  have hfin := h M1 (zDn_X g1) g3
  unfold zall' at hfin
  generalize zpq q 0 = p at *
  by_cases g : zrun p
  · have hs := g.1
    rw [if_pos g] at hfin ⊢
    simp only [w133_0, w133_1, w133_4, w133_7, w133_9, w133_12, w133_15, w133_16, w133_19, w133_20, w133_23, w133_24, zk_sI, zk_sJ, zk_sP, zn_sI, zn_sJ, zn_sP, zI_sI, zI_sJ, zI_sP, zJ_sI, zJ_sJ, zJ_sP, zP_sI, zP_sJ, zP_sP, Option.toList_some, Option.toList_none, List.cons_append, List.nil_append, zk_of g2.1, zn_of g2.1, zix, ziN, ne_eq, reduceCtorEq, not_false_eq_true, true_and, and_true, Option.getD_some, Nat.reduceLeDiff, Nat.reduceLT, c_ofNat, zkd58, zp_58_1 g2, zp_58_2 g2, zp_58_6 g2, zp_58_7 g2, zp_58_10 g2, zp_58_11 g2, zp_58_12 g2, zp_58_14 g2, zp_58_15 g2, zp_58_17 g2, zp_58_18 g2, zp_58_19 g2, zp_58_20 g2, zp_58_21 g2, zp_58_22 g2, zp_58_24 g2, zp_58_26 g2, zp_58_29 g2, zp_58_32 g2, zp_58_33 g2, zp_58_34 g2, zp_58_35 g2, zp_58_36 g2, zp_58_37 g2, zp_58_38 g2, zp_58_39 g2, zkd74, znd74, zfx74, true_implies, not_true_eq_false, false_implies, and_true]
    refine s128 g2 g4 g5 ?_
    simp only [w133_0, w133_1, w133_4, w133_7, w133_9, w133_12, w133_15, w133_16, w133_19, w133_20, w133_23, w133_24, zk_sI, zk_sJ, zk_sP, zn_sI, zn_sJ, zn_sP, zI_sI, zI_sJ, zI_sP, zJ_sI, zJ_sJ, zJ_sP, zP_sI, zP_sJ, zP_sP, Option.toList_some, Option.toList_none, List.cons_append, List.nil_append, zk_of g2.1, zn_of g2.1, zix, ziN, ne_eq, reduceCtorEq, not_false_eq_true, true_and, and_true, Option.getD_some, Nat.reduceLeDiff, Nat.reduceLT, c_ofNat, zkd58, zp_58_1 g2, zp_58_2 g2, zp_58_6 g2, zp_58_7 g2, zp_58_10 g2, zp_58_11 g2, zp_58_12 g2, zp_58_14 g2, zp_58_15 g2, zp_58_17 g2, zp_58_18 g2, zp_58_19 g2, zp_58_20 g2, zp_58_21 g2, zp_58_22 g2, zp_58_24 g2, zp_58_26 g2, zp_58_29 g2, zp_58_32 g2, zp_58_33 g2, zp_58_34 g2, zp_58_35 g2, zp_58_36 g2, zp_58_37 g2, zp_58_38 g2, zp_58_39 g2, zkd74, znd74, zfx74, n_cl (show pr p * pn p < 2 ^ 31 by omega), n_in (show pr p * pn p < 24 by omega) (show 24 < 2 ^ 31 by decide), (g6 g).2.1]
    exact hfin
  · rw [if_neg g] at hfin ⊢
    have n5 : ¬ (-5 : Int32) = 0 := by decide
    simp only [w133_0, w133_1, w133_4, w133_7, w133_9, w133_12, w133_15, w133_16, w133_19, w133_20, w133_23, w133_24, zk_sI, zk_sJ, zk_sP, zn_sI, zn_sJ, zn_sP, zI_sI, zI_sJ, zI_sP, zJ_sI, zJ_sJ, zJ_sP, zP_sI, zP_sJ, zP_sP, Option.toList_some, Option.toList_none, List.cons_append, List.nil_append, n5, true_implies, not_false_eq_true, not_true_eq_false, false_implies, true_and, and_true]
    refine s104 ?_
    simp only [w133_0, w133_1, w133_4, w133_7, w133_9, w133_12, w133_15, w133_16, w133_19, w133_20, w133_23, w133_24, zk_sI, zk_sJ, zk_sP, zn_sI, zn_sJ, zn_sP, zI_sI, zI_sJ, zI_sP, zJ_sI, zJ_sJ, zJ_sP, zP_sI, zP_sJ, zP_sP, Option.toList_some, Option.toList_none, List.cons_append, List.nil_append]
    exact hfin
end ZMk
