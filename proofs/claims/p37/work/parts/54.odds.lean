/-! ===== Odds: what is counted ===== -/
theorem zPk_F {S : Nat → Prop} {M M1 : zf_M} (h : zPk M) (hF : zF S M M1) : zPk M1 := zPk_of h hF.1 hF.2.2
theorem zLy_F {S : Nat → Prop} {M M1 : zf_M} {a : Nat} (h : zLy M a) (hF : zF S M M1) : zLy M1 a := by
  obtain ⟨h0, h1, h2, h3, h4, h5, h6, h7, h8, h9⟩ := h
  have hp := hF.2.2
  exact ⟨h0, by rw [zF_k hF, h1], by rw [hp, h2], by rw [hp, h3], by rw [hp, h4], by rw [hp, h5], by rw [zF_n hF, h6], by rw [zF_n hF, h7], by rw [zF_n hF, h8], by rw [zF_n hF, h9]⟩
section ZOd
variable {X : zf_X} {M : zf_M} {Q : Option Value → zf_M → Prop} {a n : Nat}
/-- empty -/
theorem s23 (hL : zLy M a) (hI : zLI M a n) (h : ∀ M1, zF (fun b => b = a ∨ b = a + 4) M M1 → zLI M1 a 0 → Q none M1) : zC X 23 [.ref a] M Q := by
  rw [c23]
  obtain ⟨I1, I2, I3, I4, I5⟩ := hI
  have a999 := hL.1
  have f3 := zfx_lt (X := X) (a := a + 3) (by omega)
  have f4 := zfx_lt (X := X) (a := a + 4) (by omega)
  have loop : ∀ (m i : Nat) (M1 : zf_M), i + m = n → zF (fun b => b = a + 4) M M1 → (∀ p, p < 1024 → zf_I M1 (a + 4) p = 0 ∨ (zf_I M1 (a + 4) p = zf_I M (a + 4) p ∧ ∀ q, q < i → zf_I M (a + 3) q ≠ nI p)) → zW X 23 2 [.val (.ref a), .val (.int (nI i))] [] M1 Q := by
    intro m
    induction m with
    | zero =>
      intro i M1 hi hF hz
      obtain rfl : i = n := by omega
      obtain ⟨L0, L1, L2, L3, L4, L5, L6, L7, L8, L9⟩ := zLy_F hL hF
      rw [w23_2]
      have e2 : zf_I M1 a 2 = nI i := by rw [(hF.2.1 a (by omega) 2).1, I1]
      simp only [w23_0, w23_1, w23_3, w23_4, w23_7, w23_10, w23_11, w23_14, w23_15, w23_18, w23_19, w23_20, w23_21, w23_22, w23_25, w23_28, w23_29, w23_30, w23_33, zk_sI, zk_sJ, zk_sP, zn_sI, zn_sJ, zn_sP, zI_sI, zI_sJ, zI_sP, zJ_sI, zJ_sJ, zJ_sP, zP_sI, zP_sJ, zP_sP, Option.toList_some, Option.toList_none, List.cons_append, List.nil_append, L1, L2, L3, L4, L5, L6, L7, L8, L9, f3, f4, e2, zix, ne_eq, reduceCtorEq, not_false_eq_true, true_and, and_true, Option.getD_some]
      refine ⟨fun _ => h _ (zF_sI (zF_mo hF (fun b hb => Or.inr hb)) (Or.inl rfl)) ?_, fun z => absurd (Int32.le_refl _) z⟩
      have hT : ∀ p, p < 1024 → zf_I (zf_sI M1 a 2 0) (a + 4) p = 0 := by
        intro p hp
        rw [zI_sI, if_neg (by omega)]
        rcases hz p hp with g | ⟨g1, g2⟩
        · exact g
        · rcases I5 p hp with g3 | ⟨j, g3, g4, g5⟩
          · rw [g1, g3]
          · exact absurd g5 (g2 j g3)
      exact ⟨by rw [zI_sI, if_pos rfl, if_pos rfl]; rfl, by omega, fun i j hi => by omega, fun i hi => by omega, fun p hp => Or.inl (hT p hp)⟩
    | succ m ih =>
      intro i M1 hi hF hz
      obtain ⟨L0, L1, L2, L3, L4, L5, L6, L7, L8, L9⟩ := zLy_F hL hF
      rw [w23_2]
      have e2 : zf_I M1 a 2 = nI n := by rw [(hF.2.1 a (by omega) 2).1, I1]
      obtain ⟨d, d1, d2, d3, d4⟩ := I4 i (by omega)
      generalize hpp : (zhs (zf_J M (a + 1) i) + d) % 1024 = pp at d2 d3
      have hpl : pp < 1024 := by omega
      have e3 : zf_I M1 (a + 3) i = nI pp := by rw [(hF.2.1 (a + 3) (by omega) i).1, d2]
      simp only [w23_0, w23_1, w23_3, w23_4, w23_7, w23_10, w23_11, w23_14, w23_15, w23_18, w23_19, w23_20, w23_21, w23_22, w23_25, w23_28, w23_29, w23_30, w23_33, zk_sI, zk_sJ, zk_sP, zn_sI, zn_sJ, zn_sP, zI_sI, zI_sJ, zI_sP, zJ_sI, zJ_sJ, zJ_sP, zP_sI, zP_sJ, zP_sP, Option.toList_some, Option.toList_none, List.cons_append, List.nil_append, L1, L2, L3, L4, L5, L6, L7, L8, L9, f3, f4, e2, e3, zix, n_cl (show i < 2 ^ 31 by omega), n_cl (show pp < 2 ^ 31 by omega), ne_eq, reduceCtorEq, not_false_eq_true, true_and, and_true, Option.getD_some]
      rw [n_le (by omega) (by omega), n_a1]
      refine ⟨fun z => by omega, fun _ => ⟨vp_in_nI (by omega) (by decide), vp_in_nI hpl (by decide), ?_⟩⟩
      refine ih (i + 1) _ (by omega) (zF_sI hF rfl) (fun p hp => ?_)
      rw [zI_sI, if_pos rfl]
      by_cases hpe : p = pp
      · rw [if_pos hpe]
        exact Or.inl rfl
      · rw [if_neg hpe]
        rcases hz p hp with g | ⟨g1, g2⟩
        · exact Or.inl g
        · refine Or.inr ⟨g1, fun q hq => ?_⟩
          by_cases hqi : q = i
          · subst hqi
            rw [d2, ne_eq, nI_eq (by omega) (by omega)]
            exact fun z => hpe z.symm
          · exact g2 q (by omega)
  simp only [w23_0, w23_1, w23_3, w23_4, w23_7, w23_10, w23_11, w23_14, w23_15, w23_18, w23_19, w23_20, w23_21, w23_22, w23_25, w23_28, w23_29, w23_30, w23_33, zk_sI, zk_sJ, zk_sP, zn_sI, zn_sJ, zn_sP, zI_sI, zI_sJ, zI_sP, zJ_sI, zJ_sJ, zJ_sP, zP_sI, zP_sJ, zP_sP, Option.toList_some, Option.toList_none, List.cons_append, List.nil_append]
  exact loop n 0 M (by omega) (zF_rf _ _) (fun p hp => Or.inr ⟨rfl, fun q hq => by omega⟩)
/-- powerOfSix -/
theorem s31 {n : Nat} (hn : n < 2 ^ 31) (h : Q (some (.long (lN (6 ^ n)))) M) : zC X 31 [.int (nI n)] M Q := by
  rw [c31]
  have loop : ∀ (m i : Nat), i + m = n → zW X 31 4 [.val (.int (nI n)), .val (.long (lN (6 ^ i))), .second, .val (.int (nI i))] [] M Q := by
    intro m
    induction m with
    | zero =>
      intro i hi
      obtain rfl : i = n := by omega
      rw [w31_4]
      simp only [w31_0, w31_1, w31_2, w31_3, w31_5, w31_6, w31_9, w31_10, w31_13, w31_14, w31_15, w31_18, w31_21, w31_22, zk_sI, zk_sJ, zk_sP, zn_sI, zn_sJ, zn_sP, zI_sI, zI_sJ, zI_sP, zJ_sI, zJ_sJ, zJ_sP, zP_sI, zP_sJ, zP_sP, Option.toList_some, Option.toList_none, List.cons_append, List.nil_append]
      exact ⟨fun _ => h, fun z => absurd (Int32.le_refl _) z⟩
    | succ m ih =>
      intro i hi
      rw [w31_4]
      simp only [w31_0, w31_1, w31_2, w31_3, w31_5, w31_6, w31_9, w31_10, w31_13, w31_14, w31_15, w31_18, w31_21, w31_22, zk_sI, zk_sJ, zk_sP, zn_sI, zn_sJ, zn_sP, zI_sI, zI_sJ, zI_sP, zJ_sI, zJ_sJ, zJ_sP, zP_sI, zP_sJ, zP_sP, Option.toList_some, Option.toList_none, List.cons_append, List.nil_append]
      have e6 : (6 : Int64) = lN 6 := rfl
      rw [n_le (by omega) (by omega), n_a1, e6, lN_mul, ← Nat.pow_succ]
      exact ⟨fun z => by omega, fun _ => ih (i + 1) (by omega)⟩
  simp only [w31_0, w31_1, w31_2, w31_3, w31_5, w31_6, w31_9, w31_10, w31_13, w31_14, w31_15, w31_18, w31_21, w31_22, zk_sI, zk_sJ, zk_sP, zn_sI, zn_sJ, zn_sP, zI_sI, zI_sJ, zI_sP, zJ_sI, zJ_sJ, zJ_sP, zP_sI, zP_sJ, zP_sP, Option.toList_some, Option.toList_none, List.cons_append, List.nil_append]
  exact loop n 0 (by omega)
/-- the counters: by end, by round, by seat and digit -/
abbrev zA : Type := (Nat → Nat) × (Nat → Nat) × (Nat → Nat)
def zA0 : zA := (fun _ => 0, fun _ => 0, fun _ => 0)
/-- a state that is over, or drawn, in w ways -/
def ztl (od : Nat → Nat) (n : Nat) (A : zA) (N w e r : Nat) : zA := (fun i => A.1 i + if i = e then w else 0, fun i => A.2.1 i + if e ≠ 2 ∧ i = r then w else 0, fun i => A.2.2 i + if ∃ q, q < n ∧ i = 64 * od q + dg N (od q) then w else 0)
/-- the counters in the memory -/
def zAM (M : zf_M) (A : zA) : Prop := (∀ i, i < 3 → zf_J M 13 i = lN (A.1 i)) ∧ (∀ i, i < 7 → zf_J M 14 i = lN (A.2.1 i)) ∧ (∀ i, i < 384 → zf_J M 15 i = lN (A.2.2 i))
/-- tally -/
theorem s34 {od : Nat → Nat} {A : zA} {N w e r bh : Nat} (hP : zPk M) (hA : zAM M A) (hN : N < 64 ^ 6) (hn : zf_I M 4 7 = nI n ∧ n ≤ 6) (hod : ∀ i, i < n → zf_I M 11 i = nI (od i) ∧ od i < 6) (hi : ∀ i j, i < n → j < n → od i = od j → i = j) (he : e < 3) (hr : r < 7) (hb : zf_J M 12 7 = lN bh)
    (h : ∀ M1, zF (fun b => b = 13 ∨ b = 14 ∨ b = 15) M M1 → zAM M1 (ztl od n A N (w * bh) e r) → Q none M1) : zC X 34 [.ref 12, .ref 4, .long (lN N), .long (lN w), .int (nI e), .int (nI r)] M Q := by
  rw [c34]
  obtain ⟨hn, hn6⟩ := hn
  obtain ⟨A1, A2, A3⟩ := hA
  have loop : ∀ (m i : Nat) (M1 : zf_M) (l11 : Slot), i + m = n → zF (fun b => b = 13 ∨ b = 14 ∨ b = 15) M M1 → (∀ j, j < 3 → zf_J M1 13 j = lN ((ztl od n A N (w * bh) e r).1 j)) → (∀ j, j < 7 → zf_J M1 14 j = lN ((ztl od n A N (w * bh) e r).2.1 j)) → (∀ j, j < 384 → zf_J M1 15 j = lN ((ztl od i A N (w * bh) e r).2.2 j)) → zW X 34 42 [.val (.ref 12), .val (.ref 4), .val (.long (lN N)), .second, .val (.long (lN w)), .second, .val (.int (nI e)), .val (.int (nI r)), .val (.long (lN (w * bh))), .second, .val (.int (nI i)), l11] [] M1 Q := by
    intro m
    induction m with
    | zero =>
      intro i M1 l11 him hF g1 g2 g3
      obtain rfl : i = n := by omega
      have hP1 := zPk_F hP hF
      rw [w34_42]
      have e2 : zf_I M1 4 7 = nI i := by rw [(hF.2.1 4 (by omega) 7).1, hn]
      simp only [w34_0, w34_2, w34_3, w34_6, w34_7, w34_9, w34_10, w34_13, w34_15, w34_16, w34_17, w34_19, w34_20, w34_21, w34_23, w34_24, w34_27, w34_28, w34_31, w34_33, w34_34, w34_35, w34_37, w34_38, w34_39, w34_40, w34_44, w34_45, w34_48, w34_51, w34_52, w34_55, w34_57, w34_58, w34_60, w34_61, w34_64, w34_66, w34_68, w34_69, w34_70, w34_72, w34_75, w34_76, w34_77, w34_78, w34_80, w34_81, w34_82, w34_85, w34_88, zk_sI, zk_sJ, zk_sP, zn_sI, zn_sJ, zn_sP, zI_sI, zI_sJ, zI_sP, zJ_sI, zJ_sJ, zJ_sP, zP_sI, zP_sJ, zP_sP, Option.toList_some, Option.toList_none, List.cons_append, List.nil_append, zk_of hP1.1, zn_of hP1.1, zix, ziN, ne_eq, reduceCtorEq, not_false_eq_true, true_and, and_true, Option.getD_some, Nat.reduceLeDiff, Nat.reduceLT, c_ofNat, zkd4, zp_4_0 hP1, zp_4_1 hP1, zp_4_2 hP1, zp_4_3 hP1, zp_4_4 hP1, zp_4_5 hP1, zp_4_6 hP1, zkd5, znd5, zfx5, zkd6, znd6, zfx6, zkd7, znd7, zfx7, zkd8, znd8, zfx8, zkd9, znd9, zfx9, zkd10, znd10, zfx10, zkd11, znd11, zfx11, zkd12, zp_12_2 hP1, zp_12_3 hP1, zp_12_4 hP1, zkd13, znd13, zfx13, zkd14, znd14, zfx14, zkd15, znd15, zfx15, e2]
      exact ⟨fun _ => h M1 hF ⟨g1, g2, g3⟩, fun z => absurd (Int32.le_refl _) z⟩
    | succ m ih =>
      intro i M1 l11 him hF g1 g2 g3
      have hP1 := zPk_F hP hF
      rw [w34_42]
      obtain ⟨o1, o2⟩ := hod i (by omega)
      have e2 : zf_I M1 4 7 = nI n := by rw [(hF.2.1 4 (by omega) 7).1, hn]
      have e3 : zf_I M1 11 i = nI (od i) := by rw [(hF.2.1 11 (by omega) i).1, o1]
      simp only [w34_0, w34_2, w34_3, w34_6, w34_7, w34_9, w34_10, w34_13, w34_15, w34_16, w34_17, w34_19, w34_20, w34_21, w34_23, w34_24, w34_27, w34_28, w34_31, w34_33, w34_34, w34_35, w34_37, w34_38, w34_39, w34_40, w34_44, w34_45, w34_48, w34_51, w34_52, w34_55, w34_57, w34_58, w34_60, w34_61, w34_64, w34_66, w34_68, w34_69, w34_70, w34_72, w34_75, w34_76, w34_77, w34_78, w34_80, w34_81, w34_82, w34_85, w34_88, zk_sI, zk_sJ, zk_sP, zn_sI, zn_sJ, zn_sP, zI_sI, zI_sJ, zI_sP, zJ_sI, zJ_sJ, zJ_sP, zP_sI, zP_sJ, zP_sP, Option.toList_some, Option.toList_none, List.cons_append, List.nil_append, zk_of hP1.1, zn_of hP1.1, zix, ziN, ne_eq, reduceCtorEq, not_false_eq_true, true_and, and_true, Option.getD_some, Nat.reduceLeDiff, Nat.reduceLT, c_ofNat, zkd4, zp_4_0 hP1, zp_4_1 hP1, zp_4_2 hP1, zp_4_3 hP1, zp_4_4 hP1, zp_4_5 hP1, zp_4_6 hP1, zkd5, znd5, zfx5, zkd6, znd6, zfx6, zkd7, znd7, zfx7, zkd8, znd8, zfx8, zkd9, znd9, zfx9, zkd10, znd10, zfx10, zkd11, znd11, zfx11, zkd12, zp_12_2 hP1, zp_12_3 hP1, zp_12_4 hP1, zkd13, znd13, zfx13, zkd14, znd14, zfx14, zkd15, znd15, zfx15, e2, e3, n_cl (show i < 2 ^ 31 by omega), n_in (show i < 6 by omega) (show 6 < 2 ^ 31 by decide)]
      rw [n_le (by omega) (by omega)]
      refine ⟨fun z => by omega, fun _ => ?_⟩
      refine s11 hN o2 ?_
      have hdl := dg_lt N (od i)
      have e64 : (64 : Int32) * nI (od i) + nI (dg N (od i)) = nI (64 * od i + dg N (od i)) := by
        have e : (64 : Int32) = nI 64 := rfl
        rw [e, pk_mul, nI_add]
      have hlt : 64 * od i + dg N (od i) < 384 := by omega
      simp only [w34_0, w34_2, w34_3, w34_6, w34_7, w34_9, w34_10, w34_13, w34_15, w34_16, w34_17, w34_19, w34_20, w34_21, w34_23, w34_24, w34_27, w34_28, w34_31, w34_33, w34_34, w34_35, w34_37, w34_38, w34_39, w34_40, w34_44, w34_45, w34_48, w34_51, w34_52, w34_55, w34_57, w34_58, w34_60, w34_61, w34_64, w34_66, w34_68, w34_69, w34_70, w34_72, w34_75, w34_76, w34_77, w34_78, w34_80, w34_81, w34_82, w34_85, w34_88, zk_sI, zk_sJ, zk_sP, zn_sI, zn_sJ, zn_sP, zI_sI, zI_sJ, zI_sP, zJ_sI, zJ_sJ, zJ_sP, zP_sI, zP_sJ, zP_sP, Option.toList_some, Option.toList_none, List.cons_append, List.nil_append, zk_of hP1.1, zn_of hP1.1, zix, ziN, ne_eq, reduceCtorEq, not_false_eq_true, true_and, and_true, Option.getD_some, Nat.reduceLeDiff, Nat.reduceLT, c_ofNat, zkd4, zp_4_0 hP1, zp_4_1 hP1, zp_4_2 hP1, zp_4_3 hP1, zp_4_4 hP1, zp_4_5 hP1, zp_4_6 hP1, zkd5, znd5, zfx5, zkd6, znd6, zfx6, zkd7, znd7, zfx7, zkd8, znd8, zfx8, zkd9, znd9, zfx9, zkd10, znd10, zfx10, zkd11, znd11, zfx11, zkd12, zp_12_2 hP1, zp_12_3 hP1, zp_12_4 hP1, zkd13, znd13, zfx13, zkd14, znd14, zfx14, zkd15, znd15, zfx15, e64, n_cl (show 64 * od i + dg N (od i) < 2 ^ 31 by omega), n_in hlt (show 384 < 2 ^ 31 by decide), g3 _ hlt, lN_add, n_a1]
      refine ih (i + 1) _ _ (by omega) (zF_sJ hF (Or.inr (Or.inr rfl))) (fun j hj => ?_) (fun j hj => ?_) (fun j hj => ?_)
      · rw [zJ_sJ, if_neg (by decide)]
        exact g1 j hj
      · rw [zJ_sJ, if_neg (by decide)]
        exact g2 j hj
      · rw [zJ_sJ, if_pos rfl]
        by_cases hje : j = 64 * od i + dg N (od i)
        · rw [if_pos hje]
          congr 1
          show A.2.2 _ + _ + _ = A.2.2 _ + _
          rw [hje, if_neg, if_pos ⟨i, by omega, rfl⟩]
          · omega
          · rintro ⟨q, q1, q2⟩
            have hq := (hod q (by omega)).2
            have hdq := dg_lt N (od q)
            have := hi q i (by omega) (by omega) (by omega)
            omega
        · rw [if_neg hje, g3 j hj]
          congr 1
          show A.2.2 _ + _ = A.2.2 _ + _
          congr 1
          by_cases hq : ∃ q, q < i ∧ j = 64 * od q + dg N (od q)
          · obtain ⟨q, q1, q2⟩ := hq
            rw [if_pos ⟨q, q1, q2⟩, if_pos ⟨q, by omega, q2⟩]
          · rw [if_neg hq, if_neg]
            rintro ⟨q, q1, q2⟩
            by_cases hqi : q = i
            · subst hqi
              exact hje q2
            · exact hq ⟨q, by omega, q2⟩
  have ce := n_cl (show e < 2 ^ 31 by omega)
  have cr := n_cl (show r < 2 ^ 31 by omega)
  simp only [w34_0, w34_2, w34_3, w34_6, w34_7, w34_9, w34_10, w34_13, w34_15, w34_16, w34_17, w34_19, w34_20, w34_21, w34_23, w34_24, w34_27, w34_28, w34_31, w34_33, w34_34, w34_35, w34_37, w34_38, w34_39, w34_40, w34_44, w34_45, w34_48, w34_51, w34_52, w34_55, w34_57, w34_58, w34_60, w34_61, w34_64, w34_66, w34_68, w34_69, w34_70, w34_72, w34_75, w34_76, w34_77, w34_78, w34_80, w34_81, w34_82, w34_85, w34_88, zk_sI, zk_sJ, zk_sP, zn_sI, zn_sJ, zn_sP, zI_sI, zI_sJ, zI_sP, zJ_sI, zJ_sJ, zJ_sP, zP_sI, zP_sJ, zP_sP, Option.toList_some, Option.toList_none, List.cons_append, List.nil_append, zk_of hP.1, zn_of hP.1, zix, ziN, ne_eq, reduceCtorEq, not_false_eq_true, true_and, and_true, Option.getD_some, Nat.reduceLeDiff, Nat.reduceLT, c_ofNat, zkd4, zp_4_0 hP, zp_4_1 hP, zp_4_2 hP, zp_4_3 hP, zp_4_4 hP, zp_4_5 hP, zp_4_6 hP, zkd5, znd5, zfx5, zkd6, znd6, zfx6, zkd7, znd7, zfx7, zkd8, znd8, zfx8, zkd9, znd9, zfx9, zkd10, znd10, zfx10, zkd11, znd11, zfx11, zkd12, zp_12_2 hP, zp_12_3 hP, zp_12_4 hP, zkd13, znd13, zfx13, zkd14, znd14, zfx14, zkd15, znd15, zfx15, hb, lN_mul, ce, cr, n_in he (show 3 < 2 ^ 31 by decide), n_in hr (show 7 < 2 ^ 31 by decide), A1 e he, lN_add]
  rw [c_2, n_eq (by omega) (by decide)]
  have z3 : ∀ (M1 : zf_M), (∀ j, j < 384 → zf_J M1 15 j = zf_J M 15 j) → ∀ j, j < 384 → zf_J M1 15 j = lN ((ztl od 0 A N (w * bh) e r).2.2 j) := by
    intro M1 h1 j hj
    rw [h1 j hj, A3 j hj]
    show lN (A.2.2 j) = lN (A.2.2 j + _)
    rw [if_neg (by rintro ⟨q, q1, -⟩; omega)]
    rfl
  refine ⟨fun h2 => loop n 0 _ _ (by omega) (zF_sJ (zF_rf _ _) (Or.inl rfl)) (fun j hj => ?_) (fun j hj => ?_) (z3 _ (fun j hj => ?_)), fun h2 => loop n 0 _ _ (by omega) (zF_sJ (zF_sJ (zF_rf _ _) (Or.inl rfl)) (Or.inr (Or.inl rfl))) (fun j hj => ?_) (fun j hj => ?_) (z3 _ (fun j hj => ?_))⟩
  · rw [zJ_sJ, if_pos rfl]
    show _ = lN (A.1 j + _)
    by_cases hje : j = e
    · rw [if_pos hje, if_pos hje, hje]
    · rw [if_neg hje, if_neg hje]
      exact A1 j hj
  · rw [zJ_sJ, if_neg (by decide)]
    show _ = lN (A.2.1 j + _)
    rw [if_neg (fun z => z.1 h2)]
    exact A2 j hj
  · rw [zJ_sJ, if_neg (by decide)]
  · rw [zJ_sJ, if_neg (by decide), zJ_sJ, if_pos rfl]
    show _ = lN (A.1 j + _)
    by_cases hje : j = e
    · rw [if_pos hje, if_pos hje, hje]
    · rw [if_neg hje, if_neg hje]
      exact A1 j hj
  · rw [zJ_sJ, if_pos rfl]
    show _ = lN (A.2.1 j + _)
    by_cases hje : j = r
    · have e14 : (if (14 : Nat) = 13 then (if r = e then lN (A.1 e + w * bh) else zf_J M 14 r) else zf_J M 14 r) = lN (A.2.1 r) := by
        rw [if_neg (by decide)]
        exact A2 r hr
      have e15 : (if e ≠ 2 ∧ j = r then w * bh else 0) = w * bh := if_pos ⟨h2, hje⟩
      rw [if_pos hje, e14, e15, lN_add, hje]
    · rw [if_neg hje, if_neg (fun z => hje z.2), zJ_sJ, if_neg (by decide)]
      exact A2 j hj
  · rw [zJ_sJ, if_neg (by decide), zJ_sJ, if_neg (by decide)]
/-! a layer as a list -/
def zins : List (Nat × Nat) → Nat → Nat → List (Nat × Nat)
  | [], N, w => [(N, w)]
  | p :: t, N, w => if p.1 = N then (p.1, p.2 + w) :: t else p :: zins t N w
theorem zins_set : ∀ (K : List (Nat × Nat)) (N w i : Nat) (p : Nat × Nat), K[i]? = some p → p.1 = N → (∀ j, j < i → ∀ q, K[j]? = some q → q.1 ≠ N) → zins K N w = K.set i (p.1, p.2 + w)
  | [], N, w, i, p, h, _, _ => by simp at h
  | q :: t, N, w, 0, p, h, hp, hb => by
    simp only [List.getElem?_cons_zero, Option.some.injEq] at h
    subst h
    rw [zins, if_pos hp]
    rfl
  | q :: t, N, w, i + 1, p, h, hp, hb => by
    rw [List.getElem?_cons_succ] at h
    rw [zins, if_neg (hb 0 (by omega) q rfl), zins_set t N w i p h hp (fun j hj r hr => hb (j + 1) (by omega) r (by rw [List.getElem?_cons_succ]; exact hr))]
    rfl
theorem zins_new : ∀ (K : List (Nat × Nat)) (N w : Nat), (∀ (j : Nat) (q : Nat × Nat), K[j]? = some q → q.1 ≠ N) → zins K N w = K ++ [(N, w)]
  | [], N, w, _ => rfl
  | q :: t, N, w, h => by
    rw [zins, if_neg (h 0 q rfl), zins_new t N w (fun j r hr => h (j + 1) r (by rw [List.getElem?_cons_succ]; exact hr))]
    rfl
def zLR (M : zf_M) (b : Nat) (K : List (Nat × Nat)) : Prop := zLI M b K.length ∧ ∀ i p, K[i]? = some p → zf_J M (b + 1) i = lN p.1 ∧ zf_J M (b + 2) i = lN p.2 ∧ p.1 < 64 ^ 6
theorem lN_inj {a b : Nat} (ha : a < 64 ^ 6) (hb : b < 64 ^ 6) : (lN a = lN b) ↔ a = b := pk_lEQ (by omega) (by omega)
/-- join, on lists -/
theorem s24L {K : List (Nat × Nat)} {N w b : Nat} (hL : zLy M b) (hK : zLR M b K) (hN : N < 64 ^ 6) (h1 : (zins K N w).length ≤ 400 → ∀ M1, zF (fun c => b ≤ c ∧ c ≤ b + 4) M M1 → zLR M1 b (zins K N w) → Q (some (.int 1)) M1) (h2 : 400 < (zins K N w).length → Q (some (.int 0)) M) : zC X 24 [.ref b, .long (lN N), .long (lN w)] M Q := by
  obtain ⟨hI, hJ⟩ := hK
  have hx : ∀ i, i < K.length → ∃ p, K[i]? = some p := fun i hi => ⟨K[i], List.getElem?_eq_getElem hi⟩
  have hnew : (∀ i, i < K.length → zf_J M (b + 1) i ≠ lN N) → zins K N w = K ++ [(N, w)] := by
    intro hs
    refine zins_new K N w (fun j q hq e => ?_)
    have hl := (List.getElem?_eq_some_iff.mp hq).1
    exact hs j hl (by rw [(hJ j q hq).1, e])
  refine s24 hL hI (fun i hi e => ?_) (fun hs hn d hd h0 hb => ?_) (fun hs hn => ?_)
  · obtain ⟨p, hp⟩ := hx i hi
    obtain ⟨j1, j2, j3⟩ := hJ i p hp
    have hpN : p.1 = N := (lN_inj j3 hN).mp (by rw [← j1, e])
    have hset := zins_set K N w i p hp hpN (fun j hj q hq e2 => by
      have := hI.2.2.1 j i (by omega) hi (by rw [(hJ j q hq).1, e2, e])
      omega)
    rw [hset] at h1
    refine h1 (by rw [List.length_set]; exact hI.2.1) _ (zF_sJ (zF_rf _ _) ⟨by omega, by omega⟩) ⟨?_, fun j q hq => ?_⟩
    · rw [List.length_set]
      obtain ⟨I1, I2, I3, I4, I5⟩ := hI
      have e1 : ∀ j, zf_J (zf_sJ M (b + 2) i (zf_J M (b + 2) i + lN w)) (b + 1) j = zf_J M (b + 1) j := fun j => by rw [zJ_sJ, if_neg (by omega)]
      refine ⟨I1, I2, fun x y hx hy exy => I3 x y hx hy (by rw [e1, e1] at exy; exact exy), fun x hx => ?_, I5⟩
      rw [e1]
      exact I4 x hx
    · rw [zJ_sJ, if_neg (by omega), zJ_sJ, if_pos rfl]
      by_cases hji : j = i
      · subst hji
        rw [List.getElem?_set_self hi] at hq
        cases hq
        exact ⟨j1, by rw [if_pos rfl, j2, lN_add], j3⟩
      · rw [List.getElem?_set_ne (Ne.symm hji)] at hq
        rw [if_neg hji]
        exact hJ j q hq
  · have hz := hnew hs
    rw [hz] at h1
    have hnl : (K ++ [(N, w)]).length = K.length + 1 := by simp
    refine h1 (by omega) _ (zF_sI (zF_sI (zF_sI (zF_sJ (zF_sJ (zF_rf _ _) ⟨by omega, by omega⟩) ⟨by omega, by omega⟩) ⟨by omega, by omega⟩) ⟨by omega, by omega⟩) ⟨by omega, by omega⟩) ⟨?_, fun j q hq => ?_⟩
    · rw [hnl]
      exact zLI_new hI hn hs hd h0 hb
    · have e1 : zf_J (zjn M b K.length ((zhs (lN N) + d) % 1024) (lN N) (lN w)) (b + 1) j = if j = K.length then lN N else zf_J M (b + 1) j := by
        unfold zjn
        rw [zJ_sI, zJ_sI, zJ_sI, zJ_sJ, if_neg (by omega), zJ_sJ, if_pos rfl]
      have e2 : zf_J (zjn M b K.length ((zhs (lN N) + d) % 1024) (lN N) (lN w)) (b + 2) j = if j = K.length then lN w else zf_J M (b + 2) j := by
        unfold zjn
        simp only [zJ_sI, zJ_sJ, if_neg (show ¬ b + 2 = b + 1 by omega), if_true]
      show zf_J (zjn M b K.length ((zhs (lN N) + d) % 1024) (lN N) (lN w)) (b + 1) j = lN q.1 ∧ zf_J (zjn M b K.length ((zhs (lN N) + d) % 1024) (lN N) (lN w)) (b + 2) j = lN q.2 ∧ q.1 < 64 ^ 6
      rw [e1, e2]
      by_cases hj : j < K.length
      · rw [List.getElem?_append_left hj] at hq
        rw [if_neg (by omega), if_neg (by omega)]
        exact hJ j q hq
      · have hjl := (List.getElem?_eq_some_iff.mp hq).1
        rw [hnl] at hjl
        obtain rfl : j = K.length := by omega
        rw [List.getElem?_append_right (Nat.le_refl _), Nat.sub_self] at hq
        cases hq
        exact ⟨if_pos rfl, if_pos rfl, hN⟩
  · have hz := hnew hs
    exact h2 (by rw [hz]; simp; omega)
/-- the end of a state that is over -/
def zwe (N : Nat) : Nat := if 32 ≤ dg N 0 ∨ 32 ≤ dg N 1 ∨ 32 ≤ dg N 2 then 0 else 1
theorem zwin_e {N : Nat} (h : zwin N ≠ -1) : zwin N = nI (zwe N) := by
  unfold zwin zwe at *
  by_cases h1 : 32 ≤ dg N 0 ∨ 32 ≤ dg N 1 ∨ 32 ≤ dg N 2
  · rw [if_pos h1] at h ⊢
    rw [if_pos h1]
    by_cases h2 : 32 ≤ dg N 3 ∨ 32 ≤ dg N 4 ∨ 32 ≤ dg N 5
    · rw [if_pos h2] at h
      exact absurd rfl h
    · rw [if_neg h2]
      rfl
  · rw [if_neg h1, if_neg h1]
    rfl
/-- pass -/
theorem s33 {od : Nat → Nat} {A : zA} {K : List (Nat × Nat)} {N w r bh b : Nat} {la : Int32} (hP : zPk M) (hA : zAM M A) (hN : N < 64 ^ 6) (hn : zf_I M 4 7 = nI n ∧ n ≤ 6) (hod : ∀ i, i < n → zf_I M 11 i = nI (od i) ∧ od i < 6) (hi : ∀ i j, i < n → j < n → od i = od j → i = j) (hr : r < 7) (hb : zf_J M 12 7 = lN bh) (hw : w < 2 ^ 63) (hn6 : zf_P M 12 6 = some b) (hb2 : b = 16 ∨ b = 21) (hK : zLR M b K)
    (h0 : w = 0 → Q (some (.int 1)) M)
    (h1 : w ≠ 0 → zwin N ≠ -1 → ∀ M1, zF (fun b => b = 13 ∨ b = 14 ∨ b = 15) M M1 → zAM M1 (ztl od n A N (w * bh) (zwe N) r) → Q (some (.int 1)) M1)
    (h2 : w ≠ 0 → zwin N = -1 → la ≠ 0 → ∀ M1, zF (fun b => b = 13 ∨ b = 14 ∨ b = 15) M M1 → zAM M1 (ztl od n A N (w * bh) 2 r) → Q (some (.int 1)) M1)
    (h3 : w ≠ 0 → zwin N = -1 → la = 0 → (zins K N w).length ≤ 400 → ∀ M1, zF (fun c => b ≤ c ∧ c ≤ b + 4) M M1 → zLR M1 b (zins K N w) → Q (some (.int 1)) M1)
    (h4 : w ≠ 0 → zwin N = -1 → la = 0 → 400 < (zins K N w).length → Q (some (.int 0)) M) : zC X 33 [.ref 12, .ref 4, .long (lN N), .long (lN w), .int (nI r), .int la] M Q := by
  rw [c33]
  have hLy := zLy_of hP hb2
  have hbk : zkd b = 3 := by rcases hb2 with rfl | rfl <;> rfl
  simp only [w33_0, w33_2, w33_3, w33_4, w33_7, w33_8, w33_9, w33_10, w33_13, w33_15, w33_17, w33_18, w33_21, w33_22, w33_23, w33_24, w33_26, w33_28, w33_30, w33_33, w33_34, w33_35, w33_37, w33_40, w33_41, w33_42, w33_43, w33_45, w33_46, w33_48, w33_51, w33_52, w33_53, w33_54, w33_57, w33_58, w33_60, w33_63, zk_sI, zk_sJ, zk_sP, zn_sI, zn_sJ, zn_sP, zI_sI, zI_sJ, zI_sP, zJ_sI, zJ_sJ, zJ_sP, zP_sI, zP_sJ, zP_sP, Option.toList_some, Option.toList_none, List.cons_append, List.nil_append, zk_of hP.1, zn_of hP.1, zix, ziN, ne_eq, reduceCtorEq, not_false_eq_true, true_and, and_true, Option.getD_some, Nat.reduceLeDiff, Nat.reduceLT, c_ofNat, zkd4, zp_4_0 hP, zp_4_1 hP, zp_4_2 hP, zp_4_3 hP, zp_4_4 hP, zp_4_5 hP, zp_4_6 hP, zkd12, zp_12_2 hP, zp_12_3 hP, zp_12_4 hP, lc_eq, hn6, hbk]
  rw [show (lN w = 0) = (w = 0) from lN0 hw]
  refine ⟨fun hw0 => ?_, fun hw0 => ⟨rfl, h0 (Decidable.not_not.mp hw0)⟩⟩
  refine s10 hN ?_
  simp only [w33_0, w33_2, w33_3, w33_4, w33_7, w33_8, w33_9, w33_10, w33_13, w33_15, w33_17, w33_18, w33_21, w33_22, w33_23, w33_24, w33_26, w33_28, w33_30, w33_33, w33_34, w33_35, w33_37, w33_40, w33_41, w33_42, w33_43, w33_45, w33_46, w33_48, w33_51, w33_52, w33_53, w33_54, w33_57, w33_58, w33_60, w33_63, zk_sI, zk_sJ, zk_sP, zn_sI, zn_sJ, zn_sP, zI_sI, zI_sJ, zI_sP, zJ_sI, zJ_sJ, zJ_sP, zP_sI, zP_sJ, zP_sP, Option.toList_some, Option.toList_none, List.cons_append, List.nil_append, zk_of hP.1, zn_of hP.1, zix, ziN, ne_eq, reduceCtorEq, not_false_eq_true, true_and, and_true, Option.getD_some, Nat.reduceLeDiff, Nat.reduceLT, c_ofNat, zkd4, zp_4_0 hP, zp_4_1 hP, zp_4_2 hP, zp_4_3 hP, zp_4_4 hP, zp_4_5 hP, zp_4_6 hP, zkd12, zp_12_2 hP, zp_12_3 hP, zp_12_4 hP, hn6, hbk]
  refine ⟨fun hz => ⟨fun hl => ?_, fun hl => ?_⟩, fun hz => ?_⟩
  · refine s24L hLy hK hN (fun g M1 g1 g2 => ?_) (fun g => ?_)
    · simp only [w33_0, w33_2, w33_3, w33_4, w33_7, w33_8, w33_9, w33_10, w33_13, w33_15, w33_17, w33_18, w33_21, w33_22, w33_23, w33_24, w33_26, w33_28, w33_30, w33_33, w33_34, w33_35, w33_37, w33_40, w33_41, w33_42, w33_43, w33_45, w33_46, w33_48, w33_51, w33_52, w33_53, w33_54, w33_57, w33_58, w33_60, w33_63, zk_sI, zk_sJ, zk_sP, zn_sI, zn_sJ, zn_sP, zI_sI, zI_sJ, zI_sP, zJ_sI, zJ_sJ, zJ_sP, zP_sI, zP_sJ, zP_sP, Option.toList_some, Option.toList_none, List.cons_append, List.nil_append]
      exact ⟨rfl, h3 hw0 hz hl g M1 g1 g2⟩
    · simp only [w33_0, w33_2, w33_3, w33_4, w33_7, w33_8, w33_9, w33_10, w33_13, w33_15, w33_17, w33_18, w33_21, w33_22, w33_23, w33_24, w33_26, w33_28, w33_30, w33_33, w33_34, w33_35, w33_37, w33_40, w33_41, w33_42, w33_43, w33_45, w33_46, w33_48, w33_51, w33_52, w33_53, w33_54, w33_57, w33_58, w33_60, w33_63, zk_sI, zk_sJ, zk_sP, zn_sI, zn_sJ, zn_sP, zI_sI, zI_sJ, zI_sP, zJ_sI, zJ_sJ, zJ_sP, zP_sI, zP_sJ, zP_sP, Option.toList_some, Option.toList_none, List.cons_append, List.nil_append]
      exact ⟨rfl, h4 hw0 hz hl g⟩
  · refine s34 (e := 2) hP hA hN hn hod hi (by decide) hr hb (fun M1 g1 g2 => ?_)
    simp only [w33_0, w33_2, w33_3, w33_4, w33_7, w33_8, w33_9, w33_10, w33_13, w33_15, w33_17, w33_18, w33_21, w33_22, w33_23, w33_24, w33_26, w33_28, w33_30, w33_33, w33_34, w33_35, w33_37, w33_40, w33_41, w33_42, w33_43, w33_45, w33_46, w33_48, w33_51, w33_52, w33_53, w33_54, w33_57, w33_58, w33_60, w33_63, zk_sI, zk_sJ, zk_sP, zn_sI, zn_sJ, zn_sP, zI_sI, zI_sJ, zI_sP, zJ_sI, zJ_sJ, zJ_sP, zP_sI, zP_sJ, zP_sP, Option.toList_some, Option.toList_none, List.cons_append, List.nil_append]
    exact ⟨rfl, h2 hw0 hz hl M1 g1 g2⟩
  · rw [zwin_e hz]
    refine s34 (e := zwe N) hP hA hN hn hod hi (by unfold zwe; split <;> decide) hr hb (fun M1 g1 g2 => ?_)
    simp only [w33_0, w33_2, w33_3, w33_4, w33_7, w33_8, w33_9, w33_10, w33_13, w33_15, w33_17, w33_18, w33_21, w33_22, w33_23, w33_24, w33_26, w33_28, w33_30, w33_33, w33_34, w33_35, w33_37, w33_40, w33_41, w33_42, w33_43, w33_45, w33_46, w33_48, w33_51, w33_52, w33_53, w33_54, w33_57, w33_58, w33_60, w33_63, zk_sI, zk_sJ, zk_sP, zn_sI, zn_sJ, zn_sP, zI_sI, zI_sJ, zI_sP, zJ_sI, zJ_sJ, zJ_sP, zP_sI, zP_sJ, zP_sP, Option.toList_some, Option.toList_none, List.cons_append, List.nil_append]
    exact ⟨rfl, h1 hw0 hz M1 g1 g2⟩
end ZOd

