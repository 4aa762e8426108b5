/-! ===== wish: the model's; band ===== -/
section ZWm
variable {X : zf_X} {M : zf_M} {Q : Option Value → zf_M → Prop} {q : tQ}
/-- one band tried, from pc 83 -/
theorem M150s {a : Nat} {o : Option Nat} {l m lb : Int32} {W : tW} {l5 : Slot} (hv : vQ q) (hP : zPk M) (hM : zKM (uW q W) M) (hW : W.1 < 27) (ha : a < (qA q).1) (ha6 : a < 6) (ho : ∀ b, o = some b → b < (qA q).1)
    (hlb : (o = none ∧ lb < nI a) ∨ ∃ b, o = some b ∧ lb = nI b ∧ a ≤ b)
    (h : ∀ M1 l5, zDn M M1 → zKM (uW q (wStep q l m W a o)) M1 → zW X 150 67 [.val (.ref 58), .val (.int l), .val (.int m), .val (.int (nI a)), .val (.int (lb + 1)), l5] [] M1 Q) :
    zW X 150 83 [.val (.ref 58), .val (.int l), .val (.int m), .val (.int (nI a)), .val (.int lb), l5] [] M Q := by
  have h16 := hv.1.1
  have hvW : vQ (uW q W) := vQ_W hv (by omega)
  have hfo := zfo_ok ha ho
  have hwn := zca_n (nu := (qA q).2) (b := 0) hv.2.1.1.2 hfo.2
  have hpo : zPo (zpb q a o) := zpm_ok hv.1 hwn (zca_b (by decide)) hv.2.2.1
  simp only [w150_83, w150_84, w150_85, zk_sI, zk_sJ, zk_sP, zn_sI, zn_sJ, zn_sP, zI_sI, zI_sJ, zI_sP, zJ_sI, zJ_sJ, zJ_sP, zP_sI, zP_sJ, zP_sP, Option.toList_some, Option.toList_none, List.cons_append, List.nil_append, zk_of hP.1, zn_of hP.1, zix, ziN, ne_eq, reduceCtorEq, not_false_eq_true, true_and, and_true, Option.getD_some, Nat.reduceLeDiff, Nat.reduceLT, c_ofNat, zkd58, zp_58_1 hP, zp_58_2 hP, zp_58_6 hP, zp_58_7 hP, zp_58_10 hP, zp_58_11 hP, zp_58_12 hP, zp_58_14 hP, zp_58_15 hP, zp_58_17 hP, zp_58_18 hP, zp_58_19 hP, zp_58_20 hP, zp_58_21 hP, zp_58_22 hP, zp_58_24 hP, zp_58_26 hP, zp_58_29 hP, zp_58_32 hP, zp_58_33 hP, zp_58_34 hP, zp_58_35 hP, zp_58_36 hP, zp_58_37 hP, zp_58_38 hP, zp_58_39 hP]
  refine s115q (b := 0) hvW hP hM (by decide) (fun M1 g1 hP1 hM1 g4 => ?_)
  obtain ⟨y1, y2, y3, y4, y5, y6⟩ := g4
  have key : ∀ (v : Int32), v = zvo (zat (zfo a o) 1) → zC X 129 [.ref 58] (zf_sI (zf_sI (zf_sI M1 61 3 (nI a)) 61 4 v) 61 5 (-1)) (fun v M2 => zW X 150 124 [.val (.ref 58), .val (.int l), .val (.int m), .val (.int (nI a)), .val (.int lb), l5] (v.toList ++ []) M2 Q) := by
    intro v hvv
    have hX2 : zMX M1 (zf_sI (zf_sI (zf_sI M1 61 3 (nI a)) 61 4 v) 61 5 (-1)) := ⟨zF_sI (zF_sI (zF_sI (zF_rf _ _) (by omega)) (by omega)) (by omega), fun j _ _ _ _ _ => by rw [zI_ne (by omega), zI_ne (by omega), zI_ne (by omega)]⟩
    have hP2 := zPk_F hP1 hX2.1
    have hS : zMS (zcb q a o) (qA q).1 (qL q).2.1 (qL q).2.2 (qL q).1 (zf_sI (zf_sI (zf_sI M1 61 3 (nI a)) 61 4 v) 61 5 (-1)) := by
      have e61 : ∀ c j, c ≠ 61 → zf_I (zf_sI (zf_sI (zf_sI M1 61 3 (nI a)) 61 4 v) 61 5 (-1)) c j = zf_I M1 c j := fun c j hc => by rw [zI_ne (by omega), zI_ne (by omega), zI_ne (by omega)]
      refine ⟨⟨⟨hv.1, fun i hi => ?_⟩, fun k hk => ?_, hwn⟩, fun k hk => ⟨?_, zca_b (by decide) k⟩, by rw [e61 _ _ (by decide)]; exact y3, by rw [e61 _ _ (by decide)]; exact y4, by rw [e61 _ _ (by decide)]; exact y5, y6⟩
      · rw [e61 _ _ (by decide)]
        exact hM1.1.2 i hi
      · by_cases hk3 : k < 3
        · rw [zI_ne (by omega), zI_ne (by omega), zI_ne (by omega), y1.2.1 k hk]
          congr 1
          exact (zat_h (nu := (qA q).2) (B := (qB q).1) (F := (qB q).2) (b := 0) hk3).trans (zat_h (nu := (qA q).2) (B := (qB q).1) (F := zfo a o) (b := 0) hk3).symm
        · have e := zat_f (nu := (qA q).2) (B := (qB q).1) (F := zfo a o) (b := 0) (k := k - 3)
          rw [show 3 + (k - 3) = k by omega] at e
          change (zcb q a o).2.1 k = _ at e
          rw [e]
          rcases (show k = 3 ∨ k = 4 ∨ k = 5 by omega) with rfl | rfl | rfl
          · rw [zI_ne (by omega), zI_ne (by omega), zI_eq]
            cases o with
            | none => rfl
            | some b => rfl
          · rw [zI_ne (by omega), zI_eq]
            exact hvv
          · rw [zI_eq]
            cases o with
            | none => rfl
            | some b => rfl
      · rw [e61 _ _ (by decide), (y2 k hk).1]
        rfl
    refine s129q (p := zpb q a o) (zKM_X hM1 hX2) rfl hpo hP2 hS (fun M2 x1 x2 x3 x4 x5 x6 => ?_)
    have u2 : zDn M M2 := zDn_X (zMX_tr g1 (zMX_tr hX2 x1))
    have fin : zW X 150 136 [.val (.ref 58), .val (.int l), .val (.int m), .val (.int (nI a)), .val (.int lb), l5] [.int (zchn (zpb q a o))] M2 Q := by
      have hW2 := x3.2.2.2.2.1
      change mW W M2 at hW2
      unfold wStep at h
      simp only [w150_136, w150_138, w150_140, w150_141, w150_142, w150_143, w150_144, w150_145, zk_sI, zk_sJ, zk_sP, zn_sI, zn_sJ, zn_sP, zI_sI, zI_sJ, zI_sP, zJ_sI, zJ_sJ, zJ_sP, zP_sI, zP_sJ, zP_sP, Option.toList_some, Option.toList_none, List.cons_append, List.nil_append]
      refine s103i l m rfl rfl ?_
      have x0 := n_cl (show W.1 < 2 ^ 31 by omega)
      have x1' := n_in hW (show 27 < 2 ^ 31 by decide)
      have e16 : (16 : Int32) * nI a = nI (16 * a) := pk_mul 16 a
      have e256 : ∀ a, (256 : Int32) + nI a = nI (256 + a) := fun a => nI_add 256 a
      simp only [w150_148, w150_151, w150_152, w150_155, w150_156, w150_159, w150_161, w150_162, zk_sI, zk_sJ, zk_sP, zn_sI, zn_sJ, zn_sP, zI_sI, zI_sJ, zI_sP, zJ_sI, zJ_sJ, zJ_sP, zP_sI, zP_sJ, zP_sP, Option.toList_some, Option.toList_none, List.cons_append, List.nil_append, zk_of x2.1, zn_of x2.1, zix, ziN, ne_eq, reduceCtorEq, not_false_eq_true, true_and, and_true, Option.getD_some, Nat.reduceLeDiff, Nat.reduceLT, c_ofNat, zkd58, zp_58_1 x2, zp_58_2 x2, zp_58_6 x2, zp_58_7 x2, zp_58_10 x2, zp_58_11 x2, zp_58_12 x2, zp_58_14 x2, zp_58_15 x2, zp_58_17 x2, zp_58_18 x2, zp_58_19 x2, zp_58_20 x2, zp_58_21 x2, zp_58_22 x2, zp_58_24 x2, zp_58_26 x2, zp_58_29 x2, zp_58_32 x2, zp_58_33 x2, zp_58_34 x2, zp_58_35 x2, zp_58_36 x2, zp_58_37 x2, zp_58_38 x2, zp_58_39 x2, zkd77, znd77, zfx77, zB_0, hW2.1]
      refine ⟨fun g => ?_, fun g => ?_⟩
      · have := h M2 (.val (.int (zchn (zpb q a o)))) u2
        rw [if_neg g] at this
        simp only [w150_194, w150_197, zk_sI, zk_sJ, zk_sP, zn_sI, zn_sJ, zn_sP, zI_sI, zI_sJ, zI_sP, zJ_sI, zJ_sJ, zJ_sP, zP_sI, zP_sJ, zP_sP, Option.toList_some, Option.toList_none, List.cons_append, List.nil_append]
        exact this x3
      · have g := Classical.not_not.mp g
        rw [if_pos g] at h
        have last : zW X 150 67 [.val (.ref 58), .val (.int l), .val (.int m), .val (.int (nI a)), .val (.int (lb + 1)), .val (.int (zchn (zpb q a o)))] [] (zf_sI (zf_sI M2 77 W.1 (zcode a o)) 58 31 (nI (W.1 + 1))) Q := by
          refine h _ _ (zF_tr u2 (zF_sI (zF_sI (zF_rf _ _) (by omega)) (by omega))) (zKM_W (q := uW q W) (x := (W.1 + 1, zud W.2 W.1 (zcode a o))) x3 (fun c j kc k => ?_) ⟨zI_eq, fun i hi => ?_⟩)
          · rw [zI_ne (by omega), zI_ne (by omega)]
          · rw [zI_ne (by omega)]
            show _ = zud W.2 W.1 (zcode a o) i
            unfold zud
            by_cases e : i = W.1
            · rw [if_pos e, e, zI_eq]
            · rw [if_neg e, zI_ne (by omega)]
              exact hW2.2 i (by change i < W.1 + 1 at hi; omega)
        rcases hlb with ⟨rfl, hlt⟩ | ⟨b, rfl, rfl, hab⟩
        · have ec : zcode a none = nI (256 + 16 * a) := rfl
          rw [ec] at last
          have hnl : (nI a ≤ lb) = False := eq_false (Int32.not_le.mpr hlt)
          simp only [w150_159, w150_161, w150_162, w150_165, w150_168, w150_170, w150_171, w150_172, w150_173, w150_176, w150_178, w150_179, w150_180, w150_182, w150_183, w150_184, w150_185, w150_186, w150_189, w150_190, w150_191, w150_194, w150_197, zk_sI, zk_sJ, zk_sP, zn_sI, zn_sJ, zn_sP, zI_sI, zI_sJ, zI_sP, zJ_sI, zJ_sJ, zJ_sP, zP_sI, zP_sJ, zP_sP, Option.toList_some, Option.toList_none, List.cons_append, List.nil_append, zk_of x2.1, zn_of x2.1, zix, ziN, ne_eq, reduceCtorEq, not_false_eq_true, true_and, and_true, Option.getD_some, Nat.reduceLeDiff, Nat.reduceLT, c_ofNat, zkd58, zp_58_1 x2, zp_58_2 x2, zp_58_6 x2, zp_58_7 x2, zp_58_10 x2, zp_58_11 x2, zp_58_12 x2, zp_58_14 x2, zp_58_15 x2, zp_58_17 x2, zp_58_18 x2, zp_58_19 x2, zp_58_20 x2, zp_58_21 x2, zp_58_22 x2, zp_58_24 x2, zp_58_26 x2, zp_58_29 x2, zp_58_32 x2, zp_58_33 x2, zp_58_34 x2, zp_58_35 x2, zp_58_36 x2, zp_58_37 x2, zp_58_38 x2, zp_58_39 x2, zkd77, znd77, zfx77, hnl, e16, e256, x0, x1', hW2.1, n_a1, Nat.reduceEqDiff, if_false, if_true, not_true_eq_false, not_false_eq_true, false_implies, true_implies, and_true, true_and]
          exact last
        · have hbn := ho b rfl
          have ec : zcode a (some b) = nI (16 * a + b) := rfl
          rw [ec, n_a1] at last
          have hnl : (nI a ≤ nI b) = True := eq_true ((n_le (by omega) (by omega)).mpr hab)
          simp only [w150_159, w150_161, w150_162, w150_165, w150_168, w150_170, w150_171, w150_172, w150_173, w150_176, w150_178, w150_179, w150_180, w150_182, w150_183, w150_184, w150_185, w150_186, w150_189, w150_190, w150_191, w150_194, w150_197, zk_sI, zk_sJ, zk_sP, zn_sI, zn_sJ, zn_sP, zI_sI, zI_sJ, zI_sP, zJ_sI, zJ_sJ, zJ_sP, zP_sI, zP_sJ, zP_sP, Option.toList_some, Option.toList_none, List.cons_append, List.nil_append, zk_of x2.1, zn_of x2.1, zix, ziN, ne_eq, reduceCtorEq, not_false_eq_true, true_and, and_true, Option.getD_some, Nat.reduceLeDiff, Nat.reduceLT, c_ofNat, zkd58, zp_58_1 x2, zp_58_2 x2, zp_58_6 x2, zp_58_7 x2, zp_58_10 x2, zp_58_11 x2, zp_58_12 x2, zp_58_14 x2, zp_58_15 x2, zp_58_17 x2, zp_58_18 x2, zp_58_19 x2, zp_58_20 x2, zp_58_21 x2, zp_58_22 x2, zp_58_24 x2, zp_58_26 x2, zp_58_29 x2, zp_58_32 x2, zp_58_33 x2, zp_58_34 x2, zp_58_35 x2, zp_58_36 x2, zp_58_37 x2, zp_58_38 x2, zp_58_39 x2, zkd77, znd77, zfx77, hnl, e16, nI_add, x0, x1', hW2.1, n_a1, Nat.reduceEqDiff, if_false, if_true, not_true_eq_false, not_false_eq_true, false_implies, true_implies, and_true, true_and]
          exact last
    by_cases g : zrun (zpb q a o)
    · rw [if_pos g]
      simp only [w150_124, w150_127, w150_129, w150_132, w150_133, zk_sI, zk_sJ, zk_sP, zn_sI, zn_sJ, zn_sP, zI_sI, zI_sJ, zI_sP, zJ_sI, zJ_sJ, zJ_sP, zP_sI, zP_sJ, zP_sP, Option.toList_some, Option.toList_none, List.cons_append, List.nil_append, zk_of x2.1, zn_of x2.1, zix, ziN, ne_eq, reduceCtorEq, not_false_eq_true, true_and, and_true, Option.getD_some, Nat.reduceLeDiff, Nat.reduceLT, c_ofNat, zkd58, zp_58_1 x2, zp_58_2 x2, zp_58_6 x2, zp_58_7 x2, zp_58_10 x2, zp_58_11 x2, zp_58_12 x2, zp_58_14 x2, zp_58_15 x2, zp_58_17 x2, zp_58_18 x2, zp_58_19 x2, zp_58_20 x2, zp_58_21 x2, zp_58_22 x2, zp_58_24 x2, zp_58_26 x2, zp_58_29 x2, zp_58_32 x2, zp_58_33 x2, zp_58_34 x2, zp_58_35 x2, zp_58_36 x2, zp_58_37 x2, zp_58_38 x2, zp_58_39 x2, true_implies, not_true_eq_false, false_implies, and_true]
      exact s131 x2 hpo g (x6 g) x4 x5 fin
    · rw [zchn, if_neg g] at fin
      rw [if_neg g]
      simp only [w150_124, w150_127, w150_129, w150_132, w150_133, zk_sI, zk_sJ, zk_sP, zn_sI, zn_sJ, zn_sP, zI_sI, zI_sJ, zI_sP, zJ_sI, zJ_sJ, zJ_sP, zP_sI, zP_sJ, zP_sP, Option.toList_some, Option.toList_none, List.cons_append, List.nil_append, n5, true_implies, not_false_eq_true, not_true_eq_false, false_implies, true_and, and_true]
      exact fin
  have v3 : vp_in 3 6 := vp_in_nI (n := 3) (by decide) (by decide)
  have v4 : vp_in 4 6 := vp_in_nI (n := 4) (by decide) (by decide)
  have v5 : vp_in 5 6 := vp_in_nI (n := 5) (by decide) (by decide)
  simp only [w150_88, w150_89, w150_92, w150_93, w150_94, w150_95, w150_96, w150_99, w150_100, w150_102, w150_103, w150_106, w150_107, w150_110, w150_112, w150_113, w150_114, w150_117, w150_118, w150_119, w150_120, w150_121, zk_sI, zk_sJ, zk_sP, zn_sI, zn_sJ, zn_sP, zI_sI, zI_sJ, zI_sP, zJ_sI, zJ_sJ, zJ_sP, zP_sI, zP_sJ, zP_sP, Option.toList_some, Option.toList_none, List.cons_append, List.nil_append, zk_of hP1.1, zn_of hP1.1, zix, ziN, ne_eq, reduceCtorEq, not_false_eq_true, true_and, and_true, Option.getD_some, Nat.reduceLeDiff, Nat.reduceLT, c_ofNat, zkd58, zp_58_1 hP1, zp_58_2 hP1, zp_58_6 hP1, zp_58_7 hP1, zp_58_10 hP1, zp_58_11 hP1, zp_58_12 hP1, zp_58_14 hP1, zp_58_15 hP1, zp_58_17 hP1, zp_58_18 hP1, zp_58_19 hP1, zp_58_20 hP1, zp_58_21 hP1, zp_58_22 hP1, zp_58_24 hP1, zp_58_26 hP1, zp_58_29 hP1, zp_58_32 hP1, zp_58_33 hP1, zp_58_34 hP1, zp_58_35 hP1, zp_58_36 hP1, zp_58_37 hP1, zp_58_38 hP1, zp_58_39 hP1, zkd61, znd61, zfx61, v3, v4, v5, true_and]
  rcases hlb with ⟨rfl, hlt⟩ | ⟨b, rfl, rfl, hab⟩
  · exact ⟨fun g => absurd hlt (Int32.not_lt.mpr g), fun _ => key (-1) rfl⟩
  · have hbn := ho b rfl
    exact ⟨fun _ => key (nI b) rfl, fun g => absurd ((n_le (by omega) (by omega)).mpr hab) g⟩
theorem M150 {l m : Int32} (hv : vQ q) (hP : zPk M) (hM : zKM q M) (h : ∀ M1, zDn M M1 → zKM (nWish q l m) M1 → Q (some (.int (aWish q l m))) M1) : zC X 150 [.ref 58, .int l, .int m] M Q := by
  have h16 := hv.1.1
  have h3 := hv.2.1.1.1
  unfold nWish aWish at h
  have h0 : ¬ bWish l m → Q (some (.int (-2))) M := by
    intro g
    have := h M (zF_rf _ _)
    rw [if_neg g, if_neg g] at this
    exact this hM
  have e60 : zf_I M 60 (Int32.toNatClampNeg 0) = zvo (zat (qB q).1 0) := (hM.2.1 0 (by decide)).1
  have z0 : (zvo (zat (qB q).1 0) = -1) = ((qB q).1.1 = 0) := by
    refine propext ((zvo_n (fun f e => ?_)).trans ?_)
    · have := zat_lt hv.2.1.1 e
      omega
    · unfold zat
      by_cases g : 0 < (qB q).1.1
      · rw [if_pos g]
        exact ⟨fun z => (by cases z), fun z => (by omega)⟩
      · rw [if_neg g]
        exact ⟨fun _ => by omega, fun _ => rfl⟩
  have v0 : vp_in 0 6 := vp_in_nI (n := 0) (by decide) (by decide)
  rw [c150]
  simp only [w150_0, w150_1, w150_2, w150_3, w150_6, zk_sI, zk_sJ, zk_sP, zn_sI, zn_sJ, zn_sP, zI_sI, zI_sJ, zI_sP, zJ_sI, zJ_sJ, zJ_sP, zP_sI, zP_sJ, zP_sP, Option.toList_some, Option.toList_none, List.cons_append, List.nil_append]
  refine s103i 0 1000000 rfl rfl ?_
  simp only [w150_9, w150_12, w150_13, w150_14, w150_15, w150_16, w150_19, w150_25, w150_27, zk_sI, zk_sJ, zk_sP, zn_sI, zn_sJ, zn_sP, zI_sI, zI_sJ, zI_sP, zJ_sI, zJ_sJ, zJ_sP, zP_sI, zP_sJ, zP_sP, Option.toList_some, Option.toList_none, List.cons_append, List.nil_append, zB_0]
  refine ⟨fun g => h0 (fun z => g z.1), fun g1 => ?_⟩
  have g1 := Classical.not_not.mp g1
  refine s103i l 1000000 rfl rfl ?_
  simp only [w150_22, w150_25, w150_27, w150_28, w150_29, w150_32, w150_33, w150_34, w150_35, w150_38, w150_40, w150_41, w150_42, w150_43, w150_46, w150_47, zk_sI, zk_sJ, zk_sP, zn_sI, zn_sJ, zn_sP, zI_sI, zI_sJ, zI_sP, zJ_sI, zJ_sJ, zJ_sP, zP_sI, zP_sJ, zP_sP, Option.toList_some, Option.toList_none, List.cons_append, List.nil_append, zk_of hP.1, zn_of hP.1, zix, ziN, ne_eq, reduceCtorEq, not_false_eq_true, true_and, and_true, Option.getD_some, Nat.reduceLeDiff, Nat.reduceLT, c_ofNat, zkd58, zp_58_1 hP, zp_58_2 hP, zp_58_6 hP, zp_58_7 hP, zp_58_10 hP, zp_58_11 hP, zp_58_12 hP, zp_58_14 hP, zp_58_15 hP, zp_58_17 hP, zp_58_18 hP, zp_58_19 hP, zp_58_20 hP, zp_58_21 hP, zp_58_22 hP, zp_58_24 hP, zp_58_26 hP, zp_58_29 hP, zp_58_32 hP, zp_58_33 hP, zp_58_34 hP, zp_58_35 hP, zp_58_36 hP, zp_58_37 hP, zp_58_38 hP, zp_58_39 hP, zkd60, znd60, zfx60, zB_0, e60, z0, v0, true_and]
  refine ⟨fun g2 => ?_, fun g => h0 (fun z => g (fun y => y z.2))⟩
  have g2 := Classical.not_not.mp g2
  have hb : bWish l m := ⟨g1, g2⟩
  rw [if_pos hb, if_pos hb] at h
  refine ⟨fun g4 => ?_, fun g4 => ?_⟩
  · rw [if_neg g4, if_neg g4] at h
    have hF : min (qA q).1 6 ≤ 6 := Nat.min_le_right _ _
    have hFn : min (qA q).1 6 ≤ (qA q).1 := Nat.min_le_left _ _
    have hFF : min (qA q).1 6 = (qA q).1 ∨ min (qA q).1 6 = 6 := by omega
    generalize min (qA q).1 6 = F at *
    have k0 : zKM (uW q (wOut q l m F 0)) (zf_sI M 58 31 0) := zKM_W hM (fun c j _ k => zI_ne (by omega)) ⟨zI_eq, fun i hi => absurd hi (Nat.not_lt_zero i)⟩
    have u0 : zDn M (zf_sI M 58 31 0) := zF_sI (zF_rf _ _) (by omega)
    have outer : ∀ (mm a : Nat) (M1 : zf_M) (l4 l5 : Slot), a + mm = F → zDn M M1 → zKM (uW q (wOut q l m F a)) M1 → zW X 150 48 [.val (.ref 58), .val (.int l), .val (.int m), .val (.int (nI a)), l4, l5] [] M1 Q := by
      intro mm
      induction mm with
      | zero =>
        intro a M1 l4 l5 ha u1 k1
        obtain rfl : a = F := by omega
        have hP1 := zPk_F hP u1
        have hW1 := k1.2.2.2.2.1
        change mW (wOut q l m a a) M1 at hW1
        have eA : zf_I M1 58 0 = nI (qA q).1 := k1.1.1
        have hfin := h M1 u1 k1
        rw [w150_48]
        simp only [w150_49, w150_51, w150_54, w150_55, w150_56, w150_59, w150_206, w150_207, w150_210, zk_sI, zk_sJ, zk_sP, zn_sI, zn_sJ, zn_sP, zI_sI, zI_sJ, zI_sP, zJ_sI, zJ_sJ, zJ_sP, zP_sI, zP_sJ, zP_sP, Option.toList_some, Option.toList_none, List.cons_append, List.nil_append, zk_of hP1.1, zn_of hP1.1, zix, ziN, ne_eq, reduceCtorEq, not_false_eq_true, true_and, and_true, Option.getD_some, Nat.reduceLeDiff, Nat.reduceLT, c_ofNat, zkd58, zp_58_1 hP1, zp_58_2 hP1, zp_58_6 hP1, zp_58_7 hP1, zp_58_10 hP1, zp_58_11 hP1, zp_58_12 hP1, zp_58_14 hP1, zp_58_15 hP1, zp_58_17 hP1, zp_58_18 hP1, zp_58_19 hP1, zp_58_20 hP1, zp_58_21 hP1, zp_58_22 hP1, zp_58_24 hP1, zp_58_26 hP1, zp_58_29 hP1, zp_58_32 hP1, zp_58_33 hP1, zp_58_34 hP1, zp_58_35 hP1, zp_58_36 hP1, zp_58_37 hP1, zp_58_38 hP1, zp_58_39 hP1, hW1.1, eA]
        rw [c_6, n_le (by decide) (by omega), n_le (by omega) (by omega)]
        exact ⟨fun _ => hfin, fun g => ⟨fun _ => hfin, fun g2 => by omega⟩⟩
      | succ mm ih =>
        intro a M1 l4 l5 ha u1 k1
        have hP1 := zPk_F hP u1
        have hwo := wOut_le q l m F a
        have htb := wTb_le F (by omega) (a + 1) (by omega) (by omega)
        rw [wTb] at htb
        have hst := wStep_le q l m (wOut q l m F a) a none
        have eA : zf_I M1 58 0 = nI (qA q).1 := k1.1.1
        have nxt := fun M3 l4 l5 u3 k3 => ih (a + 1) M3 l4 l5 (by omega) u3 k3
        rw [wOut] at nxt
        have inner : ∀ (jj j : Nat) (M3 : zf_M) (l5 : Slot), j + jj = F - a → zDn M M3 → zKM (uW q (wIn q l m a (wStep q l m (wOut q l m F a) a none) j)) M3 → zW X 150 67 [.val (.ref 58), .val (.int l), .val (.int m), .val (.int (nI a)), .val (.int (nI (a + j))), l5] [] M3 Q := by
          intro jj
          induction jj with
          | zero =>
            intro j M3 l5 hj u3 k3
            obtain rfl : j = F - a := by omega
            have hP3 := zPk_F hP u3
            have eF : a + (F - a) = F := by omega
            have eA3 : zf_I M3 58 0 = nI (qA q).1 := k3.1.1
            rw [w150_67]
            simp only [w150_69, w150_71, w150_74, w150_76, w150_77, w150_80, w150_200, w150_203, zk_sI, zk_sJ, zk_sP, zn_sI, zn_sJ, zn_sP, zI_sI, zI_sJ, zI_sP, zJ_sI, zJ_sJ, zJ_sP, zP_sI, zP_sJ, zP_sP, Option.toList_some, Option.toList_none, List.cons_append, List.nil_append, zk_of hP3.1, zn_of hP3.1, zix, ziN, ne_eq, reduceCtorEq, not_false_eq_true, true_and, and_true, Option.getD_some, Nat.reduceLeDiff, Nat.reduceLT, c_ofNat, zkd58, zp_58_1 hP3, zp_58_2 hP3, zp_58_6 hP3, zp_58_7 hP3, zp_58_10 hP3, zp_58_11 hP3, zp_58_12 hP3, zp_58_14 hP3, zp_58_15 hP3, zp_58_17 hP3, zp_58_18 hP3, zp_58_19 hP3, zp_58_20 hP3, zp_58_21 hP3, zp_58_22 hP3, zp_58_24 hP3, zp_58_26 hP3, zp_58_29 hP3, zp_58_32 hP3, zp_58_33 hP3, zp_58_34 hP3, zp_58_35 hP3, zp_58_36 hP3, zp_58_37 hP3, zp_58_38 hP3, zp_58_39 hP3, eF, eA3, n_a1]
            rw [c_6, n_le (by decide) (by omega), n_le (by omega) (by omega)]
            exact ⟨fun _ => nxt M3 _ _ u3 k3, fun g => ⟨fun _ => nxt M3 _ _ u3 k3, fun g2 => by omega⟩⟩
          | succ jj ih2 =>
            intro j M3 l5 hj u3 k3
            have hP3 := zPk_F hP u3
            have eA3 : zf_I M3 58 0 = nI (qA q).1 := k3.1.1
            have hin := wIn_le q l m a (wStep q l m (wOut q l m F a) a none) j
            rw [w150_67]
            simp only [w150_69, w150_71, w150_74, w150_76, w150_77, w150_80, zk_sI, zk_sJ, zk_sP, zn_sI, zn_sJ, zn_sP, zI_sI, zI_sJ, zI_sP, zJ_sI, zJ_sJ, zJ_sP, zP_sI, zP_sJ, zP_sP, Option.toList_some, Option.toList_none, List.cons_append, List.nil_append, zk_of hP3.1, zn_of hP3.1, zix, ziN, ne_eq, reduceCtorEq, not_false_eq_true, true_and, and_true, Option.getD_some, Nat.reduceLeDiff, Nat.reduceLT, c_ofNat, zkd58, zp_58_1 hP3, zp_58_2 hP3, zp_58_6 hP3, zp_58_7 hP3, zp_58_10 hP3, zp_58_11 hP3, zp_58_12 hP3, zp_58_14 hP3, zp_58_15 hP3, zp_58_17 hP3, zp_58_18 hP3, zp_58_19 hP3, zp_58_20 hP3, zp_58_21 hP3, zp_58_22 hP3, zp_58_24 hP3, zp_58_26 hP3, zp_58_29 hP3, zp_58_32 hP3, zp_58_33 hP3, zp_58_34 hP3, zp_58_35 hP3, zp_58_36 hP3, zp_58_37 hP3, zp_58_38 hP3, zp_58_39 hP3, eA3]
            rw [c_6, n_le (by decide) (by omega), n_le (by omega) (by omega)]
            refine ⟨fun z => by omega, fun _ => ⟨fun z => by omega, fun _ => ?_⟩⟩
            refine M150s (o := some (a + j)) (W := wIn q l m a (wStep q l m (wOut q l m F a) a none) j) hv hP3 k3 (by omega) (by omega) (by omega) (fun b e => by cases e; omega) (Or.inr ⟨a + j, rfl, rfl, by omega⟩) (fun M4 l5 u4 k4 => ?_)
            rw [n_a1]
            exact ih2 (j + 1) M4 l5 (by omega) (zF_tr u3 u4) k4
        rw [w150_48]
        simp only [w150_49, w150_51, w150_54, w150_55, w150_56, w150_59, w150_62, w150_63, w150_64, w150_65, zk_sI, zk_sJ, zk_sP, zn_sI, zn_sJ, zn_sP, zI_sI, zI_sJ, zI_sP, zJ_sI, zJ_sJ, zJ_sP, zP_sI, zP_sJ, zP_sP, Option.toList_some, Option.toList_none, List.cons_append, List.nil_append, zk_of hP1.1, zn_of hP1.1, zix, ziN, ne_eq, reduceCtorEq, not_false_eq_true, true_and, and_true, Option.getD_some, Nat.reduceLeDiff, Nat.reduceLT, c_ofNat, zkd58, zp_58_1 hP1, zp_58_2 hP1, zp_58_6 hP1, zp_58_7 hP1, zp_58_10 hP1, zp_58_11 hP1, zp_58_12 hP1, zp_58_14 hP1, zp_58_15 hP1, zp_58_17 hP1, zp_58_18 hP1, zp_58_19 hP1, zp_58_20 hP1, zp_58_21 hP1, zp_58_22 hP1, zp_58_24 hP1, zp_58_26 hP1, zp_58_29 hP1, zp_58_32 hP1, zp_58_33 hP1, zp_58_34 hP1, zp_58_35 hP1, zp_58_36 hP1, zp_58_37 hP1, zp_58_38 hP1, zp_58_39 hP1, eA]
        rw [c_6, n_le (by decide) (by omega), n_le (by omega) (by omega)]
        refine ⟨fun z => by omega, fun _ => ⟨fun z => by omega, fun _ => ?_⟩⟩
        have elb : nI a - 1 + 1 = nI a := by rw [Int32.sub_add_cancel]
        have elt : nI a - 1 < nI a := by
          by_cases g : a = 0
          · rw [g]
            decide
          · have e : nI a - 1 = nI (a - 1) := pk_sub (b := 1) (by omega)
            rw [e, n_lt (by omega) (by omega)]
            omega
        have et : (nI a - 1).toInt = (a : Int) - 1 := by
          by_cases g : a = 0
          · rw [g]
            decide
          · have e : nI a - 1 = nI (a - 1) := pk_sub (b := 1) (by omega)
            rw [e, nI_toInt (by omega)]
            omega
        have l6 : ¬ nI 6 ≤ nI a - 1 := by
          rw [Int32.le_iff_toInt_le, et, nI_toInt (by decide)]
          omega
        have ln : ¬ nI (qA q).1 ≤ nI a - 1 := by
          rw [Int32.le_iff_toInt_le, et, nI_toInt (by omega)]
          omega
        rw [w150_67]
        simp only [w150_69, w150_71, w150_74, w150_76, w150_77, w150_80, zk_sI, zk_sJ, zk_sP, zn_sI, zn_sJ, zn_sP, zI_sI, zI_sJ, zI_sP, zJ_sI, zJ_sJ, zJ_sP, zP_sI, zP_sJ, zP_sP, Option.toList_some, Option.toList_none, List.cons_append, List.nil_append, zk_of hP1.1, zn_of hP1.1, zix, ziN, ne_eq, reduceCtorEq, not_false_eq_true, true_and, and_true, Option.getD_some, Nat.reduceLeDiff, Nat.reduceLT, c_ofNat, zkd58, zp_58_1 hP1, zp_58_2 hP1, zp_58_6 hP1, zp_58_7 hP1, zp_58_10 hP1, zp_58_11 hP1, zp_58_12 hP1, zp_58_14 hP1, zp_58_15 hP1, zp_58_17 hP1, zp_58_18 hP1, zp_58_19 hP1, zp_58_20 hP1, zp_58_21 hP1, zp_58_22 hP1, zp_58_24 hP1, zp_58_26 hP1, zp_58_29 hP1, zp_58_32 hP1, zp_58_33 hP1, zp_58_34 hP1, zp_58_35 hP1, zp_58_36 hP1, zp_58_37 hP1, zp_58_38 hP1, zp_58_39 hP1, eA]
        rw [c_6]
        refine ⟨fun z => absurd z l6, fun _ => ⟨fun z => absurd z ln, fun _ => ?_⟩⟩
        refine M150s (o := none) (W := wOut q l m F a) hv hP1 k1 (by omega) (by omega) (by omega) (fun b e => by cases e) (Or.inl ⟨rfl, elt⟩) (fun M4 l5 u4 k4 => ?_)
        rw [elb]
        exact inner (F - a) 0 M4 l5 (Nat.zero_add _) (zF_tr u1 u4) k4
    exact outer F 0 _ _ _ (Nat.zero_add _) u0 k0
  · have g4 := Classical.not_not.mp g4
    have := h M (zF_rf _ _)
    rw [if_pos g4, if_pos g4] at this
    exact this hM
theorem vhas_oN {n : Nat} {f : Int32} (h : vhas n f) (hn : n < 2 ^ 31) : ∃ k, k < n ∧ f = nI k := by
  obtain ⟨j, j1, rfl⟩ := nI_of (Int32.not_lt.mpr h.1)
  have := h.2
  rw [n_lt j1 hn] at this
  exact ⟨j, this, rfl⟩
theorem vhas_inN {n : Nat} {f : Int32} (hn : n < 2 ^ 31) : zin f 0 (nI n - 1) ↔ vhas n f := by
  show (0 ≤ f ∧ f ≤ nI n - 1) ↔ (0 ≤ f ∧ f < nI n)
  by_cases h0 : n = 0
  · subst h0
    have e : nI 0 - 1 = -1 := by decide
    have e0 : nI 0 = 0 := rfl
    rw [e, e0, Int32.le_iff_toInt_le, Int32.le_iff_toInt_le, Int32.lt_iff_toInt_lt, t_0, t_m1]
    omega
  · have e : nI n - 1 = nI (n - 1) := pk_sub (b := 1) (by omega)
    rw [e, Int32.le_iff_toInt_le, Int32.le_iff_toInt_le, Int32.lt_iff_toInt_lt, t_0, nI_toInt (by omega), nI_toInt (by omega)]
    omega
def aBand (q : tQ) (k : Int32) : Int32 := if vhas (qW q).1 k then (qW q).2 k.toNatClampNeg else -2
theorem C73 {k : Int32} (hv : vQ q) (hP : zPk M) (hC : zKC q M) (h : ∀ M1, zUp M M1 → zKC q M1 → Q (some (.int (aBand q k))) M1) : zC X 73 [.ref 0, .int k] M Q := by
  have h27 := hv.2.2.2.2.1
  have h0 := h M (zUp_rf hP) hC
  have hW := hC.2.2.2.2.2.1
  unfold aBand at h0
  have c27 : Int32.ofNat 27 = nI 27 := rfl
  rw [c73]
  simp only [w73_0, w73_1, w73_4, w73_5, w73_6, w73_9, w73_12, w73_13, w73_14, w73_17, w73_18, w73_21, w73_23, w73_26, w73_27, w73_30, w73_31, w73_32, zk_sI, zk_sJ, zk_sP, zn_sI, zn_sJ, zn_sP, zI_sI, zI_sJ, zI_sP, zJ_sI, zJ_sJ, zJ_sP, zP_sI, zP_sJ, zP_sP, Option.toList_some, Option.toList_none, List.cons_append, List.nil_append, zk_of hP.1, zn_of hP.1, zix, ziN, ne_eq, reduceCtorEq, not_false_eq_true, true_and, and_true, Option.getD_some, Nat.reduceLeDiff, Nat.reduceLT, c_ofNat, zkd0, zp_0_0 hP, zp_0_1 hP, zp_0_2 hP, zp_0_3 hP, zp_0_4 hP, zp_0_5 hP, zp_0_6 hP, zp_0_7 hP, zkd42, znd42, zfx42, hW.1]
  refine ⟨fun g => ?_, fun g1 => ⟨fun g => ?_, fun g2 => ⟨fun g3 => ?_, fun g => ?_⟩⟩⟩
  · rw [if_neg (fun z => Int32.not_lt.mpr z.1 g)] at h0
    exact h0
  · rw [if_neg (fun z => Int32.not_lt.mpr g z.2)] at h0
    exact h0
  · have hh : vhas (qW q).1 k := ⟨Int32.not_lt.mp g1, Int32.not_le.mp g2⟩
    obtain ⟨j, j1, rfl⟩ := vhas_oN hh (by omega)
    rw [if_pos hh, n_cl (by omega)] at h0
    rw [n_cl (by omega), hW.2 j j1]
    exact ⟨vp_in_nI (by omega) (by decide), h0⟩
  · have hh : vhas (qW q).1 k := ⟨Int32.not_lt.mp g1, Int32.not_le.mp g2⟩
    obtain ⟨j, j1, rfl⟩ := vhas_oN hh (by omega)
    rw [n_lt (by omega) (by decide)] at g
    omega
theorem M151 {k : Int32} (hv : vQ q) (hP : zPk M) (hM : zKM q M) (h : ∀ M1, zDn M M1 → zKM q M1 → Q (some (.int (aBand q k))) M1) : zC X 151 [.ref 58, .int k] M Q := by
  have h27 := hv.2.2.2.2.1
  have h0 := h M (zF_rf _ _) hM
  have hW := hM.2.2.2.2.1
  unfold aBand at h0
  rw [c151]
  simp only [w151_0, w151_1, w151_2, w151_3, w151_4, w151_7, w151_8, w151_9, w151_10, w151_13, w151_16, w151_17, w151_20, w151_21, w151_22, w151_25, w151_27, zk_sI, zk_sJ, zk_sP, zn_sI, zn_sJ, zn_sP, zI_sI, zI_sJ, zI_sP, zJ_sI, zJ_sJ, zJ_sP, zP_sI, zP_sJ, zP_sP, Option.toList_some, Option.toList_none, List.cons_append, List.nil_append, zk_of hP.1, zn_of hP.1, zix, ziN, ne_eq, reduceCtorEq, not_false_eq_true, true_and, and_true, Option.getD_some, Nat.reduceLeDiff, Nat.reduceLT, c_ofNat, zkd58, zp_58_1 hP, zp_58_2 hP, zp_58_6 hP, zp_58_7 hP, zp_58_10 hP, zp_58_11 hP, zp_58_12 hP, zp_58_14 hP, zp_58_15 hP, zp_58_17 hP, zp_58_18 hP, zp_58_19 hP, zp_58_20 hP, zp_58_21 hP, zp_58_22 hP, zp_58_24 hP, zp_58_26 hP, zp_58_29 hP, zp_58_32 hP, zp_58_33 hP, zp_58_34 hP, zp_58_35 hP, zp_58_36 hP, zp_58_37 hP, zp_58_38 hP, zp_58_39 hP, zkd77, znd77, zfx77, hW.1]
  refine s103i 0 (nI (qW q).1 - 1) rfl rfl ?_
  rw [zB_iff (vhas_inN (show (qW q).1 < 2 ^ 31 by omega))]
  simp only [w151_0, w151_1, w151_2, w151_3, w151_4, w151_7, w151_8, w151_9, w151_10, w151_13, w151_16, w151_17, w151_20, w151_21, w151_22, w151_25, w151_27, zk_sI, zk_sJ, zk_sP, zn_sI, zn_sJ, zn_sP, zI_sI, zI_sJ, zI_sP, zJ_sI, zJ_sJ, zJ_sP, zP_sI, zP_sJ, zP_sP, Option.toList_some, Option.toList_none, List.cons_append, List.nil_append, zk_of hP.1, zn_of hP.1, zix, ziN, ne_eq, reduceCtorEq, not_false_eq_true, true_and, and_true, Option.getD_some, Nat.reduceLeDiff, Nat.reduceLT, c_ofNat, zkd58, zp_58_1 hP, zp_58_2 hP, zp_58_6 hP, zp_58_7 hP, zp_58_10 hP, zp_58_11 hP, zp_58_12 hP, zp_58_14 hP, zp_58_15 hP, zp_58_17 hP, zp_58_18 hP, zp_58_19 hP, zp_58_20 hP, zp_58_21 hP, zp_58_22 hP, zp_58_24 hP, zp_58_26 hP, zp_58_29 hP, zp_58_32 hP, zp_58_33 hP, zp_58_34 hP, zp_58_35 hP, zp_58_36 hP, zp_58_37 hP, zp_58_38 hP, zp_58_39 hP, zkd77, znd77, zfx77, zB_0]
  refine ⟨fun g => ?_, fun g => ?_⟩
  · rw [if_neg g] at h0
    exact h0
  · have hh := Classical.not_not.mp g
    obtain ⟨j, j1, rfl⟩ := vhas_oN hh (by omega)
    rw [if_pos hh, n_cl (by omega)] at h0
    rw [n_cl (by omega), hW.2 j j1]
    exact ⟨vp_in_nI (by omega) (by decide), h0⟩
end ZWm
