/-! ===== play: the model's ===== -/
section ZMq
variable {X : zf_X} {M : zf_M} {Q : Option Value → zf_M → Prop} {q : tQ}
theorem M152 {s : Int32} (hv : vQ q) (hP : zPk M) (hM : zKM q M) (h : ∀ M1, zDn M M1 → zKM (nPlay q s) M1 → Q (some (.int (aPlay q s))) M1) : zC X 152 [.ref 58, .int s] M Q := by
  unfold nPlay aPlay at h
  rw [c152]
  simp only [w152_0, w152_1, zk_sI, zk_sJ, zk_sP, zn_sI, zn_sJ, zn_sP, zI_sI, zI_sJ, zI_sP, zJ_sI, zJ_sJ, zJ_sP, zP_sI, zP_sJ, zP_sP, Option.toList_some, Option.toList_none, List.cons_append, List.nil_append]
  refine s155 ?_
  simp only [w152_4, w152_7, w152_9, w152_10, zk_sI, zk_sJ, zk_sP, zn_sI, zn_sJ, zn_sP, zI_sI, zI_sJ, zI_sP, zJ_sI, zJ_sJ, zJ_sP, zP_sI, zP_sJ, zP_sP, Option.toList_some, Option.toList_none, List.cons_append, List.nil_append, zk_of hP.1, zn_of hP.1, zix, ziN, ne_eq, reduceCtorEq, not_false_eq_true, true_and, and_true, Option.getD_some, Nat.reduceLeDiff, Nat.reduceLT, c_ofNat, zkd58, zp_58_1 hP, zp_58_2 hP, zp_58_6 hP, zp_58_7 hP, zp_58_10 hP, zp_58_11 hP, zp_58_12 hP, zp_58_14 hP, zp_58_15 hP, zp_58_17 hP, zp_58_18 hP, zp_58_19 hP, zp_58_20 hP, zp_58_21 hP, zp_58_22 hP, zp_58_24 hP, zp_58_26 hP, zp_58_29 hP, zp_58_32 hP, zp_58_33 hP, zp_58_34 hP, zp_58_35 hP, zp_58_36 hP, zp_58_37 hP, zp_58_38 hP, zp_58_39 hP, zB_0]
  refine ⟨fun g => ?_, fun g => ?_⟩
  · have g := Classical.not_not.mp g
    rw [if_pos g, if_pos g] at h
    obtain ⟨s', sle, rfl⟩ := zin_o (n := 3) rfl (by decide) g
    rw [n_cl (by omega)] at h
    have hmS := hM.2.2.2.2.2.2.1
    obtain ⟨b1, b2, b3⟩ := hmS s' (by omega)
    have hvs := hv.2.2.2.2.2 s' (by omega)
    have x0 := n_cl (show s' < 2 ^ 31 by omega)
    have x1 := n_in (show s' < 4 by omega) (show 4 < 2 ^ 31 by decide)
    simp only [w152_10, w152_11, w152_14, w152_15, w152_16, w152_19, w152_20, w152_21, w152_24, w152_25, w152_26, w152_27, zk_sI, zk_sJ, zk_sP, zn_sI, zn_sJ, zn_sP, zI_sI, zI_sJ, zI_sP, zJ_sI, zJ_sJ, zJ_sP, zP_sI, zP_sJ, zP_sP, Option.toList_some, Option.toList_none, List.cons_append, List.nil_append, zk_of hP.1, zn_of hP.1, zix, ziN, ne_eq, reduceCtorEq, not_false_eq_true, true_and, and_true, Option.getD_some, Nat.reduceLeDiff, Nat.reduceLT, c_ofNat, zkd58, zp_58_1 hP, zp_58_2 hP, zp_58_6 hP, zp_58_7 hP, zp_58_10 hP, zp_58_11 hP, zp_58_12 hP, zp_58_14 hP, zp_58_15 hP, zp_58_17 hP, zp_58_18 hP, zp_58_19 hP, zp_58_20 hP, zp_58_21 hP, zp_58_22 hP, zp_58_24 hP, zp_58_26 hP, zp_58_29 hP, zp_58_32 hP, zp_58_33 hP, zp_58_34 hP, zp_58_35 hP, zp_58_36 hP, zp_58_37 hP, zp_58_38 hP, zp_58_39 hP, zkd81, znd81, zfx81, x0, x1, b1]
    refine ⟨fun g2 => ?_, fun g2 => ?_⟩
    · have g2' : ¬ (qS q).1 s' < 0 := Int32.not_lt.mpr g2
      rw [if_neg g2', if_neg g2'] at h
      refine s115q (b := 0) hv hP hM (by decide) (fun M1 e1 hP1 hM1 e4 => ?_)
      simp only [w152_30, w152_31, zk_sI, zk_sJ, zk_sP, zn_sI, zn_sJ, zn_sP, zI_sI, zI_sJ, zI_sP, zJ_sI, zJ_sJ, zJ_sP, zP_sI, zP_sJ, zP_sP, Option.toList_some, Option.toList_none, List.cons_append, List.nil_append, zk_of hP1.1, zn_of hP1.1, zix, ziN, ne_eq, reduceCtorEq, not_false_eq_true, true_and, and_true, Option.getD_some, Nat.reduceLeDiff, Nat.reduceLT, c_ofNat, zkd58, zp_58_1 hP1, zp_58_2 hP1, zp_58_6 hP1, zp_58_7 hP1, zp_58_10 hP1, zp_58_11 hP1, zp_58_12 hP1, zp_58_14 hP1, zp_58_15 hP1, zp_58_17 hP1, zp_58_18 hP1, zp_58_19 hP1, zp_58_20 hP1, zp_58_21 hP1, zp_58_22 hP1, zp_58_24 hP1, zp_58_26 hP1, zp_58_29 hP1, zp_58_32 hP1, zp_58_33 hP1, zp_58_34 hP1, zp_58_35 hP1, zp_58_36 hP1, zp_58_37 hP1, zp_58_38 hP1, zp_58_39 hP1]
      refine s116 hP1 e4.1 (fun M2 f1 f2 f3 f4 f5 => ?_)
      have hP2 := zPk_F hP1 f1
      have hX2 : zMX M M2 := zMX_tr e1 ⟨zF_mo f1 (fun c hc => by omega), fun j _ a _ _ _ => f2 j a⟩
      have hM2 := zKM_X hM hX2
      have hpo := zpq_ok (b := 0) hv (by decide)
      have hpn : (zol (zcq q 0) 6).length = pn (zpq q 0) := rfl
      have hprr : pr (zpq q 0) = (qL q).1 := rfl
      have hn6 := hpo.1
      have hr6 := hv.2.2.1
      have hS2 : zSM M2 (zst (zpq q 0)) := by
        intro k hk
        obtain ⟨u1, u2⟩ := f5 k hk
        have e := (zst_ok hpo).2 k hk
        by_cases hc : (zcq q 0).2.1 k = none
        · have e2 : ¬ ∃ i, i < pn (zpq q 0) ∧ po (zpq q 0) i = k := by
            rintro ⟨i, i1, i2⟩
            have h2 := (zod_6 (c := zcq q 0) i1).2
            have i2 : zod (zcq q 0) i = k := i2
            rw [i2] at h2
            exact h2 hc
          rw [if_neg e2] at e
          rw [e, u1, u2, zB_f (fun z => z hc), zB_f (by decide)]
          refine ⟨?_, rfl⟩
          simp only [znu, hc]
        · have e2 : ∃ i, i < pn (zpq q 0) ∧ po (zpq q 0) i = k := zod_sur hc hk
          rw [if_pos e2] at e
          obtain ⟨i, i1, i2⟩ := e2
          have h20 := (hpo.2.2.2.1 i i1).2.2.1
          rw [i2] at h20
          have ep : pl (zpq q 0) k = znu (zcq q 0) k 1 := rfl
          rw [e, u1, u2, zB_t hc, zB_t (by omega)]
          refine ⟨?_, rfl⟩
          rw [← ep]
          congr 1
          omega
      have hMF2 : zMF (zcq q 0) (qA q).1 (qL q).2.1 (qL q).2.2 (qL q).1 M2 := ⟨zMS_F e4 f1 (by omega) (by omega) (by omega) (fun j hj => f2 j (by omega)), f3, fun i hi => by
        have := f4 _ _ (zod_in hi)
        rw [show (zol (zcq q 0) 6).length - 1 - ((zol (zcq q 0) 6).length - 1 - i) = i by omega] at this
        exact this⟩
      have h23 : zf_I M2 58 3 = nI (qL q).1 := hMF2.1.2.2.1
      have h29 : zf_I M2 58 9 = nI (pn (zpq q 0)) := f3
      have hsl : pr (zpq q 0) * pn (zpq q 0) ≤ 36 := Nat.mul_le_mul hr6.2 hn6
      simp only [w152_34, w152_35, w152_36, w152_37, zk_sI, zk_sJ, zk_sP, zn_sI, zn_sJ, zn_sP, zI_sI, zI_sJ, zI_sP, zJ_sI, zJ_sJ, zJ_sP, zP_sI, zP_sJ, zP_sP, Option.toList_some, Option.toList_none, List.cons_append, List.nil_append, zk_of hP2.1, zn_of hP2.1, zix, ziN, ne_eq, reduceCtorEq, not_false_eq_true, true_and, and_true, Option.getD_some, Nat.reduceLeDiff, Nat.reduceLT, c_ofNat, zkd58, zp_58_1 hP2, zp_58_2 hP2, zp_58_6 hP2, zp_58_7 hP2, zp_58_10 hP2, zp_58_11 hP2, zp_58_12 hP2, zp_58_14 hP2, zp_58_15 hP2, zp_58_17 hP2, zp_58_18 hP2, zp_58_19 hP2, zp_58_20 hP2, zp_58_21 hP2, zp_58_22 hP2, zp_58_24 hP2, zp_58_26 hP2, zp_58_29 hP2, zp_58_32 hP2, zp_58_33 hP2, zp_58_34 hP2, zp_58_35 hP2, zp_58_36 hP2, zp_58_37 hP2, zp_58_38 hP2, zp_58_39 hP2]
      refine s117 hP2 hS2 ?_
      clear e1 hP1 hM1 e4 f1 f2 f3 f4 f5
      have fin : ∀ (M3 : zf_M) (N u R : Nat) (l5 l6 l7 l8 : Slot), zF (fun c => c = 64 ∨ c = 65) M2 M3 → zSM M3 N → zpR q s' = some (N, u, R) → zW X 152 227 [.val (.ref 58), .val (.int (nI s')), .val (.int (nI u)), .val (.int (zwm N)), .val (.int (nI R)), l5, l6, l7, l8] [] M3 Q := by
        intro M3 N u R l5 l6 l7 l8 k1 k2 hz
        have hP3 := zPk_F hP2 k1
        simp only [hz] at h
        have v0 : vp_in 0 3 := vp_in_nI (n := 0) (by decide) (by decide)
        have v1 : vp_in 1 3 := vp_in_nI (n := 1) (by decide) (by decide)
        have v2 : vp_in 2 3 := vp_in_nI (n := 2) (by decide) (by decide)
        have d0 : Int32.toNatClampNeg 0 = 0 := rfl
        have d1 : Int32.toNatClampNeg 1 = 1 := rfl
        have d2 : Int32.toNatClampNeg 2 = 2 := rfl
        simp only [w152_227, w152_228, w152_231, w152_232, w152_233, w152_234, w152_235, w152_238, w152_239, w152_240, w152_241, w152_242, w152_245, w152_246, w152_248, w152_249, w152_250, zk_sI, zk_sJ, zk_sP, zn_sI, zn_sJ, zn_sP, zI_sI, zI_sJ, zI_sP, zJ_sI, zJ_sJ, zJ_sP, zP_sI, zP_sJ, zP_sP, Option.toList_some, Option.toList_none, List.cons_append, List.nil_append, zk_of hP3.1, zn_of hP3.1, zix, ziN, ne_eq, reduceCtorEq, not_false_eq_true, true_and, and_true, Option.getD_some, Nat.reduceLeDiff, Nat.reduceLT, c_ofNat, zkd58, zp_58_1 hP3, zp_58_2 hP3, zp_58_6 hP3, zp_58_7 hP3, zp_58_10 hP3, zp_58_11 hP3, zp_58_12 hP3, zp_58_14 hP3, zp_58_15 hP3, zp_58_17 hP3, zp_58_18 hP3, zp_58_19 hP3, zp_58_20 hP3, zp_58_21 hP3, zp_58_22 hP3, zp_58_24 hP3, zp_58_26 hP3, zp_58_29 hP3, zp_58_32 hP3, zp_58_33 hP3, zp_58_34 hP3, zp_58_35 hP3, zp_58_36 hP3, zp_58_37 hP3, zp_58_38 hP3, zp_58_39 hP3, zkd78, znd78, zfx78, v0, v1, v2, true_and, d0, d1, d2]
        have hF0 : zF (fun c => c = 64 ∨ c = 65 ∨ 78 ≤ c ∧ c ≤ 80) M2 (zf_sI (zf_sI (zf_sI M3 78 0 (zwm N)) 78 1 (nI u)) 78 2 (nI R)) := zF_sI (zF_sI (zF_sI (zF_mo k1 (fun c hc => by omega)) (by omega)) (by omega)) (by omega)
        have loop : ∀ (m k : Nat) (M4 : zf_M), k + m = 6 → zF (fun c => c = 79 ∨ c = 80) (zf_sI (zf_sI (zf_sI M3 78 0 (zwm N)) 78 1 (nI u)) 78 2 (nI R)) M4 → (∀ j, j < k → zf_I M4 79 j = zvo ((zcq q 0).2.1 j) ∧ zf_I M4 80 j = nI (dg N j % 32)) → zW X 152 252 [.val (.ref 58), .val (.int (nI s')), .val (.int (nI u)), .val (.int (zwm N)), .val (.int (nI R)), l5, .val (.int (nI k)), l7, l8] [] M4 Q := by
          intro m
          induction m with
          | zero =>
            intro k M4 hk y1 y2
            obtain rfl : k = 6 := by omega
            have hF4 : zF (fun c => c = 64 ∨ c = 65 ∨ 78 ≤ c ∧ c ≤ 80) M2 M4 := zF_tr hF0 (zF_mo y1 (fun c hc => by omega))
            rw [w152_252]
            simp only [w152_254, w152_256, w152_293, w152_294, zk_sI, zk_sJ, zk_sP, zn_sI, zn_sJ, zn_sP, zI_sI, zI_sJ, zI_sP, zJ_sI, zJ_sJ, zJ_sP, zP_sI, zP_sJ, zP_sP, Option.toList_some, Option.toList_none, List.cons_append, List.nil_append]
            refine ⟨fun _ => ?_, fun z => absurd (by decide) z⟩
            refine h M4 (zF_tr (zDn_X hX2) (zF_mo hF4 (fun c hc => by omega))) (zKM_P hM2 (fun c j kc k => (hF4.2.1 c (by unfold kM at kc; omega) j).1) ⟨?_, ?_, ?_, fun k hk => ?_⟩)
            · rw [(y1.2.1 78 (by omega) 0).1, zI_ne (by omega), zI_ne (by omega), zI_eq]
            · rw [(y1.2.1 78 (by omega) 1).1, zI_ne (by omega), zI_eq]
            · rw [(y1.2.1 78 (by omega) 2).1, zI_eq]
            · obtain ⟨w1, w2⟩ := y2 k hk
              show _ = zlv q N k
              rw [w1, w2]
              unfold zlv
              have hw := zvo_n (o := (zcq q 0).2.1 k) (fun f e => by have := hMF2.1.1.2.2 k f e; have := hv.1.1; omega)
              by_cases g3 : (zcq q 0).2.1 k = none
              · rw [if_pos (hw.mpr g3), if_pos g3]
              · rw [if_neg (fun z => g3 (hw.mp z)), if_neg g3]
          | succ m ih =>
            intro k M4 hk y1 y2
            have hF4 : zF (fun c => c = 64 ∨ c = 65 ∨ 78 ≤ c ∧ c ≤ 80) M2 M4 := zF_tr hF0 (zF_mo y1 (fun c hc => by omega))
            have hP4 := zPk_F hP2 hF4
            have e61 : zf_I M4 61 k = zvo ((zcq q 0).2.1 k) := by rw [(hF4.2.1 61 (by omega) k).1]; exact hMF2.1.1.2.1 k (by omega)
            have e64 : zf_I M4 64 k = nI (dg N k % 32) := by
              rw [(y1.2.1 64 (by omega) k).1, zI_ne (by omega), zI_ne (by omega), zI_ne (by omega)]
              exact (k2 k (by omega)).1
            rw [w152_252]
            simp only [w152_254, w152_256, w152_259, w152_260, w152_263, w152_265, w152_266, w152_269, w152_271, w152_272, w152_273, w152_274, w152_277, w152_279, w152_280, w152_283, w152_285, w152_286, w152_287, w152_290, zk_sI, zk_sJ, zk_sP, zn_sI, zn_sJ, zn_sP, zI_sI, zI_sJ, zI_sP, zJ_sI, zJ_sJ, zJ_sP, zP_sI, zP_sJ, zP_sP, Option.toList_some, Option.toList_none, List.cons_append, List.nil_append, zk_of hP4.1, zn_of hP4.1, zix, ziN, ne_eq, reduceCtorEq, not_false_eq_true, true_and, and_true, Option.getD_some, Nat.reduceLeDiff, Nat.reduceLT, c_ofNat, zkd58, zp_58_1 hP4, zp_58_2 hP4, zp_58_6 hP4, zp_58_7 hP4, zp_58_10 hP4, zp_58_11 hP4, zp_58_12 hP4, zp_58_14 hP4, zp_58_15 hP4, zp_58_17 hP4, zp_58_18 hP4, zp_58_19 hP4, zp_58_20 hP4, zp_58_21 hP4, zp_58_22 hP4, zp_58_24 hP4, zp_58_26 hP4, zp_58_29 hP4, zp_58_32 hP4, zp_58_33 hP4, zp_58_34 hP4, zp_58_35 hP4, zp_58_36 hP4, zp_58_37 hP4, zp_58_38 hP4, zp_58_39 hP4, zkd61, znd61, zfx61, zkd64, znd64, zfx64, zkd79, znd79, zfx79, zkd80, znd80, zfx80, n_cl (show k < 2 ^ 31 by omega), n_in (show k < 6 by omega) (show 6 < 2 ^ 31 by decide), e61, e64, n_a1, Nat.reduceEqDiff, if_false]
            rw [c_6, n_le (by decide) (by omega)]
            refine ⟨fun z => by omega, fun _ => ih (k + 1) _ (by omega) (zF_sI (zF_sI y1 (Or.inl rfl)) (Or.inr rfl)) (fun j hj => ?_)⟩
            by_cases e : j = k
            · rw [e, zI_ne (by omega), zI_eq, zI_eq]
              exact ⟨rfl, rfl⟩
            · rw [zI_ne (by omega), zI_ne (by omega), zI_ne (by omega), zI_ne (by omega)]
              exact y2 j (by omega)
        exact loop 6 0 _ rfl (zF_rf _ _) (fun j hj => by omega)
      have hq : zpR q s' = if zwin (zst (zpq q 0)) = -1 then zpy (zpq q 0) (fun j => (qS q).2.2 s' j) ((qS q).2.1 s') (pr (zpq q 0) * pn (zpq q 0)) 0 (zst (zpq q 0)) 0 else some (zst (zpq q 0), 0, 0) := rfl
      have fail : ∀ M3 ls, zF (fun c => c = 64 ∨ c = 65) M2 M3 → zpR q s' = none → zC X 154 [.ref 58, .int 2] M3 (fun w M4 => zW X 152 142 ls (w.toList ++ []) M4 Q) := by
        intro M3 ls k1 hz
        have hP3 := zPk_F hP2 k1
        have hX3 : zMX M M3 := zMX_tr hX2 ⟨zF_mo k1 (fun c hc => by omega), fun j _ _ _ _ _ => (k1.2.1 58 (by omega) j).1⟩
        refine s154 hP3 ?_
        simp only [hz] at h
        simp only [w152_142, zk_sI, zk_sJ, zk_sP, zn_sI, zn_sJ, zn_sP, zI_sI, zI_sJ, zI_sP, zJ_sI, zJ_sJ, zJ_sP, zP_sI, zP_sJ, zP_sP, Option.toList_some, Option.toList_none, List.cons_append, List.nil_append]
        obtain ⟨y1, y2⟩ := zKM_f (v := 2) (zKM_X hM hX3)
        exact h _ (zF_tr (zDn_X hX3) y1) y2
      have loop : ∀ (m t N u : Nat) (M3 : zf_M) (l7 l8 : Slot), pr (zpq q 0) * pn (zpq q 0) = t + m → zF (fun c => c = 64 ∨ c = 65) M2 M3 → zSM M3 N → zwin N = -1 → zV (zpq q 0) N → u ≤ (qS q).2.1 s' → zpy (zpq q 0) (fun j => (qS q).2.2 s' j) ((qS q).2.1 s') m t N u = zpR q s' → zW X 152 65 [.val (.ref 58), .val (.int (nI s')), .val (.int (nI u)), .val (.int 2), .val (.int (nI (pr (zpq q 0)))), .val (.int (nI (pr (zpq q 0) * pn (zpq q 0)))), .val (.int (nI t)), l7, l8] [] M3 Q := by
        intro m
        induction m with
        | zero =>
          intro t N u M3 l7 l8 ht k1 k2 hz hV hu hy
          have e2 : (2 : Int32) = zwm N := by unfold zwm; rw [if_pos hz]
          rw [zpy] at hy
          have hf := fin M3 N u (pr (zpq q 0)) (.val (.int (nI (pr (zpq q 0) * pn (zpq q 0))))) (.val (.int (nI t))) l7 l8 k1 k2 hy.symm
          rw [← e2] at hf
          rw [w152_65]
          simp only [w152_67, w152_69, w152_72, w152_73, w152_74, zk_sI, zk_sJ, zk_sP, zn_sI, zn_sJ, zn_sP, zI_sI, zI_sJ, zI_sP, zJ_sI, zJ_sJ, zJ_sP, zP_sI, zP_sJ, zP_sP, Option.toList_some, Option.toList_none, List.cons_append, List.nil_append]
          rw [n_le (by omega) (by omega)]
          exact ⟨fun _ => hf, fun z => by omega⟩
        | succ m ih =>
          intro t N u M3 l7 l8 ht k1 k2 hz hV hu hy
          have hP3 := zPk_F hP2 k1
          have hpos : 0 < pn (zpq q 0) := by
            refine Nat.pos_of_ne_zero (fun e => ?_)
            rw [e, Nat.mul_zero] at ht
            omega
          have hmod := Nat.mod_lt t hpos
          have hk : po (zpq q 0) (t % pn (zpq q 0)) < 6 := hpo.2.1 _ hmod
          have hMF3 := zMF_F hMF2 k1 (by omega) (by omega) (by omega) (by omega) (fun j _ => (k1.2.1 58 (by omega) j).1)
          have h63 : zf_I M3 63 (t % pn (zpq q 0)) = nI (po (zpq q 0) (t % pn (zpq q 0))) := hMF3.2.2 _ hmod
          have h9 : zf_I M3 58 9 = nI (pn (zpq q 0)) := hMF3.2.1
          have h33 : zf_I M3 58 3 = nI (pr (zpq q 0)) := hMF3.1.2.2.1
          have h8 : zf_I M3 58 8 = ps (zpq q 0) := hMF3.1.2.2.2.2.1
          have hrd : t / pn (zpq q 0) < 6 := by
            have : t / pn (zpq q 0) < pr (zpq q 0) := (Nat.div_lt_iff_lt_mul hpos).mpr (by omega)
            have := hpo.2.2.2.2.2
            omega
          have ed : nI t / nI (pn (zpq q 0)) = nI (t / pn (zpq q 0)) := pk_div (by omega) hpos (by omega)
          have em : nI t - nI (t / pn (zpq q 0)) * nI (pn (zpq q 0)) = nI (t % pn (zpq q 0)) := by rw [← ed]; exact pk_rem (by omega) hpos (by omega)
          have np0 : ¬ nI (pn (zpq q 0)) = 0 := by
            rw [c_0, n_eq (by omega) (by decide)]
            omega
          obtain ⟨v1, v2, v3, v4, v5, v6, v7⟩ := hpo.2.2.2.1 _ hmod
          have f5 : (zcq q 0).2.1 (po (zpq q 0) (t % pn (zpq q 0))) ≠ none := (zod_6 (c := zcq q 0) hmod).2
          have f6 : ∀ j, j < 6 → 32 ≤ dg N j → (zcq q 0).2.1 j ≠ none ∧ dg N j % 32 ≤ znu (zcq q 0) j 1 := by
            intro j hj hu2
            obtain ⟨⟨i, i1, i2⟩, g2⟩ := hV.2 j hj (by omega)
            have h2 := (zod_6 (c := zcq q 0) i1).2
            have i2 : zod (zcq q 0) i = j := i2
            rw [i2] at h2
            exact ⟨h2, g2⟩
          rw [zpy] at hy
          have z2 : (2 : Int32) = 2 := rfl
          -- behind a turn
          have af : ∀ (M4 : zf_M) (N2 u2 : Nat) (l7 l8 : Slot), zF (fun c => c = 64 ∨ c = 65) M2 M4 → zSM M4 N2 → zV (zpq q 0) N2 → u2 ≤ (qS q).2.1 s' → (if zwin N2 = -1 then zpy (zpq q 0) (fun j => (qS q).2.2 s' j) ((qS q).2.1 s') m (t + 1) N2 u2 else some (N2, u2, t / pn (zpq q 0) + 1)) = zpR q s' → zW X 152 193 [.val (.ref 58), .val (.int (nI s')), .val (.int (nI u2)), .val (.int 2), .val (.int (nI (pr (zpq q 0)))), .val (.int (nI (pr (zpq q 0) * pn (zpq q 0)))), .val (.int (nI t)), l7, l8] [] M4 Q := by
            intro M4 N2 u2 l7 l8 c1 c2 c3 c4 c5
            have hP4 := zPk_F hP2 c1
            have hMF4 := zMF_F hMF2 c1 (by omega) (by omega) (by omega) (by omega) (fun j _ => (c1.2.1 58 (by omega) j).1)
            have h94 : zf_I M4 58 9 = nI (pn (zpq q 0)) := hMF4.2.1
            have h34 : zf_I M4 58 3 = nI (pr (zpq q 0)) := hMF4.1.2.2.1
            simp only [w152_193, w152_194, zk_sI, zk_sJ, zk_sP, zn_sI, zn_sJ, zn_sP, zI_sI, zI_sJ, zI_sP, zJ_sI, zJ_sJ, zJ_sP, zP_sI, zP_sJ, zP_sP, Option.toList_some, Option.toList_none, List.cons_append, List.nil_append, zk_of hP4.1, zn_of hP4.1, zix, ziN, ne_eq, reduceCtorEq, not_false_eq_true, true_and, and_true, Option.getD_some, Nat.reduceLeDiff, Nat.reduceLT, c_ofNat, zkd58, zp_58_1 hP4, zp_58_2 hP4, zp_58_6 hP4, zp_58_7 hP4, zp_58_10 hP4, zp_58_11 hP4, zp_58_12 hP4, zp_58_14 hP4, zp_58_15 hP4, zp_58_17 hP4, zp_58_18 hP4, zp_58_19 hP4, zp_58_20 hP4, zp_58_21 hP4, zp_58_22 hP4, zp_58_24 hP4, zp_58_26 hP4, zp_58_29 hP4, zp_58_32 hP4, zp_58_33 hP4, zp_58_34 hP4, zp_58_35 hP4, zp_58_36 hP4, zp_58_37 hP4, zp_58_38 hP4, zp_58_39 hP4]
            refine s117 hP4 c2 ?_
            by_cases z1 : zwin N2 = -1
            · rw [if_pos z1] at c5
              have e2 : zwm N2 = 2 := by unfold zwm; rw [if_pos z1]
              rw [e2]
              simp only [w152_197, w152_198, w152_199, w152_200, w152_203, w152_205, w152_206, w152_209, w152_210, w152_211, w152_212, w152_215, w152_216, w152_219, w152_221, w152_224, zk_sI, zk_sJ, zk_sP, zn_sI, zn_sJ, zn_sP, zI_sI, zI_sJ, zI_sP, zJ_sI, zJ_sJ, zJ_sP, zP_sI, zP_sJ, zP_sP, Option.toList_some, Option.toList_none, List.cons_append, List.nil_append, zk_of hP4.1, zn_of hP4.1, zix, ziN, ne_eq, reduceCtorEq, not_false_eq_true, true_and, and_true, Option.getD_some, Nat.reduceLeDiff, Nat.reduceLT, c_ofNat, zkd58, zp_58_1 hP4, zp_58_2 hP4, zp_58_6 hP4, zp_58_7 hP4, zp_58_10 hP4, zp_58_11 hP4, zp_58_12 hP4, zp_58_14 hP4, zp_58_15 hP4, zp_58_17 hP4, zp_58_18 hP4, zp_58_19 hP4, zp_58_20 hP4, zp_58_21 hP4, zp_58_22 hP4, zp_58_24 hP4, zp_58_26 hP4, zp_58_29 hP4, zp_58_32 hP4, zp_58_33 hP4, zp_58_34 hP4, zp_58_35 hP4, zp_58_36 hP4, zp_58_37 hP4, zp_58_38 hP4, zp_58_39 hP4, h34, Int32.le_refl, true_implies, not_true_eq_false, false_implies, and_true, n_a1]
              exact ih (t + 1) N2 u2 M4 _ _ (by omega) c1 c2 z1 c3 c4 c5
            · rw [if_neg z1] at c5
              have he2 : zwe N2 < 2 := by unfold zwe; split <;> decide
              have e2 : zwm N2 = nI (zwe N2) := by
                unfold zwm
                rw [if_neg z1]
                exact zwin_e z1
              have hf := fun l7 l8 => fin M4 N2 u2 (t / pn (zpq q 0) + 1) (.val (.int (nI (pr (zpq q 0) * pn (zpq q 0))))) (.val (.int (nI (t + 1)))) l7 l8 c1 c2 c5.symm
              rw [e2] at hf ⊢
              have ne2 : ¬ nI (zwe N2) = 2 := by
                rw [c_2, n_eq (by omega) (by decide)]
                omega
              have nl2 : ¬ (2 : Int32) ≤ nI (zwe N2) := by
                rw [c_2, n_le (by decide) (by omega)]
                omega
              simp only [w152_197, w152_198, w152_199, w152_200, w152_203, w152_205, w152_206, w152_209, w152_210, w152_211, w152_212, w152_215, w152_216, w152_219, w152_221, w152_224, zk_sI, zk_sJ, zk_sP, zn_sI, zn_sJ, zn_sP, zI_sI, zI_sJ, zI_sP, zJ_sI, zJ_sJ, zJ_sP, zP_sI, zP_sJ, zP_sP, Option.toList_some, Option.toList_none, List.cons_append, List.nil_append, zk_of hP4.1, zn_of hP4.1, zix, ziN, ne_eq, reduceCtorEq, not_false_eq_true, true_and, and_true, Option.getD_some, Nat.reduceLeDiff, Nat.reduceLT, c_ofNat, zkd58, zp_58_1 hP4, zp_58_2 hP4, zp_58_6 hP4, zp_58_7 hP4, zp_58_10 hP4, zp_58_11 hP4, zp_58_12 hP4, zp_58_14 hP4, zp_58_15 hP4, zp_58_17 hP4, zp_58_18 hP4, zp_58_19 hP4, zp_58_20 hP4, zp_58_21 hP4, zp_58_22 hP4, zp_58_24 hP4, zp_58_26 hP4, zp_58_29 hP4, zp_58_32 hP4, zp_58_33 hP4, zp_58_34 hP4, zp_58_35 hP4, zp_58_36 hP4, zp_58_37 hP4, zp_58_38 hP4, zp_58_39 hP4, h94, ed, np0, nl2, not_false_eq_true, true_implies, false_implies, true_and, n_a1]
              rw [w152_65]
              simp only [w152_67, w152_69, w152_72, w152_73, w152_74, zk_sI, zk_sJ, zk_sP, zn_sI, zn_sJ, zn_sP, zI_sI, zI_sJ, zI_sP, zJ_sI, zJ_sJ, zJ_sP, zP_sI, zP_sJ, zP_sP, Option.toList_some, Option.toList_none, List.cons_append, List.nil_append, ne2, not_false_eq_true, true_implies, not_true_eq_false, false_implies, and_true]
              exact ⟨fun _ => hf _ _, fun _ => hf _ _⟩
          rw [w152_65]
          simp only [w152_67, w152_69, w152_72, w152_73, w152_74, w152_77, w152_78, w152_81, w152_83, w152_84, w152_87, w152_88, w152_89, w152_91, w152_92, w152_94, w152_96, w152_97, w152_100, w152_101, zk_sI, zk_sJ, zk_sP, zn_sI, zn_sJ, zn_sP, zI_sI, zI_sJ, zI_sP, zJ_sI, zJ_sJ, zJ_sP, zP_sI, zP_sJ, zP_sP, Option.toList_some, Option.toList_none, List.cons_append, List.nil_append, zk_of hP3.1, zn_of hP3.1, zix, ziN, ne_eq, reduceCtorEq, not_false_eq_true, true_and, and_true, Option.getD_some, Nat.reduceLeDiff, Nat.reduceLT, c_ofNat, zkd58, zp_58_1 hP3, zp_58_2 hP3, zp_58_6 hP3, zp_58_7 hP3, zp_58_10 hP3, zp_58_11 hP3, zp_58_12 hP3, zp_58_14 hP3, zp_58_15 hP3, zp_58_17 hP3, zp_58_18 hP3, zp_58_19 hP3, zp_58_20 hP3, zp_58_21 hP3, zp_58_22 hP3, zp_58_24 hP3, zp_58_26 hP3, zp_58_29 hP3, zp_58_32 hP3, zp_58_33 hP3, zp_58_34 hP3, zp_58_35 hP3, zp_58_36 hP3, zp_58_37 hP3, zp_58_38 hP3, zp_58_39 hP3, zkd63, znd63, zfx63, h9, ed, em, np0, h63, n_cl (show t % pn (zpq q 0) < 2 ^ 31 by omega), n_in (show t % pn (zpq q 0) < 6 by omega) (show 6 < 2 ^ 31 by decide), not_false_eq_true, not_true_eq_false, false_implies, true_implies, true_and, and_true]
          rw [n_le (by omega) (by omega)]
          refine ⟨fun z => by omega, fun _ => ?_⟩
          refine s120 (r := t / pn (zpq q 0)) hP3 k2 hk (by omega) ?_
          rw [h8]
          simp only [w152_104, w152_107, w152_108, w152_110, w152_221, w152_224, zk_sI, zk_sJ, zk_sP, zn_sI, zn_sJ, zn_sP, zI_sI, zI_sJ, zI_sP, zJ_sI, zJ_sJ, zJ_sP, zP_sI, zP_sJ, zP_sP, Option.toList_some, Option.toList_none, List.cons_append, List.nil_append, zk_of hP3.1, zn_of hP3.1, zix, ziN, ne_eq, reduceCtorEq, not_false_eq_true, true_and, and_true, Option.getD_some, Nat.reduceLeDiff, Nat.reduceLT, c_ofNat, zkd58, zp_58_1 hP3, zp_58_2 hP3, zp_58_6 hP3, zp_58_7 hP3, zp_58_10 hP3, zp_58_11 hP3, zp_58_12 hP3, zp_58_14 hP3, zp_58_15 hP3, zp_58_17 hP3, zp_58_18 hP3, zp_58_19 hP3, zp_58_20 hP3, zp_58_21 hP3, zp_58_22 hP3, zp_58_24 hP3, zp_58_26 hP3, zp_58_29 hP3, zp_58_32 hP3, zp_58_33 hP3, zp_58_34 hP3, zp_58_35 hP3, zp_58_36 hP3, zp_58_37 hP3, zp_58_38 hP3, zp_58_39 hP3, zB_0, n_a1]
          refine ⟨fun hc => ?_, fun hc => ?_⟩
          · rw [if_pos hc] at hy
            exact ih (t + 1) N u M3 _ _ (by omega) k1 k2 hz hV hu hy
          · have hc := Classical.not_not.mp hc
            rw [if_neg (fun z => z hc)] at hy
            cases hf : (zcq q 0).2.1 (po (zpq q 0) (t % pn (zpq q 0))) with
            | none => exact absurd hf f5
            | some f =>
            have hfn := hMF3.1.1.2.2 _ f hf
            have hn16 := hv.1.1
            have e4 : pe (zpq q 0) (po (zpq q 0) (t % pn (zpq q 0))) = znu (zcq q 0) (po (zpq q 0) (t % pn (zpq q 0))) 4 := rfl
            have c82 : zf_I M3 82 s' = nI ((qS q).2.1 s') := by rw [(k1.2.1 82 (by omega) s').1]; exact (hM2.2.2.2.2.2.2.1 s' (by omega)).2.1
            have nus : (nI u = nI ((qS q).2.1 s')) = ¬ u < (qS q).2.1 s' := by
              rw [n_eq (by omega) (by omega)]
              exact propext ⟨fun z => by omega, fun z => by omega⟩
            rw [e4] at hy
            refine s121 hP3 hMF3.1.1 k2 hk hf ?_
            have kc := n_cl (show po (zpq q 0) (t % pn (zpq q 0)) < 2 ^ 31 by omega)
            have kn := n_in hk (show 6 < 2 ^ 31 by decide)
            simp only [w152_113, w152_116, w152_117, w152_120, w152_122, w152_123, w152_124, w152_127, w152_128, w152_129, w152_132, w152_133, w152_134, w152_137, w152_138, w152_139, zk_sI, zk_sJ, zk_sP, zn_sI, zn_sJ, zn_sP, zI_sI, zI_sJ, zI_sP, zJ_sI, zJ_sJ, zJ_sP, zP_sI, zP_sJ, zP_sP, Option.toList_some, Option.toList_none, List.cons_append, List.nil_append, zk_of hP3.1, zn_of hP3.1, zix, ziN, ne_eq, reduceCtorEq, not_false_eq_true, true_and, and_true, Option.getD_some, Nat.reduceLeDiff, Nat.reduceLT, c_ofNat, zkd58, zp_58_1 hP3, zp_58_2 hP3, zp_58_6 hP3, zp_58_7 hP3, zp_58_10 hP3, zp_58_11 hP3, zp_58_12 hP3, zp_58_14 hP3, zp_58_15 hP3, zp_58_17 hP3, zp_58_18 hP3, zp_58_19 hP3, zp_58_20 hP3, zp_58_21 hP3, zp_58_22 hP3, zp_58_24 hP3, zp_58_26 hP3, zp_58_29 hP3, zp_58_32 hP3, zp_58_33 hP3, zp_58_34 hP3, zp_58_35 hP3, zp_58_36 hP3, zp_58_37 hP3, zp_58_38 hP3, zp_58_39 hP3, zkd65, znd65, zfx65, zkd82, znd82, zfx82, zB_0, x0, x1, c82, nus, kc, kn]
            have hHV : zV (zpq q 0) (zhit (nI (pk (zpq q 0) (po (zpq q 0) (t % pn (zpq q 0))))) (pa (zpq q 0)) (pf (zpq q 0) (po (zpq q 0) (t % pn (zpq q 0)))) (pl (zpq q 0)) N (po (zpq q 0) (t % pn (zpq q 0)))) := zV_hit hpo hV hk
            refine ⟨fun hfl => ?_, fun hfl => ?_⟩
            · rw [if_neg hfl] at hy
              refine ⟨fun hus => ?_, fun hus => ?_⟩
              · have hus := Classical.not_not.mp hus
                rw [if_neg (fun z => z hus)] at hy
                have e60 : (60 : Int32) * nI s' = nI (60 * s') := pk_mul 60 s'
                have e83 : zf_I M3 83 (60 * s' + u) = (qS q).2.2 s' u := by
                  rw [(k1.2.1 83 (by omega) _).1]
                  exact (hM2.2.2.2.2.2.2.1 s' (by omega)).2.2 u hus (by omega)
                have ew : zf_I M3 61 (po (zpq q 0) (t % pn (zpq q 0))) = nI f := by rw [hMF3.1.1.2.1 _ hk, hf]; rfl
                have e62 : (6 : Int32) * nI f + 2 = nI (6 * f + 2) := by rw [n_m6]; exact nI_add _ 2
                have eph : ph (zpq q 0) (po (zpq q 0) (t % pn (zpq q 0))) = znu (zcq q 0) (po (zpq q 0) (t % pn (zpq q 0))) 2 := rfl
                have e7 : zf_I M3 59 (6 * f + 2) = nI (ph (zpq q 0) (po (zpq q 0) (t % pn (zpq q 0)))) := by
                  rw [hMF3.1.1.1.2 (6 * f + 2) (by omega), eph]
                  simp only [znu, hf]
                simp only [w152_143, w152_144, w152_147, w152_149, w152_150, w152_151, w152_152, w152_153, w152_154, w152_156, w152_159, w152_161, w152_162, w152_163, w152_164, w152_167, w152_169, w152_170, w152_173, w152_175, w152_176, w152_177, w152_178, w152_179, w152_180, w152_181, zk_sI, zk_sJ, zk_sP, zn_sI, zn_sJ, zn_sP, zI_sI, zI_sJ, zI_sP, zJ_sI, zJ_sJ, zJ_sP, zP_sI, zP_sJ, zP_sP, Option.toList_some, Option.toList_none, List.cons_append, List.nil_append, zk_of hP3.1, zn_of hP3.1, zix, ziN, ne_eq, reduceCtorEq, not_false_eq_true, true_and, and_true, Option.getD_some, Nat.reduceLeDiff, Nat.reduceLT, c_ofNat, zkd58, zp_58_1 hP3, zp_58_2 hP3, zp_58_6 hP3, zp_58_7 hP3, zp_58_10 hP3, zp_58_11 hP3, zp_58_12 hP3, zp_58_14 hP3, zp_58_15 hP3, zp_58_17 hP3, zp_58_18 hP3, zp_58_19 hP3, zp_58_20 hP3, zp_58_21 hP3, zp_58_22 hP3, zp_58_24 hP3, zp_58_26 hP3, zp_58_29 hP3, zp_58_32 hP3, zp_58_33 hP3, zp_58_34 hP3, zp_58_35 hP3, zp_58_36 hP3, zp_58_37 hP3, zp_58_38 hP3, zp_58_39 hP3, zkd59, znd59, zfx59, zkd61, znd61, zfx61, zkd83, znd83, zfx83, e60, nI_add, e83, kc, kn, ew, e62, e7, n_a1, n_cl (show 60 * s' + u < 2 ^ 31 by omega), n_in (show 60 * s' + u < 240 by omega) (show 240 < 2 ^ 31 by decide), n_cl (show 6 * f + 2 < 2 ^ 31 by omega), n_in (show 6 * f + 2 < 96 by omega) (show 96 < 2 ^ 31 by decide)]
                refine s103i 1 (nI (ph (zpq q 0) (po (zpq q 0) (t % pn (zpq q 0))))) rfl rfl ?_
                simp only [w152_184, w152_187, w152_188, w152_190, zk_sI, zk_sJ, zk_sP, zn_sI, zn_sJ, zn_sP, zI_sI, zI_sJ, zI_sP, zJ_sI, zJ_sJ, zJ_sP, zP_sI, zP_sJ, zP_sP, Option.toList_some, Option.toList_none, List.cons_append, List.nil_append, zk_of hP3.1, zn_of hP3.1, zix, ziN, ne_eq, reduceCtorEq, not_false_eq_true, true_and, and_true, Option.getD_some, Nat.reduceLeDiff, Nat.reduceLT, c_ofNat, zkd58, zp_58_1 hP3, zp_58_2 hP3, zp_58_6 hP3, zp_58_7 hP3, zp_58_10 hP3, zp_58_11 hP3, zp_58_12 hP3, zp_58_14 hP3, zp_58_15 hP3, zp_58_17 hP3, zp_58_18 hP3, zp_58_19 hP3, zp_58_20 hP3, zp_58_21 hP3, zp_58_22 hP3, zp_58_24 hP3, zp_58_26 hP3, zp_58_29 hP3, zp_58_32 hP3, zp_58_33 hP3, zp_58_34 hP3, zp_58_35 hP3, zp_58_36 hP3, zp_58_37 hP3, zp_58_38 hP3, zp_58_39 hP3, zB_0]
                refine ⟨fun hzin => ?_, fun hzin => ?_⟩
                · rw [if_neg hzin] at hy
                  refine af M3 N (u + 1) _ _ k1 k2 hV (by omega) ?_
                  rw [if_pos hz]
                  exact hy
                · rw [if_pos (Classical.not_not.mp hzin)] at hy
                  refine s122 hP3 hMF3.1.1 (hMF3.1.2.1 _ hk) hMF3.1.2.2.2.1 k2 hk hf hz hc.1 f6 (fun M4 w1 w2 => ?_)
                  exact af M4 _ (u + 1) _ _ (zF_tr k1 w1) w2 hHV (by omega) hy
              · have hus : ¬ u < (qS q).2.1 s' := fun z => hus (fun y => y z)
                rw [if_pos hus] at hy
                exact fail M3 _ k1 hy.symm
            · have hfl := Classical.not_not.mp hfl
              rw [if_pos hfl] at hy
              have hd := dg_lt N (po (zpq q 0) (t % pn (zpq q 0)))
              have hS : zV (zpq q 0) (sd N (po (zpq q 0) (t % pn (zpq q 0))) (dg N (po (zpq q 0) (t % pn (zpq q 0))) % 32)) := zV_sd hV hk (by omega) (fun hne => by
                obtain ⟨g1, g2⟩ := hV.2 _ hk (by omega)
                exact ⟨g1, by omega⟩)
              refine ⟨rfl, af _ _ u _ _ (zF_sI k1 (Or.inr rfl)) ?_ hS hu hy⟩
              intro j hj
              simp only [zI_sI, Nat.reduceEqDiff, if_false, if_true]
              by_cases e : j = po (zpq q 0) (t % pn (zpq q 0))
              · rw [if_pos e, e, dg_sd hk (by omega), zB_f (by omega), (k2 _ hk).1]
                exact ⟨by congr 1; omega, rfl⟩
              · rw [if_neg e, dg_sd_ne hk hj (by omega) e]
                exact k2 j hj
      by_cases hz : zwin (zst (zpq q 0)) = -1
      · rw [if_pos hz] at hq
        have e2 : zwm (zst (zpq q 0)) = 2 := by unfold zwm; rw [if_pos hz]
        rw [e2]
        simp only [w152_40, w152_41, w152_42, w152_43, w152_46, w152_47, w152_50, w152_51, w152_54, w152_56, w152_57, zk_sI, zk_sJ, zk_sP, zn_sI, zn_sJ, zn_sP, zI_sI, zI_sJ, zI_sP, zJ_sI, zJ_sJ, zJ_sP, zP_sI, zP_sJ, zP_sP, Option.toList_some, Option.toList_none, List.cons_append, List.nil_append, zk_of hP2.1, zn_of hP2.1, zix, ziN, ne_eq, reduceCtorEq, not_false_eq_true, true_and, and_true, Option.getD_some, Nat.reduceLeDiff, Nat.reduceLT, c_ofNat, zkd58, zp_58_1 hP2, zp_58_2 hP2, zp_58_6 hP2, zp_58_7 hP2, zp_58_10 hP2, zp_58_11 hP2, zp_58_12 hP2, zp_58_14 hP2, zp_58_15 hP2, zp_58_17 hP2, zp_58_18 hP2, zp_58_19 hP2, zp_58_20 hP2, zp_58_21 hP2, zp_58_22 hP2, zp_58_24 hP2, zp_58_26 hP2, zp_58_29 hP2, zp_58_32 hP2, zp_58_33 hP2, zp_58_34 hP2, zp_58_35 hP2, zp_58_36 hP2, zp_58_37 hP2, zp_58_38 hP2, zp_58_39 hP2, h23, Int32.le_refl, true_implies, not_true_eq_false, false_implies, and_true]
        refine s128 (a := (qL q).1) (b := pn (zpq q 0)) hP2 h23 h29 ?_
        simp only [w152_60, w152_62, w152_63, zk_sI, zk_sJ, zk_sP, zn_sI, zn_sJ, zn_sP, zI_sI, zI_sJ, zI_sP, zJ_sI, zJ_sJ, zJ_sP, zP_sI, zP_sJ, zP_sP, Option.toList_some, Option.toList_none, List.cons_append, List.nil_append]
        exact loop (pr (zpq q 0) * pn (zpq q 0)) 0 (zst (zpq q 0)) 0 M2 _ _ (Nat.zero_add _).symm (zF_rf _ _) hS2 hz (zst_V hpo) (Nat.zero_le _) hq.symm
      · rw [if_neg hz] at hq
        have he2 : zwe (zst (zpq q 0)) < 2 := by unfold zwe; split <;> decide
        have e2 : zwm (zst (zpq q 0)) = nI (zwe (zst (zpq q 0))) := by
          unfold zwm
          rw [if_neg hz]
          exact zwin_e hz
        have ne2 : ¬ nI (zwe (zst (zpq q 0))) = 2 := by
          rw [c_2, n_eq (by omega) (by decide)]
          omega
        have nl2 : ¬ (2 : Int32) ≤ nI (zwe (zst (zpq q 0))) := by
          rw [c_2, n_le (by decide) (by omega)]
          omega
        have hf := fun l5 l6 l7 l8 => fin M2 (zst (zpq q 0)) 0 0 l5 l6 l7 l8 (zF_rf _ _) hS2 hq
        rw [e2] at hf ⊢
        simp only [w152_40, w152_41, w152_42, w152_43, w152_46, w152_47, w152_50, w152_51, w152_54, w152_56, w152_57, zk_sI, zk_sJ, zk_sP, zn_sI, zn_sJ, zn_sP, zI_sI, zI_sJ, zI_sP, zJ_sI, zJ_sJ, zJ_sP, zP_sI, zP_sJ, zP_sP, Option.toList_some, Option.toList_none, List.cons_append, List.nil_append, zk_of hP2.1, zn_of hP2.1, zix, ziN, ne_eq, reduceCtorEq, not_false_eq_true, true_and, and_true, Option.getD_some, Nat.reduceLeDiff, Nat.reduceLT, c_ofNat, zkd58, zp_58_1 hP2, zp_58_2 hP2, zp_58_6 hP2, zp_58_7 hP2, zp_58_10 hP2, zp_58_11 hP2, zp_58_12 hP2, zp_58_14 hP2, zp_58_15 hP2, zp_58_17 hP2, zp_58_18 hP2, zp_58_19 hP2, zp_58_20 hP2, zp_58_21 hP2, zp_58_22 hP2, zp_58_24 hP2, zp_58_26 hP2, zp_58_29 hP2, zp_58_32 hP2, zp_58_33 hP2, zp_58_34 hP2, zp_58_35 hP2, zp_58_36 hP2, zp_58_37 hP2, zp_58_38 hP2, zp_58_39 hP2, nl2, not_false_eq_true, true_implies, false_implies, true_and]
        refine s128 (a := (qL q).1) (b := pn (zpq q 0)) hP2 h23 h29 ?_
        simp only [w152_60, w152_62, w152_63, zk_sI, zk_sJ, zk_sP, zn_sI, zn_sJ, zn_sP, zI_sI, zI_sJ, zI_sP, zJ_sI, zJ_sJ, zJ_sP, zP_sI, zP_sJ, zP_sP, Option.toList_some, Option.toList_none, List.cons_append, List.nil_append]
        rw [w152_65]
        simp only [w152_67, w152_69, w152_72, w152_73, w152_74, zk_sI, zk_sJ, zk_sP, zn_sI, zn_sJ, zn_sP, zI_sI, zI_sJ, zI_sP, zJ_sI, zJ_sJ, zJ_sP, zP_sI, zP_sJ, zP_sP, Option.toList_some, Option.toList_none, List.cons_append, List.nil_append, ne2, not_false_eq_true, true_implies, not_true_eq_false, false_implies, and_true]
        exact ⟨fun _ => hf _ _ _ _, fun _ => hf _ _ _ _⟩
    · have g2' : (qS q).1 s' < 0 := Int32.not_le.mp g2
      rw [if_pos g2', if_pos g2'] at h
      refine s154 hP ?_
      simp only [w152_24, zk_sI, zk_sJ, zk_sP, zn_sI, zn_sJ, zn_sP, zI_sI, zI_sJ, zI_sP, zJ_sI, zJ_sJ, zJ_sP, zP_sI, zP_sJ, zP_sP, Option.toList_some, Option.toList_none, List.cons_append, List.nil_append]
      obtain ⟨y1, y2⟩ := zKM_f (v := 1) hM
      exact h _ y1 y2
  · have := h M (zF_rf _ _)
    rw [if_neg (fun z => g (fun y => y z)), if_neg (fun z => g (fun y => y z))] at this
    exact this hM
end ZMq
