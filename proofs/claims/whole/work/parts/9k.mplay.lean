/-! ===== play: the model's ===== -/
section ZMq
variable {X : zf_X} {M : zf_M} {Q : Option Value → zf_M → Prop} {q : tQ}
theorem M152 {s : Int32} (hv : vQ q) (hP : zPk M) (hM : zKM q M) (h : ∀ M1, zDn M M1 → zKM (nPlay q s) M1 → Q (some (.int (aPlay q s))) M1) : zC X 152 [.ref 58, .int s] M Q := by
  unfold nPlay aPlay at h
  rw [c152]
  simp only [w152_0, w152_1, zk_sI, zk_sJ, zk_sP, zn_sI, zn_sJ, zn_sP, zI_sI, zI_sJ, zI_sP, zJ_sI, zJ_sJ, zJ_sP, zP_sI, zP_sJ, zP_sP, Option.toList_some, Option.toList_none, List.cons_append, List.nil_append]
  refine s155 ?_
  simp only [w152_4, w152_7, w152_9, w152_10, zk_sI, zk_sJ, zk_sP, zn_sI, zn_sJ, zn_sP, zI_sI, zI_sJ, zI_sP, zJ_sI, zJ_sJ, zJ_sP, zP_sI, zP_sJ, zP_sP, Option.toList_some, Option.toList_none, List.cons_append, List.nil_append, zk_of hP.1, zn_of hP.1, zix, ziN, ne_eq, reduceCtorEq, not_false_eq_true, true_and, and_true, Option.getD_some, Nat.reduceLeDiff, Nat.reduceLT, c_ofNat, zkd58, zp_58_1 hP, zp_58_2 hP, zp_58_6 hP, zp_58_7 hP, zp_58_10 hP, zp_58_11 hP, zp_58_12 hP, zp_58_14 hP, zp_58_15 hP, zp_58_17 hP, zp_58_18 hP, zp_58_19 hP, zp_58_20 hP, zp_58_21 hP, zp_58_22 hP, zp_58_24 hP, zp_58_26 hP, zp_58_29 hP, zp_58_32 hP, zp_58_33 hP, zp_58_34 hP, zp_58_35 hP, zp_58_36 hP, zp_58_37 hP, zp_58_38 hP, zp_58_39 hP, zB_0]
  refine ⟨fun g => ?_, fun g => ?_⟩
  · have g := Classical.not_not.mp g
    rw [if_pos g, if_pos g] at h
    obtain ⟨s', sle, rfl⟩ := zin_o (n := 3) rfl (by decide) g
    rw [n_cl (by omega)] at h
    have hmS := hM.2.2.2.2.2.2.1
    obtain ⟨b1, b2, b3⟩ := hmS s' (by omega)
    have hvs := hv.2.2.2.2.2 s' (by omega)
    have x0 := n_cl (show s' < 2 ^ 31 by omega)
    have x1 := n_in (show s' < 4 by omega) (show 4 < 2 ^ 31 by decide)
    simp only [w152_10, w152_11, w152_14, w152_15, w152_16, w152_19, w152_20, w152_21, w152_24, w152_25, w152_26, w152_27, zk_sI, zk_sJ, zk_sP, zn_sI, zn_sJ, zn_sP, zI_sI, zI_sJ, zI_sP, zJ_sI, zJ_sJ, zJ_sP, zP_sI, zP_sJ, zP_sP, Option.toList_some, Option.toList_none, List.cons_append, List.nil_append, zk_of hP.1, zn_of hP.1, zix, ziN, ne_eq, reduceCtorEq, not_false_eq_true, true_and, and_true, Option.getD_some, Nat.reduceLeDiff, Nat.reduceLT, c_ofNat, zkd58, zp_58_1 hP, zp_58_2 hP, zp_58_6 hP, zp_58_7 hP, zp_58_10 hP, zp_58_11 hP, zp_58_12 hP, zp_58_14 hP, zp_58_15 hP, zp_58_17 hP, zp_58_18 hP, zp_58_19 hP, zp_58_20 hP, zp_58_21 hP, zp_58_22 hP, zp_58_24 hP, zp_58_26 hP, zp_58_29 hP, zp_58_32 hP, zp_58_33 hP, zp_58_34 hP, zp_58_35 hP, zp_58_36 hP, zp_58_37 hP, zp_58_38 hP, zp_58_39 hP, zkd81, znd81, zfx81, x0, x1, b1]
    refine ⟨fun g2 => ?_, fun g2 => ?_⟩
    · have g2' : ¬ (qS q).1 s' < 0 := Int32.not_lt.mpr g2
      rw [if_neg g2', if_neg g2'] at h
      refine s115q (b := 0) hv hP hM (by decide) (fun M1 e1 hP1 hM1 e4 => ?_)
      simp only [w152_30, w152_31, zk_sI, zk_sJ, zk_sP, zn_sI, zn_sJ, zn_sP, zI_sI, zI_sJ, zI_sP, zJ_sI, zJ_sJ, zJ_sP, zP_sI, zP_sJ, zP_sP, Option.toList_some, Option.toList_none, List.cons_append, List.nil_append, zk_of hP1.1, zn_of hP1.1, zix, ziN, ne_eq, reduceCtorEq, not_false_eq_true, true_and, and_true, Option.getD_some, Nat.reduceLeDiff, Nat.reduceLT, c_ofNat, zkd58, zp_58_1 hP1, zp_58_2 hP1, zp_58_6 hP1, zp_58_7 hP1, zp_58_10 hP1, zp_58_11 hP1, zp_58_12 hP1, zp_58_14 hP1, zp_58_15 hP1, zp_58_17 hP1, zp_58_18 hP1, zp_58_19 hP1, zp_58_20 hP1, zp_58_21 hP1, zp_58_22 hP1, zp_58_24 hP1, zp_58_26 hP1, zp_58_29 hP1, zp_58_32 hP1, zp_58_33 hP1, zp_58_34 hP1, zp_58_35 hP1, zp_58_36 hP1, zp_58_37 hP1, zp_58_38 hP1, zp_58_39 hP1]
      refine s116 hP1 e4.1 (fun M2 f1 f2 f3 f4 f5 => ?_)
      have hP2 := zPk_F hP1 f1
      have hX2 : zMX M M2 := zMX_tr e1 ⟨zF_mo f1 (fun c hc => by omega), fun j _ a _ _ _ => f2 j a⟩
      have hM2 := zKM_X hM hX2
      have hpo := zpq_ok (b := 0) hv (by decide)
      have hpn : (zol (zcq q 0) 6).length = pn (zpq q 0) := rfl
      have hprr : pr (zpq q 0) = (qL q).1 := rfl
      have hn6 := hpo.1
      have hr6 := hv.2.2.1
      have hS2 : zSM M2 (zst (zpq q 0)) := by
        intro k hk
        obtain ⟨u1, u2⟩ := f5 k hk
        have e := (zst_ok hpo).2 k hk
        by_cases hc : (zcq q 0).2.1 k = none
        · have e2 : ¬ ∃ i, i < pn (zpq q 0) ∧ po (zpq q 0) i = k := by
            rintro ⟨i, i1, i2⟩
            have h2 := (zod_6 (c := zcq q 0) i1).2
            have i2 : zod (zcq q 0) i = k := i2
            rw [i2] at h2
            exact h2 hc
          rw [if_neg e2] at e
          rw [e, u1, u2, zB_f (fun z => z hc), zB_f (by decide)]
          refine ⟨?_, rfl⟩
          simp only [znu, hc]
        · have e2 : ∃ i, i < pn (zpq q 0) ∧ po (zpq q 0) i = k := zod_sur hc hk
          rw [if_pos e2] at e
          obtain ⟨i, i1, i2⟩ := e2
          have h20 := (hpo.2.2.2.1 i i1).2.2.1
          rw [i2] at h20
          have ep : pl (zpq q 0) k = znu (zcq q 0) k 1 := rfl
          rw [e, u1, u2, zB_t hc, zB_t (by omega)]
          refine ⟨?_, rfl⟩
          rw [← ep]
          congr 1
          omega
      have hMF2 : zMF (zcq q 0) (qA q).1 (qL q).2.1 (qL q).2.2 (qL q).1 M2 := ⟨zMS_F e4 f1 (by omega) (by omega) (by omega) (fun j hj => f2 j (by omega)), f3, fun i hi => by
        have := f4 _ _ (zod_in hi)
        rw [show (zol (zcq q 0) 6).length - 1 - ((zol (zcq q 0) 6).length - 1 - i) = i by omega] at this
        exact this⟩
      have h23 : zf_I M2 58 3 = nI (qL q).1 := hMF2.1.2.2.1
      have h29 : zf_I M2 58 9 = nI (pn (zpq q 0)) := f3
      have hsl : (qL q).1 * pn (zpq q 0) ≤ 36 := Nat.mul_le_mul hr6.2 hn6
      simp only [w152_34, w152_35, w152_36, w152_37, zk_sI, zk_sJ, zk_sP, zn_sI, zn_sJ, zn_sP, zI_sI, zI_sJ, zI_sP, zJ_sI, zJ_sJ, zJ_sP, zP_sI, zP_sJ, zP_sP, Option.toList_some, Option.toList_none, List.cons_append, List.nil_append, zk_of hP2.1, zn_of hP2.1, zix, ziN, ne_eq, reduceCtorEq, not_false_eq_true, true_and, and_true, Option.getD_some, Nat.reduceLeDiff, Nat.reduceLT, c_ofNat, zkd58, zp_58_1 hP2, zp_58_2 hP2, zp_58_6 hP2, zp_58_7 hP2, zp_58_10 hP2, zp_58_11 hP2, zp_58_12 hP2, zp_58_14 hP2, zp_58_15 hP2, zp_58_17 hP2, zp_58_18 hP2, zp_58_19 hP2, zp_58_20 hP2, zp_58_21 hP2, zp_58_22 hP2, zp_58_24 hP2, zp_58_26 hP2, zp_58_29 hP2, zp_58_32 hP2, zp_58_33 hP2, zp_58_34 hP2, zp_58_35 hP2, zp_58_36 hP2, zp_58_37 hP2, zp_58_38 hP2, zp_58_39 hP2]
      refine s117 hP2 hS2 ?_
      clear e1 hP1 hM1 e4 f1 f2 f3 f4 f5
      have fin : ∀ (M3 : zf_M) (N u R : Nat) (l5 l6 l7 l8 : Slot), zF (fun c => c = 64 ∨ c = 65) M2 M3 → zSM M3 N → zpR q s' = some (N, u, R) → zW X 152 227 [.val (.ref 58), .val (.int (nI s')), .val (.int (nI u)), .val (.int (zwm N)), .val (.int (nI R)), l5, l6, l7, l8] [] M3 Q := by
        intro M3 N u R l5 l6 l7 l8 k1 k2 hz
        have hP3 := zPk_F hP2 k1
        simp only [hz] at h
        have v0 : vp_in 0 3 := vp_in_nI (n := 0) (by decide) (by decide)
        have v1 : vp_in 1 3 := vp_in_nI (n := 1) (by decide) (by decide)
        have v2 : vp_in 2 3 := vp_in_nI (n := 2) (by decide) (by decide)
        have d0 : Int32.toNatClampNeg 0 = 0 := rfl
        have d1 : Int32.toNatClampNeg 1 = 1 := rfl
        have d2 : Int32.toNatClampNeg 2 = 2 := rfl
        simp only [w152_227, w152_228, w152_231, w152_232, w152_233, w152_234, w152_235, w152_238, w152_239, w152_240, w152_241, w152_242, w152_245, w152_246, w152_248, w152_249, w152_250, zk_sI, zk_sJ, zk_sP, zn_sI, zn_sJ, zn_sP, zI_sI, zI_sJ, zI_sP, zJ_sI, zJ_sJ, zJ_sP, zP_sI, zP_sJ, zP_sP, Option.toList_some, Option.toList_none, List.cons_append, List.nil_append, zk_of hP3.1, zn_of hP3.1, zix, ziN, ne_eq, reduceCtorEq, not_false_eq_true, true_and, and_true, Option.getD_some, Nat.reduceLeDiff, Nat.reduceLT, c_ofNat, zkd58, zp_58_1 hP3, zp_58_2 hP3, zp_58_6 hP3, zp_58_7 hP3, zp_58_10 hP3, zp_58_11 hP3, zp_58_12 hP3, zp_58_14 hP3, zp_58_15 hP3, zp_58_17 hP3, zp_58_18 hP3, zp_58_19 hP3, zp_58_20 hP3, zp_58_21 hP3, zp_58_22 hP3, zp_58_24 hP3, zp_58_26 hP3, zp_58_29 hP3, zp_58_32 hP3, zp_58_33 hP3, zp_58_34 hP3, zp_58_35 hP3, zp_58_36 hP3, zp_58_37 hP3, zp_58_38 hP3, zp_58_39 hP3, zkd78, znd78, zfx78, v0, v1, v2, true_and, d0, d1, d2]
        have hF0 : zF (fun c => c = 64 ∨ c = 65 ∨ 78 ≤ c ∧ c ≤ 80) M2 (zf_sI (zf_sI (zf_sI M3 78 0 (zwm N)) 78 1 (nI u)) 78 2 (nI R)) := zF_sI (zF_sI (zF_sI (zF_mo k1 (fun c hc => by omega)) (by omega)) (by omega)) (by omega)
        have loop : ∀ (m k : Nat) (M4 : zf_M), k + m = 6 → zF (fun c => c = 79 ∨ c = 80) (zf_sI (zf_sI (zf_sI M3 78 0 (zwm N)) 78 1 (nI u)) 78 2 (nI R)) M4 → (∀ j, j < k → zf_I M4 79 j = zvo ((zcq q 0).2.1 j) ∧ zf_I M4 80 j = nI (dg N j % 32)) → zW X 152 252 [.val (.ref 58), .val (.int (nI s')), .val (.int (nI u)), .val (.int (zwm N)), .val (.int (nI R)), l5, .val (.int (nI k)), l7, l8] [] M4 Q := by
          intro m
          induction m with
          | zero =>
            intro k M4 hk y1 y2
            obtain rfl : k = 6 := by omega
            have hF4 : zF (fun c => c = 64 ∨ c = 65 ∨ 78 ≤ c ∧ c ≤ 80) M2 M4 := zF_tr hF0 (zF_mo y1 (fun c hc => by omega))
            rw [w152_252]
            simp only [w152_254, w152_256, w152_293, w152_294, zk_sI, zk_sJ, zk_sP, zn_sI, zn_sJ, zn_sP, zI_sI, zI_sJ, zI_sP, zJ_sI, zJ_sJ, zJ_sP, zP_sI, zP_sJ, zP_sP, Option.toList_some, Option.toList_none, List.cons_append, List.nil_append]
            refine ⟨fun _ => ?_, fun z => absurd (by decide) z⟩
            refine h M4 (zF_tr (zDn_X hX2) (zF_mo hF4 (fun c hc => by omega))) (zKM_P hM2 (fun c j kc k => (hF4.2.1 c (by unfold kM at kc; omega) j).1) ⟨?_, ?_, ?_, fun k hk => ?_⟩)
            · rw [(y1.2.1 78 (by omega) 0).1, zI_ne (by omega), zI_ne (by omega), zI_eq]
            · rw [(y1.2.1 78 (by omega) 1).1, zI_ne (by omega), zI_eq]
            · rw [(y1.2.1 78 (by omega) 2).1, zI_eq]
            · obtain ⟨w1, w2⟩ := y2 k hk
              show _ = zlv q N k
              rw [w1, w2]
              unfold zlv
              have hw := zvo_n (o := (zcq q 0).2.1 k) (fun f e => by have := hMF2.1.1.2.2 k f e; have := hv.1.1; omega)
              by_cases g3 : (zcq q 0).2.1 k = none
              · rw [if_pos (hw.mpr g3), if_pos g3]
              · rw [if_neg (fun z => g3 (hw.mp z)), if_neg g3]
          | succ m ih =>
            intro k M4 hk y1 y2
            have hF4 : zF (fun c => c = 64 ∨ c = 65 ∨ 78 ≤ c ∧ c ≤ 80) M2 M4 := zF_tr hF0 (zF_mo y1 (fun c hc => by omega))
            have hP4 := zPk_F hP2 hF4
            have e61 : zf_I M4 61 k = zvo ((zcq q 0).2.1 k) := by rw [(hF4.2.1 61 (by omega) k).1]; exact hMF2.1.1.2.1 k (by omega)
            have e64 : zf_I M4 64 k = nI (dg N k % 32) := by
              rw [(y1.2.1 64 (by omega) k).1, zI_ne (by omega), zI_ne (by omega), zI_ne (by omega)]
              exact (k2 k (by omega)).1
            rw [w152_252]
            simp only [w152_254, w152_256, w152_259, w152_260, w152_263, w152_265, w152_266, w152_269, w152_271, w152_272, w152_273, w152_274, w152_277, w152_279, w152_280, w152_283, w152_285, w152_286, w152_287, w152_290, zk_sI, zk_sJ, zk_sP, zn_sI, zn_sJ, zn_sP, zI_sI, zI_sJ, zI_sP, zJ_sI, zJ_sJ, zJ_sP, zP_sI, zP_sJ, zP_sP, Option.toList_some, Option.toList_none, List.cons_append, List.nil_append, zk_of hP4.1, zn_of hP4.1, zix, ziN, ne_eq, reduceCtorEq, not_false_eq_true, true_and, and_true, Option.getD_some, Nat.reduceLeDiff, Nat.reduceLT, c_ofNat, zkd58, zp_58_1 hP4, zp_58_2 hP4, zp_58_6 hP4, zp_58_7 hP4, zp_58_10 hP4, zp_58_11 hP4, zp_58_12 hP4, zp_58_14 hP4, zp_58_15 hP4, zp_58_17 hP4, zp_58_18 hP4, zp_58_19 hP4, zp_58_20 hP4, zp_58_21 hP4, zp_58_22 hP4, zp_58_24 hP4, zp_58_26 hP4, zp_58_29 hP4, zp_58_32 hP4, zp_58_33 hP4, zp_58_34 hP4, zp_58_35 hP4, zp_58_36 hP4, zp_58_37 hP4, zp_58_38 hP4, zp_58_39 hP4, zkd61, znd61, zfx61, zkd64, znd64, zfx64, zkd79, znd79, zfx79, zkd80, znd80, zfx80, n_cl (show k < 2 ^ 31 by omega), n_in (show k < 6 by omega) (show 6 < 2 ^ 31 by decide), e61, e64, n_a1, Nat.reduceEqDiff, if_false]
            rw [c_6, n_le (by decide) (by omega)]
            refine ⟨fun z => by omega, fun _ => ih (k + 1) _ (by omega) (zF_sI (zF_sI y1 (Or.inl rfl)) (Or.inr rfl)) (fun j hj => ?_)⟩
            by_cases e : j = k
            · rw [e, zI_ne (by omega), zI_eq, zI_eq]
              exact ⟨rfl, rfl⟩
            · rw [zI_ne (by omega), zI_ne (by omega), zI_ne (by omega), zI_ne (by omega)]
              exact y2 j (by omega)
        exact loop 6 0 _ rfl (zF_rf _ _) (fun j hj => by omega)
      trace_state
      sorry
    · have g2' : (qS q).1 s' < 0 := Int32.not_le.mp g2
      rw [if_pos g2', if_pos g2'] at h
      refine s154 hP ?_
      simp only [w152_24, zk_sI, zk_sJ, zk_sP, zn_sI, zn_sJ, zn_sP, zI_sI, zI_sJ, zI_sP, zJ_sI, zJ_sJ, zJ_sP, zP_sI, zP_sJ, zP_sP, Option.toList_some, Option.toList_none, List.cons_append, List.nil_append]
      obtain ⟨y1, y2⟩ := zKM_f (v := 1) hM
      exact h _ y1 y2
  · have := h M (zF_rf _ _)
    rw [if_neg (fun z => g (fun y => y z)), if_neg (fun z => g (fun y => y z))] at this
    exact this hM
end ZMq
