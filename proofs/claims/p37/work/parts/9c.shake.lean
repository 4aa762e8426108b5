/-! ===== shake, copy: the class's ===== -/
def zrs (seed : Int32) : Nat → Int32
  | 0 => seed
  | k + 1 => 1103515245 * zrs seed k + 12345
def zrq (r : Int32) : Int32 := (r.toUInt32 >>> (Int32.toUInt32 16 &&& Int32.toUInt32 31)).toInt32
def zrv (r : Int32) : Int32 := 1 + (zrq r - zrq r / 6 * 6)
theorem u32_i {y : UInt32} {m : Nat} (h : y.toNat = m) : y.toInt32 = nI m := by
  refine Int32.toBitVec_inj.mp ?_
  show y.toBitVec = BitVec.ofNat 32 m
  refine BitVec.eq_of_toNat_eq ?_
  have hy : y.toBitVec.toNat = y.toNat := rfl
  have hl : y.toNat < 2 ^ 32 := y.toBitVec.isLt
  rw [hy, BitVec.toNat_ofNat, h, Nat.mod_eq_of_lt (by rw [← h]; exact hl)]
theorem zrq_ok (r : Int32) : ∃ m, m < 65536 ∧ zrq r = nI m := by
  have e : (Int32.toUInt32 16 &&& Int32.toUInt32 31) = 16 := by decide
  have hl : r.toUInt32.toNat < 2 ^ 32 := r.toUInt32.toBitVec.isLt
  refine ⟨r.toUInt32.toNat / 2 ^ 16, by omega, ?_⟩
  unfold zrq
  rw [e]
  refine u32_i ?_
  rw [UInt32.toNat_shiftRight]
  show r.toUInt32.toNat >>> (16 % 32) = _
  rw [Nat.shiftRight_eq_div_pow]
theorem zrv_ok (r : Int32) : ∃ m, 1 ≤ m ∧ m ≤ 6 ∧ zrv r = nI m := by
  obtain ⟨m, m1, m2⟩ := zrq_ok r
  refine ⟨1 + m % 6, by omega, by omega, ?_⟩
  unfold zrv
  rw [m2, c_6, pk_rem (by omega) (by decide) (by decide), c_1, nI_add]
theorem zcv_small : ∀ f, zin f 0 2 → ∀ m, m ≤ 6 → zcv f (nI m) = nI m := by
  intro f hf m hm
  obtain ⟨k, k1, rfl⟩ := zin_o (n := 2) rfl (by decide) hf
  have key : ∀ k, k < 3 → ∀ m, m < 7 → zcv (nI k) (nI m) = nI m := by decide +kernel
  exact key k (by omega) m (by omega)
def aShake (q : tQ) (s : Int32) : Int32 := if zin s 0 3 then (if (qS q).1 s.toNatClampNeg < 0 then -10 - 1 else nI ((qS q).2.1 s.toNatClampNeg)) else -2
def nShake (q : tQ) (s r : Int32) : tQ := if zin s 0 3 then (if (qS q).1 s.toNatClampNeg < 0 then uF q 1 else uS q ((qS q).1, (qS q).2.1, zud (qS q).2.2 s.toNatClampNeg (fun i => zrv (zrs r (i + 1))))) else q
theorem vShake {q : tQ} (s r : Int32) (hv : vQ q) : vQ (nShake q s r) := by
  unfold nShake
  split
  · split
    · exact vQ_F hv
    · exact vQ_S hv hv.2.2.2.2.2
  · exact hv
section ZSl
variable {X : zf_X} {M : zf_M} {Q : Option Value → zf_M → Prop} {q : tQ}
theorem C81 {s r : Int32} (hv : vQ q) (hP : zPk M) (hC : zKC q M) (h : ∀ M1, zUp M M1 → zKC (nShake q s r) M1 → Q (some (.int (aShake q s))) M1) : zC X 81 [.ref 0, .int s, .int r] M Q := by
  unfold nShake aShake at h
  rw [c81]
  simp only [w81_0, w81_1, zk_sI, zk_sJ, zk_sP, zn_sI, zn_sJ, zn_sP, zI_sI, zI_sJ, zI_sP, zJ_sI, zJ_sJ, zJ_sP, zP_sI, zP_sJ, zP_sP, Option.toList_some, Option.toList_none, List.cons_append, List.nil_append]
  refine s87 ?_
  simp only [w81_4, w81_7, w81_9, w81_10, w81_11, w81_14, w81_15, zk_sI, zk_sJ, zk_sP, zn_sI, zn_sJ, zn_sP, zI_sI, zI_sJ, zI_sP, zJ_sI, zJ_sJ, zJ_sP, zP_sI, zP_sJ, zP_sP, Option.toList_some, Option.toList_none, List.cons_append, List.nil_append, zk_of hP.1, zn_of hP.1, zix, ziN, ne_eq, reduceCtorEq, not_false_eq_true, true_and, and_true, Option.getD_some, Nat.reduceLeDiff, Nat.reduceLT, c_ofNat, zkd0, zp_0_0 hP, zp_0_1 hP, zp_0_2 hP, zp_0_3 hP, zp_0_4 hP, zp_0_5 hP, zp_0_6 hP, zp_0_7 hP, zkd45, znd45, zfx45, zp_45_0 hP, zp_45_1 hP, zp_45_2 hP, zp_45_3 hP, zB_0]
  refine ⟨fun g => ?_, fun g => ?_⟩
  · have g := Classical.not_not.mp g
    rw [if_pos g, if_pos g] at h
    obtain ⟨s', s1, rfl⟩ := zin_o (n := 3) rfl (by decide) g
    rw [n_cl (by omega)] at h
    obtain ⟨hw, h45⟩ := zSw_of hP (show s' < 4 by omega)
    have hzd : zkd (50 + 2 * s') = 7 := by rw [← zk_of hP.1]; exact hw.2.1
    have hcS := hC.2.2.2.2.2.2.2.1
    obtain ⟨b1, b2, b3, b4⟩ := hcS s' (by omega)
    have hvs := hv.2.2.2.2.2 s' (by omega)
    have x0 := n_cl (show s' < 2 ^ 31 by omega)
    have x1 := n_in (show s' < 4 by omega) (show 4 < 2 ^ 31 by decide)
    simp only [w81_15, w81_16, w81_17, w81_18, w81_21, w81_24, w81_25, w81_26, w81_29, w81_30, w81_31, w81_33, w81_34, zk_sI, zk_sJ, zk_sP, zn_sI, zn_sJ, zn_sP, zI_sI, zI_sJ, zI_sP, zJ_sI, zJ_sJ, zJ_sP, zP_sI, zP_sJ, zP_sP, Option.toList_some, Option.toList_none, List.cons_append, List.nil_append, zk_of hP.1, zn_of hP.1, zix, ziN, ne_eq, reduceCtorEq, not_false_eq_true, true_and, and_true, Option.getD_some, Nat.reduceLeDiff, Nat.reduceLT, c_ofNat, zkd0, zp_0_0 hP, zp_0_1 hP, zp_0_2 hP, zp_0_3 hP, zp_0_4 hP, zp_0_5 hP, zp_0_6 hP, zp_0_7 hP, zkd45, znd45, zfx45, zp_45_0 hP, zp_45_1 hP, zp_45_2 hP, zp_45_3 hP, h45, hzd, x0, x1, or_true, true_or, b2, zB_0]
    refine ⟨fun g2 => ?_, fun g2 => ?_⟩
    · rw [if_neg g2, if_neg g2] at h
      have hfm : zin ((qS q).1 s') 0 2 := ⟨Int32.not_lt.mp g2, hvs.2⟩
      have loop : ∀ (m i : Nat) (M1 : zf_M), i + m = (qS q).2.1 s' → zF (fun c => c = 50 + 2 * s' + 1) M M1 → (∀ j, j < i → zf_I M1 (50 + 2 * s' + 1) j = zrv (zrs r (j + 1))) → zW X 81 36 [.val (.ref 0), .val (.int (nI s')), .val (.int r), .val (.ref (50 + 2 * s')), .val (.int (zrs r i)), .val (.int (nI i))] [] M1 Q := by
        intro m
        induction m with
        | zero =>
          intro i M1 hi hF hj
          obtain rfl : i = (qS q).2.1 s' := by omega
          have hP1 := zPk_F hP hF
          have c1 : zf_I M1 (50 + 2 * s') 2 = nI ((qS q).2.1 s') := by rw [(hF.2.1 _ (by omega) 2).1]; exact b1
          have hfin := h M1 (zUp_F hP hF (fun c hc => by omega)) (zKC_S hC (zLO_F hC.1 hF (fun c x y => by omega)) (fun c j _ k => (hF.2.1 c (by omega) j).1) (cS_up (s := s') hcS (fun c j x y => (hF.2.1 c y j).1) (fun t ht => ⟨rfl, rfl, zud_neq ht⟩) c1 (by rw [(hF.2.1 _ (by omega) 3).1]; exact b2) (fun z => by rw [(hF.2.1 _ (by omega) 1).1]; exact b3 z) (fun j hj2 => by rw [zud_eq]; exact hj j hj2)))
          rw [w81_36]
          simp only [w81_38, w81_39, w81_42, w81_45, w81_48, w81_50, w81_51, w81_54, w81_55, w81_57, w81_58, w81_60, w81_61, w81_63, w81_65, w81_66, w81_68, w81_69, w81_70, w81_73, w81_76, w81_79, w81_80, w81_83, zk_sI, zk_sJ, zk_sP, zn_sI, zn_sJ, zn_sP, zI_sI, zI_sJ, zI_sP, zJ_sI, zJ_sJ, zJ_sP, zP_sI, zP_sJ, zP_sP, Option.toList_some, Option.toList_none, List.cons_append, List.nil_append, zk_of hP1.1, zn_of hP1.1, zix, ziN, ne_eq, reduceCtorEq, not_false_eq_true, true_and, and_true, Option.getD_some, Nat.reduceLeDiff, Nat.reduceLT, c_ofNat, zkd0, zp_0_0 hP1, zp_0_1 hP1, zp_0_2 hP1, zp_0_3 hP1, zp_0_4 hP1, zp_0_5 hP1, zp_0_6 hP1, zp_0_7 hP1, hzd, c1, Int32.le_refl, true_implies, not_true_eq_false, false_implies, and_true]
          exact hfin
        | succ m ih =>
          intro i M1 hi hF hj
          have hP1 := zPk_F hP hF
          have hw1 := (zSw_of hP1 (show s' < 4 by omega)).1
          have c1 : zf_I M1 (50 + 2 * s') 2 = nI ((qS q).2.1 s') := by rw [(hF.2.1 _ (by omega) 2).1]; exact b1
          have c2 : zf_I M1 (50 + 2 * s') 1 = (qS q).1 s' := by rw [(hF.2.1 _ (by omega) 1).1]; exact b3 g2
          have ers : 1103515245 * zrs r i + 12345 = zrs r (i + 1) := rfl
          have erq : ((zrs r (i + 1)).toUInt32 >>> (Int32.toUInt32 16 &&& Int32.toUInt32 31)).toInt32 = zrq (zrs r (i + 1)) := rfl
          have n60 : ¬ (6 : Int32) = 0 := by decide
          rw [w81_36]
          simp only [w81_38, w81_39, w81_42, w81_45, w81_48, w81_50, w81_51, w81_54, w81_55, w81_57, w81_58, w81_60, w81_61, w81_63, w81_65, w81_66, w81_68, w81_69, w81_70, zk_sI, zk_sJ, zk_sP, zn_sI, zn_sJ, zn_sP, zI_sI, zI_sJ, zI_sP, zJ_sI, zJ_sJ, zJ_sP, zP_sI, zP_sJ, zP_sP, Option.toList_some, Option.toList_none, List.cons_append, List.nil_append, zk_of hP1.1, zn_of hP1.1, zix, ziN, ne_eq, reduceCtorEq, not_false_eq_true, true_and, and_true, Option.getD_some, Nat.reduceLeDiff, Nat.reduceLT, c_ofNat, zkd0, zp_0_0 hP1, zp_0_1 hP1, zp_0_2 hP1, zp_0_3 hP1, zp_0_4 hP1, zp_0_5 hP1, zp_0_6 hP1, zp_0_7 hP1, hzd, c1, ers, erq, n60, not_false_eq_true, true_and]
          rw [n_le (by omega) (by omega)]
          refine ⟨fun z => by omega, fun _ => ?_⟩
          have erv : 1 + (zrq (zrs r (i + 1)) - zrq (zrs r (i + 1)) / 6 * 6) = zrv (zrs r (i + 1)) := rfl
          obtain ⟨k, k1, k2, k3⟩ := zrv_ok (zrs r (i + 1))
          rw [erv]
          refine s48 hw1 c1 hvs.1 (show i < (qS q).2.1 s' by omega) ?_
          rw [c2, k3, zcv_small _ hfm k k2, ← k3]
          simp only [w81_73, w81_76, zk_sI, zk_sJ, zk_sP, zn_sI, zn_sJ, zn_sP, zI_sI, zI_sJ, zI_sP, zJ_sI, zJ_sJ, zJ_sP, zP_sI, zP_sJ, zP_sP, Option.toList_some, Option.toList_none, List.cons_append, List.nil_append, n_a1]
          refine ih (i + 1) _ (by omega) (zF_sI hF rfl) (fun j hj2 => ?_)
          by_cases e : j = i
          · rw [e, zI_eq]
          · rw [zI_ne (by omega)]
            exact hj j (by omega)
      exact loop ((qS q).2.1 s') 0 M (Nat.zero_add _) (zF_rf _ _) (fun j hj => by omega)
    · have g2 := Classical.not_not.mp g2
      rw [if_pos g2, if_pos g2] at h
      refine s93 hP ?_
      simp only [w81_29, zk_sI, zk_sJ, zk_sP, zn_sI, zn_sJ, zn_sP, zI_sI, zI_sJ, zI_sP, zJ_sI, zJ_sJ, zJ_sP, zP_sI, zP_sJ, zP_sP, Option.toList_some, Option.toList_none, List.cons_append, List.nil_append]
      obtain ⟨x1, x2⟩ := zKC_f (v := 1) hP hC
      exact h _ x1 x2
  · have := h M (zUp_rf hP)
    rw [if_neg (fun z => g (fun y => y z)), if_neg (fun z => g (fun y => y z))] at this
    exact this hC
end ZSl

