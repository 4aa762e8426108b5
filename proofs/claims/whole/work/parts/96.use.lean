/-! ===== the day ===== -/
def zwd (q : tQ) : Nat → Bool
  | 0 => false
  | n + 1 => zwd q n || (decide (zcc q n 0 = -5) || decide (zcc q n (qD q).2.2.2 = -5))
def zcn (q : tQ) (f b : Nat) : Nat := (zcc q f b).toNatClampNeg
def zsu (q : tQ) (u : Nat) : Nat → Nat
  | 0 => 0
  | n + 1 => zsu q u n + if u / 2 ^ n % 2 = 1 then zcn q n (qD q).2.2.2 else zcn q n 0
def zpc (u : Nat) : Nat := u % 2 + u / 2 % 2 + u / 4 % 2 + u / 8 % 2 + u / 16 % 2 + u / 32 % 2
def zpn (u : Nat) : Nat → Nat
  | 0 => 0
  | n + 1 => zpn u n + u / 2 ^ n % 2
theorem zpn_e : ∀ d, d < 7 → ∀ u, u < 64 → u < 2 ^ d → zpn u d = zpc u := by decide +kernel
def zbe (q : tQ) : Nat → Nat
  | 0 => 0
  | k + 1 => if zpc (k + 1) ≤ (qD q).2.2.1 ∧ (zsu q (zbe q k) (qD q).1 < zsu q (k + 1) (qD q).1 ∨ zsu q (k + 1) (qD q).1 = zsu q (zbe q k) (qD q).1 ∧ zpc (k + 1) < zpc (zbe q k)) then k + 1 else zbe q k
theorem zbe_le (q : tQ) : ∀ k, zbe q k ≤ k
  | 0 => Nat.le_refl _
  | k + 1 => by
    rw [zbe]
    have := zbe_le q k
    split <;> omega
theorem zpc_le (u : Nat) : zpc u ≤ 6 := by unfold zpc; omega
theorem zcn_ok {q : tQ} {f b : Nat} (hv : vQ q) (hf : f < (qD q).1) (hb : b ≤ 9) (hn : zcc q f b ≠ -5) : zcc q f b = nI (zcn q f b) ∧ zcn q f b ≤ 1000000 := by
  rcases zchn_or (zpo_ok hv hf hb) with g | ⟨k, k1, k2⟩
  · exact absurd g hn
  · have e : zcc q f b = nI k := k2
    unfold zcn
    rw [e, n_cl (by omega)]
    exact ⟨rfl, k1⟩
theorem zwd_no {q : tQ} : ∀ {n : Nat}, zwd q n = false → ∀ f, f < n → zcc q f 0 ≠ -5 ∧ zcc q f (qD q).2.2.2 ≠ -5
  | n + 1, h, f, hf => by
    rw [zwd, Bool.or_eq_false_iff, Bool.or_eq_false_iff, decide_eq_false_iff_not, decide_eq_false_iff_not] at h
    by_cases e : f = n
    · rw [e]
      exact h.2
    · exact zwd_no h.1 f (by omega)
theorem zsu_le {q : tQ} {u : Nat} (h : ∀ f, f < (qD q).1 → zcn q f 0 ≤ 1000000 ∧ zcn q f (qD q).2.2.2 ≤ 1000000) : ∀ n, n ≤ (qD q).1 → zsu q u n ≤ n * 1000000
  | 0, _ => Nat.le_refl _
  | n + 1, hn => by
    have ih := zsu_le (u := u) h n (by omega)
    have h2 := h n (by omega)
    rw [zsu]
    split <;> omega
def aRD (q : tQ) : Int32 := if (qD q).1 = 0 ∨ (qB q).1.1 = 0 then -3 else if zwd q (qD q).1 = true then -5 else 0
/-- the chances of the day in the class's memory -/
def zDC (q : tQ) (n : Nat) (M : zf_M) : Prop := ∀ f, f < n → zf_I M 28 f = zcc q f 0 ∧ zf_I M 29 f = zcc q f (qD q).2.2.2
section ZUs
variable {X : zf_X} {M : zf_M} {Q : Option Value → zf_M → Prop} {q : tQ}
theorem s165 {u : Nat} (hu : u < 64) (h : Q (some (.int (nI (zpc u)))) M) : zC X 165 [.int (nI u)] M Q := by
  rw [c165]
  simp only [w165_0, w165_1, w165_2, w165_3, w165_4, w165_7, w165_8, w165_9, w165_10, w165_11, w165_14, w165_15, w165_16, w165_17, w165_18, w165_21, w165_22, w165_23, w165_24, w165_25, w165_26, w165_27, w165_28, w165_29, w165_32, w165_33, w165_34, w165_35, w165_36, w165_38, w165_39, w165_40, w165_41, w165_42, w165_43, w165_45, w165_46, w165_47, w165_48, w165_49, w165_51, w165_52, zk_sI, zk_sJ, zk_sP, zn_sI, zn_sJ, zn_sP, zI_sI, zI_sJ, zI_sP, zJ_sI, zJ_sJ, zJ_sP, zP_sI, zP_sJ, zP_sP, Option.toList_some, Option.toList_none, List.cons_append, List.nil_append]
  refine Eq.mpr (congrArg (fun x => Q (some (.int x)) M) (?_ : _ = nI (zpc u))) h
  clear h
  revert hu
  revert u
  decide +kernel
theorem C100 (hv : vQ q) (hP : zPk M) (hC : zKC q M) (h : ∀ M1, zUp M M1 → zKC q M1 → (aRD q = 0 → zDC q (qD q).1 M1) → Q (some (.int (aRD q))) M1) : zC X 100 [.ref 0] M Q := by
  have h6 := hv.2.2.2.1.1
  have hb9 := hv.2.2.2.1.2.2.1
  have h3 := hv.2.1.1.1
  have hD := hC.2.2.2.2.1
  have hB := hC.2.2.1
  unfold aRD at h
  rw [c100]
  have z0 : (nI (qB q).1.1 = 0) = ((qB q).1.1 = 0) := by rw [c_0, n_eq (by omega) (by decide)]
  have z1 : (nI (qD q).1 = 0) = ((qD q).1 = 0) := by rw [c_0, n_eq (by omega) (by decide)]
  have h0 : ((qD q).1 = 0 ∨ (qB q).1.1 = 0) → Q (some (.int (-3))) M := by
    intro g
    have := h M (zUp_rf hP) hC
    rw [if_pos g] at this
    exact this (fun z => absurd z (by decide))
  simp only [w100_0, w100_1, w100_4, w100_7, w100_10, w100_11, w100_14, w100_15, w100_16, w100_19, w100_22, w100_24, w100_25, w100_26, w100_28, w100_29, w100_32, w100_35, w100_38, w100_39, w100_42, w100_45, w100_46, w100_47, w100_48, w100_51, w100_54, w100_55, w100_56, w100_57, w100_60, w100_61, w100_62, w100_65, w100_68, w100_69, w100_70, w100_71, w100_74, w100_77, w100_78, w100_79, w100_80, w100_83, w100_86, w100_89, w100_90, w100_91, w100_94, w100_97, w100_98, w100_99, w100_101, w100_104, w100_105, w100_108, w100_111, w100_112, w100_113, w100_115, w100_118, w100_120, w100_121, w100_124, w100_127, w100_128, zk_sI, zk_sJ, zk_sP, zn_sI, zn_sJ, zn_sP, zI_sI, zI_sJ, zI_sP, zJ_sI, zJ_sJ, zJ_sP, zP_sI, zP_sJ, zP_sP, Option.toList_some, Option.toList_none, List.cons_append, List.nil_append, zk_of hP.1, zn_of hP.1, zix, ziN, ne_eq, reduceCtorEq, not_false_eq_true, true_and, and_true, Option.getD_some, Nat.reduceLeDiff, Nat.reduceLT, c_ofNat, zkd0, zp_0_0 hP, zp_0_1 hP, zp_0_2 hP, zp_0_3 hP, zp_0_4 hP, zp_0_5 hP, zp_0_6 hP, zp_0_7 hP, zkd3, znd3, zfx3, zp_3_0 hP, zp_3_1 hP, zkd26, zp_26_0 hP, zp_26_1 hP, zp_26_2 hP, zkd46, zp_46_0 hP, in02, true_or, zp30 hP, hD.1, hB.1, z0, z1]
  have loop : ¬ ((qD q).1 = 0 ∨ (qB q).1.1 = 0) → ∀ (m i : Nat) (M1 : zf_M), i + m = (qD q).1 → zUp M M1 → zKC q M1 → zwd q i = false → zDC q i M1 → zW X 100 27 [.val (.ref 0), .val (.int (nI i))] [] M1 Q := by
    intro hn m
    rw [if_neg hn] at h
    induction m with
    | zero =>
      intro i M1 hi u1 k1 w1 d1
      obtain rfl : i = (qD q).1 := by omega
      have hP1 := u1.1
      rw [w1, if_neg (by decide)] at h
      rw [w100_27]
      simp only [w100_0, w100_1, w100_4, w100_7, w100_10, w100_11, w100_14, w100_15, w100_16, w100_19, w100_22, w100_24, w100_25, w100_26, w100_28, w100_29, w100_32, w100_35, w100_38, w100_39, w100_42, w100_45, w100_46, w100_47, w100_48, w100_51, w100_54, w100_55, w100_56, w100_57, w100_60, w100_61, w100_62, w100_65, w100_68, w100_69, w100_70, w100_71, w100_74, w100_77, w100_78, w100_79, w100_80, w100_83, w100_86, w100_89, w100_90, w100_91, w100_94, w100_97, w100_98, w100_99, w100_101, w100_104, w100_105, w100_108, w100_111, w100_112, w100_113, w100_115, w100_118, w100_120, w100_121, w100_124, w100_127, w100_128, zk_sI, zk_sJ, zk_sP, zn_sI, zn_sJ, zn_sP, zI_sI, zI_sJ, zI_sP, zJ_sI, zJ_sJ, zJ_sP, zP_sI, zP_sJ, zP_sP, Option.toList_some, Option.toList_none, List.cons_append, List.nil_append, zk_of hP1.1, zn_of hP1.1, zix, ziN, ne_eq, reduceCtorEq, not_false_eq_true, true_and, and_true, Option.getD_some, Nat.reduceLeDiff, Nat.reduceLT, c_ofNat, zkd0, zp_0_0 hP1, zp_0_1 hP1, zp_0_2 hP1, zp_0_3 hP1, zp_0_4 hP1, zp_0_5 hP1, zp_0_6 hP1, zp_0_7 hP1, zkd26, zp_26_0 hP1, zp_26_1 hP1, zp_26_2 hP1, k1.2.2.2.2.1.1, Int32.le_refl]
      exact ⟨fun _ => h M1 u1 k1 (fun _ => d1), fun z => absurd trivial z⟩
    | succ m ih =>
      intro i M1 hi u1 k1 w1 d1
      have hP1 := u1.1
      obtain ⟨z27, zk27⟩ := zp27 hP1 (d := i) (by omega)
      have x0 := n_cl (show i < 2 ^ 31 by omega)
      have x1 := n_in (show i < 6 by omega) (show 6 < 2 ^ 31 by decide)
      rw [w100_27]
      simp only [w100_28, w100_29, w100_32, w100_35, w100_38, w100_39, w100_42, w100_45, w100_46, w100_47, w100_48, w100_51, w100_54, w100_55, w100_56, w100_57, zk_sI, zk_sJ, zk_sP, zn_sI, zn_sJ, zn_sP, zI_sI, zI_sJ, zI_sP, zJ_sI, zJ_sJ, zJ_sP, zP_sI, zP_sJ, zP_sP, Option.toList_some, Option.toList_none, List.cons_append, List.nil_append, zk_of hP1.1, zn_of hP1.1, zix, ziN, ne_eq, reduceCtorEq, not_false_eq_true, true_and, and_true, Option.getD_some, Nat.reduceLeDiff, Nat.reduceLT, c_ofNat, zkd0, zp_0_0 hP1, zp_0_1 hP1, zp_0_2 hP1, zp_0_3 hP1, zp_0_4 hP1, zp_0_5 hP1, zp_0_6 hP1, zp_0_7 hP1, zkd26, zp_26_0 hP1, zp_26_1 hP1, zp_26_2 hP1, zkd27, znd27, zfx27, zp_27_0 hP1, zp_27_1 hP1, zp_27_2 hP1, zp_27_3 hP1, zp_27_4 hP1, zp_27_5 hP1, k1.2.2.2.2.1.1, x0, x1, z27, zk27, true_or]
      rw [n_le (by omega) (by omega)]
      refine ⟨fun z => by omega, fun _ => ?_⟩
      refine C99 (b := 0) hv hP1 k1 (by omega) (by decide) (fun M2 g2 u2 k2 => ?_)
      have hP2 := u2.1
      have hF2 : zF (fun c => c = 28) M2 (zf_sI M2 28 i (zcc q i 0)) := zF_sI (zF_rf _ _) rfl
      have hP2' := zPk_F hP2 hF2
      have k2' : zKC q (zf_sI M2 28 i (zcc q i 0)) := zKC_fr k2 (zLO_F k2.1 hF2 (fun c x y => by omega)) (fun c j k _ => zI_ne (by unfold kC at k; omega))
      have u2' := zUp_tr u1 (zUp_tr u2 (zUp_F hP2 hF2 (fun c hc => by omega)))
      simp only [w100_60, w100_61, w100_62, w100_65, w100_68, w100_69, w100_70, w100_71, w100_74, w100_77, w100_78, w100_79, w100_80, w100_83, w100_86, zk_sI, zk_sJ, zk_sP, zn_sI, zn_sJ, zn_sP, zI_sI, zI_sJ, zI_sP, zJ_sI, zJ_sJ, zJ_sP, zP_sI, zP_sJ, zP_sP, Option.toList_some, Option.toList_none, List.cons_append, List.nil_append, zk_of hP2.1, zn_of hP2.1, zix, ziN, ne_eq, reduceCtorEq, not_false_eq_true, true_and, and_true, Option.getD_some, Nat.reduceLeDiff, Nat.reduceLT, c_ofNat, zkd0, zp_0_0 hP2, zp_0_1 hP2, zp_0_2 hP2, zp_0_3 hP2, zp_0_4 hP2, zp_0_5 hP2, zp_0_6 hP2, zp_0_7 hP2, zkd26, zp_26_0 hP2, zp_26_1 hP2, zp_26_2 hP2, zkd27, znd27, zfx27, zp_27_0 hP2, zp_27_1 hP2, zp_27_2 hP2, zp_27_3 hP2, zp_27_4 hP2, zp_27_5 hP2, zkd28, znd28, zfx28, x0, x1, (zp27 hP2 (d := i) (by omega)).1, zk27, true_or, k2.2.2.2.2.1.2.2.1, Nat.reduceEqDiff, if_false]
      have d2 : zDC q i (zf_sI M2 28 i (zcc q i 0)) ∧ zf_I (zf_sI M2 28 i (zcc q i 0)) 28 i = zcc q i 0 := by
        refine ⟨fun f hf => ?_, zI_eq⟩
        rw [zI_ne (by omega), zI_ne (by omega), (g2.2.1 28 (by omega) f).1, (g2.2.1 29 (by omega) f).1]
        exact d1 f hf
      clear hF2
      generalize zf_sI M2 28 i (zcc q i 0) = M3 at *
      refine C99 hv hP2' k2' (by omega) hb9 (fun M4 g4 u4 k4 => ?_)
      have hP4 := u4.1
      have hF4 : zF (fun c => c = 29) M4 (zf_sI M4 29 i (zcc q i (qD q).2.2.2)) := zF_sI (zF_rf _ _) rfl
      have k4' : zKC q (zf_sI M4 29 i (zcc q i (qD q).2.2.2)) := zKC_fr k4 (zLO_F k4.1 hF4 (fun c x y => by omega)) (fun c j k _ => zI_ne (by unfold kC at k; omega))
      have u4' := zUp_tr u2' (zUp_tr u4 (zUp_F hP4 hF4 (fun c hc => by omega)))
      have e28 : zf_I M4 28 i = zcc q i 0 := by rw [(g4.2.1 28 (by omega) i).1]; exact d2.2
      have d4 : zDC q (i + 1) (zf_sI M4 29 i (zcc q i (qD q).2.2.2)) := by
        intro f hf
        by_cases e : f = i
        · rw [e, zI_eq, zI_ne (by omega)]
          exact ⟨e28, rfl⟩
        · rw [zI_ne (by omega), zI_ne (by omega), (g4.2.1 28 (by omega) f).1, (g4.2.1 29 (by omega) f).1]
          exact d2.1 f (by omega)
      simp only [w100_89, w100_90, w100_91, w100_94, w100_97, w100_98, w100_99, w100_101, w100_104, w100_105, w100_108, w100_111, w100_112, w100_113, w100_115, w100_118, w100_120, w100_121, w100_124, zk_sI, zk_sJ, zk_sP, zn_sI, zn_sJ, zn_sP, zI_sI, zI_sJ, zI_sP, zJ_sI, zJ_sJ, zJ_sP, zP_sI, zP_sJ, zP_sP, Option.toList_some, Option.toList_none, List.cons_append, List.nil_append, zk_of hP4.1, zn_of hP4.1, zix, ziN, ne_eq, reduceCtorEq, not_false_eq_true, true_and, and_true, Option.getD_some, Nat.reduceLeDiff, Nat.reduceLT, c_ofNat, zkd0, zp_0_0 hP4, zp_0_1 hP4, zp_0_2 hP4, zp_0_3 hP4, zp_0_4 hP4, zp_0_5 hP4, zp_0_6 hP4, zp_0_7 hP4, zkd26, zp_26_0 hP4, zp_26_1 hP4, zp_26_2 hP4, zkd28, znd28, zfx28, zkd29, znd29, zfx29, x0, x1, e28, n_a1, Nat.reduceEqDiff, if_false, if_true]
      have bad : zcc q i 0 = -5 ∨ zcc q i (qD q).2.2.2 = -5 → Q (some (.int (-5))) (zf_sI M4 29 i (zcc q i (qD q).2.2.2)) := by
        intro g
        have ht : ∀ d, i + 1 + d = (qD q).1 → zwd q (qD q).1 = true := by
          have hs : zwd q (i + 1) = true := by
            rw [zwd]
            rcases g with g | g
            · rw [decide_eq_true g]
              simp
            · rw [decide_eq_true g]
              simp
          have hup : ∀ d, zwd q (i + 1 + d) = true := by
            intro d
            induction d with
            | zero => exact hs
            | succ d ihd =>
              rw [← Nat.add_assoc, zwd, ihd]
              rfl
          intro d hd
          rw [← hd]
          exact hup d
        have := h _ u4' k4'
        rw [ht m (by omega), if_pos rfl] at this
        exact this (fun z => absurd z (by decide))
      refine ⟨fun g => bad (Or.inl g), fun g => ⟨fun g5 => ?_, fun g5 => bad (Or.inr (Classical.not_not.mp g5))⟩⟩
      refine ih (i + 1) _ (by omega) u4' k4' ?_ d4
      rw [zwd, w1, decide_eq_false g, decide_eq_false g5]
      rfl
  exact ⟨fun g => h0 (Or.inl g), fun g => ⟨fun g2 => loop (fun z => z.elim g g2) (qD q).1 0 M (Nat.zero_add _) (zUp_rf hP) hC rfl (fun f hf => by omega), fun g2 => h0 (Or.inr (Classical.not_not.mp g2))⟩⟩
theorem bit_e : ∀ u, u < 64 → ∀ f, f < 6 → (nI u >>> (nI f &&& 31)) &&& 1 = nI (u / 2 ^ f % 2) := by decide +kernel
theorem one_e : ∀ d, d < 7 → (1 : Int32) <<< (nI d &&& 31) = nI (2 ^ d) := by decide +kernel
theorem pow_64 : ∀ d, d < 7 → 2 ^ d ≤ 64 ∧ 1 ≤ 2 ^ d := by decide
/-- sumOf -/
theorem C4 {u : Nat} (hv : vQ q) (hP : zPk M) (hC : zKC q M) (hw : zwd q (qD q).1 = false) (hd : zDC q (qD q).1 M) (hu : u < 64) (h : Q (some (.int (nI (zsu q u (qD q).1)))) M) : zC X 4 [.ref 26, .int (nI u)] M Q := by
  have h6 := hv.2.2.2.1.1
  have hb9 := hv.2.2.2.1.2.2.1
  have hno := zwd_no hw
  have hcn : ∀ f, f < (qD q).1 → zcn q f 0 ≤ 1000000 ∧ zcn q f (qD q).2.2.2 ≤ 1000000 := fun f hf => ⟨(zcn_ok hv hf (by decide) (hno f hf).1).2, (zcn_ok hv hf hb9 (hno f hf).2).2⟩
  have hD := hC.2.2.2.2.1
  rw [c4]
  simp only [w4_0, w4_1, w4_2, w4_3, w4_5, w4_6, w4_9, w4_12, w4_13, w4_14, w4_15, w4_16, w4_17, w4_18, w4_19, w4_22, w4_23, w4_26, w4_27, w4_28, w4_31, w4_32, w4_35, w4_36, w4_37, w4_38, w4_39, w4_42, w4_45, w4_46, zk_sI, zk_sJ, zk_sP, zn_sI, zn_sJ, zn_sP, zI_sI, zI_sJ, zI_sP, zJ_sI, zJ_sJ, zJ_sP, zP_sI, zP_sJ, zP_sP, Option.toList_some, Option.toList_none, List.cons_append, List.nil_append]
  have loop : ∀ (m i : Nat), i + m = (qD q).1 → zW X 4 4 [.val (.ref 26), .val (.int (nI u)), .val (.int (nI (zsu q u i))), .val (.int (nI i))] [] M Q := by
    intro m
    induction m with
    | zero =>
      intro i hi
      obtain rfl : i = (qD q).1 := by omega
      rw [w4_4]
      simp only [w4_0, w4_1, w4_2, w4_3, w4_5, w4_6, w4_9, w4_12, w4_13, w4_14, w4_15, w4_16, w4_17, w4_18, w4_19, w4_22, w4_23, w4_26, w4_27, w4_28, w4_31, w4_32, w4_35, w4_36, w4_37, w4_38, w4_39, w4_42, w4_45, w4_46, zk_sI, zk_sJ, zk_sP, zn_sI, zn_sJ, zn_sP, zI_sI, zI_sJ, zI_sP, zJ_sI, zJ_sJ, zJ_sP, zP_sI, zP_sJ, zP_sP, Option.toList_some, Option.toList_none, List.cons_append, List.nil_append, zk_of hP.1, zn_of hP.1, zix, ziN, ne_eq, reduceCtorEq, not_false_eq_true, true_and, and_true, Option.getD_some, Nat.reduceLeDiff, Nat.reduceLT, c_ofNat, zkd26, zp_26_0 hP, zp_26_1 hP, zp_26_2 hP, zkd28, znd28, zfx28, zkd29, znd29, zfx29, hD.1, Int32.le_refl]
      exact ⟨fun _ => h, fun z => absurd trivial z⟩
    | succ m ih =>
      intro i hi
      have hle := zsu_le (u := u) hcn i (by omega)
      obtain ⟨d1, d2⟩ := hd i (by omega)
      obtain ⟨n1, n2⟩ := hno i (by omega)
      have e1 := (zcn_ok hv (show i < (qD q).1 by omega) (show 0 ≤ 9 by decide) n1).1
      have e2 := (zcn_ok hv (show i < (qD q).1 by omega) hb9 n2).1
      have eb := bit_e u hu i (by omega)
      have nxt := ih (i + 1) (by omega)
      rw [zsu] at nxt
      have hbit : (nI (u / 2 ^ i % 2) = 1) = (u / 2 ^ i % 2 = 1) := by rw [c_1, n_eq (by omega) (by decide)]
      rw [w4_4]
      simp only [w4_0, w4_1, w4_2, w4_3, w4_5, w4_6, w4_9, w4_12, w4_13, w4_14, w4_15, w4_16, w4_17, w4_18, w4_19, w4_22, w4_23, w4_26, w4_27, w4_28, w4_31, w4_32, w4_35, w4_36, w4_37, w4_38, w4_39, w4_42, w4_45, w4_46, zk_sI, zk_sJ, zk_sP, zn_sI, zn_sJ, zn_sP, zI_sI, zI_sJ, zI_sP, zJ_sI, zJ_sJ, zJ_sP, zP_sI, zP_sJ, zP_sP, Option.toList_some, Option.toList_none, List.cons_append, List.nil_append, zk_of hP.1, zn_of hP.1, zix, ziN, ne_eq, reduceCtorEq, not_false_eq_true, true_and, and_true, Option.getD_some, Nat.reduceLeDiff, Nat.reduceLT, c_ofNat, zkd26, zp_26_0 hP, zp_26_1 hP, zp_26_2 hP, zkd28, znd28, zfx28, zkd29, znd29, zfx29, hD.1, eb, hbit, n_cl (show i < 2 ^ 31 by omega), n_in (show i < 6 by omega) (show 6 < 2 ^ 31 by decide), d1, d2, e1, e2, nI_add, n_a1]
      rw [n_le (by omega) (by omega)]
      refine ⟨fun z => by omega, fun _ => ⟨fun g => ?_, fun g => ?_⟩⟩
      · rw [if_neg g] at nxt
        exact nxt
      · rw [if_pos (Classical.not_not.mp g)] at nxt
        exact nxt
  exact loop (qD q).1 0 (Nat.zero_add _)
/-- bestUse -/
theorem C5 (hv : vQ q) (hP : zPk M) (hC : zKC q M) (hw : zwd q (qD q).1 = false) (hd : zDC q (qD q).1 M) (h : Q (some (.int (nI (zbe q (2 ^ (qD q).1 - 1))))) M) : zC X 5 [.ref 26] M Q := by
  have h6 := hv.2.2.2.1.1
  have hb9 := hv.2.2.2.1.2.2.1
  have hp6 := hv.2.2.2.1.2.1
  have hno := zwd_no hw
  have hcn : ∀ f, f < (qD q).1 → zcn q f 0 ≤ 1000000 ∧ zcn q f (qD q).2.2.2 ≤ 1000000 := fun f hf => ⟨(zcn_ok hv hf (by decide) (hno f hf).1).2, (zcn_ok hv hf hb9 (hno f hf).2).2⟩
  have hD := hC.2.2.2.2.1
  have p64 := pow_64 (qD q).1 (by omega)
  have hsb : ∀ u, zsu q u (qD q).1 ≤ 6000000 := fun u => by
    have := zsu_le (u := u) hcn (qD q).1 (Nat.le_refl _)
    omega
  rw [c5]
  have loop : ∀ (m k : Nat) (l4 l5 : Slot), k + 1 + m = 2 ^ (qD q).1 → zW X 5 10 [.val (.ref 26), .val (.int (nI (zbe q k))), .val (.int (nI (zsu q (zbe q k) (qD q).1))), .val (.int (nI (k + 1))), l4, l5] [] M Q := by
    intro m
    induction m with
    | zero =>
      intro k l4 l5 hk
      have hk' : 2 ^ (qD q).1 - 1 = k := by omega
      rw [hk'] at h
      rw [w5_10]
      simp only [w5_0, w5_1, w5_2, w5_3, w5_4, w5_7, w5_8, w5_9, w5_11, w5_12, w5_13, w5_16, w5_17, w5_20, w5_21, w5_22, w5_25, w5_27, w5_28, w5_31, w5_32, w5_35, w5_38, w5_39, w5_42, w5_43, w5_45, w5_46, w5_49, w5_50, w5_53, w5_56, w5_58, w5_59, w5_62, w5_64, w5_65, w5_68, w5_70, w5_73, w5_74, w5_75, w5_77, w5_78, w5_81, w5_84, w5_85, zk_sI, zk_sJ, zk_sP, zn_sI, zn_sJ, zn_sP, zI_sI, zI_sJ, zI_sP, zJ_sI, zJ_sJ, zJ_sP, zP_sI, zP_sJ, zP_sP, Option.toList_some, Option.toList_none, List.cons_append, List.nil_append, zk_of hP.1, zn_of hP.1, zix, ziN, ne_eq, reduceCtorEq, not_false_eq_true, true_and, and_true, Option.getD_some, Nat.reduceLeDiff, Nat.reduceLT, c_ofNat, zkd26, zp_26_0 hP, zp_26_1 hP, zp_26_2 hP, hD.1, one_e (qD q).1 (by omega)]
      rw [n_le (by omega) (by omega)]
      exact ⟨fun _ => h, fun z => by omega⟩
    | succ m ih =>
      intro k l4 l5 hk
      have hbk := zbe_le q k
      have nxt := fun l4 l5 => ih (k + 1) l4 l5 (by omega)
      rw [zbe] at nxt
      have s1 := hsb (k + 1)
      have s2 := hsb (zbe q k)
      have c1 := zpc_le (k + 1)
      have c2 := zpc_le (zbe q k)
      rw [w5_10]
      simp only [w5_11, w5_12, w5_13, w5_16, w5_17, w5_20, w5_21, w5_22, zk_sI, zk_sJ, zk_sP, zn_sI, zn_sJ, zn_sP, zI_sI, zI_sJ, zI_sP, zJ_sI, zJ_sJ, zJ_sP, zP_sI, zP_sJ, zP_sP, Option.toList_some, Option.toList_none, List.cons_append, List.nil_append, zk_of hP.1, zn_of hP.1, zix, ziN, ne_eq, reduceCtorEq, not_false_eq_true, true_and, and_true, Option.getD_some, Nat.reduceLeDiff, Nat.reduceLT, c_ofNat, zkd26, zp_26_0 hP, zp_26_1 hP, zp_26_2 hP, hD.1, one_e (qD q).1 (by omega)]
      rw [n_le (by omega) (by omega)]
      refine ⟨fun z => by omega, fun _ => ?_⟩
      refine C4 hv hP hC hw hd (by omega) ?_
      simp only [w5_25, w5_27, w5_28, zk_sI, zk_sJ, zk_sP, zn_sI, zn_sJ, zn_sP, zI_sI, zI_sJ, zI_sP, zJ_sI, zJ_sJ, zJ_sP, zP_sI, zP_sJ, zP_sP, Option.toList_some, Option.toList_none, List.cons_append, List.nil_append]
      refine s165 (by omega) ?_
      simp only [w5_31, w5_32, zk_sI, zk_sJ, zk_sP, zn_sI, zn_sJ, zn_sP, zI_sI, zI_sJ, zI_sP, zJ_sI, zJ_sJ, zJ_sP, zP_sI, zP_sJ, zP_sP, Option.toList_some, Option.toList_none, List.cons_append, List.nil_append]
      refine s165 (by omega) ?_
      have tail : ∀ (y : Int32), (y = 0 ↔ ¬ zpc (k + 1) < zpc (zbe q k)) → zC X 165 [.int (nI (k + 1))] M (fun v M2 => zW X 5 49 [.val (.ref 26), .val (.int (nI (zbe q k))), .val (.int (nI (zsu q (zbe q k) (qD q).1))), .val (.int (nI (k + 1))), .val (.int (nI (zsu q (k + 1) (qD q).1))), .val (.int y)] (v.toList ++ []) M2 Q) := by
        intro y hy
        refine s165 (by omega) ?_
        have e0 : ∀ (c : Prop), (y = 0) = c → (y = 0) = c := fun _ z => z
        simp only [w5_49, w5_50, w5_53, w5_56, w5_58, w5_59, w5_62, w5_64, w5_65, w5_68, w5_70, w5_73, w5_74, w5_75, w5_77, w5_78, w5_81, zk_sI, zk_sJ, zk_sP, zn_sI, zn_sJ, zn_sP, zI_sI, zI_sJ, zI_sP, zJ_sI, zJ_sJ, zJ_sP, zP_sI, zP_sJ, zP_sP, Option.toList_some, Option.toList_none, List.cons_append, List.nil_append, zk_of hP.1, zn_of hP.1, zix, ziN, ne_eq, reduceCtorEq, not_false_eq_true, true_and, and_true, Option.getD_some, Nat.reduceLeDiff, Nat.reduceLT, c_ofNat, zkd26, zp_26_0 hP, zp_26_1 hP, zp_26_2 hP, hD.2.1, n_a1]
        rw [n_lt (by omega) (by omega), n_lt (by omega) (by omega), n_eq (by omega) (by omega), hy]
        have skip : ¬ (zpc (k + 1) ≤ (qD q).2.2.1 ∧ (zsu q (zbe q k) (qD q).1 < zsu q (k + 1) (qD q).1 ∨ zsu q (k + 1) (qD q).1 = zsu q (zbe q k) (qD q).1 ∧ zpc (k + 1) < zpc (zbe q k))) → zW X 5 10 [.val (.ref 26), .val (.int (nI (zbe q k))), .val (.int (nI (zsu q (zbe q k) (qD q).1))), .val (.int (nI (k + 1 + 1))), .val (.int (nI (zsu q (k + 1) (qD q).1))), .val (.int y)] [] M Q := by
          intro g
          have := nxt (.val (.int (nI (zsu q (k + 1) (qD q).1)))) (.val (.int y))
          rw [if_neg g] at this
          exact this
        have take : (zpc (k + 1) ≤ (qD q).2.2.1 ∧ (zsu q (zbe q k) (qD q).1 < zsu q (k + 1) (qD q).1 ∨ zsu q (k + 1) (qD q).1 = zsu q (zbe q k) (qD q).1 ∧ zpc (k + 1) < zpc (zbe q k))) → zW X 5 10 [.val (.ref 26), .val (.int (nI (k + 1))), .val (.int (nI (zsu q (k + 1) (qD q).1))), .val (.int (nI (k + 1 + 1))), .val (.int (nI (zsu q (k + 1) (qD q).1))), .val (.int y)] [] M Q := by
          intro g
          have := nxt (.val (.int (nI (zsu q (k + 1) (qD q).1)))) (.val (.int y))
          rw [if_pos g] at this
          exact this
        exact ⟨fun g => skip (by omega), fun g => ⟨fun g2 => take (by omega), fun g2 => ⟨fun g3 => skip (by omega), fun g3 => ⟨fun g4 => skip (by omega), fun g4 => take (by omega)⟩⟩⟩⟩
      simp only [w5_35, w5_38, w5_39, w5_42, w5_43, w5_45, w5_46, zk_sI, zk_sJ, zk_sP, zn_sI, zn_sJ, zn_sP, zI_sI, zI_sJ, zI_sP, zJ_sI, zJ_sJ, zJ_sP, zP_sI, zP_sJ, zP_sP, Option.toList_some, Option.toList_none, List.cons_append, List.nil_append, zk_of hP.1, zn_of hP.1, zix, ziN, ne_eq, reduceCtorEq, not_false_eq_true, true_and, and_true, Option.getD_some, Nat.reduceLeDiff, Nat.reduceLT, c_ofNat, zkd26, zp_26_0 hP, zp_26_1 hP, zp_26_2 hP]
      rw [n_le (by omega) (by omega)]
      exact ⟨fun g => tail 0 ⟨fun _ => by omega, fun _ => rfl⟩, fun g => tail 1 ⟨fun z => absurd z (by decide), fun z => by omega⟩⟩
  have v0 := C4 (X := X) (u := 0) (Q := fun v M2 => zW X 5 7 [.val (.ref 26), .val (.int 0), .unset, .unset, .unset, .unset] (v.toList ++ []) M2 Q) hv hP hC hw hd (by decide) (by
    simp only [w5_7, w5_8, w5_9, zk_sI, zk_sJ, zk_sP, zn_sI, zn_sJ, zn_sP, zI_sI, zI_sJ, zI_sP, zJ_sI, zJ_sJ, zJ_sP, zP_sI, zP_sJ, zP_sP, Option.toList_some, Option.toList_none, List.cons_append, List.nil_append]
    exact loop (2 ^ (qD q).1 - 1) 0 _ _ (by omega))
  simp only [w5_0, w5_1, w5_2, w5_3, w5_4, zk_sI, zk_sJ, zk_sP, zn_sI, zn_sJ, zn_sP, zI_sI, zI_sJ, zI_sP, zJ_sI, zJ_sJ, zJ_sP, zP_sI, zP_sJ, zP_sP, Option.toList_some, Option.toList_none, List.cons_append, List.nil_append, zk_of hP.1, zn_of hP.1, zix, ziN, ne_eq, reduceCtorEq, not_false_eq_true, true_and, and_true, Option.getD_some, Nat.reduceLeDiff, Nat.reduceLT, c_ofNat, zkd26, zp_26_0 hP, zp_26_1 hP, zp_26_2 hP]
  exact v0
end ZUs
