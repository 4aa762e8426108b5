/-! ===== the model: the next states ===== -/
/-- where a packed state's search begins -/
def zht (s : Int64) : Nat := (((s * 2654435761) >>> ((20 : Int32).toInt64 &&& 63)) &&& 2047).toInt32.toNatClampNeg
theorem zht_e (s : Int64) : (((s * 2654435761) >>> ((20 : Int32).toInt64 &&& 63)) &&& 2047).toInt32 = nI (zht s) ∧ zht s < 2048 := by
  unfold zht
  generalize (s * 2654435761) >>> ((20 : Int32).toInt64 &&& 63) = x
  obtain ⟨n, n1, rfl⟩ := wb_of x
  have m : lN n &&& 2047 = lN (n % 2048) := wb_mask (k := 11) n1 (by decide)
  rw [m, lN_i, n_cl (by omega)]
  exact ⟨rfl, Nat.mod_lt _ (by decide)⟩
/-- the next states: n of them, sp where they stand in the table -/
def zTI (M : zf_M) (n : Nat) (sp : Nat → Nat) : Prop := zf_I M 58 16 = nI n ∧ n ≤ 800 ∧ (∀ i j, i < n → j < n → zf_J M 68 i = zf_J M 68 j → i = j) ∧
  (∀ i, i < n → ∃ d, d < 2048 ∧ sp i = (zht (zf_J M 68 i) + d) % 2048 ∧ zf_I M 70 (sp i) = nI (i + 1) ∧ ∀ e, e < d → zf_I M 70 ((zht (zf_J M 68 i) + e) % 2048) ≠ 0) ∧
  (∀ p, p < 2048 → zf_I M 70 p = 0 ∨ ∃ i, i < n ∧ zf_I M 70 p = nI (i + 1) ∧ sp i = p)
theorem zTI_free {M : zf_M} {n : Nat} {sp : Nat → Nat} (h : zTI M n sp) (s : Int64) (hf : ∀ e, e < 2048 → zf_I M 70 ((zht s + e) % 2048) ≠ 0) : False := by
  obtain ⟨h1, h2, h3, h4, h5⟩ := h
  have key := pigeon n 2048 sp (fun p hp => by
    have hne : zf_I M 70 p ≠ 0 := by
      have hl := (zht_e s).2
      have := hf ((p + 2048 - zht s) % 2048) (Nat.mod_lt _ (by decide))
      rw [show (zht s + (p + 2048 - zht s) % 2048) % 2048 = p by omega] at this
      exact this
    rcases h5 p hp with g | ⟨i, g1, g2, g3⟩
    · exact absurd g hne
    · exact ⟨i, g1, g3⟩)
  omega
section ZMco
variable {X : zf_X} {M : zf_M} {Q : Option Value → zf_M → Prop} {n N w : Nat} {sp : Nat → Nat}
/-- a state more in the model -/
def zjm (M : zf_M) (n p : Nat) (s w : Int64) : zf_M := zf_sJ (zf_sI (zf_sI (zf_sJ (zf_sJ M 68 n s) 69 n 0) 58 16 (nI (n + 1))) 70 p (nI (n + 1))) 69 n w
theorem s126e (hP : zPk M) (hS : zSM M N) (h : zW X 126 20 [.val (.ref 58), .val (.long (lN w)), .second, .val (.long (lN (zpk N 6))), .second, .val (.int (nI (zht (lN (zpk N 6)))))] [] M Q) : zC X 126 [.ref 58, .long (lN w)] M Q := by
  rw [c126]
  simp only [w126_0, w126_1, w126_4, w126_5, w126_6, w126_9, w126_10, w126_12, w126_13, w126_16, w126_17, w126_18, zk_sI, zk_sJ, zk_sP, zn_sI, zn_sJ, zn_sP, zI_sI, zI_sJ, zI_sP, zJ_sI, zJ_sJ, zJ_sP, zP_sI, zP_sJ, zP_sP, Option.toList_some, Option.toList_none, List.cons_append, List.nil_append, zk_of hP.1, zn_of hP.1, zix, ziN, ne_eq, reduceCtorEq, not_false_eq_true, true_and, and_true, Option.getD_some, Nat.reduceLeDiff, Nat.reduceLT, c_ofNat, zkd58, zp_58_1 hP, zp_58_2 hP, zp_58_6 hP, zp_58_7 hP, zp_58_10 hP, zp_58_11 hP, zp_58_12 hP, zp_58_14 hP, zp_58_15 hP, zp_58_17 hP, zp_58_18 hP, zp_58_19 hP, zp_58_20 hP, zp_58_21 hP, zp_58_22 hP, zp_58_24 hP, zp_58_26 hP, zp_58_29 hP, zp_58_32 hP, zp_58_33 hP, zp_58_34 hP, zp_58_35 hP, zp_58_36 hP, zp_58_37 hP, zp_58_38 hP, zp_58_39 hP]
  refine s123 hP hS ?_
  have hh1 := (zht_e (lN (zpk N 6))).1
  simp only [w126_0, w126_1, w126_4, w126_5, w126_6, w126_9, w126_10, w126_12, w126_13, w126_16, w126_17, w126_18, zk_sI, zk_sJ, zk_sP, zn_sI, zn_sJ, zn_sP, zI_sI, zI_sJ, zI_sP, zJ_sI, zJ_sJ, zJ_sP, zP_sI, zP_sJ, zP_sP, Option.toList_some, Option.toList_none, List.cons_append, List.nil_append, hh1]
  exact h
/-- comes, the search -/
theorem s126l {s : Int64} {z : Nat} (hP : zPk M) (hn8 : n < 800) (I1 : zf_I M 58 16 = nI n) (hfree : (∀ e, e < 2048 → zf_I M 70 ((z + e) % 2048) ≠ 0) → False) (I4' : ∀ i, i < n → zf_J M 68 i = s → ∃ d, d < 2048 ∧ zf_I M 70 ((z + d) % 2048) = nI (i + 1) ∧ ∀ e, e < d → zf_I M 70 ((z + e) % 2048) ≠ 0) (I5 : ∀ p, p < 2048 → zf_I M 70 p = 0 ∨ ∃ i, i < n ∧ zf_I M 70 p = nI (i + 1) ∧ sp i = p)
    (h1 : ∀ i, i < n → zf_J M 68 i = s → Q none (zf_sJ M 69 i (zf_J M 69 i + lN w)))
    (h2 : (∀ i, i < n → zf_J M 68 i ≠ s) → ∀ d, d < 2048 → zf_I M 70 ((z + d) % 2048) = 0 → (∀ e, e < d → zf_I M 70 ((z + e) % 2048) ≠ 0) → Q none (zjm M n ((z + d) % 2048) s (lN w))) : ∀ (m t : Nat), t + m = 2048 → (∀ e, e < t → zf_I M 70 ((z + e) % 2048) ≠ 0 ∧ ∀ i, i < n → zf_I M 70 ((z + e) % 2048) = nI (i + 1) → zf_J M 68 i ≠ s) → zW X 126 20 [.val (.ref 58), .val (.long (lN w)), .second, .val (.long s), .second, .val (.int (nI ((z + t) % 2048)))] [] M Q := by
  have z0 : (0 : Int64) + lN w = lN w := by
    have := lN_add 0 w
    rw [Nat.zero_add] at this
    exact this
  have loop : ∀ (m t : Nat), t + m = 2048 → (∀ e, e < t → zf_I M 70 ((z + e) % 2048) ≠ 0 ∧ ∀ i, i < n → zf_I M 70 ((z + e) % 2048) = nI (i + 1) → zf_J M 68 i ≠ s) → zW X 126 20 [.val (.ref 58), .val (.long (lN w)), .second, .val (.long s), .second, .val (.int (nI ((z + t) % 2048)))] [] M Q := by
    intro m
    induction m with
    | zero =>
      intro t ht hb
      exact (hfree (fun e he => (hb e (by omega)).1)).elim
    | succ m ih =>
      intro t ht hb
      rw [w126_20]
      have hp : (z + t) % 2048 < 2048 := Nat.mod_lt _ (by decide)
      rcases I5 _ hp with h0 | ⟨i, g1, g2, g3⟩
      · have hno : ∀ i, i < n → zf_J M 68 i ≠ s := by
          intro i hi e
          obtain ⟨d, d1, d3, d4⟩ := I4' i hi e
          rcases Nat.lt_trichotomy d t with c | c | c
          · exact (hb d c).2 i hi d3 e
          · rw [c, h0] at d3
            exact n_ne0 (by omega) d3.symm
          · exact d4 t c h0
        have hfin := h2 hno t (by omega) h0 (fun e he => (hb e he).1)
        simp only [w126_0, w126_1, w126_4, w126_5, w126_6, w126_9, w126_10, w126_12, w126_13, w126_16, w126_17, w126_18, w126_21, w126_24, w126_26, w126_27, w126_30, w126_31, w126_34, w126_35, w126_38, w126_40, w126_41, w126_42, w126_43, w126_44, w126_45, w126_46, w126_49, w126_51, w126_52, w126_53, w126_56, w126_57, w126_59, w126_62, w126_63, w126_66, w126_68, w126_69, w126_72, w126_73, w126_76, w126_77, w126_80, w126_81, w126_82, w126_83, w126_86, w126_87, w126_90, w126_91, w126_92, w126_93, w126_94, w126_97, w126_98, w126_99, w126_102, w126_103, w126_106, w126_108, w126_109, w126_112, w126_113, w126_114, w126_117, w126_118, w126_121, w126_123, w126_124, w126_125, w126_126, w126_127, w126_128, w126_129, w126_130, w126_131, zk_sI, zk_sJ, zk_sP, zn_sI, zn_sJ, zn_sP, zI_sI, zI_sJ, zI_sP, zJ_sI, zJ_sJ, zJ_sP, zP_sI, zP_sJ, zP_sP, Option.toList_some, Option.toList_none, List.cons_append, List.nil_append, zk_of hP.1, zn_of hP.1, zix, ziN, ne_eq, reduceCtorEq, not_false_eq_true, true_and, and_true, Option.getD_some, Nat.reduceLeDiff, Nat.reduceLT, c_ofNat, zkd58, zp_58_1 hP, zp_58_2 hP, zp_58_6 hP, zp_58_7 hP, zp_58_10 hP, zp_58_11 hP, zp_58_12 hP, zp_58_14 hP, zp_58_15 hP, zp_58_17 hP, zp_58_18 hP, zp_58_19 hP, zp_58_20 hP, zp_58_21 hP, zp_58_22 hP, zp_58_24 hP, zp_58_26 hP, zp_58_29 hP, zp_58_32 hP, zp_58_33 hP, zp_58_34 hP, zp_58_35 hP, zp_58_36 hP, zp_58_37 hP, zp_58_38 hP, zp_58_39 hP, zkd59, znd59, zfx59, zkd60, znd60, zfx60, zkd61, znd61, zfx61, zkd62, znd62, zfx62, zkd63, znd63, zfx63, zkd64, znd64, zfx64, zkd65, znd65, zfx65, zkd66, znd66, zfx66, zkd67, znd67, zfx67, zkd68, znd68, zfx68, zkd69, znd69, zfx69, zkd70, znd70, zfx70, h0, I1, n_cl (show (z + t) % 2048 < 2 ^ 31 by omega), n_in hp (show 2048 < 2 ^ 31 by decide), n_cl (show n < 2 ^ 31 by omega), n_in hn8 (show 800 < 2 ^ 31 by decide), Nat.reduceEqDiff, if_true, if_false, n_a1, Int32.le_refl, true_implies, not_true_eq_false, false_implies, and_true, true_and, nI_pred, z0]
        exact hfin
      · have e1 : nI (i + 1) - 1 = nI i := nI_pred i
        have np : ¬ nI (i + 1) ≤ 0 := fun q => by
          rw [c_0, n_le (by omega) (by decide)] at q
          omega
        simp only [w126_0, w126_1, w126_4, w126_5, w126_6, w126_9, w126_10, w126_12, w126_13, w126_16, w126_17, w126_18, w126_21, w126_24, w126_26, w126_27, w126_30, w126_31, w126_34, w126_35, w126_38, w126_40, w126_41, w126_42, w126_43, w126_44, w126_45, w126_46, w126_49, w126_51, w126_52, w126_53, w126_56, w126_57, w126_59, w126_62, w126_63, w126_66, w126_68, w126_69, w126_72, w126_73, w126_76, w126_77, w126_80, w126_81, w126_82, w126_83, w126_86, w126_87, w126_90, w126_91, w126_92, w126_93, w126_94, w126_97, w126_98, w126_99, w126_102, w126_103, w126_106, w126_108, w126_109, w126_112, w126_113, w126_114, w126_117, w126_118, w126_121, w126_123, w126_124, w126_125, w126_126, w126_127, w126_128, w126_129, w126_130, w126_131, zk_sI, zk_sJ, zk_sP, zn_sI, zn_sJ, zn_sP, zI_sI, zI_sJ, zI_sP, zJ_sI, zJ_sJ, zJ_sP, zP_sI, zP_sJ, zP_sP, Option.toList_some, Option.toList_none, List.cons_append, List.nil_append, zk_of hP.1, zn_of hP.1, zix, ziN, ne_eq, reduceCtorEq, not_false_eq_true, true_and, and_true, Option.getD_some, Nat.reduceLeDiff, Nat.reduceLT, c_ofNat, zkd58, zp_58_1 hP, zp_58_2 hP, zp_58_6 hP, zp_58_7 hP, zp_58_10 hP, zp_58_11 hP, zp_58_12 hP, zp_58_14 hP, zp_58_15 hP, zp_58_17 hP, zp_58_18 hP, zp_58_19 hP, zp_58_20 hP, zp_58_21 hP, zp_58_22 hP, zp_58_24 hP, zp_58_26 hP, zp_58_29 hP, zp_58_32 hP, zp_58_33 hP, zp_58_34 hP, zp_58_35 hP, zp_58_36 hP, zp_58_37 hP, zp_58_38 hP, zp_58_39 hP, zkd59, znd59, zfx59, zkd60, znd60, zfx60, zkd61, znd61, zfx61, zkd62, znd62, zfx62, zkd63, znd63, zfx63, zkd64, znd64, zfx64, zkd65, znd65, zfx65, zkd66, znd66, zfx66, zkd67, znd67, zfx67, zkd68, znd68, zfx68, zkd69, znd69, zfx69, zkd70, znd70, zfx70, g2, e1, n_cl (show (z + t) % 2048 < 2 ^ 31 by omega), n_in hp (show 2048 < 2 ^ 31 by decide), n_cl (show i < 2 ^ 31 by omega), n_in (show i < 800 by omega) (show 800 < 2 ^ 31 by decide), lc_eq, np, n_ne0 (show i + 1 < 2 ^ 31 by omega), not_false_eq_true, not_true_eq_false, false_implies, true_implies, and_true, true_and, n_a1]
        refine ⟨fun e => h1 i g1 e, fun e => ?_⟩
        have e5 : nI ((z + t) % 2048 + 1) - nI ((z + t) % 2048 + 1) / 2048 * 2048 = nI ((z + (t + 1)) % 2048) := by
          have e2048 : (2048 : Int32) = nI 2048 := rfl
          rw [e2048, pk_rem (by omega) (by decide) (by decide)]
          congr 1
          omega
        rw [e5]
        refine ⟨by decide, ih (t + 1) (by omega) (fun q hq => ?_)⟩
        by_cases hqt : q = t
        · subst hqt
          refine ⟨by rw [g2]; exact n_ne0 (by omega), fun j hj e2 => ?_⟩
          rw [g2, nI_eq (by omega) (by omega)] at e2
          obtain rfl : i = j := by omega
          exact e
        · exact hb q (by omega)
  exact loop
theorem s126m {s : Int64} {z : Nat} (hP : zPk M) (hn8 : n < 800) (I1 : zf_I M 58 16 = nI n) (hfree : (∀ e, e < 2048 → zf_I M 70 ((z + e) % 2048) ≠ 0) → False) (I4' : ∀ i, i < n → zf_J M 68 i = s → ∃ d, d < 2048 ∧ zf_I M 70 ((z + d) % 2048) = nI (i + 1) ∧ ∀ e, e < d → zf_I M 70 ((z + e) % 2048) ≠ 0) (I5 : ∀ p, p < 2048 → zf_I M 70 p = 0 ∨ ∃ i, i < n ∧ zf_I M 70 p = nI (i + 1) ∧ sp i = p)
    (h1 : ∀ i, i < n → zf_J M 68 i = s → Q none (zf_sJ M 69 i (zf_J M 69 i + lN w)))
    (h2 : (∀ i, i < n → zf_J M 68 i ≠ s) → ∀ d, d < 2048 → zf_I M 70 ((z + d) % 2048) = 0 → (∀ e, e < d → zf_I M 70 ((z + e) % 2048) ≠ 0) → Q none (zjm M n ((z + d) % 2048) s (lN w))) (hz : z < 2048) : zW X 126 20 [.val (.ref 58), .val (.long (lN w)), .second, .val (.long s), .second, .val (.int (nI z))] [] M Q := by
  have l0 := s126l (X := X) hP hn8 I1 hfree I4' I5 h1 h2 2048 0 (Nat.zero_add _) (fun e he => absurd he (Nat.not_lt_zero e))
  rw [Nat.add_zero, Nat.mod_eq_of_lt hz] at l0
  exact l0
/-- comes -/
theorem s126 (hP : zPk M) (hS : zSM M N) (hI : zTI M n sp) (hn8 : n < 800)
    (h1 : ∀ i, i < n → zf_J M 68 i = lN (zpk N 6) → Q none (zf_sJ M 69 i (zf_J M 69 i + lN w)))
    (h2 : (∀ i, i < n → zf_J M 68 i ≠ lN (zpk N 6)) → ∀ d, d < 2048 → zf_I M 70 ((zht (lN (zpk N 6)) + d) % 2048) = 0 → (∀ e, e < d → zf_I M 70 ((zht (lN (zpk N 6)) + e) % 2048) ≠ 0) → Q none (zjm M n ((zht (lN (zpk N 6)) + d) % 2048) (lN (zpk N 6)) (lN w))) : zC X 126 [.ref 58, .long (lN w)] M Q := by
  refine s126e hP hS ?_
  refine s126m (sp := sp) hP hn8 hI.1 (zTI_free hI _) (fun i hi e => ?_) hI.2.2.2.2 h1 h2 (zht_e _).2
  obtain ⟨d, d1, d2, d3, d4⟩ := hI.2.2.2.1 i hi
  rw [e] at d2 d4
  rw [d2] at d3
  exact ⟨d, d1, d3, d4⟩
end ZMco
