/-! ===== the model: a state packed ===== -/
section ZMp
variable {X : zf_X} {M : zf_M} {Q : Option Value → zf_M → Prop} {N : Nat}
/-- a seat's digit, as the model writes it -/
def zdm (d : Nat) : Nat := 2 * (d % 32) + if 32 ≤ d then 1 else 0
def zpk (N : Nat) : Nat → Nat
  | 0 => 0
  | n + 1 => 64 * zpk N n + zdm (dg N n)
theorem zdm_lt (d : Nat) : zdm d < 64 := by
  unfold zdm
  split <;> omega
theorem zpk_lt (N : Nat) : ∀ n, zpk N n < 64 ^ n
  | 0 => by show 0 < 1; decide
  | n + 1 => by
    have := zpk_lt N n
    have := zdm_lt (dg N n)
    rw [zpk, Nat.pow_succ]
    omega
/-- pack -/
theorem s123 (hP : zPk M) (hS : zSM M N) (h : Q (some (.long (lN (zpk N 6)))) M) : zC X 123 [.ref 58] M Q := by
  rw [c123]
  have loop : ∀ (m n : Nat), n + m = 6 → zW X 123 4 [.val (.ref 58), .val (.long (lN (zpk N n))), .second, .val (.int (nI n))] [] M Q := by
    intro m
    induction m with
    | zero =>
      intro n hn
      obtain rfl : n = 6 := by omega
      rw [w123_4]
      simp only [w123_0, w123_1, w123_2, w123_3, w123_5, w123_7, w123_10, w123_11, w123_13, w123_14, w123_15, w123_18, w123_19, w123_20, w123_21, w123_22, w123_23, w123_24, w123_25, w123_28, w123_29, w123_30, w123_33, w123_34, w123_37, w123_38, w123_39, w123_40, w123_41, w123_44, w123_47, w123_48, zk_sI, zk_sJ, zk_sP, zn_sI, zn_sJ, zn_sP, zI_sI, zI_sJ, zI_sP, zJ_sI, zJ_sJ, zJ_sP, zP_sI, zP_sJ, zP_sP, Option.toList_some, Option.toList_none, List.cons_append, List.nil_append]
      exact ⟨fun _ => h, fun z => absurd (by decide) z⟩
    | succ m ih =>
      intro n hn
      obtain ⟨e1, e2⟩ := hS n (by omega)
      rw [w123_4]
      simp only [w123_0, w123_1, w123_2, w123_3, w123_5, w123_7, w123_10, w123_11, w123_13, w123_14, w123_15, w123_18, w123_19, w123_20, w123_21, w123_22, w123_23, w123_24, w123_25, w123_28, w123_29, w123_30, w123_33, w123_34, w123_37, w123_38, w123_39, w123_40, w123_41, w123_44, w123_47, w123_48, zk_sI, zk_sJ, zk_sP, zn_sI, zn_sJ, zn_sP, zI_sI, zI_sJ, zI_sP, zJ_sI, zJ_sJ, zJ_sP, zP_sI, zP_sJ, zP_sP, Option.toList_some, Option.toList_none, List.cons_append, List.nil_append, zk_of hP.1, zn_of hP.1, zix, ziN, ne_eq, reduceCtorEq, not_false_eq_true, true_and, and_true, Option.getD_some, Nat.reduceLeDiff, Nat.reduceLT, c_ofNat, zkd58, zp_58_1 hP, zp_58_2 hP, zp_58_6 hP, zp_58_7 hP, zp_58_10 hP, zp_58_11 hP, zp_58_12 hP, zp_58_14 hP, zp_58_15 hP, zp_58_17 hP, zp_58_18 hP, zp_58_19 hP, zp_58_20 hP, zp_58_21 hP, zp_58_22 hP, zp_58_24 hP, zp_58_26 hP, zp_58_29 hP, zp_58_32 hP, zp_58_33 hP, zp_58_34 hP, zp_58_35 hP, zp_58_36 hP, zp_58_37 hP, zp_58_38 hP, zp_58_39 hP, zkd59, znd59, zfx59, zkd60, znd60, zfx60, zkd61, znd61, zfx61, zkd62, znd62, zfx62, zkd63, znd63, zfx63, zkd64, znd64, zfx64, zkd65, znd65, zfx65, e1, e2, zB_0, n_a1, n_cl (show n < 2 ^ 31 by omega), n_in (show n < 6 by omega) (show 6 < 2 ^ 31 by decide)]
      have hz := zpk_lt N n
      have hd := dg_lt N n
      have hp6 : zpk N n < 2 ^ 36 := by
        have : 64 ^ n ≤ 64 ^ 5 := Nat.pow_le_pow_right (by decide) (by omega)
        omega
      have es : lN (zpk N n) <<< (Int32.toInt64 6 &&& 63) = lN (zpk N n * 64) := wb_shl (zpk N n) (k := 6) (by decide)
      have el : (nI (dg N n % 32) <<< ((1 : Int32) &&& 31)).toInt64 = lN (2 * (dg N n % 32)) := by
        have h2 : ∀ x, x < 32 → (nI x <<< ((1 : Int32) &&& 31)).toInt64 = lN (2 * x) := by decide +kernel
        exact h2 _ (by omega)
      have hor : ∀ b, b < 64 → lN (zpk N n * 64) ||| lN b = lN (zpk N n * 64 + b) := by
        intro b hb
        have h0 : dg (zpk N n * 64) 0 = 0 := by
          show zpk N n * 64 / 64 ^ 0 % 64 = 0
          rw [Nat.pow_zero, Nat.div_one, Nat.mul_mod_left]
        have := or_put (N := zpk N n * 64) (k := 0) (d := b) (by
          have : 64 ^ n ≤ 64 ^ 5 := Nat.pow_le_pow_right (by decide) (by omega)
          omega) (by decide) hb h0
        rw [Nat.pow_zero, Nat.mul_one] at this
        rw [this]
        congr 1
        show zpk N n * 64 / 64 ^ 1 * 64 ^ 1 + b * 64 ^ 0 + zpk N n * 64 % 64 ^ 0 = _
        rw [Nat.pow_one, Nat.mul_div_cancel _ (by decide), Nat.pow_zero, Nat.mod_one]
        omega
      have o1 : lN (2 * (dg N n % 32)) ||| (1 : Int64) = lN (2 * (dg N n % 32) + 1) := by
        have h2 : ∀ x, x < 32 → lN (2 * x) ||| (1 : Int64) = lN (2 * x + 1) := by decide +kernel
        exact h2 _ (by omega)
      have o0 : lN (2 * (dg N n % 32)) ||| (0 : Int64) = lN (2 * (dg N n % 32)) := by
        have h2 : ∀ x, x < 32 → lN (2 * x) ||| (0 : Int64) = lN (2 * x) := by decide +kernel
        exact h2 _ (by omega)
      have i0 : Int32.toInt64 0 = 0 := rfl
      have i1 : Int32.toInt64 1 = 1 := rfl
      rw [c_6, n_le (by decide) (by omega)]
      have ez : zpk N (n + 1) = 64 * zpk N n + zdm (dg N n) := rfl
      refine ⟨fun z => by omega, fun _ => ⟨fun z => ?_, fun z => ?_⟩⟩
      · have := ih (n + 1) (by omega)
        rw [ez, zdm, if_neg z] at this
        change zW _ _ _ [_, .val (.long (lN (zpk N n) <<< (Int32.toInt64 6 &&& 63) ||| (nI (dg N n % 32) <<< ((1 : Int32) &&& 31)).toInt64 ||| Int32.toInt64 0)), _, _] _ _ _
        rw [es, el, i0, Int64.or_assoc, o0, hor _ (by omega), Nat.mul_comm]
        exact this
      · have z := Decidable.not_not.mp z
        have := ih (n + 1) (by omega)
        rw [ez, zdm, if_pos z] at this
        change zW _ _ _ [_, .val (.long (lN (zpk N n) <<< (Int32.toInt64 6 &&& 63) ||| (nI (dg N n % 32) <<< ((1 : Int32) &&& 31)).toInt64 ||| Int32.toInt64 1)), _, _] _ _ _
        rw [es, el, i1, Int64.or_assoc, o1, hor _ (by omega), Nat.mul_comm]
        exact this
  simp only [w123_0, w123_1, w123_2, w123_3, w123_5, w123_7, w123_10, w123_11, w123_13, w123_14, w123_15, w123_18, w123_19, w123_20, w123_21, w123_22, w123_23, w123_24, w123_25, w123_28, w123_29, w123_30, w123_33, w123_34, w123_37, w123_38, w123_39, w123_40, w123_41, w123_44, w123_47, w123_48, zk_sI, zk_sJ, zk_sP, zn_sI, zn_sJ, zn_sP, zI_sI, zI_sJ, zI_sP, zJ_sI, zJ_sJ, zJ_sP, zP_sI, zP_sJ, zP_sP, Option.toList_some, Option.toList_none, List.cons_append, List.nil_append]
  exact loop 6 0 rfl
/-- unpack -/
theorem s124 {v : Nat} (hP : zPk M) (hv : v < 64 ^ 6) (h : ∀ M1, zF (fun b => b = 64 ∨ b = 65) M M1 → (∀ k, k < 6 → zf_I M1 64 k = nI (v / 64 ^ (5 - k) % 64 / 2) ∧ zf_I M1 65 k = zB (v / 64 ^ (5 - k) % 2 = 1)) → Q none M1) : zC X 124 [.ref 58, .long (lN v)] M Q := by
  rw [c124]
  have sx : ∀ V, V < 64 ^ 6 → (lN V &&& 1 = lN (V % 2)) ∧ (lN V >>> (Int32.toInt64 1 &&& 63) &&& 31).toInt32 = nI (V % 64 / 2) ∧ lN V >>> (Int32.toInt64 6 &&& 63) = lN (V / 64) := by
    intro V hV
    have hV36 : V < 68719476736 := hV
    have s1 : lN V >>> (Int32.toInt64 1 &&& 63) = lN (V / 2) := pf_shr (d := 1) (by decide) (by omega)
    have s6 : lN V >>> (Int32.toInt64 6 &&& 63) = lN (V / 64) := pf_shr (d := 6) (by decide) (by omega)
    have m1 : lN V &&& 1 = lN (V % 2) := wb_mask (k := 1) (by omega) (by decide)
    have m5 : lN (V / 2) &&& 31 = lN (V / 2 % 32) := wb_mask (k := 5) (by omega) (by decide)
    refine ⟨m1, ?_, s6⟩
    rw [s1, m5, lN_i]
    congr 1
    omega
  have step : ∀ (m : Nat) (M1 : zf_M), m ≤ 5 → zF (fun b => b = 64 ∨ b = 65) M M1 → (∀ k, m < k → k < 6 → zf_I M1 64 k = nI (v / 64 ^ (5 - k) % 64 / 2) ∧ zf_I M1 65 k = zB (v / 64 ^ (5 - k) % 2 = 1)) → (∀ M2, zF (fun b => b = 64 ∨ b = 65) M M2 → (∀ k, m ≤ k → k < 6 → zf_I M2 64 k = nI (v / 64 ^ (5 - k) % 64 / 2) ∧ zf_I M2 65 k = zB (v / 64 ^ (5 - k) % 2 = 1)) → zW X 124 5 [.val (.ref 58), .val (.long (lN v)), .second, .val (.long (lN (v / 64 ^ (6 - m)))), .second, .val (.int (nI m + -1))] [] M2 Q) → zW X 124 5 [.val (.ref 58), .val (.long (lN v)), .second, .val (.long (lN (v / 64 ^ (5 - m)))), .second, .val (.int (nI m))] [] M1 Q := by
    intro m M1 hm hF h1 hk
    have hP1 := zPk_F hP hF
    have hV : v / 64 ^ (5 - m) < 64 ^ 6 := Nat.lt_of_le_of_lt (Nat.div_le_self _ _) hv
    obtain ⟨a1, a2, a3⟩ := sx _ hV
    have e6 : v / 64 ^ (5 - m) / 64 = v / 64 ^ (6 - m) := by
      rw [Nat.div_div_eq_div_mul, ← Nat.pow_succ]
      congr 2
      omega
    have key : ∀ u, u = zB (v / 64 ^ (5 - m) % 2 = 1) → zW X 124 5 [.val (.ref 58), .val (.long (lN v)), .second, .val (.long (lN (v / 64 ^ (6 - m)))), .second, .val (.int (nI m + -1))] [] (zf_sI (zf_sI M1 65 m u) 64 m (nI (v / 64 ^ (5 - m) % 64 / 2))) Q := by
      intro u hu
      refine hk _ (zF_sI (zF_sI hF (Or.inr rfl)) (Or.inl rfl)) (fun k hk1 hk2 => ?_)
      simp only [zI_sI, Nat.reduceEqDiff, if_false, if_true]
      by_cases e : k = m
      · rw [if_pos e, if_pos e, e, hu]
        exact ⟨rfl, rfl⟩
      · rw [if_neg e, if_neg e]
        exact h1 k (by omega) hk2
    have e2 : (lN (v / 64 ^ (5 - m) % 2) = 1) ↔ v / 64 ^ (5 - m) % 2 = 1 := by
      have e : (1 : Int64) = lN 1 := rfl
      rw [e, lN_eq (by omega) (by decide)]
    rw [w124_5]
    simp only [w124_0, w124_1, w124_2, w124_3, w124_7, w124_10, w124_11, w124_14, w124_16, w124_17, w124_18, w124_19, w124_20, w124_21, w124_24, w124_25, w124_28, w124_29, w124_30, w124_31, w124_34, w124_36, w124_37, w124_38, w124_39, w124_42, w124_43, w124_44, w124_45, w124_46, w124_48, w124_49, w124_50, w124_53, w124_56, zk_sI, zk_sJ, zk_sP, zn_sI, zn_sJ, zn_sP, zI_sI, zI_sJ, zI_sP, zJ_sI, zJ_sJ, zJ_sP, zP_sI, zP_sJ, zP_sP, Option.toList_some, Option.toList_none, List.cons_append, List.nil_append, zk_of hP1.1, zn_of hP1.1, zix, ziN, ne_eq, reduceCtorEq, not_false_eq_true, true_and, and_true, Option.getD_some, Nat.reduceLeDiff, Nat.reduceLT, c_ofNat, zkd58, zp_58_1 hP1, zp_58_2 hP1, zp_58_6 hP1, zp_58_7 hP1, zp_58_10 hP1, zp_58_11 hP1, zp_58_12 hP1, zp_58_14 hP1, zp_58_15 hP1, zp_58_17 hP1, zp_58_18 hP1, zp_58_19 hP1, zp_58_20 hP1, zp_58_21 hP1, zp_58_22 hP1, zp_58_24 hP1, zp_58_26 hP1, zp_58_29 hP1, zp_58_32 hP1, zp_58_33 hP1, zp_58_34 hP1, zp_58_35 hP1, zp_58_36 hP1, zp_58_37 hP1, zp_58_38 hP1, zp_58_39 hP1, zkd59, znd59, zfx59, zkd60, znd60, zfx60, zkd61, znd61, zfx61, zkd62, znd62, zfx62, zkd63, znd63, zfx63, zkd64, znd64, zfx64, zkd65, znd65, zfx65, n_cl (show m < 2 ^ 31 by omega), n_in (show m < 6 by omega) (show 6 < 2 ^ 31 by decide), a1, a2, a3, e6, lc_eq]
    refine ⟨fun z => absurd z (nI_pos (by omega)), fun _ => ⟨fun z => ⟨rfl, key 0 (zB_f (fun g => z (e2.mpr g))).symm⟩, fun z => ⟨rfl, key 1 (zB_t (e2.mp (Decidable.not_not.mp z))).symm⟩⟩⟩
  have loop : ∀ (m : Nat) (M1 : zf_M), m ≤ 5 → zF (fun b => b = 64 ∨ b = 65) M M1 → (∀ k, m < k → k < 6 → zf_I M1 64 k = nI (v / 64 ^ (5 - k) % 64 / 2) ∧ zf_I M1 65 k = zB (v / 64 ^ (5 - k) % 2 = 1)) → zW X 124 5 [.val (.ref 58), .val (.long (lN v)), .second, .val (.long (lN (v / 64 ^ (5 - m)))), .second, .val (.int (nI m))] [] M1 Q := by
    intro m
    induction m with
    | zero =>
      intro M1 hm hF h1
      refine step 0 M1 hm hF h1 (fun M2 g1 g2 => ?_)
      rw [w124_5]
      simp only [w124_0, w124_1, w124_2, w124_3, w124_7, w124_10, w124_11, w124_14, w124_16, w124_17, w124_18, w124_19, w124_20, w124_21, w124_24, w124_25, w124_28, w124_29, w124_30, w124_31, w124_34, w124_36, w124_37, w124_38, w124_39, w124_42, w124_43, w124_44, w124_45, w124_46, w124_48, w124_49, w124_50, w124_53, w124_56, zk_sI, zk_sJ, zk_sP, zn_sI, zn_sJ, zn_sP, zI_sI, zI_sJ, zI_sP, zJ_sI, zJ_sJ, zJ_sP, zP_sI, zP_sJ, zP_sP, Option.toList_some, Option.toList_none, List.cons_append, List.nil_append]
      exact ⟨fun _ => h M2 g1 (fun k hk => g2 k (by omega) hk), fun z => absurd (by decide) z⟩
    | succ m ih =>
      intro M1 hm hF h1
      refine step (m + 1) M1 hm hF h1 (fun M2 g1 g2 => ?_)
      have e1 : nI (m + 1) + -1 = nI m := by
        rw [← Int32.sub_eq_add_neg]
        exact pk_sub (b := 1) (by omega)
      rw [e1, show 6 - (m + 1) = 5 - m by omega]
      exact ih M2 (by omega) g1 (fun k hk1 hk2 => g2 k (by omega) hk2)
  simp only [w124_0, w124_1, w124_2, w124_3, w124_7, w124_10, w124_11, w124_14, w124_16, w124_17, w124_18, w124_19, w124_20, w124_21, w124_24, w124_25, w124_28, w124_29, w124_30, w124_31, w124_34, w124_36, w124_37, w124_38, w124_39, w124_42, w124_43, w124_44, w124_45, w124_46, w124_48, w124_49, w124_50, w124_53, w124_56, zk_sI, zk_sJ, zk_sP, zn_sI, zn_sJ, zn_sP, zI_sI, zI_sJ, zI_sP, zJ_sI, zJ_sJ, zJ_sP, zP_sI, zP_sJ, zP_sP, Option.toList_some, Option.toList_none, List.cons_append, List.nil_append]
  have := loop 5 M (Nat.le_refl _) (zF_rf _ _) (fun k h1 h2 => by omega)
  rw [show 5 - 5 = 0 from rfl, Nat.pow_zero, Nat.div_one] at this
  exact this
end ZMp
