/-! ===== the class: a state's digits, who is struck, healed, chosen ===== -/
section ZFr
variable {X : zf_X} {M : zf_M} {Q : Option Value → zf_M → Prop} {N k f : Nat}
theorem i6 (k : Nat) : (6 : Int32) * nI k = nI (6 * k) := pk_mul 6 k
theorem and63 (n : Nat) : nI n &&& 63 = nI (n % 64) := by
  rw [pk_and (nI n) (m := 63) 6 (by decide)]
  congr 1
  show (BitVec.ofNat 32 n).toNat % 64 = n % 64
  rw [BitVec.toNat_ofNat]
  omega
theorem and31 (n : Nat) : nI n &&& 31 = nI (n % 32) := by
  rw [pk_and (nI n) (m := 31) 5 (by decide)]
  congr 1
  show (BitVec.ofNat 32 n).toNat % 32 = n % 32
  rw [BitVec.toNat_ofNat]
  omega
/-- part -/
theorem s11 (hN : N < 64 ^ 6) (hk : k < 6) (h : Q (some (.int (nI (dg N k)))) M) : zC X 11 [.long (lN N), .int (nI k)] M Q := by
  rw [c11]
  simp only [w11_0, w11_1, w11_3, w11_4, w11_5, w11_6, w11_7, w11_9, w11_10, zk_sI, zk_sJ, zk_sP, zn_sI, zn_sJ, zn_sP, zI_sI, zI_sJ, zI_sP, zJ_sI, zJ_sJ, zJ_sP, zP_sI, zP_sJ, zP_sP, Option.toList_some, Option.toList_none, List.cons_append, List.nil_append]
  rw [i6, wb_shr (by omega) (by omega), lN_i, and63]
  rw [dg, p64] at h
  exact h
/-- lifeOf -/
theorem s12 {n : Nat} (h : Q (some (.int (nI (n % 32)))) M) : zC X 12 [.int (nI n)] M Q := by
  rw [c12]
  simp only [w12_0, w12_1, w12_3, w12_4, zk_sI, zk_sJ, zk_sP, zn_sI, zn_sJ, zn_sP, zI_sI, zI_sJ, zI_sP, zJ_sI, zJ_sJ, zJ_sP, zP_sI, zP_sJ, zP_sP, Option.toList_some, Option.toList_none, List.cons_append, List.nil_append]
  rw [and31]
  exact h
/-- afterFlight -/
theorem s15 {a : Nat} (hN : N < 64 ^ 6) (hk : k < 6) (h : Q (some (.long (lN (sd N k (dg N k % 32))))) M) : zC X 15 [.ref a, .long (lN N), .int (nI k)] M Q := by
  rw [c15]
  simp only [w15_0, w15_1, w15_4, w15_6, w15_7, w15_8, w15_9, w15_12, w15_13, w15_14, zk_sI, zk_sJ, zk_sP, zn_sI, zn_sJ, zn_sP, zI_sI, zI_sJ, zI_sP, zJ_sI, zJ_sJ, zJ_sP, zP_sI, zP_sJ, zP_sP, Option.toList_some, Option.toList_none, List.cons_append, List.nil_append]
  have e : (32 : Int64) = lN 32 := rfl
  rw [i6, e, and_clear hN hk (by decide)]
  have h2 : ∀ d, d < 64 → d - (d &&& 32) = d % 32 := by decide +kernel
  rw [h2 _ (dg_lt N k)]
  exact h
theorem shl_int (hf : f < 64) (hk : k < 6) : (nI f).toInt64 <<< ((nI (6 * k)).toInt64 &&& 63) = lN (f * 64 ^ k) := by
  rw [nI_l (by omega), wb_shl f (by omega), p64]
theorem clear63 (hN : N < 64 ^ 6) (hk : k < 6) : lN N &&& ((63 <<< ((nI (6 * k)).toInt64 &&& 63)) ^^^ (-1)) = lN (sd N k 0) := by
  have h := and_clear (m := 63) hN hk (by decide)
  have h2 : ∀ d, d < 64 → d - (d &&& 63) = 0 := by decide +kernel
  rw [h2 _ (dg_lt N k)] at h
  exact h
theorem life_of (hN : N < 64 ^ 6) (hk : k < 6) : ((((lN N).toUInt64 >>> ((nI (6 * k)).toInt64.toUInt64 &&& Int64.toUInt64 63)).toInt64) &&& 31).toInt32 = nI (dg N k % 32) := by
  rw [wb_shr (by omega) (by omega)]
  have e31 : (31 : Int64) = lN (2 ^ 5 - 1) := rfl
  rw [e31, wb_mask (Nat.lt_of_le_of_lt (Nat.div_le_self _ _) (by omega)) (by decide), lN_i]
  congr 1
  rw [dg, p64]
  omega
/-- struck -/
def zstr (d f : Nat) : Nat := if d % 32 ≤ f then 0 else d - f
theorem s20 {j : Int32} (hN : N < 64 ^ 6) (hk : j = nI k ∧ k < 6 ∨ j = -1) (hf : f < 64) (h : Q (some (.long (if j = -1 then lN N else lN (sd N k (zstr (dg N k) f))))) M) : zC X 20 [.long (lN N), .int j, .int (nI f)] M Q := by
  rw [c20]
  simp only [w20_0, w20_1, w20_4, w20_5, w20_6, w20_8, w20_9, w20_10, w20_12, w20_13, w20_15, w20_16, w20_19, w20_20, w20_21, w20_22, w20_25, w20_26, w20_29, w20_30, w20_32, w20_34, w20_37, w20_38, w20_41, w20_43, w20_44, w20_47, w20_48, w20_49, w20_52, w20_53, w20_54, w20_55, w20_57, w20_58, w20_59, zk_sI, zk_sJ, zk_sP, zn_sI, zn_sJ, zn_sP, zI_sI, zI_sJ, zI_sP, zJ_sI, zJ_sJ, zJ_sP, zP_sI, zP_sJ, zP_sP, Option.toList_some, Option.toList_none, List.cons_append, List.nil_append]
  rcases hk with ⟨rfl, hk⟩ | rfl
  · rw [if_neg (by rw [n_ne (by omega)]; exact fun z => z)] at h
    refine ⟨fun _ => ?_, fun z => absurd (nI_pos' (by omega)) z⟩
    have hdl := dg_lt N k
    rw [i6, life_of hN hk, n_lt (by omega) (by omega), clear63 hN hk, shl_int hf hk]
    refine ⟨fun h1 => ⟨fun _ => ?_, fun z => absurd trivial z⟩, fun h1 => ⟨fun z => absurd z (by decide), fun _ => ?_⟩⟩
    · rw [zstr, if_neg (by omega)] at h
      have hfd : f ≤ dg N k := by omega
      rw [lN_sub (Nat.le_trans (Nat.mul_le_mul_right _ hfd) (dg_mul_le hk)), sd_sub hk hfd]
      exact h
    · rw [zstr, if_pos (by omega)] at h
      exact h
  · rw [if_pos rfl] at h
    exact ⟨fun z => absurd z (by decide), fun _ => h⟩
/-- flees -/
theorem s14 (hP : zPk M) (hN : N < 64 ^ 6) (hk : k < 6) (h : Q (some (.int (zB (nI (dg N k % 32) ≤ zf_I M 9 k)))) M) : zC X 14 [.ref 4, .long (lN N), .int (nI k)] M Q := by
  rw [c14]
  simp only [w14_0, w14_1, w14_2, w14_5, w14_8, w14_9, w14_12, w14_13, w14_14, w14_17, w14_18, w14_21, w14_22, zk_sI, zk_sJ, zk_sP, zn_sI, zn_sJ, zn_sP, zI_sI, zI_sJ, zI_sP, zJ_sI, zJ_sJ, zJ_sP, zP_sI, zP_sJ, zP_sP, Option.toList_some, Option.toList_none, List.cons_append, List.nil_append, zk_of hP.1, zn_of hP.1, zix, ziN, ne_eq, reduceCtorEq, not_false_eq_true, true_and, and_true, Option.getD_some, Nat.reduceLeDiff, Nat.reduceLT, c_ofNat, zkd4, zp_4_0 hP, zp_4_1 hP, zp_4_2 hP, zp_4_3 hP, zp_4_4 hP, zp_4_5 hP, zp_4_6 hP, zkd5, znd5, zfx5, zkd6, znd6, zfx6, zkd7, znd7, zfx7, zkd8, znd8, zfx8, zkd9, znd9, zfx9, zkd10, znd10, zfx10, zkd11, znd11, zfx11]
  refine s11 hN hk ?_
  simp only [w14_0, w14_1, w14_2, w14_5, w14_8, w14_9, w14_12, w14_13, w14_14, w14_17, w14_18, w14_21, w14_22, zk_sI, zk_sJ, zk_sP, zn_sI, zn_sJ, zn_sP, zI_sI, zI_sJ, zI_sP, zJ_sI, zJ_sJ, zJ_sP, zP_sI, zP_sJ, zP_sP, Option.toList_some, Option.toList_none, List.cons_append, List.nil_append]
  refine s12 ?_
  simp only [w14_0, w14_1, w14_2, w14_5, w14_8, w14_9, w14_12, w14_13, w14_14, w14_17, w14_18, w14_21, w14_22, zk_sI, zk_sJ, zk_sP, zn_sI, zn_sJ, zn_sP, zI_sI, zI_sJ, zI_sP, zJ_sI, zJ_sJ, zJ_sP, zP_sI, zP_sJ, zP_sP, Option.toList_some, Option.toList_none, List.cons_append, List.nil_append, zk_of hP.1, zn_of hP.1, zix, ziN, ne_eq, reduceCtorEq, not_false_eq_true, true_and, and_true, Option.getD_some, Nat.reduceLeDiff, Nat.reduceLT, c_ofNat, zkd4, zp_4_0 hP, zp_4_1 hP, zp_4_2 hP, zp_4_3 hP, zp_4_4 hP, zp_4_5 hP, zp_4_6 hP, zkd5, znd5, zfx5, zkd6, znd6, zfx6, zkd7, znd7, zfx7, zkd8, znd8, zfx8, zkd9, znd9, zfx9, zkd10, znd10, zfx10, zkd11, znd11, zfx11]
  rw [n_cl (by omega), n_in hk (by decide)]
  exact ⟨trivial, fun h1 => zB_2 (Int32.not_le.mpr h1) h, fun h1 => zB_1 (Int32.not_lt.mp h1) h⟩
/-- hits -/
theorem s16 (hP : zPk M) (hk : k < 6) (h : Q (some (.int (zf_I M 7 k))) M) : zC X 16 [.ref 4, .int (nI k)] M Q := by
  rw [c16]
  simp only [w16_0, w16_1, w16_4, w16_5, w16_6, zk_sI, zk_sJ, zk_sP, zn_sI, zn_sJ, zn_sP, zI_sI, zI_sJ, zI_sP, zJ_sI, zJ_sJ, zJ_sP, zP_sI, zP_sJ, zP_sP, Option.toList_some, Option.toList_none, List.cons_append, List.nil_append, zk_of hP.1, zn_of hP.1, zix, ziN, ne_eq, reduceCtorEq, not_false_eq_true, true_and, and_true, Option.getD_some, Nat.reduceLeDiff, Nat.reduceLT, c_ofNat, zkd4, zp_4_0 hP, zp_4_1 hP, zp_4_2 hP, zp_4_3 hP, zp_4_4 hP, zp_4_5 hP, zp_4_6 hP, zkd5, znd5, zfx5, zkd6, znd6, zfx6, zkd7, znd7, zfx7, zkd8, znd8, zfx8, zkd9, znd9, zfx9, zkd10, znd10, zfx10, zkd11, znd11, zfx11]
  rw [n_cl (by omega), n_in hk (by decide)]
  exact ⟨trivial, h⟩
theorem lN0 {a : Nat} (h : a < 2 ^ 63) : (lN a = 0) = (a = 0) := propext (pk_lEQ (b := 0) h (by decide))
theorem up_bits (c i0 i1 i2 : Nat) (hc : c = 2 ^ i0 + 2 ^ i1 + 2 ^ i2) (hb : ∀ i, (2 ^ i0 + 2 ^ i1 + 2 ^ i2).testBit i = (decide (i = i0) || decide (i = i1) || decide (i = i2))) : (N &&& c = 0) ↔ N.testBit i0 = false ∧ N.testBit i1 = false ∧ N.testBit i2 = false := by
  subst hc
  constructor
  · intro h
    have key : ∀ i, (N.testBit i && (decide (i = i0) || decide (i = i1) || decide (i = i2))) = false := by
      intro i
      rw [← hb, ← Nat.testBit_and, h, Nat.zero_testBit]
    refine ⟨?_, ?_, ?_⟩
    · simpa using key i0
    · simpa using key i1
    · simpa using key i2
  · rintro ⟨h0, h1, h2⟩
    apply Nat.eq_of_testBit_eq
    intro i
    rw [Nat.testBit_and, hb, Nat.zero_testBit]
    by_cases e0 : i = i0
    · subst e0; simp [h0]
    · by_cases e1 : i = i1
      · subst e1; simp [h1]
      · by_cases e2 : i = i2
        · subst e2; simp [h2]
        · simp [e0, e1, e2]
theorem bits_of (c n : Nat) (f : Nat → Bool) (hc : c < 2 ^ n) (h : ∀ i, i < n → c.testBit i = f i) (hf : ∀ i, n ≤ i → f i = false) : ∀ i, c.testBit i = f i := by
  intro i
  by_cases hi : i < n
  · exact h i hi
  · rw [Nat.testBit_lt_two_pow (Nat.lt_of_lt_of_le hc (Nat.pow_le_pow_right (by decide) (by omega))), hf i (by omega)]
theorem up_h : (N &&& 133152 = 0) ↔ ¬ (32 ≤ dg N 0 ∨ 32 ≤ dg N 1 ∨ 32 ≤ dg N 2) := by
  rw [up_bits 133152 5 11 17 (by decide) (bits_of _ 18 _ (by decide) (by decide +kernel) (by intro i hi; simp; omega))]
  simp only [Nat.testBit_eq_decide_div_mod_eq, dg, Nat.reducePow, decide_eq_false_iff_not]
  omega
theorem up_f : (N &&& 34904997888 = 0) ↔ ¬ (32 ≤ dg N 3 ∨ 32 ≤ dg N 4 ∨ 32 ≤ dg N 5) := by
  rw [up_bits 34904997888 23 29 35 (by decide) (bits_of _ 36 _ (by decide) (by decide +kernel) (by intro i hi; simp; omega))]
  simp only [Nat.testBit_eq_decide_div_mod_eq, dg, Nat.reducePow, decide_eq_false_iff_not]
  omega
/-- -1: on both sides somebody is up; 0 heroes have won; 1 foes -/
def zwin (N : Nat) : Int32 := if 32 ≤ dg N 0 ∨ 32 ≤ dg N 1 ∨ 32 ≤ dg N 2 then (if 32 ≤ dg N 3 ∨ 32 ≤ dg N 4 ∨ 32 ≤ dg N 5 then -1 else 0) else 1
theorem s10 (hN : N < 64 ^ 6) (h : Q (some (.int (zwin N))) M) : zC X 10 [.long (lN N)] M Q := by
  rw [c10]
  simp only [w10_0, w10_1, w10_4, w10_5, w10_6, w10_7, w10_10, w10_11, w10_12, w10_13, w10_16, w10_17, w10_18, w10_19, w10_22, w10_23, w10_26, w10_27, zk_sI, zk_sJ, zk_sP, zn_sI, zn_sJ, zn_sP, zI_sI, zI_sJ, zI_sP, zJ_sI, zJ_sJ, zJ_sP, zP_sI, zP_sJ, zP_sP, Option.toList_some, Option.toList_none, List.cons_append, List.nil_append, lc_eq]
  have e1 : (133152 : Int64) = lN 133152 := rfl
  have e2 : (34904997888 : Int64) = lN 34904997888 := rfl
  have b1 : N &&& 133152 ≤ N := Nat.and_le_left
  have b2 : N &&& 34904997888 ≤ N := Nat.and_le_left
  rw [e1, e2, wb_and (by omega) (by decide), wb_and (by omega) (by decide), lN0 (by omega), lN0 (by omega), up_h, up_f]
  unfold zwin at h
  refine ⟨fun h1 => ⟨fun h2 => ?_, fun h2 => ?_⟩, fun h1 => ?_⟩
  · rw [if_pos (Decidable.not_not.mp h1), if_pos (Decidable.not_not.mp h2)] at h
    exact h
  · rw [if_pos (Decidable.not_not.mp h1), if_neg (fun z => h2 (fun y => y z))] at h
    exact h
  · rw [if_neg (fun z => h1 (fun y => y z))] at h
    exact h
/-- hasTurn -/
theorem s13 {r : Int32} (hP : zPk M) (hN : N < 64 ^ 6) (hk : k < 6) (h : Q (some (.int (zB (32 ≤ dg N k ∧ ¬ (r = 1 ∧ nI (k / 3) = zf_I M 4 10))))) M) : zC X 13 [.ref 4, .long (lN N), .int (nI k), .int r] M Q := by
  rw [c13]
  have hd := dg_lt N k
  have e3 : nI k / 3 = nI (k / 3) := pk_div (by omega) (by decide) (by decide)
  have key : ∀ z : Int32, (z = zB (r = 1 ∧ nI (k / 3) = zf_I M 4 10)) → zW X 13 23 [.val (.ref 4), .val (.long (lN N)), .second, .val (.int (nI k)), .val (.int r), .val (.int z)] [] M Q := by
    intro z hz
    simp only [w13_0, w13_2, w13_3, w13_6, w13_7, w13_8, w13_9, w13_10, w13_13, w13_16, w13_17, w13_20, w13_21, w13_23, w13_24, w13_25, w13_28, w13_30, w13_33, w13_35, w13_38, w13_39, w13_42, w13_43, zk_sI, zk_sJ, zk_sP, zn_sI, zn_sJ, zn_sP, zI_sI, zI_sJ, zI_sP, zJ_sI, zJ_sJ, zJ_sP, zP_sI, zP_sJ, zP_sP, Option.toList_some, Option.toList_none, List.cons_append, List.nil_append]
    refine s11 hN hk ?_
    simp only [w13_0, w13_2, w13_3, w13_6, w13_7, w13_8, w13_9, w13_10, w13_13, w13_16, w13_17, w13_20, w13_21, w13_23, w13_24, w13_25, w13_28, w13_30, w13_33, w13_35, w13_38, w13_39, w13_42, w13_43, zk_sI, zk_sJ, zk_sP, zn_sI, zn_sJ, zn_sP, zI_sI, zI_sJ, zI_sP, zJ_sI, zJ_sJ, zJ_sP, zP_sI, zP_sJ, zP_sP, Option.toList_some, Option.toList_none, List.cons_append, List.nil_append]
    rw [c_32, n_lt (by omega) (by omega)]
    subst hz
    rw [zB_0]
    refine ⟨fun h1 => zB_2 (fun z => by omega) h, fun h1 => ⟨fun h2 => zB_2 (fun z => h2 z.2) h, fun h2 => zB_1 ⟨by omega, Decidable.not_not.mp h2⟩ h⟩⟩
  simp only [w13_0, w13_2, w13_3, w13_6, w13_7, w13_8, w13_9, w13_10, w13_13, w13_16, w13_17, w13_20, w13_21, zk_sI, zk_sJ, zk_sP, zn_sI, zn_sJ, zn_sP, zI_sI, zI_sJ, zI_sP, zJ_sI, zJ_sJ, zJ_sP, zP_sI, zP_sJ, zP_sP, Option.toList_some, Option.toList_none, List.cons_append, List.nil_append, zk_of hP.1, zn_of hP.1, zix, ziN, ne_eq, reduceCtorEq, not_false_eq_true, true_and, and_true, Option.getD_some, Nat.reduceLeDiff, Nat.reduceLT, c_ofNat, zkd4, zp_4_0 hP, zp_4_1 hP, zp_4_2 hP, zp_4_3 hP, zp_4_4 hP, zp_4_5 hP, zp_4_6 hP, zkd5, znd5, zfx5, zkd6, znd6, zfx6, zkd7, znd7, zfx7, zkd8, znd8, zfx8, zkd9, znd9, zfx9, zkd10, znd10, zfx10, zkd11, znd11, zfx11, e3]
  refine ⟨fun h1 => key _ (zB_f (fun z => h1 z.1)).symm, fun h1 => ⟨by decide, fun h2 => key _ (zB_f (fun z => h2 z.2)).symm, fun h2 => key _ (zB_t ⟨Decidable.not_not.mp h1, Decidable.not_not.mp h2⟩).symm⟩⟩
/-- the one who is struck or healed: of three seats from s on, of those up, the first, or the first with the least -/
def zch (y : Bool) (N s : Nat) : Nat → Int32 × Int32
  | 0 => (-1, 0)
  | n + 1 => if 32 ≤ dg N (s + n) ∧ ((zch y N s n).1 = -1 ∨ (y = true ∧ nI (dg N (s + n)) < (zch y N s n).2)) then (nI (s + n), nI (dg N (s + n))) else zch y N s n
theorem zch_in (y : Bool) (N s : Nat) : ∀ n, (zch y N s n).1 = -1 ∨ ∃ i, i < n ∧ (zch y N s n).1 = nI (s + i) ∧ 32 ≤ dg N (s + i)
  | 0 => Or.inl rfl
  | n + 1 => by
    rw [zch]
    split
    next h => exact Or.inr ⟨n, by omega, rfl, h.1⟩
    next =>
      rcases zch_in y N s n with h | ⟨i, h1, h2, h3⟩
      · exact Or.inl h
      · exact Or.inr ⟨i, by omega, h2, h3⟩
theorem s18 {d : Nat} {b : Int32} (hN : N < 64 ^ 6) (hd : d < 2) (h : Q (some (.int (zch (decide (b ≠ 0)) N (3 * d) 3).1)) M) : zC X 18 [.ref 4, .long (lN N), .int (nI d), .int b] M Q := by
  rw [c18]
  have loop : ∀ (m n : Nat) (l8 : Slot), n + m = 3 → zW X 18 11 [.val (.ref 4), .val (.long (lN N)), .second, .val (.int (nI d)), .val (.int b), .val (.int (zch (decide (b ≠ 0)) N (3 * d) n).1), .val (.int (zch (decide (b ≠ 0)) N (3 * d) n).2), .val (.int (nI (3 * d + n))), l8] [] M Q := by
    intro m
    induction m with
    | zero =>
      intro n l8 hn
      obtain rfl : n = 3 := by omega
      rw [w18_11]
      simp only [w18_0, w18_1, w18_3, w18_4, w18_6, w18_7, w18_8, w18_9, w18_13, w18_14, w18_15, w18_16, w18_17, w18_18, w18_21, w18_22, w18_24, w18_27, w18_29, w18_31, w18_33, w18_36, w18_38, w18_39, w18_42, w18_44, w18_47, w18_49, w18_51, w18_54, w18_56, w18_58, w18_60, w18_62, w18_65, w18_68, w18_70, zk_sI, zk_sJ, zk_sP, zn_sI, zn_sJ, zn_sP, zI_sI, zI_sJ, zI_sP, zJ_sI, zJ_sJ, zJ_sP, zP_sI, zP_sJ, zP_sP, Option.toList_some, Option.toList_none, List.cons_append, List.nil_append]
      rw [n_m3, n_a3, n_le (by omega) (by omega)]
      exact ⟨fun _ => h, fun z => absurd (Nat.le_refl _) z⟩
    | succ m ih =>
      intro n l8 hn
      rw [w18_11]
      simp only [w18_0, w18_1, w18_3, w18_4, w18_6, w18_7, w18_8, w18_9, w18_13, w18_14, w18_15, w18_16, w18_17, w18_18, w18_21, w18_22, w18_24, w18_27, w18_29, w18_31, w18_33, w18_36, w18_38, w18_39, w18_42, w18_44, w18_47, w18_49, w18_51, w18_54, w18_56, w18_58, w18_60, w18_62, w18_65, w18_68, w18_70, zk_sI, zk_sJ, zk_sP, zn_sI, zn_sJ, zn_sP, zI_sI, zI_sJ, zI_sP, zJ_sI, zJ_sJ, zJ_sP, zP_sI, zP_sJ, zP_sP, Option.toList_some, Option.toList_none, List.cons_append, List.nil_append]
      rw [n_m3, n_a3, n_le (by omega) (by omega)]
      refine ⟨fun z => by omega, fun _ => ?_⟩
      refine s11 hN (by omega) ?_
      simp only [w18_0, w18_1, w18_3, w18_4, w18_6, w18_7, w18_8, w18_9, w18_13, w18_14, w18_15, w18_16, w18_17, w18_18, w18_21, w18_22, w18_24, w18_27, w18_29, w18_31, w18_33, w18_36, w18_38, w18_39, w18_42, w18_44, w18_47, w18_49, w18_51, w18_54, w18_56, w18_58, w18_60, w18_62, w18_65, w18_68, w18_70, zk_sI, zk_sJ, zk_sP, zn_sI, zn_sJ, zn_sP, zI_sI, zI_sJ, zI_sP, zJ_sI, zJ_sJ, zJ_sP, zP_sI, zP_sJ, zP_sP, Option.toList_some, Option.toList_none, List.cons_append, List.nil_append]
      have hdl := dg_lt N (3 * d + n)
      rw [c_32, n_lt (by omega) (by omega), n_a1]
      have key : ∀ (p : Int32 × Int32) (l8 : Slot), zch (decide (b ≠ 0)) N (3 * d) (n + 1) = p → zW X 18 11 [.val (.ref 4), .val (.long (lN N)), .second, .val (.int (nI d)), .val (.int b), .val (.int p.1), .val (.int p.2), .val (.int (nI (3 * d + n + 1))), l8] [] M Q := by
        intro p l8 e
        rw [← e]
        exact ih (n + 1) l8 (by omega)
      refine ⟨fun h1 => key (_, _) _ ?_, fun h1 => ⟨fun h2 => key (nI (3 * d + n), nI (dg N (3 * d + n))) _ ?_, fun h2 => ⟨fun h3 => key (_, _) _ ?_, fun h3 => ⟨fun h4 => key (_, _) _ ?_, fun h4 => key (nI (3 * d + n), nI (dg N (3 * d + n))) _ ?_⟩⟩⟩⟩
      · rw [zch, if_neg (fun z => by omega)]
      · rw [zch, if_pos ⟨by omega, Or.inl h2⟩]
      · rw [zch, if_neg (fun z => z.2.elim h2 (fun y => absurd h3 (of_decide_eq_true y.1)))]
      · rw [zch, if_neg (fun z => z.2.elim h2 (fun y => absurd y.2 (Int32.not_lt.mpr h4)))]
      · rw [zch, if_pos ⟨by omega, Or.inr ⟨decide_eq_true h3, Int32.not_le.mp h4⟩⟩]
  simp only [w18_0, w18_1, w18_3, w18_4, w18_6, w18_7, w18_8, w18_9, w18_13, w18_14, w18_15, w18_16, w18_17, w18_18, w18_21, w18_22, w18_24, w18_27, w18_29, w18_31, w18_33, w18_36, w18_38, w18_39, w18_42, w18_44, w18_47, w18_49, w18_51, w18_54, w18_56, w18_58, w18_60, w18_62, w18_65, w18_68, w18_70, zk_sI, zk_sJ, zk_sP, zn_sI, zn_sJ, zn_sP, zI_sI, zI_sJ, zI_sP, zJ_sI, zJ_sJ, zJ_sP, zP_sI, zP_sJ, zP_sP, Option.toList_some, Option.toList_none, List.cons_append, List.nil_append]
  rw [n_m3]
  exact loop 3 0 _ (by decide)
/-- allStruck -/
def zall (N s f : Nat) : Nat → Nat
  | 0 => N
  | n + 1 => if 32 ≤ dg N (s + n) then sd (zall N s f n) (s + n) (zstr (dg (zall N s f n) (s + n)) f) else zall N s f n
theorem zstr_lt (d f : Nat) (h : d < 64) : zstr d f < 64 := by
  unfold zstr
  split <;> omega
theorem zall_lt {N s f n : Nat} (hN : N < 64 ^ 6) (hs : s + n ≤ 6) : zall N s f n < 64 ^ 6 := by
  induction n with
  | zero => exact hN
  | succ n ih =>
    rw [zall]
    split
    · exact sd_lt (ih (by omega)) (by omega) (zstr_lt _ _ (dg_lt _ _))
    · exact ih (by omega)
theorem s19 {d : Nat} (hN : N < 64 ^ 6) (hd : d < 2) (hf : f < 64) (h : Q (some (.long (lN (zall N (3 * d) f 3)))) M) : zC X 19 [.ref 4, .long (lN N), .int (nI d), .int (nI f)] M Q := by
  rw [c19]
  have loop : ∀ (m n : Nat), n + m = 3 → zW X 19 8 [.val (.ref 4), .val (.long (lN N)), .second, .val (.int (nI d)), .val (.int (nI f)), .val (.long (lN (zall N (3 * d) f n))), .second, .val (.int (nI (3 * d + n)))] [] M Q := by
    intro m
    induction m with
    | zero =>
      intro n hn
      obtain rfl : n = 3 := by omega
      rw [w19_8]
      simp only [w19_0, w19_1, w19_3, w19_4, w19_5, w19_6, w19_10, w19_11, w19_12, w19_13, w19_14, w19_15, w19_18, w19_19, w19_21, w19_24, w19_26, w19_29, w19_31, w19_33, w19_35, w19_38, w19_40, w19_43, w19_46, w19_48, zk_sI, zk_sJ, zk_sP, zn_sI, zn_sJ, zn_sP, zI_sI, zI_sJ, zI_sP, zJ_sI, zJ_sJ, zJ_sP, zP_sI, zP_sJ, zP_sP, Option.toList_some, Option.toList_none, List.cons_append, List.nil_append]
      rw [n_m3, n_a3, n_le (by omega) (by omega)]
      exact ⟨fun _ => h, fun z => absurd (Nat.le_refl _) z⟩
    | succ m ih =>
      intro n hn
      rw [w19_8]
      simp only [w19_0, w19_1, w19_3, w19_4, w19_5, w19_6, w19_10, w19_11, w19_12, w19_13, w19_14, w19_15, w19_18, w19_19, w19_21, w19_24, w19_26, w19_29, w19_31, w19_33, w19_35, w19_38, w19_40, w19_43, w19_46, w19_48, zk_sI, zk_sJ, zk_sP, zn_sI, zn_sJ, zn_sP, zI_sI, zI_sJ, zI_sP, zJ_sI, zJ_sJ, zJ_sP, zP_sI, zP_sJ, zP_sP, Option.toList_some, Option.toList_none, List.cons_append, List.nil_append]
      rw [n_m3, n_a3, n_le (by omega) (by omega)]
      refine ⟨fun z => by omega, fun _ => ?_⟩
      refine s11 hN (by omega) ?_
      simp only [w19_0, w19_1, w19_3, w19_4, w19_5, w19_6, w19_10, w19_11, w19_12, w19_13, w19_14, w19_15, w19_18, w19_19, w19_21, w19_24, w19_26, w19_29, w19_31, w19_33, w19_35, w19_38, w19_40, w19_43, w19_46, w19_48, zk_sI, zk_sJ, zk_sP, zn_sI, zn_sJ, zn_sP, zI_sI, zI_sJ, zI_sP, zJ_sI, zJ_sJ, zJ_sP, zP_sI, zP_sJ, zP_sP, Option.toList_some, Option.toList_none, List.cons_append, List.nil_append]
      have hdl := dg_lt N (3 * d + n)
      rw [c_32, n_lt (by omega) (by omega), n_a1]
      have i2 := ih (n + 1) (by omega)
      refine ⟨fun h1 => ?_, fun h1 => ?_⟩
      · rw [zall, if_neg (by omega)] at i2
        exact i2
      · refine s20 (k := 3 * d + n) (zall_lt hN (by omega)) (Or.inl ⟨rfl, by omega⟩) hf ?_
        rw [if_neg (by rw [n_ne (by omega)]; exact fun z => z)]
        simp only [w19_0, w19_1, w19_3, w19_4, w19_5, w19_6, w19_10, w19_11, w19_12, w19_13, w19_14, w19_15, w19_18, w19_19, w19_21, w19_24, w19_26, w19_29, w19_31, w19_33, w19_35, w19_38, w19_40, w19_43, w19_46, w19_48, zk_sI, zk_sJ, zk_sP, zn_sI, zn_sJ, zn_sP, zI_sI, zI_sJ, zI_sP, zJ_sI, zJ_sJ, zJ_sP, zP_sI, zP_sJ, zP_sP, Option.toList_some, Option.toList_none, List.cons_append, List.nil_append]
        rw [zall, if_pos (by omega)] at i2
        rw [n_a1]
        exact i2
  simp only [w19_0, w19_1, w19_3, w19_4, w19_5, w19_6, w19_10, w19_11, w19_12, w19_13, w19_14, w19_15, w19_18, w19_19, w19_21, w19_24, w19_26, w19_29, w19_31, w19_33, w19_35, w19_38, w19_40, w19_43, w19_46, w19_48, zk_sI, zk_sJ, zk_sP, zn_sI, zn_sJ, zn_sP, zI_sI, zI_sJ, zI_sP, zJ_sI, zJ_sJ, zJ_sP, zP_sI, zP_sJ, zP_sP, Option.toList_some, Option.toList_none, List.cons_append, List.nil_append]
  rw [n_m3]
  exact loop 3 0 (by decide)
/-- healed -/
theorem s21 {L : Nat} {j : Int32} (hP : zPk M) (hN : N < 64 ^ 6) (hk : j = nI k ∧ k < 6 ∧ zf_I M 6 k = nI L ∧ dg N k % 32 ≤ L ∧ L < 32 ∨ j = -1) (hf : f < 64) (h : Q (some (.long (if j = -1 then lN N else lN (sd N k (dg N k + min f (L - dg N k % 32)))))) M) : zC X 21 [.ref 4, .long (lN N), .int j, .int (nI f)] M Q := by
  rw [c21]
  simp only [w21_0, w21_1, w21_4, w21_5, w21_7, w21_10, w21_11, w21_12, w21_13, w21_16, w21_17, w21_18, w21_19, w21_20, w21_23, w21_26, w21_27, w21_29, w21_30, w21_32, w21_34, w21_37, w21_38, w21_40, w21_41, w21_42, w21_43, w21_44, zk_sI, zk_sJ, zk_sP, zn_sI, zn_sJ, zn_sP, zI_sI, zI_sJ, zI_sP, zJ_sI, zJ_sJ, zJ_sP, zP_sI, zP_sJ, zP_sP, Option.toList_some, Option.toList_none, List.cons_append, List.nil_append, zk_of hP.1, zn_of hP.1, zix, ziN, ne_eq, reduceCtorEq, not_false_eq_true, true_and, and_true, Option.getD_some, Nat.reduceLeDiff, Nat.reduceLT, c_ofNat, zkd4, zp_4_0 hP, zp_4_1 hP, zp_4_2 hP, zp_4_3 hP, zp_4_4 hP, zp_4_5 hP, zp_4_6 hP, zkd5, znd5, zfx5, zkd6, znd6, zfx6, zkd7, znd7, zfx7, zkd8, znd8, zfx8, zkd9, znd9, zfx9, zkd10, znd10, zfx10, zkd11, znd11, zfx11]
  rcases hk with ⟨rfl, hk, hL, hl1, hl2⟩ | rfl
  · rw [if_neg (by rw [n_ne (by omega)]; exact fun z => z)] at h
    rw [c_6, n_lt (by omega) (by omega), n_cl (by omega), n_in hk (by decide), hL]
    refine ⟨fun z => absurd z (nI_pos (by omega)), fun _ => ⟨fun _ => ⟨trivial, ?_⟩, fun z => absurd hk z⟩⟩
    refine s11 hN hk ?_
    simp only [w21_0, w21_1, w21_4, w21_5, w21_7, w21_10, w21_11, w21_12, w21_13, w21_16, w21_17, w21_18, w21_19, w21_20, w21_23, w21_26, w21_27, w21_29, w21_30, w21_32, w21_34, w21_37, w21_38, w21_40, w21_41, w21_42, w21_43, w21_44, zk_sI, zk_sJ, zk_sP, zn_sI, zn_sJ, zn_sP, zI_sI, zI_sJ, zI_sP, zJ_sI, zJ_sJ, zJ_sP, zP_sI, zP_sJ, zP_sP, Option.toList_some, Option.toList_none, List.cons_append, List.nil_append]
    refine s12 ?_
    simp only [w21_0, w21_1, w21_4, w21_5, w21_7, w21_10, w21_11, w21_12, w21_13, w21_16, w21_17, w21_18, w21_19, w21_20, w21_23, w21_26, w21_27, w21_29, w21_30, w21_32, w21_34, w21_37, w21_38, w21_40, w21_41, w21_42, w21_43, w21_44, zk_sI, zk_sJ, zk_sP, zn_sI, zn_sJ, zn_sP, zI_sI, zI_sJ, zI_sP, zJ_sI, zJ_sJ, zJ_sP, zP_sI, zP_sJ, zP_sP, Option.toList_some, Option.toList_none, List.cons_append, List.nil_append]
    rw [pk_sub hl1, n_m6]
    have e : (if nI (L - dg N k % 32) < nI f then nI (L - dg N k % 32) else nI f) = nI (min f (L - dg N k % 32)) := by
      by_cases hc : L - dg N k % 32 < f
      · rw [if_pos ((nI_ltI (by omega) (by omega)).mpr hc)]
        congr 1
        omega
      · rw [if_neg (fun z => hc ((nI_ltI (by omega) (by omega)).mp z))]
        congr 1
        omega
    have hdl := dg_lt N k
    rw [e, shl_int (by omega) hk, lN_add, sd_add hk]
    exact h
  · rw [if_pos rfl] at h
    exact ⟨fun _ => h, fun z => absurd (by decide) z⟩
/-- a hit -/
def zhit (kd am : Int32) (f : Nat) (lf : Nat → Nat) (N k : Nat) : Nat :=
  if kd = 0 then (let j := (zch (decide (am = 1)) N (3 * (1 - k / 3)) 3).1; if j = -1 then N else sd N j.toNatClampNeg (zstr (dg N j.toNatClampNeg) f))
  else if kd = 1 then zall N (3 * (1 - k / 3)) f 3
  else (let j := (zch true N (3 * (k / 3)) 3).1; if j = -1 then N else sd N j.toNatClampNeg (dg N j.toNatClampNeg + min f (lf j.toNatClampNeg - dg N j.toNatClampNeg % 32)))
theorem s17 {lf : Nat → Nat} (hP : zPk M) (hN : N < 64 ^ 6) (hk : k < 6) (hf : zf_I M 8 k = nI f ∧ f < 64) (hkd : zf_I M 5 k = 0 ∨ zf_I M 5 k = 1 ∨ zf_I M 5 k = 2) (hlf : ∀ j, j < 6 → 32 ≤ dg N j → zf_I M 6 j = nI (lf j) ∧ dg N j % 32 ≤ lf j ∧ lf j < 32) (h : Q (some (.long (lN (zhit (zf_I M 5 k) (zf_I M 4 9) f lf N k)))) M) : zC X 17 [.ref 4, .long (lN N), .int (nI k)] M Q := by
  rw [c17]
  have e3 : nI k / 3 = nI (k / 3) := pk_div (by omega) (by decide) (by decide)
  have e1 : (1 : Int32) - nI (k / 3) = nI (1 - k / 3) := by rw [c_1]; exact pk_sub (by omega)
  obtain ⟨hf, hf2⟩ := hf
  have c1 := n_cl (show k < 2 ^ 31 by omega)
  have c2 := n_in hk (show 6 < 2 ^ 31 by decide)
  simp only [w17_0, w17_1, w17_2, w17_3, w17_5, w17_6, w17_9, w17_10, w17_36, w17_37, w17_38, w17_39, w17_40, w17_42, w17_43, w17_44, w17_47, w17_48, w17_51, w17_52, w17_55, w17_56, w17_59, w17_60, w17_63, w17_64, w17_65, w17_68, w17_69, w17_70, w17_71, w17_72, w17_74, w17_75, w17_76, w17_79, w17_80, w17_81, w17_84, w17_85, w17_86, w17_87, w17_88, w17_89, w17_91, w17_92, w17_95, w17_96, w17_99, w17_100, w17_101, w17_104, zk_sI, zk_sJ, zk_sP, zn_sI, zn_sJ, zn_sP, zI_sI, zI_sJ, zI_sP, zJ_sI, zJ_sJ, zJ_sP, zP_sI, zP_sJ, zP_sP, Option.toList_some, Option.toList_none, List.cons_append, List.nil_append, zk_of hP.1, zn_of hP.1, zix, ziN, ne_eq, reduceCtorEq, not_false_eq_true, true_and, and_true, Option.getD_some, Nat.reduceLeDiff, Nat.reduceLT, c_ofNat, zkd4, zp_4_0 hP, zp_4_1 hP, zp_4_2 hP, zp_4_3 hP, zp_4_4 hP, zp_4_5 hP, zp_4_6 hP, zkd5, znd5, zfx5, zkd6, znd6, zfx6, zkd7, znd7, zfx7, zkd8, znd8, zfx8, zkd9, znd9, zfx9, zkd10, znd10, zfx10, zkd11, znd11, zfx11, e3, c1, c2]
  refine ⟨by decide, ?_⟩
  have h3 : k / 3 < 2 := by omega
  have h4 : 1 - k / 3 < 2 := by omega
  have hz : ∀ (y : Bool) (d : Nat), d < 2 → ((zch y N (3 * d) 3).1 = -1) ∨ ∃ j, j < 6 ∧ (zch y N (3 * d) 3).1 = nI j ∧ 32 ≤ dg N j := by
    intro y d hd
    rcases zch_in y N (3 * d) 3 with q | ⟨i, q1, q2, q3⟩
    · exact Or.inl q
    · exact Or.inr ⟨3 * d + i, by omega, q2, q3⟩
  unfold zhit at h
  rcases hkd with hkd | hkd | hkd
  · rw [hkd] at h ⊢
    rw [if_pos rfl] at h
    rw [w17_11_0]
    have key : ∀ b : Int32, decide (b ≠ 0) = decide (zf_I M 4 9 = 1) → zW X 17 56 [.val (.ref 4), .val (.long (lN N)), .second, .val (.int (nI k)), .val (.int (nI (k / 3)))] [.int b, .int (nI (1 - k / 3)), .long (lN N), .ref 4, .long (lN N)] M Q := by
      intro b hb
      simp only [w17_0, w17_1, w17_2, w17_3, w17_5, w17_6, w17_9, w17_10, w17_36, w17_37, w17_38, w17_39, w17_40, w17_42, w17_43, w17_44, w17_47, w17_48, w17_51, w17_52, w17_55, w17_56, w17_59, w17_60, w17_63, w17_64, w17_65, w17_68, w17_69, w17_70, w17_71, w17_72, w17_74, w17_75, w17_76, w17_79, w17_80, w17_81, w17_84, w17_85, w17_86, w17_87, w17_88, w17_89, w17_91, w17_92, w17_95, w17_96, w17_99, w17_100, w17_101, w17_104, zk_sI, zk_sJ, zk_sP, zn_sI, zn_sJ, zn_sP, zI_sI, zI_sJ, zI_sP, zJ_sI, zJ_sJ, zJ_sP, zP_sI, zP_sJ, zP_sP, Option.toList_some, Option.toList_none, List.cons_append, List.nil_append, zk_of hP.1, zn_of hP.1, zix, ziN, ne_eq, reduceCtorEq, not_false_eq_true, true_and, and_true, Option.getD_some, Nat.reduceLeDiff, Nat.reduceLT, c_ofNat, zkd4, zp_4_0 hP, zp_4_1 hP, zp_4_2 hP, zp_4_3 hP, zp_4_4 hP, zp_4_5 hP, zp_4_6 hP, zkd5, znd5, zfx5, zkd6, znd6, zfx6, zkd7, znd7, zfx7, zkd8, znd8, zfx8, zkd9, znd9, zfx9, zkd10, znd10, zfx10, zkd11, znd11, zfx11]
      refine s18 hN h4 ?_
      rw [hb]
      simp only [w17_0, w17_1, w17_2, w17_3, w17_5, w17_6, w17_9, w17_10, w17_36, w17_37, w17_38, w17_39, w17_40, w17_42, w17_43, w17_44, w17_47, w17_48, w17_51, w17_52, w17_55, w17_56, w17_59, w17_60, w17_63, w17_64, w17_65, w17_68, w17_69, w17_70, w17_71, w17_72, w17_74, w17_75, w17_76, w17_79, w17_80, w17_81, w17_84, w17_85, w17_86, w17_87, w17_88, w17_89, w17_91, w17_92, w17_95, w17_96, w17_99, w17_100, w17_101, w17_104, zk_sI, zk_sJ, zk_sP, zn_sI, zn_sJ, zn_sP, zI_sI, zI_sJ, zI_sP, zJ_sI, zJ_sJ, zJ_sP, zP_sI, zP_sJ, zP_sP, Option.toList_some, Option.toList_none, List.cons_append, List.nil_append, zk_of hP.1, zn_of hP.1, zix, ziN, ne_eq, reduceCtorEq, not_false_eq_true, true_and, and_true, Option.getD_some, Nat.reduceLeDiff, Nat.reduceLT, c_ofNat, zkd4, zp_4_0 hP, zp_4_1 hP, zp_4_2 hP, zp_4_3 hP, zp_4_4 hP, zp_4_5 hP, zp_4_6 hP, zkd5, znd5, zfx5, zkd6, znd6, zfx6, zkd7, znd7, zfx7, zkd8, znd8, zfx8, zkd9, znd9, zfx9, zkd10, znd10, zfx10, zkd11, znd11, zfx11, c1, c2, hf]
      rcases hz (decide (zf_I M 4 9 = 1)) (1 - k / 3) h4 with q | ⟨j, q1, q2, q3⟩
      · rw [q] at h ⊢
        refine s20 (k := 0) hN (Or.inr rfl) hf2 ?_
        simp only [w17_0, w17_1, w17_2, w17_3, w17_5, w17_6, w17_9, w17_10, w17_36, w17_37, w17_38, w17_39, w17_40, w17_42, w17_43, w17_44, w17_47, w17_48, w17_51, w17_52, w17_55, w17_56, w17_59, w17_60, w17_63, w17_64, w17_65, w17_68, w17_69, w17_70, w17_71, w17_72, w17_74, w17_75, w17_76, w17_79, w17_80, w17_81, w17_84, w17_85, w17_86, w17_87, w17_88, w17_89, w17_91, w17_92, w17_95, w17_96, w17_99, w17_100, w17_101, w17_104, zk_sI, zk_sJ, zk_sP, zn_sI, zn_sJ, zn_sP, zI_sI, zI_sJ, zI_sP, zJ_sI, zJ_sJ, zJ_sP, zP_sI, zP_sJ, zP_sP, Option.toList_some, Option.toList_none, List.cons_append, List.nil_append]
        exact h
      · rw [q2] at h ⊢
        refine s20 (k := j) hN (Or.inl ⟨rfl, q1⟩) hf2 ?_
        simp only [w17_0, w17_1, w17_2, w17_3, w17_5, w17_6, w17_9, w17_10, w17_36, w17_37, w17_38, w17_39, w17_40, w17_42, w17_43, w17_44, w17_47, w17_48, w17_51, w17_52, w17_55, w17_56, w17_59, w17_60, w17_63, w17_64, w17_65, w17_68, w17_69, w17_70, w17_71, w17_72, w17_74, w17_75, w17_76, w17_79, w17_80, w17_81, w17_84, w17_85, w17_86, w17_87, w17_88, w17_89, w17_91, w17_92, w17_95, w17_96, w17_99, w17_100, w17_101, w17_104, zk_sI, zk_sJ, zk_sP, zn_sI, zn_sJ, zn_sP, zI_sI, zI_sJ, zI_sP, zJ_sI, zJ_sJ, zJ_sP, zP_sI, zP_sJ, zP_sP, Option.toList_some, Option.toList_none, List.cons_append, List.nil_append]
        simp only [n_cl (show j < 2 ^ 31 by omega)] at h
        rw [apply_ite lN] at h
        exact h
    simp only [w17_36, w17_37, w17_38, w17_39, w17_40, w17_42, w17_43, w17_44, w17_47, w17_48, w17_51, w17_52, w17_55, zk_sI, zk_sJ, zk_sP, zn_sI, zn_sJ, zn_sP, zI_sI, zI_sJ, zI_sP, zJ_sI, zJ_sJ, zJ_sP, zP_sI, zP_sJ, zP_sP, Option.toList_some, Option.toList_none, List.cons_append, List.nil_append, zk_of hP.1, zn_of hP.1, zix, ziN, ne_eq, reduceCtorEq, not_false_eq_true, true_and, and_true, Option.getD_some, Nat.reduceLeDiff, Nat.reduceLT, c_ofNat, zkd4, zp_4_0 hP, zp_4_1 hP, zp_4_2 hP, zp_4_3 hP, zp_4_4 hP, zp_4_5 hP, zp_4_6 hP, zkd5, znd5, zfx5, zkd6, znd6, zfx6, zkd7, znd7, zfx7, zkd8, znd8, zfx8, zkd9, znd9, zfx9, zkd10, znd10, zfx10, zkd11, znd11, zfx11, e1]
    exact ⟨fun h1 => key 0 (by simp [h1]), fun h1 => key 1 (by simp [Decidable.not_not.mp h1])⟩
  · rw [hkd] at h ⊢
    rw [if_neg (by decide), if_pos rfl] at h
    rw [w17_11_1]
    simp only [w17_0, w17_1, w17_2, w17_3, w17_5, w17_6, w17_9, w17_10, w17_36, w17_37, w17_38, w17_39, w17_40, w17_42, w17_43, w17_44, w17_47, w17_48, w17_51, w17_52, w17_55, w17_56, w17_59, w17_60, w17_63, w17_64, w17_65, w17_68, w17_69, w17_70, w17_71, w17_72, w17_74, w17_75, w17_76, w17_79, w17_80, w17_81, w17_84, w17_85, w17_86, w17_87, w17_88, w17_89, w17_91, w17_92, w17_95, w17_96, w17_99, w17_100, w17_101, w17_104, zk_sI, zk_sJ, zk_sP, zn_sI, zn_sJ, zn_sP, zI_sI, zI_sJ, zI_sP, zJ_sI, zJ_sJ, zJ_sP, zP_sI, zP_sJ, zP_sP, Option.toList_some, Option.toList_none, List.cons_append, List.nil_append, zk_of hP.1, zn_of hP.1, zix, ziN, ne_eq, reduceCtorEq, not_false_eq_true, true_and, and_true, Option.getD_some, Nat.reduceLeDiff, Nat.reduceLT, c_ofNat, zkd4, zp_4_0 hP, zp_4_1 hP, zp_4_2 hP, zp_4_3 hP, zp_4_4 hP, zp_4_5 hP, zp_4_6 hP, zkd5, znd5, zfx5, zkd6, znd6, zfx6, zkd7, znd7, zfx7, zkd8, znd8, zfx8, zkd9, znd9, zfx9, zkd10, znd10, zfx10, zkd11, znd11, zfx11, e1, c1, c2, hf]
    refine s19 hN h4 hf2 ?_
    simp only [w17_0, w17_1, w17_2, w17_3, w17_5, w17_6, w17_9, w17_10, w17_36, w17_37, w17_38, w17_39, w17_40, w17_42, w17_43, w17_44, w17_47, w17_48, w17_51, w17_52, w17_55, w17_56, w17_59, w17_60, w17_63, w17_64, w17_65, w17_68, w17_69, w17_70, w17_71, w17_72, w17_74, w17_75, w17_76, w17_79, w17_80, w17_81, w17_84, w17_85, w17_86, w17_87, w17_88, w17_89, w17_91, w17_92, w17_95, w17_96, w17_99, w17_100, w17_101, w17_104, zk_sI, zk_sJ, zk_sP, zn_sI, zn_sJ, zn_sP, zI_sI, zI_sJ, zI_sP, zJ_sI, zJ_sJ, zJ_sP, zP_sI, zP_sJ, zP_sP, Option.toList_some, Option.toList_none, List.cons_append, List.nil_append]
    exact h
  · rw [hkd] at h ⊢
    rw [if_neg (by decide), if_neg (by decide)] at h
    rw [w17_11_e (by decide)]
    simp only [w17_0, w17_1, w17_2, w17_3, w17_5, w17_6, w17_9, w17_10, w17_36, w17_37, w17_38, w17_39, w17_40, w17_42, w17_43, w17_44, w17_47, w17_48, w17_51, w17_52, w17_55, w17_56, w17_59, w17_60, w17_63, w17_64, w17_65, w17_68, w17_69, w17_70, w17_71, w17_72, w17_74, w17_75, w17_76, w17_79, w17_80, w17_81, w17_84, w17_85, w17_86, w17_87, w17_88, w17_89, w17_91, w17_92, w17_95, w17_96, w17_99, w17_100, w17_101, w17_104, zk_sI, zk_sJ, zk_sP, zn_sI, zn_sJ, zn_sP, zI_sI, zI_sJ, zI_sP, zJ_sI, zJ_sJ, zJ_sP, zP_sI, zP_sJ, zP_sP, Option.toList_some, Option.toList_none, List.cons_append, List.nil_append, zk_of hP.1, zn_of hP.1, zix, ziN, ne_eq, reduceCtorEq, not_false_eq_true, true_and, and_true, Option.getD_some, Nat.reduceLeDiff, Nat.reduceLT, c_ofNat, zkd4, zp_4_0 hP, zp_4_1 hP, zp_4_2 hP, zp_4_3 hP, zp_4_4 hP, zp_4_5 hP, zp_4_6 hP, zkd5, znd5, zfx5, zkd6, znd6, zfx6, zkd7, znd7, zfx7, zkd8, znd8, zfx8, zkd9, znd9, zfx9, zkd10, znd10, zfx10, zkd11, znd11, zfx11]
    refine s18 hN h3 ?_
    simp only [w17_0, w17_1, w17_2, w17_3, w17_5, w17_6, w17_9, w17_10, w17_36, w17_37, w17_38, w17_39, w17_40, w17_42, w17_43, w17_44, w17_47, w17_48, w17_51, w17_52, w17_55, w17_56, w17_59, w17_60, w17_63, w17_64, w17_65, w17_68, w17_69, w17_70, w17_71, w17_72, w17_74, w17_75, w17_76, w17_79, w17_80, w17_81, w17_84, w17_85, w17_86, w17_87, w17_88, w17_89, w17_91, w17_92, w17_95, w17_96, w17_99, w17_100, w17_101, w17_104, zk_sI, zk_sJ, zk_sP, zn_sI, zn_sJ, zn_sP, zI_sI, zI_sJ, zI_sP, zJ_sI, zJ_sJ, zJ_sP, zP_sI, zP_sJ, zP_sP, Option.toList_some, Option.toList_none, List.cons_append, List.nil_append, zk_of hP.1, zn_of hP.1, zix, ziN, ne_eq, reduceCtorEq, not_false_eq_true, true_and, and_true, Option.getD_some, Nat.reduceLeDiff, Nat.reduceLT, c_ofNat, zkd4, zp_4_0 hP, zp_4_1 hP, zp_4_2 hP, zp_4_3 hP, zp_4_4 hP, zp_4_5 hP, zp_4_6 hP, zkd5, znd5, zfx5, zkd6, znd6, zfx6, zkd7, znd7, zfx7, zkd8, znd8, zfx8, zkd9, znd9, zfx9, zkd10, znd10, zfx10, zkd11, znd11, zfx11, c1, c2, hf]
    have hd1 : decide ((1 : Int32) ≠ 0) = true := by decide
    rw [hd1]
    rcases hz true (k / 3) h3 with q | ⟨j, q1, q2, q3⟩
    · rw [q] at h ⊢
      refine s21 (k := 0) (L := 0) hP hN (Or.inr rfl) hf2 ?_
      simp only [w17_0, w17_1, w17_2, w17_3, w17_5, w17_6, w17_9, w17_10, w17_36, w17_37, w17_38, w17_39, w17_40, w17_42, w17_43, w17_44, w17_47, w17_48, w17_51, w17_52, w17_55, w17_56, w17_59, w17_60, w17_63, w17_64, w17_65, w17_68, w17_69, w17_70, w17_71, w17_72, w17_74, w17_75, w17_76, w17_79, w17_80, w17_81, w17_84, w17_85, w17_86, w17_87, w17_88, w17_89, w17_91, w17_92, w17_95, w17_96, w17_99, w17_100, w17_101, w17_104, zk_sI, zk_sJ, zk_sP, zn_sI, zn_sJ, zn_sP, zI_sI, zI_sJ, zI_sP, zJ_sI, zJ_sJ, zJ_sP, zP_sI, zP_sJ, zP_sP, Option.toList_some, Option.toList_none, List.cons_append, List.nil_append]
      exact h
    · rw [q2] at h ⊢
      obtain ⟨g1, g2, g3⟩ := hlf j q1 q3
      refine s21 (k := j) (L := lf j) hP hN (Or.inl ⟨rfl, q1, g1, g2, g3⟩) hf2 ?_
      simp only [w17_0, w17_1, w17_2, w17_3, w17_5, w17_6, w17_9, w17_10, w17_36, w17_37, w17_38, w17_39, w17_40, w17_42, w17_43, w17_44, w17_47, w17_48, w17_51, w17_52, w17_55, w17_56, w17_59, w17_60, w17_63, w17_64, w17_65, w17_68, w17_69, w17_70, w17_71, w17_72, w17_74, w17_75, w17_76, w17_79, w17_80, w17_81, w17_84, w17_85, w17_86, w17_87, w17_88, w17_89, w17_91, w17_92, w17_95, w17_96, w17_99, w17_100, w17_101, w17_104, zk_sI, zk_sJ, zk_sP, zn_sI, zn_sJ, zn_sP, zI_sI, zI_sJ, zI_sP, zJ_sI, zJ_sJ, zJ_sP, zP_sI, zP_sJ, zP_sP, Option.toList_some, Option.toList_none, List.cons_append, List.nil_append]
      simp only [n_cl (show j < 2 ^ 31 by omega)] at h
      rw [apply_ite lN] at h
      exact h
/-- beginning -/
def zbg (lf : Nat → Nat) (od : Nat → Nat) : Nat → Nat
  | 0 => 0
  | n + 1 => sd (zbg lf od n) (od n) (lf (od n) + 32)
theorem zbg_ok {lf od : Nat → Nat} {n : Nat} (ho : ∀ i, i < n → od i < 6) (hl : ∀ i, i < n → lf (od i) < 32) (hi : ∀ i j, i < n → j < n → od i = od j → i = j) : zbg lf od n < 64 ^ 6 ∧ ∀ k, k < 6 → dg (zbg lf od n) k = if ∃ i, i < n ∧ od i = k then lf k + 32 else 0 := by
  induction n with
  | zero =>
    refine ⟨by show 0 < 64 ^ 6; decide, fun k hk => ?_⟩
    rw [if_neg (by rintro ⟨i, h, -⟩; omega)]
    show 0 / 64 ^ k % 64 = 0
    simp
  | succ n ih =>
    obtain ⟨h1, h2⟩ := ih (fun i hi2 => ho i (by omega)) (fun i hi2 => hl i (by omega)) (fun i j a b => hi i j (by omega) (by omega))
    have hon := ho n (by omega)
    have hln := hl n (by omega)
    rw [zbg]
    refine ⟨sd_lt h1 hon (by omega), fun k hk => ?_⟩
    by_cases e : k = od n
    · subst e
      rw [dg_sd hon (by omega), if_pos ⟨n, by omega, rfl⟩]
    · rw [dg_sd_ne hon hk (by omega) e, h2 k hk]
      by_cases q : ∃ i, i < n ∧ od i = k
      · obtain ⟨i, q1, q2⟩ := q
        rw [if_pos ⟨i, q1, q2⟩, if_pos ⟨i, by omega, q2⟩]
      · rw [if_neg q, if_neg]
        rintro ⟨i, q1, q2⟩
        by_cases hin : i = n
        · subst hin
          exact e q2.symm
        · exact q ⟨i, by omega, q2⟩
theorem s9 {lf od : Nat → Nat} {n : Nat} (hP : zPk M) (hn : zf_I M 4 7 = nI n ∧ n ≤ 6) (hod : ∀ i, i < n → zf_I M 11 i = nI (od i) ∧ od i < 6) (hlf : ∀ i, i < n → zf_I M 6 (od i) = nI (lf (od i)) ∧ lf (od i) < 32) (hi : ∀ i j, i < n → j < n → od i = od j → i = j) (h : Q (some (.long (lN (zbg lf od n)))) M) : zC X 9 [.ref 4] M Q := by
  rw [c9]
  obtain ⟨hn, hn6⟩ := hn
  have loop : ∀ (m i : Nat) (l4 : Slot), i + m = n → zW X 9 4 [.val (.ref 4), .val (.long (lN (zbg lf od i))), .second, .val (.int (nI i)), l4] [] M Q := by
    intro m
    induction m with
    | zero =>
      intro i l4 him
      obtain rfl : i = n := by omega
      rw [w9_4]
      simp only [w9_0, w9_1, w9_2, w9_3, w9_5, w9_6, w9_9, w9_12, w9_13, w9_16, w9_17, w9_18, w9_20, w9_21, w9_22, w9_25, w9_27, w9_28, w9_30, w9_31, w9_32, w9_34, w9_36, w9_37, w9_38, w9_39, w9_40, w9_43, w9_46, w9_47, zk_sI, zk_sJ, zk_sP, zn_sI, zn_sJ, zn_sP, zI_sI, zI_sJ, zI_sP, zJ_sI, zJ_sJ, zJ_sP, zP_sI, zP_sJ, zP_sP, Option.toList_some, Option.toList_none, List.cons_append, List.nil_append, zk_of hP.1, zn_of hP.1, zix, ziN, ne_eq, reduceCtorEq, not_false_eq_true, true_and, and_true, Option.getD_some, Nat.reduceLeDiff, Nat.reduceLT, c_ofNat, zkd4, zp_4_0 hP, zp_4_1 hP, zp_4_2 hP, zp_4_3 hP, zp_4_4 hP, zp_4_5 hP, zp_4_6 hP, zkd5, znd5, zfx5, zkd6, znd6, zfx6, zkd7, znd7, zfx7, zkd8, znd8, zfx8, zkd9, znd9, zfx9, zkd10, znd10, zfx10, zkd11, znd11, zfx11, hn]
      rw [n_le (by omega) (by omega)]
      exact ⟨fun _ => h, fun z => absurd (Nat.le_refl _) z⟩
    | succ m ih =>
      intro i l4 him
      obtain ⟨o1, o2⟩ := hod i (by omega)
      obtain ⟨f1, f2⟩ := hlf i (by omega)
      rw [w9_4]
      simp only [w9_0, w9_1, w9_2, w9_3, w9_5, w9_6, w9_9, w9_12, w9_13, w9_16, w9_17, w9_18, w9_20, w9_21, w9_22, w9_25, w9_27, w9_28, w9_30, w9_31, w9_32, w9_34, w9_36, w9_37, w9_38, w9_39, w9_40, w9_43, w9_46, w9_47, zk_sI, zk_sJ, zk_sP, zn_sI, zn_sJ, zn_sP, zI_sI, zI_sJ, zI_sP, zJ_sI, zJ_sJ, zJ_sP, zP_sI, zP_sJ, zP_sP, Option.toList_some, Option.toList_none, List.cons_append, List.nil_append, zk_of hP.1, zn_of hP.1, zix, ziN, ne_eq, reduceCtorEq, not_false_eq_true, true_and, and_true, Option.getD_some, Nat.reduceLeDiff, Nat.reduceLT, c_ofNat, zkd4, zp_4_0 hP, zp_4_1 hP, zp_4_2 hP, zp_4_3 hP, zp_4_4 hP, zp_4_5 hP, zp_4_6 hP, zkd5, znd5, zfx5, zkd6, znd6, zfx6, zkd7, znd7, zfx7, zkd8, znd8, zfx8, zkd9, znd9, zfx9, zkd10, znd10, zfx10, zkd11, znd11, zfx11, hn, n_cl (show i < 2 ^ 31 by omega), n_in (show i < 6 by omega) (show 6 < 2 ^ 31 by decide), o1, n_cl (show od i < 2 ^ 31 by omega), n_in o2 (show 6 < 2 ^ 31 by decide), f1]
      rw [n_le (by omega) (by omega)]
      refine ⟨fun z => by omega, fun _ => ?_⟩
      obtain ⟨g1, g2⟩ := zbg_ok (lf := lf) (od := od) (n := i) (fun j hj => (hod j (by omega)).2) (fun j hj => (hlf j (by omega)).2) (fun a b x y => hi a b (by omega) (by omega))
      have hz : dg (zbg lf od i) (od i) = 0 := by
        rw [g2 _ o2, if_neg]
        rintro ⟨j, q1, q2⟩
        have := hi j i (by omega) (by omega) q2
        omega
      have e : nI (lf (od i)) + 32 = nI (lf (od i) + 32) := nI_add _ 32
      rw [e, n_m6, shl_int (by omega) o2, or_put g1 o2 (by omega) hz, n_a1]
      exact ih (i + 1) _ (by omega)
  simp only [w9_0, w9_1, w9_2, w9_3, w9_5, w9_6, w9_9, w9_12, w9_13, w9_16, w9_17, w9_18, w9_20, w9_21, w9_22, w9_25, w9_27, w9_28, w9_30, w9_31, w9_32, w9_34, w9_36, w9_37, w9_38, w9_39, w9_40, w9_43, w9_46, w9_47, zk_sI, zk_sJ, zk_sP, zn_sI, zn_sJ, zn_sP, zI_sI, zI_sJ, zI_sP, zJ_sI, zJ_sJ, zJ_sP, zP_sI, zP_sJ, zP_sP, Option.toList_some, Option.toList_none, List.cons_append, List.nil_append]
  exact loop n 0 _ (by omega)
/-- open -/
theorem s7 {a b d : Int32} (hP : zPk M) (h : Q none (zf_sI (zf_sI (zf_sI (zf_sI M 4 8 a) 4 9 b) 4 10 d) 4 7 0)) : zC X 7 [.ref 4, .int a, .int b, .int d] M Q := by
  rw [c7]
  simp only [w7_0, w7_1, w7_2, w7_5, w7_6, w7_7, w7_10, w7_11, w7_12, w7_15, w7_16, w7_17, w7_20, zk_sI, zk_sJ, zk_sP, zn_sI, zn_sJ, zn_sP, zI_sI, zI_sJ, zI_sP, zJ_sI, zJ_sJ, zJ_sP, zP_sI, zP_sJ, zP_sP, Option.toList_some, Option.toList_none, List.cons_append, List.nil_append, zk_of hP.1, zn_of hP.1, zix, ziN, ne_eq, reduceCtorEq, not_false_eq_true, true_and, and_true, Option.getD_some, Nat.reduceLeDiff, Nat.reduceLT, c_ofNat, zkd4, zp_4_0 hP, zp_4_1 hP, zp_4_2 hP, zp_4_3 hP, zp_4_4 hP, zp_4_5 hP, zp_4_6 hP]
  exact h
end ZFr

