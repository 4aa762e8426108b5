/-! ===== what a reckoning keeps; seats ===== -/
def zsm (A : zA) : Nat := A.1 0 + A.1 1 + A.1 2
theorem zsm_tl (od : Nat → Nat) (n : Nat) (A : zA) (N w e r : Nat) (he : e < 3) : zsm (ztl od n A N w e r) = zsm A + w := by
  show (A.1 0 + if 0 = e then w else 0) + (A.1 1 + if 1 = e then w else 0) + (A.1 2 + if 2 = e then w else 0) = A.1 0 + A.1 1 + A.1 2 + w
  have : e = 0 ∨ e = 1 ∨ e = 2 := by omega
  rcases this with rfl | rfl | rfl
  · rw [if_pos rfl, if_neg (by decide), if_neg (by decide)]; omega
  · rw [if_neg (by decide), if_pos rfl, if_neg (by decide)]; omega
  · rw [if_neg (by decide), if_neg (by decide), if_pos rfl]; omega
theorem zwe_lt (N : Nat) : zwe N < 3 := by unfold zwe; split <;> decide
theorem zps_sm (p : zPm) (bh r : Nat) (la : Bool) (S : List (Nat × Nat) × zA) (N w : Nat) : zsm (zps p bh r la S N w).2 + zws (zps p bh r la S N w).1 * bh = zsm S.2 + zws S.1 * bh + w * bh := by
  unfold zps
  split
  next h => rw [h, Nat.zero_mul]; rfl
  next h =>
    split
    · show zsm (ztl _ _ _ _ _ _ _) + _ = _
      rw [zsm_tl _ _ _ _ _ _ _ (zwe_lt N)]
      show _ + zws S.1 * bh = _
      omega
    · split
      · show zsm (ztl _ _ _ _ _ _ _) + _ = _
        rw [zsm_tl _ _ _ _ _ _ _ (by decide)]
        show _ + zws S.1 * bh = _
        omega
      · show zsm S.2 + zws (zins S.1 N w) * bh = _
        rw [zws_ins, Nat.add_mul]
        omega
theorem zst1_sm (p : zPm) (bh r : Nat) (la : Bool) (w : Nat) : ∀ (l : List (Nat × Nat)) (S : List (Nat × Nat) × zA), zsm (zst1 p bh r la w S l).2 + zws (zst1 p bh r la w S l).1 * bh = zsm S.2 + zws S.1 * bh + zws l * w * bh
  | [], S => by rw [zst1, zws_nil, Nat.zero_mul, Nat.zero_mul]; rfl
  | q :: t, S => by
    rw [zst1, zst1_sm p bh r la w t, zps_sm, zws_cons, Nat.add_mul, Nat.add_mul]
    omega
theorem zslot_sm (p : zPm) (bh r k : Nat) (la : Bool) (hh : ph p k ≤ 6) : ∀ (L : List (Nat × Nat)) (S : List (Nat × Nat) × zA), zsm (zslot p bh r k la S L).2 + zws (zslot p bh r k la S L).1 * bh = zsm S.2 + zws S.1 * bh + 6 * zws L * bh
  | [], S => by rw [zslot, zws_nil]; omega
  | q :: t, S => by
    rw [zslot, zslot_sm p bh r k la hh t, zst1_sm, zouts_w p r k q.1 hh, zws_cons, Nat.mul_add, Nat.add_mul]
    omega
section ZSe
variable {X : zf_X} {M : zf_M} {Q : Option Value → zf_M → Prop}
/-- what lies outside of the cells -/
theorem zPk_far (hP : zPk M) {a : Nat} (ha : 1000000 ≤ a) : M.1.length ≤ a ∧ zf_k M a = 99 ∧ ∀ k, zf_n M k a = 0 := by
  have hl : M.1.length ≤ a := by
    rw [hP.1]
    have : zSH.length ≤ 1000000 := by decide +kernel
    omega
  have he : M.1.getD a (99, 0) = (99, 0) := by rw [List.getD_eq_getElem?_getD, List.getElem?_eq_none hl]; rfl
  refine ⟨hl, by unfold zf_k; rw [he], fun k => ?_⟩
  unfold zf_n
  rw [he]
  split <;> rfl
theorem zr_ix {E : _} {mi pc a n : Nat} {g : Nat → Int32} {ls : List Slot} {st : List Value} {i : Int32} (hP : zPk M) (ha : 1000000 ≤ a) (hfx : zf_fx X a = some (n, g)) (hg : zf_g mi = E) (hd : decode E.2.1 pc = .ok (.iaload, 1)) : zW X mi pc ls (.int i :: .ref a :: st) M Q ↔ vp_in i n ∧ zW X mi (pc + 1) ls (.int (g i.toNatClampNeg) :: st) M Q := by
  subst hg
  obtain ⟨h1, h2, h3⟩ := zPk_far hP ha
  have e0 : ¬ zf_iN i (zf_n M 10 a) = true := by
    rw [h3, ziN]
    unfold vp_in
    omega
  rw [← ziN]
  refine zr_ifAct (c := zf_iN i n = true) hd ?_
  simp only [zf_do, zf_ia, hfx]
  rw [if_neg e0]
  by_cases hc : zf_iN i n = true
  · rw [if_pos ⟨hc, h1⟩, if_pos hc]
  · rw [if_neg (fun z => hc z.1), if_neg hc]
theorem zr_fl {E : _} {mi pc a n : Nat} {g : Nat → Int32} {ls : List Slot} {st : List Value} (hP : zPk M) (ha : 1000000 ≤ a) (hfx : zf_fx X a = some (n, g)) (hg : zf_g mi = E) (hd : decode E.2.1 pc = .ok (.arraylength, 1)) : zW X mi pc ls (.ref a :: st) M Q ↔ zW X mi (pc + 1) ls (.int (Int32.ofNat n) :: st) M Q := by
  subst hg
  obtain ⟨h1, h2, h3⟩ := zPk_far hP ha
  have h := zr_ifAct (X := X) (mi := mi) (ls := ls) (st := .ref a :: st) (M := M) (Q := Q) (c := True) (pc' := pc + 1) (ls' := ls) (st' := .int (Int32.ofNat n) :: st) (M' := M) hd (by
    simp only [zf_do, zf_len, hfx]
    rw [if_neg (by rw [h2]; omega), if_pos h1, if_pos trivial])
  rw [h]
  exact ⟨fun z => z.2, fun z => ⟨trivial, z⟩⟩
/-- waysLeft -/
theorem s28 {A : zA} {k l u : Nat} (hP : zPk M) (hA : zAM M A) (hk : k < 6) (hl : l < 32) (hu : u < 2) (h : Q (some (.long (lN (A.2.2 (64 * k + l + 32 * u))))) M) : zC X 28 [.ref 12, .int (nI k), .int (nI l), .int (nI u)] M Q := by
  rw [c28]
  have e64 : (64 : Int32) * nI k + nI l = nI (64 * k + l) := by
    have e : (64 : Int32) = nI 64 := rfl
    rw [e, pk_mul, nI_add]
  have fin : ∀ n, n = 64 * k + l + 32 * u → (nI n < 0 → Q (some (.long 0)) M) ∧ (¬ nI n < 0 → (nI 384 ≤ nI n → Q (some (.long 0)) M) ∧ (¬ nI 384 ≤ nI n → vp_in (nI n) 384 ∧ Q (some (.long (zf_J M 15 (nI n).toNatClampNeg))) M)) := by
    intro n hn
    have hn2 : n < 384 := by omega
    refine ⟨fun z => absurd z (nI_pos (by omega)), fun _ => ⟨fun z => ?_, fun _ => ⟨vp_in_nI hn2 (by decide), ?_⟩⟩⟩
    · rw [n_le (by decide) (by omega)] at z
      omega
    · rw [n_cl (by omega), hA.2.2 n hn2, hn]
      exact h
  simp only [w28_0, w28_2, w28_3, w28_4, w28_5, w28_6, w28_7, w28_10, w28_12, w28_15, w28_16, w28_17, w28_19, w28_21, w28_24, w28_26, w28_27, w28_30, w28_31, w28_34, w28_35, w28_38, w28_40, w28_41, w28_44, w28_45, zk_sI, zk_sJ, zk_sP, zn_sI, zn_sJ, zn_sP, zI_sI, zI_sJ, zI_sP, zJ_sI, zJ_sJ, zJ_sP, zP_sI, zP_sJ, zP_sP, Option.toList_some, Option.toList_none, List.cons_append, List.nil_append, zk_of hP.1, zn_of hP.1, zix, ziN, ne_eq, reduceCtorEq, not_false_eq_true, true_and, and_true, Option.getD_some, Nat.reduceLeDiff, Nat.reduceLT, c_ofNat, zkd4, zp_4_0 hP, zp_4_1 hP, zp_4_2 hP, zp_4_3 hP, zp_4_4 hP, zp_4_5 hP, zp_4_6 hP, zkd12, zp_12_2 hP, zp_12_3 hP, zp_12_4 hP, zkd13, znd13, zfx13, zkd14, znd14, zfx14, zkd15, znd15, zfx15, e64]
  have e32 : nI (64 * k + l) + 32 = nI (64 * k + l + 32) := nI_add _ 32
  have e0 : nI (64 * k + l) + 0 = nI (64 * k + l) := nI_add _ 0
  rw [e32, e0]
  have hu2 : u = 0 ∨ u = 1 := by omega
  rcases hu2 with rfl | rfl
  · exact ⟨fun _ => fin _ (by omega), fun z => absurd rfl z⟩
  · exact ⟨fun z => absurd z (by decide), fun _ => fin _ (by omega)⟩
theorem w36_14L {s0 : Int32} {ls : List Slot} {st : List Value} (hP : zPk M) : zW X 36 14 ls ((.int s0) :: (.ref 1000000) :: st) M Q ↔ vp_in s0 6 ∧ zW X 36 15 ls (.int (zf_lo s0.toNatClampNeg) :: st) M Q := zr_ix hP (by decide) rfl zf_g36 dX5_fits_14
theorem w36_23L {s0 : Int32} {ls : List Slot} {st : List Value} (hP : zPk M) : zW X 36 23 ls ((.int s0) :: (.ref 1000001) :: st) M Q ↔ vp_in s0 6 ∧ zW X 36 24 ls (.int (zf_hi s0.toNatClampNeg) :: st) M Q := zr_ix hP (by decide) rfl zf_g36 dX5_fits_23
/-- a number that fits -/
abbrev zfit (w v : Int32) : Prop := 0 ≤ w ∧ w ≤ 5 ∧ zf_lo w.toNatClampNeg ≤ v ∧ v ≤ zf_hi w.toNatClampNeg
/-- fits -/
theorem s36 {w v : Int32} (hP : zPk M) (h : Q (some (.int (zB (zfit w v)))) M) : zC X 36 [.int w, .int v] M Q := by
  rw [c36]
  simp only [w36_0, w36_1, w36_4, w36_5, w36_6, w36_9, w36_10, w36_13, w36_14, w36_15, w36_18, w36_19, w36_22, w36_23, w36_24, w36_27, w36_28, w36_31, w36_32, zk_sI, zk_sJ, zk_sP, zn_sI, zn_sJ, zn_sP, zI_sI, zI_sJ, zI_sP, zJ_sI, zJ_sJ, zJ_sP, zP_sI, zP_sJ, zP_sP, Option.toList_some, Option.toList_none, List.cons_append, List.nil_append, w36_14L hP, w36_23L hP]
  have hin : ¬ w < 0 → ¬ 5 < w → vp_in w 6 := by
    intro h1 h2
    obtain ⟨n, n1, rfl⟩ := nI_of2 (M := 5) (n := 5) rfl h1 (Int32.not_lt.mp h2)
    exact vp_in_nI (by omega) (by decide)
  refine ⟨fun z => zB_2 (fun g => Int32.not_lt.mpr g.1 z) h, fun z => ⟨fun z2 => zB_2 (fun g => Int32.not_lt.mpr g.2.1 z2) h, fun z2 => ⟨hin z z2, fun z3 => zB_2 (fun g => Int32.not_lt.mpr g.2.2.1 z3) h, fun z3 => ⟨hin z z2, fun z4 => zB_2 (fun g => Int32.not_lt.mpr g.2.2.2 z4) h, fun z4 => zB_1 ⟨Int32.not_lt.mp z, Int32.not_lt.mp z2, Int32.not_lt.mp z3, Int32.not_lt.mp z4⟩ h⟩⟩⟩⟩
/-- has -/
theorem s37 {f : Int32} (hP : zPk M) (h : Q (some (.int (zB (0 ≤ f ∧ f < zf_I M 1 1)))) M) : zC X 37 [.ref 1, .int f] M Q := by
  rw [c37]
  simp only [w37_0, w37_1, w37_4, w37_5, w37_6, w37_9, w37_12, w37_13, w37_16, w37_17, zk_sI, zk_sJ, zk_sP, zn_sI, zn_sJ, zn_sP, zI_sI, zI_sJ, zI_sP, zJ_sI, zJ_sJ, zJ_sP, zP_sI, zP_sJ, zP_sP, Option.toList_some, Option.toList_none, List.cons_append, List.nil_append, zk_of hP.1, zn_of hP.1, zix, ziN, ne_eq, reduceCtorEq, not_false_eq_true, true_and, and_true, Option.getD_some, Nat.reduceLeDiff, Nat.reduceLT, c_ofNat, zkd1, zp_1_0 hP]
  refine ⟨fun z => zB_2 (fun g => Int32.not_lt.mpr g.1 z) h, fun z => ⟨fun z2 => zB_2 (fun g => Int32.not_lt.mpr z2 g.2) h, fun z2 => zB_1 ⟨Int32.not_lt.mp z, Int32.not_le.mp z2⟩ h⟩⟩
end ZSe

