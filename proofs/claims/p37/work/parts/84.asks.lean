/-! ===== both: ranges, refusals, fights of the state ===== -/
abbrev zin (x a b : Int32) : Prop := a ≤ x ∧ x ≤ b
theorem zin_o {x N : Int32} {n : Nat} (hN : N = nI n) (hn : n < 2 ^ 31) (h : zin x 0 N) : ∃ k, k ≤ n ∧ x = nI k :=
  nI_of2 (M := N) (n := n) (by rw [hN, nI_toInt hn]) (Int32.not_lt.mpr h.1) h.2
theorem zin_k {k n : Nat} {N : Int32} (hN : N = nI n) (hn : n < 2 ^ 31) (hk : k < 2 ^ 31) : zin (nI k) 0 N ↔ k ≤ n := by
  rw [hN]
  show (0 ≤ nI k ∧ nI k ≤ nI n) ↔ _
  rw [c_0, n_le (by decide) hk, n_le hk hn]
  exact ⟨fun z => z.2, fun z => ⟨by omega, z⟩⟩
theorem t_0 : (0 : Int32).toInt = 0 := by decide
theorem t_1 : (1 : Int32).toInt = 1 := by decide
theorem t_2 : (2 : Int32).toInt = 2 := by decide
theorem t_3 : (3 : Int32).toInt = 3 := by decide
theorem t_m1 : (-1 : Int32).toInt = -1 := by decide
theorem side_in {s : Int32} : (s = 0 ∨ s = 1) ↔ zin s 0 1 := by
  show _ ↔ (0 ≤ s ∧ s ≤ 1)
  rw [Int32.le_iff_toInt_le, Int32.le_iff_toInt_le, ← Int32.toInt_inj, ← Int32.toInt_inj, t_0, t_1]
  omega
theorem place_in {s : Int32} : (0 ≤ s ∧ s < 3) ↔ zin s 0 2 := by
  show _ ↔ (0 ≤ s ∧ s ≤ 2)
  rw [Int32.le_iff_toInt_le, Int32.le_iff_toInt_le, Int32.lt_iff_toInt_lt, t_0, t_2, t_3]
  omega
def zno (v : Int32) : Int64 := -9223372036854775808 - v.toInt64
/-- who stands at a side's place -/
def zwh (q : tQ) (s k : Nat) : Option Nat := zat (if s = 0 then (qB q).1 else (qB q).2) k
/-- the fight as it stands, heroes with b more force -/
def zcq (q : tQ) (b : Nat) : zCs := zca (qA q).2 (qB q).1.1 (qB q).1.2 (qB q).2.1 (qB q).2.2 b
def zpq (q : tQ) (b : Nat) : zPm := zpm (zcq q b) (qL q).2.1 (qL q).2.2 (qL q).1
theorem zpq_ok {q : tQ} {b : Nat} (hv : vQ q) (hb : b ≤ 9) : zPo (zpq q b) := zpm_ok hv.1 (zca_n hv.2.1.1.2 hv.2.1.2.2) (zca_b hb) hv.2.2.1
theorem zvo_n {o : Option Nat} (h : ∀ f, o = some f → f < 2 ^ 31) : (zvo o = -1) ↔ o = none := by
  cases o with
  | none => exact ⟨fun _ => rfl, fun _ => rfl⟩
  | some f =>
    show nI f = -1 ↔ _
    rw [n_ne (h f rfl)]
    exact ⟨fun z => z.elim, fun z => by cases z⟩
theorem zat_lt {n : Nat} {B : Nat × (Nat → Nat)} (h : vRow n B) {k f : Nat} (e : zat B k = some f) : f < n := by
  unfold zat at e
  split at e
  next g =>
    cases e
    exact h.2 k g
  next => cases e
theorem zwh_lt {q : tQ} (hv : vQ q) {s k f : Nat} (e : zwh q s k = some f) : f < 16 := by
  have h16 := hv.1.1
  unfold zwh at e
  split at e
  · exact Nat.lt_of_lt_of_le (zat_lt hv.2.1.1 e) h16
  · exact Nat.lt_of_lt_of_le (zat_lt hv.2.1.2 e) h16
section ZAk
variable {X : zf_X} {M : zf_M} {Q : Option Value → zf_M → Prop} {q : tQ}
theorem s92n {v : Int32} (h : Q (some (.long (zno v))) M) : zC X 92 [.int v] M Q := s92 h
theorem zKx_of (hv : vQ q) (hP : zPk M) (hC : zKC q M) : zKx (qA q).1 (qA q).2 (qB q).1.1 (qB q).1.2 (qB q).2.1 (qB q).2.2 (qL q).1 (qL q).2.1 (qL q).2.2 M := by
  obtain ⟨hO, hA, hB, hL, -⟩ := hC
  refine ⟨hP, ⟨hv.1, hA⟩, ⟨hv.2.2.1, hL⟩, ⟨hv.2.1.1.1, hB.1, fun j hj => ?_⟩, ⟨hv.2.1.2.1, hB.2.1, fun j hj => ?_⟩, hv.2.1.1.2, hv.2.1.2.2, hO⟩
  · have h3 := hv.2.1.1.1
    have := (hB.2.2 j (by omega)).1
    rw [zat, if_pos hj] at this
    exact this
  · have h3 := hv.2.1.2.1
    have := (hB.2.2 j (by omega)).2
    rw [zat, if_pos hj] at this
    exact this
theorem zKC_G {M1 : zf_M} (hC : zKC q M) (hG : zG (fun c => 4 ≤ c ∧ c ≤ 25) M M1) (hO : zLO M1) : zKC q M1 := zKC_fr hC hO (fun c j k _ => (hG.2.1 c (by unfold kC at k; omega) j).1)
/-! the class's asks -/
theorem C57 (hv : vQ q) (hP : zPk M) (hC : zKC q M) (h : ∀ M1, zUp M M1 → zKC q M1 → Q (some (.long (zall' (zpq q 0)))) M1) : zC X 57 [.ref 0] M Q :=
  s57 (zKx_of hv hP hC) (fun M1 g1 g2 => h M1 (zUp_G hP g1 (fun c hc => by omega)) (zKC_G hC g1 g2.2.2.2.2.2.2.2))
theorem C61 (hv : vQ q) (hP : zPk M) (hC : zKC q M) (h : ∀ M1, zUp M M1 → zKC q M1 → Q (some (.int (zwid' (zpq q 0)))) M1) : zC X 61 [.ref 0] M Q :=
  s61 (zKx_of hv hP hC) (fun M1 g1 g2 => h M1 (zUp_G hP g1 (fun c hc => by omega)) (zKC_G hC g1 g2.2.2.2.2.2.2.2))
def aWays (q : tQ) (e : Int32) : Int64 := if zin e 0 2 then zend' (zpq q 0) e.toNatClampNeg else zno (-2)
theorem C58 {e : Int32} (hv : vQ q) (hP : zPk M) (hC : zKC q M) (h : ∀ M1, zUp M M1 → zKC q M1 → Q (some (.long (aWays q e))) M1) : zC X 58 [.ref 0, .int e] M Q := by
  unfold aWays at h
  refine s58 (zKx_of hv hP hC) (fun g => ?_) (fun k e1 e2 M1 g1 g2 => ?_)
  · have := h M (zUp_rf hP) hC
    rw [if_neg g] at this
    exact this
  · have := h M1 (zUp_G hP g1 (fun c hc => by omega)) (zKC_G hC g1 g2.2.2.2.2.2.2.2)
    rw [e1, if_pos (show zin (nI k) 0 2 from (zin_k (n := 2) rfl (by decide) (by omega)).mpr e2), n_cl (by omega)] at this
    exact this
def aEnds (q : tQ) (e : Int32) : Int64 := if zin e 0 (nI (qL q).1) then zrnd' (zpq q 0) e.toNatClampNeg else zno (-2)
theorem C62 {e : Int32} (hv : vQ q) (hP : zPk M) (hC : zKC q M) (h : ∀ M1, zUp M M1 → zKC q M1 → Q (some (.long (aEnds q e))) M1) : zC X 62 [.ref 0, .int e] M Q := by
  unfold aEnds at h
  have hr := hv.2.2.1
  refine s62 (zKx_of hv hP hC) (fun g => ?_) (fun k e1 e2 M1 g1 g2 => ?_)
  · have := h M (zUp_rf hP) hC
    rw [if_neg g] at this
    exact this
  · have := h M1 (zUp_G hP g1 (fun c hc => by omega)) (zKC_G hC g1 g2.2.2.2.2.2.2.2)
    rw [e1, if_pos ((zin_k (n := (qL q).1) rfl (by omega) (by omega)).mpr e2), n_cl (by omega)] at this
    exact this
/-- slots -/
def aSlots (q : tQ) : Nat := (qL q).1 * ((qB q).1.1 + (qB q).2.1)
theorem C56 (hP : zPk M) (hC : zKC q M) (h : ∀ M1, zUp M M1 → zKC q M1 → Q (some (.int (nI (aSlots q)))) M1) : zC X 56 [.ref 0] M Q := by
  have h0 := h M (zUp_rf hP) hC
  obtain ⟨hO, hA, hB, hL, -⟩ := hC
  rw [c56]
  have e : ∀ a b c, nI a * (nI b + nI c) = nI (a * (b + c)) := fun a b c => by rw [nI_add]; exact pk_mul _ _
  simp only [w56_0, w56_1, w56_4, w56_5, w56_8, w56_9, w56_10, w56_13, w56_14, w56_17, w56_18, w56_19, w56_22, w56_23, w56_24, zk_sI, zk_sJ, zk_sP, zn_sI, zn_sJ, zn_sP, zI_sI, zI_sJ, zI_sP, zJ_sI, zJ_sJ, zJ_sP, zP_sI, zP_sJ, zP_sP, Option.toList_some, Option.toList_none, List.cons_append, List.nil_append, zk_of hP.1, zn_of hP.1, zix, ziN, ne_eq, reduceCtorEq, not_false_eq_true, true_and, and_true, Option.getD_some, Nat.reduceLeDiff, Nat.reduceLT, c_ofNat, zkd0, zp_0_0 hP, zp_0_1 hP, zp_0_2 hP, zp_0_3 hP, zp_0_4 hP, zp_0_5 hP, zp_0_6 hP, zp_0_7 hP, zkd3, znd3, zfx3, zp_3_0 hP, zp_3_1 hP, zkd46, zp_46_0 hP, zkd48, zp_48_0 hP, in02, in12, true_or, zp30 hP, zp31 hP, hL.1, hB.1, hB.2.1, e]
  exact h0
def aLeft (q : tQ) (s k l u : Int32) : Int64 := if zin s 0 1 ∧ zin k 0 2 ∧ zin l 0 20 ∧ zin u 0 1 ∧ zwh q s.toNatClampNeg k.toNatClampNeg ≠ none then zlft' (zpq q 0) (64 * (3 * s.toNatClampNeg + k.toNatClampNeg) + l.toNatClampNeg + 32 * u.toNatClampNeg) else zno (-2)
/-- left -/
theorem C60 {s k l u : Int32} (hv : vQ q) (hP : zPk M) (hC : zKC q M) (h : ∀ M1, zUp M M1 → zKC q M1 → Q (some (.long (aLeft q s k l u))) M1) : zC X 60 [.ref 0, .int s, .int k, .int l, .int u] M Q := by
  have h0 := h M (zUp_rf hP) hC
  have hB := hC.2.2.1
  rw [c60]
  have bad : ¬ (zin s 0 1 ∧ zin k 0 2 ∧ zin l 0 20 ∧ zin u 0 1 ∧ zwh q s.toNatClampNeg k.toNatClampNeg ≠ none) → Q (some (.long (zno (-2)))) M := by
    intro g
    rw [aLeft, if_neg g] at h0
    exact h0
  have hbad : ¬ (zin s 0 1 ∧ zin k 0 2 ∧ zin l 0 20 ∧ zin u 0 1) → zW X 60 42 [.val (.ref 0), .val (.int s), .val (.int k), .val (.int l), .val (.int u), .val (.int 0)] [] M Q := by
    intro g
    simp only [w60_42, w60_44, w60_47, w60_48, w60_51, w60_52, w60_53, w60_54, w60_57, w60_58, w60_61, w60_63, w60_66, zk_sI, zk_sJ, zk_sP, zn_sI, zn_sJ, zn_sP, zI_sI, zI_sJ, zI_sP, zJ_sI, zJ_sJ, zJ_sP, zP_sI, zP_sJ, zP_sP, Option.toList_some, Option.toList_none, List.cons_append, List.nil_append, true_implies, not_true_eq_false, false_implies, and_true]
    refine s92n ?_
    simp only [w60_66, zk_sI, zk_sJ, zk_sP, zn_sI, zn_sJ, zn_sP, zI_sI, zI_sJ, zI_sP, zJ_sI, zJ_sJ, zJ_sP, zP_sI, zP_sJ, zP_sP, Option.toList_some, Option.toList_none, List.cons_append, List.nil_append]
    exact bad (fun z => g ⟨z.1, z.2.1, z.2.2.1, z.2.2.2.1⟩)
  have hgood : zin s 0 1 → zin k 0 2 → zin l 0 20 → zin u 0 1 → zW X 60 42 [.val (.ref 0), .val (.int s), .val (.int k), .val (.int l), .val (.int u), .val (.int 1)] [] M Q := by
    intro g1 g2 g3 g4
    have hs := side_in.mpr g1
    obtain ⟨s', s1, e1⟩ := zin_o (n := 1) rfl (by decide) g1
    obtain ⟨k', k1, e2⟩ := zin_o (n := 2) rfl (by decide) g2
    obtain ⟨l', l1, e3⟩ := zin_o (n := 20) rfl (by decide) g3
    obtain ⟨u', u1, e4⟩ := zin_o (n := 1) rfl (by decide) g4
    have hev : zvo (zwh q s' k') = zf_I M (if s' = 0 then 47 else 49) k' := by
      unfold zwh
      by_cases hs0 : s' = 0
      · rw [if_pos hs0, if_pos hs0]
        exact (hB.2.2 k' (by omega)).1.symm
      · rw [if_neg hs0, if_neg hs0]
        exact (hB.2.2 k' (by omega)).2.symm
    have hnn := zvo_n (o := zwh q s' k') (fun f e => by have := zwh_lt hv e; omega)
    have fin : zW X 60 58 [.val (.ref 0), .val (.int s), .val (.int k), .val (.int l), .val (.int u), .val (.int 1)] [.int (-1), .int (zvo (zwh q s' k'))] M Q := by
      simp only [w60_58, w60_61, w60_63, w60_66, zk_sI, zk_sJ, zk_sP, zn_sI, zn_sJ, zn_sP, zI_sI, zI_sJ, zI_sP, zJ_sI, zJ_sJ, zJ_sP, zP_sI, zP_sJ, zP_sP, Option.toList_some, Option.toList_none, List.cons_append, List.nil_append]
      refine ⟨fun z => ?_, fun z => ?_⟩
      · have hcnd : zin s 0 1 ∧ zin k 0 2 ∧ zin l 0 20 ∧ zin u 0 1 ∧ zwh q s.toNatClampNeg k.toNatClampNeg ≠ none := by
          refine ⟨g1, g2, g3, g4, fun y => z (hnn.mpr ?_)⟩
          rw [e1, e2, n_cl (by omega), n_cl (by omega)] at y
          exact y
        simp only [w60_67, w60_68, zk_sI, zk_sJ, zk_sP, zn_sI, zn_sJ, zn_sP, zI_sI, zI_sJ, zI_sP, zJ_sI, zJ_sJ, zJ_sP, zP_sI, zP_sJ, zP_sP, Option.toList_some, Option.toList_none, List.cons_append, List.nil_append, zk_of hP.1, zn_of hP.1, zix, ziN, ne_eq, reduceCtorEq, not_false_eq_true, true_and, and_true, Option.getD_some, Nat.reduceLeDiff, Nat.reduceLT, c_ofNat, zkd0, zp_0_0 hP, zp_0_1 hP, zp_0_2 hP, zp_0_3 hP, zp_0_4 hP, zp_0_5 hP, zp_0_6 hP, zp_0_7 hP]
        refine s98b (zKx_of hv hP hC) (fun M1 x1 x2 x3 => ?_)
        have hfin := h M1 (zUp_G hP x1 (fun c hc => by omega)) (zKC_G hC x1 x2.2.2.2.2.2.2.2)
        have hP1 := x2.1
        rw [aLeft, if_pos hcnd, e1, e2, e3, e4, n_cl (by omega), n_cl (by omega), n_cl (by omega), n_cl (by omega)] at hfin
        unfold zlft' at hfin
        change Q (some (.long (if zrun (zpm (zca (qA q).2 (qB q).1.1 (qB q).1.2 (qB q).2.1 (qB q).2.2 0) (qL q).2.1 (qL q).2.2 (qL q).1) then lN ((zrk (zpm (zca (qA q).2 (qB q).1.1 (qB q).1.2 (qB q).2.1 (qB q).2.2 0) (qL q).2.1 (qL q).2.2 (qL q).1)).2.1.2.2 _) else _))) M1 at hfin
        generalize zpm (zca (qA q).2 (qB q).1.1 (qB q).1.2 (qB q).2.1 (qB q).2.2 0) (qL q).2.1 (qL q).2.2 (qL q).1 = p at *
        simp only [w60_71, w60_74, w60_75, w60_78, w60_79, w60_80, w60_83, w60_84, w60_86, w60_87, w60_90, w60_91, w60_94, w60_95, w60_98, zk_sI, zk_sJ, zk_sP, zn_sI, zn_sJ, zn_sP, zI_sI, zI_sJ, zI_sP, zJ_sI, zJ_sJ, zJ_sP, zP_sI, zP_sJ, zP_sP, Option.toList_some, Option.toList_none, List.cons_append, List.nil_append, zk_of hP1.1, zn_of hP1.1, zix, ziN, ne_eq, reduceCtorEq, not_false_eq_true, true_and, and_true, Option.getD_some, Nat.reduceLeDiff, Nat.reduceLT, c_ofNat, zkd0, zp_0_0 hP1, zp_0_1 hP1, zp_0_2 hP1, zp_0_3 hP1, zp_0_4 hP1, zp_0_5 hP1, zp_0_6 hP1, zp_0_7 hP1, zkd12, zp_12_2 hP1, zp_12_3 hP1, zp_12_4 hP1, zB_0]
        refine ⟨fun g => ?_, fun g => ?_⟩
        · rw [if_neg g] at hfin
          simp only [w60_101, w60_103, zk_sI, zk_sJ, zk_sP, zn_sI, zn_sJ, zn_sP, zI_sI, zI_sJ, zI_sP, zJ_sI, zJ_sJ, zJ_sP, zP_sI, zP_sJ, zP_sP, Option.toList_some, Option.toList_none, List.cons_append, List.nil_append]
          refine s92n ?_
          simp only [w60_106, zk_sI, zk_sJ, zk_sP, zn_sI, zn_sJ, zn_sP, zI_sI, zI_sJ, zI_sP, zJ_sI, zJ_sJ, zJ_sP, zP_sI, zP_sJ, zP_sP, Option.toList_some, Option.toList_none, List.cons_append, List.nil_append]
          exact hfin
        · have g := Classical.not_not.mp g
          rw [if_pos g] at hfin
          have e89 : (3 : Int32) * s + k = nI (3 * s' + k') := by rw [e1, e2, n_m3, nI_add]
          simp only [c89, w89_0, w89_1, w89_2, w89_3, w89_4, w89_5, w60_83, w60_84, w60_86, w60_87, w60_90, w60_91, w60_94, w60_95, zk_sI, zk_sJ, zk_sP, zn_sI, zn_sJ, zn_sP, zI_sI, zI_sJ, zI_sP, zJ_sI, zJ_sJ, zJ_sP, zP_sI, zP_sJ, zP_sP, Option.toList_some, Option.toList_none, List.cons_append, List.nil_append, zk_of hP1.1, zn_of hP1.1, zix, ziN, ne_eq, reduceCtorEq, not_false_eq_true, true_and, and_true, Option.getD_some, Nat.reduceLeDiff, Nat.reduceLT, c_ofNat, zkd0, zp_0_0 hP1, zp_0_1 hP1, zp_0_2 hP1, zp_0_3 hP1, zp_0_4 hP1, zp_0_5 hP1, zp_0_6 hP1, zp_0_7 hP1, zkd12, zp_12_2 hP1, zp_12_3 hP1, zp_12_4 hP1, e89]
          have hu1 : (u = 1) ↔ u' = 1 := by rw [e4, c_1, n_eq (by omega) (by decide)]
          refine ⟨fun y => ?_, fun y => ?_⟩
          · have y : u' = 0 := by
              have : ¬ u' = 1 := fun w => y (hu1.mpr w)
              omega
            rw [e3]
            refine s28 (u := 0) hP1 (x3 g).1 (by omega) (by omega) (by decide) ?_
            simp only [w60_98, w60_101, w60_103, w60_106, zk_sI, zk_sJ, zk_sP, zn_sI, zn_sJ, zn_sP, zI_sI, zI_sJ, zI_sP, zJ_sI, zJ_sJ, zJ_sP, zP_sI, zP_sJ, zP_sP, Option.toList_some, Option.toList_none, List.cons_append, List.nil_append]
            rw [y] at hfin
            exact hfin
          · have y : u' = 1 := hu1.mp (Classical.not_not.mp y)
            rw [e3]
            refine s28 (u := 1) hP1 (x3 g).1 (by omega) (by omega) (by decide) ?_
            simp only [w60_98, w60_101, w60_103, w60_106, zk_sI, zk_sJ, zk_sP, zn_sI, zn_sJ, zn_sP, zI_sI, zI_sJ, zI_sP, zJ_sI, zJ_sJ, zJ_sP, zP_sI, zP_sJ, zP_sP, Option.toList_some, Option.toList_none, List.cons_append, List.nil_append]
            rw [y] at hfin
            exact hfin
      · have z' := hnn.mp (Classical.not_not.mp z)
        refine s92n ?_
        simp only [w60_66, zk_sI, zk_sJ, zk_sP, zn_sI, zn_sJ, zn_sP, zI_sI, zI_sJ, zI_sP, zJ_sI, zJ_sJ, zJ_sP, zP_sI, zP_sJ, zP_sP, Option.toList_some, Option.toList_none, List.cons_append, List.nil_append]
        refine bad (fun y => y.2.2.2.2 ?_)
        rw [e1, e2, n_cl (by omega), n_cl (by omega)]
        exact z'
    rcases hs with hs | hs
    · have hs' : s' = 0 := by
        rw [hs, c_0, n_eq (by decide) (by omega)] at e1
        exact e1.symm
      rw [hs, e2]
      rw [hs, e2] at fin
      simp only [w60_42, w60_44, w60_47, w60_48, w60_51, w60_52, w60_53, w60_54, w60_57, zk_sI, zk_sJ, zk_sP, zn_sI, zn_sJ, zn_sP, zI_sI, zI_sJ, zI_sP, zJ_sI, zJ_sJ, zJ_sP, zP_sI, zP_sJ, zP_sP, Option.toList_some, Option.toList_none, List.cons_append, List.nil_append, zk_of hP.1, zn_of hP.1, zix, ziN, ne_eq, reduceCtorEq, not_false_eq_true, true_and, and_true, Option.getD_some, Nat.reduceLeDiff, Nat.reduceLT, c_ofNat, zkd0, zp_0_0 hP, zp_0_1 hP, zp_0_2 hP, zp_0_3 hP, zp_0_4 hP, zp_0_5 hP, zp_0_6 hP, zp_0_7 hP, zkd3, znd3, zfx3, zp_3_0 hP, zp_3_1 hP, zkd46, zp_46_0 hP, zkd48, zp_48_0 hP, in02, in12, true_or, zp30 hP, zp31 hP]
      refine ⟨fun z => absurd z (by decide), fun _ => ?_⟩
      refine s42 (a := 46) (zRw_of hP (Or.inl rfl)) (by omega) ?_
      rw [hev, if_pos hs'] at fin
      exact fin
    · have hs' : ¬ s' = 0 := by
        intro z
        rw [hs, z, c_1, n_eq (by decide) (by decide)] at e1
        omega
      rw [hs, e2]
      rw [hs, e2] at fin
      simp only [w60_42, w60_44, w60_47, w60_48, w60_51, w60_52, w60_53, w60_54, w60_57, zk_sI, zk_sJ, zk_sP, zn_sI, zn_sJ, zn_sP, zI_sI, zI_sJ, zI_sP, zJ_sI, zJ_sJ, zJ_sP, zP_sI, zP_sJ, zP_sP, Option.toList_some, Option.toList_none, List.cons_append, List.nil_append, zk_of hP.1, zn_of hP.1, zix, ziN, ne_eq, reduceCtorEq, not_false_eq_true, true_and, and_true, Option.getD_some, Nat.reduceLeDiff, Nat.reduceLT, c_ofNat, zkd0, zp_0_0 hP, zp_0_1 hP, zp_0_2 hP, zp_0_3 hP, zp_0_4 hP, zp_0_5 hP, zp_0_6 hP, zp_0_7 hP, zkd3, znd3, zfx3, zp_3_0 hP, zp_3_1 hP, zkd46, zp_46_0 hP, zkd48, zp_48_0 hP, in02, in12, true_or, zp30 hP, zp31 hP]
      refine ⟨fun z => absurd z (by decide), fun _ => ?_⟩
      refine s42 (a := 48) (zRw_of hP (Or.inr (Or.inl rfl))) (by omega) ?_
      rw [hev, if_neg hs'] at fin
      exact fin
  simp only [w60_0, w60_1, w60_4, zk_sI, zk_sJ, zk_sP, zn_sI, zn_sJ, zn_sP, zI_sI, zI_sJ, zI_sP, zJ_sI, zJ_sJ, zJ_sP, zP_sI, zP_sJ, zP_sP, Option.toList_some, Option.toList_none, List.cons_append, List.nil_append]
  refine s84 ?_
  simp only [w60_4, w60_7, w60_8, w60_39, w60_40, zk_sI, zk_sJ, zk_sP, zn_sI, zn_sJ, zn_sP, zI_sI, zI_sJ, zI_sP, zJ_sI, zJ_sJ, zJ_sP, zP_sI, zP_sJ, zP_sP, Option.toList_some, Option.toList_none, List.cons_append, List.nil_append, zB_0]
  refine ⟨fun g => hbad (fun z => g (side_in.mpr z.1)), fun g => ?_⟩
  have hs := side_in.mp (Classical.not_not.mp g)
  refine s86 ?_
  simp only [w60_11, w60_14, w60_15, w60_18, w60_19, w60_21, w60_24, w60_26, w60_29, w60_31, w60_32, w60_35, w60_36, w60_39, w60_40, zk_sI, zk_sJ, zk_sP, zn_sI, zn_sJ, zn_sP, zI_sI, zI_sJ, zI_sP, zJ_sI, zJ_sJ, zJ_sP, zP_sI, zP_sJ, zP_sP, Option.toList_some, Option.toList_none, List.cons_append, List.nil_append, zB_0]
  refine ⟨fun g => hbad (fun z => g (place_in.mpr z.2.1)), fun g => ⟨fun g2 => hbad (fun z => Int32.not_lt.mpr z.2.2.1.1 g2), fun g2 => ⟨fun g3 => hbad (fun z => Int32.not_lt.mpr z.2.2.1.2 g3), fun g3 => ?_⟩⟩⟩
  have hk := place_in.mp (Classical.not_not.mp g)
  have hl : zin l 0 20 := ⟨Int32.not_lt.mp g2, Int32.not_lt.mp g3⟩
  exact ⟨fun g4 => hgood hs hk hl (side_in.mp (Or.inl g4)), fun g4 => ⟨fun g5 => hbad (fun z => (side_in.mpr z.2.2.2).elim g4 g5), fun g5 => hgood hs hk hl (side_in.mp (Or.inr (Classical.not_not.mp g5)))⟩⟩
end ZAk

