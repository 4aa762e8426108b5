/-! ===== the law's own helpers; the calls beside the law's row of ends ===== -/
def zR (q : tQ) (M : zf_M) : Prop := vQ q ∧ zPk M ∧ zKC q M
section YCa
variable {X : zf_X} {M : zf_M} {Q : Option Value → zf_M → Prop} {q q1 : tQ}
theorem y_far (hl : M.1.length ≤ 1000000) {a : Nat} (ha : 1000000 ≤ a) : M.1.length ≤ a ∧ zf_k M a = 99 ∧ ∀ k, zf_n M k a = 0 := by
  have hl : M.1.length ≤ a := by omega
  have he : M.1.getD a (99, 0) = (99, 0) := by rw [List.getD_eq_getElem?_getD, List.getElem?_eq_none hl]; rfl
  refine ⟨hl, by unfold zf_k; rw [he], fun k => ?_⟩
  unfold zf_n
  rw [he]
  split <;> rfl
theorem y166_8 {ls : List Slot} {st : List Value} {i : Int32} (hl : M.1.length ≤ 1000000) : zW X 166 8 ls (.int i :: .ref 1000002 :: st) M Q ↔ vp_in i X.1 ∧ zW X 166 9 ls (.int (X.2 i.toNatClampNeg) :: st) M Q := by
  obtain ⟨h1, h2, h3⟩ := y_far hl (show 1000000 ≤ 1000002 by decide)
  have e0 : ¬ zf_iN i (zf_n M 10 1000002) = true := by
    rw [h3, ziN]
    unfold vp_in
    omega
  rw [← ziN]
  refine zr_ifAct (c := zf_iN i X.1 = true) (by rw [zf_g166]; exact dL_cell_8) ?_
  have hfx : zf_fx X 1000002 = some X := rfl
  simp only [zf_do, zf_ia, hfx]
  rw [if_neg e0]
  by_cases hc : zf_iN i X.1 = true
  · rw [if_pos ⟨hc, h1⟩, if_pos hc]
  · rw [if_neg (fun z => hc z.1), if_neg hc]
theorem y166_2 {ls : List Slot} {st : List Value} (hl : M.1.length ≤ 1000000) : zW X 166 2 ls (.ref 1000002 :: st) M Q ↔ zW X 166 3 ls (.int (Int32.ofNat X.1) :: st) M Q := by
  obtain ⟨h1, h2, h3⟩ := y_far hl (show 1000000 ≤ 1000002 by decide)
  have hfx : zf_fx X 1000002 = some X := rfl
  have h := zr_ifAct (X := X) (mi := 166) (ls := ls) (st := .ref 1000002 :: st) (M := M) (Q := Q) (c := True) (pc' := 3) (ls' := ls) (st' := .int (Int32.ofNat X.1) :: st) (M' := M) (by rw [zf_g166]; exact dL_cell_2) (by
    simp only [zf_do, zf_len, hfx]
    rw [if_neg (by rw [h2]; omega), if_pos h1, if_pos trivial])
  rw [h]
  exact ⟨fun z => z.2, fun z => ⟨trivial, z⟩⟩
/-- cell: some int or other -/
theorem sc166 {k : Nat} {y : Int32} (hy : y = nI k) (hk : k < 2 ^ 31) (hx : X.1 < 2 ^ 31) (hl : M.1.length ≤ 1000000) (h : ∀ v, Q (some (.int v)) M) : zC X 166 [.ref 1000002, .int y] M Q := by
  subst hy
  rw [c166]
  simp only [w166_0, w166_1, w166_3, w166_6, w166_12, w166_14, w166_15, w166_16, w166_17, w166_18, zk_sI, zk_sJ, zk_sP, zn_sI, zn_sJ, zn_sP, zI_sI, zI_sJ, zI_sP, zJ_sI, zJ_sJ, zJ_sP, zP_sI, zP_sJ, zP_sP, Option.toList_some, Option.toList_none, List.cons_append, List.nil_append, y166_2 hl, c_ofNat]
  refine ⟨fun _ => h _, fun z => ?_⟩
  rw [n_le hx hk] at z
  simp only [w166_6, w166_7, w166_9, w166_18, zk_sI, zk_sJ, zk_sP, zn_sI, zn_sJ, zn_sP, zI_sI, zI_sJ, zI_sP, zJ_sI, zJ_sJ, zJ_sP, zP_sI, zP_sJ, zP_sP, Option.toList_some, Option.toList_none, List.cons_append, List.nil_append, y166_8 hl, n_in (show k < X.1 by omega) hx, true_and]
  exact h _
/-- up: a number less than the most -/
theorem sc167 {x y : Int32} {k : Nat} (hy : y = nI k) (h1 : 0 < k) (hk : k < 2 ^ 31) (h : ∀ m, m < k → Q (some (.int (nI m))) M) : zC X 167 [.int x, .int y] M Q := by
  subst hy
  rw [c167]
  simp only [w167_0, w167_1, w167_3, w167_4, w167_5, w167_6, zk_sI, zk_sJ, zk_sP, zn_sI, zn_sJ, zn_sP, zI_sI, zI_sJ, zI_sP, zJ_sI, zJ_sJ, zJ_sP, zP_sI, zP_sJ, zP_sP, Option.toList_some, Option.toList_none, List.cons_append, List.nil_append]
  obtain ⟨j, j1, j2⟩ := pk_andE x (m := 2147483647) 31 (by decide)
  have j3 : x &&& (2147483647 : Int32) = nI j := j2
  rw [j3, pk_rem j1 h1 hk]
  refine ⟨?_, h _ (Nat.mod_lt _ h1)⟩
  intro z
  have z2 : nI k = nI 0 := z
  rw [n_eq hk (by decide)] at z2
  omega
theorem y1p (a : Nat) : (1 : Int32) + nI a = nI (1 + a) := by rw [c_1, nI_add]
theorem yzk {w x lo hi : Nat} (hl : zf_lo w = nI lo) (hh : zf_hi w = nI hi) (hb : hi < 2 ^ 31) (h1 : lo ≤ x) (h2 : x ≤ hi) : zok w (nI x) := by
  show zf_lo w ≤ nI x ∧ nI x ≤ zf_hi w
  rw [hl, hh, n_le (by omega) (by omega), n_le (by omega) hb]
  exact ⟨h1, h2⟩
theorem yFig {a b c d e f : Nat} (ha : a ≤ 2) (hb : 1 ≤ b ∧ b ≤ 20) (hc : c ≤ 6) (hd : 1 ≤ d ∧ d ≤ 9) (he : e ≤ 19) (hf : f ≤ 9) {i : Nat} (hi : i < 16) (hA : (qA q).1 = i) : aFig q (nI a) (nI b) (nI c) (nI d) (nI e) (nI f) = nI i ∧ (qA (nFig q (nI a) (nI b) (nI c) (nI d) (nI e) (nI f))).1 = i + 1 := by
  have g : bFig (nI a) (nI b) (nI c) (nI d) (nI e) (nI f) := ⟨yzk (lo := 0) (hi := 2) rfl rfl (by decide) (by omega) ha, yzk (lo := 1) (hi := 20) rfl rfl (by decide) hb.1 hb.2, yzk (lo := 0) (hi := 6) rfl rfl (by decide) (by omega) hc, yzk (lo := 1) (hi := 9) rfl rfl (by decide) hd.1 hd.2, yzk (lo := 0) (hi := 19) rfl rfl (by decide) (by omega) he, yzk (lo := 0) (hi := 9) rfl rfl (by decide) (by omega) hf⟩
  have h16 : ¬ (qA q).1 = 16 := by omega
  refine ⟨?_, ?_⟩
  · unfold aFig
    rw [if_pos g, if_neg h16, hA]
  · unfold nFig
    rw [if_pos g, if_neg h16]
    show (qA q).1 + 1 = i + 1
    rw [hA]
theorem zR_58 {j : Nat} {v : Int32} {a : Nat} (ha : 58 ≤ a) (hR : zR q M) : zR q (zf_sI M a j v) := ⟨hR.1, zPk_sI hR.2.1, zKC_dn hR.2.2 (zF_sI (zF_rf _ _) ha)⟩
theorem zR_l (hR : zR q M) : M.1.length ≤ 1000000 := by
  rw [hR.2.1.1]
  decide
set_option maxHeartbeats 2000000 in
/-- build: the loop -/
theorem sc168l (hx : X.1 < 2 ^ 31) (h : ∀ q' M', zR q' M' → (qA q').1 = 4 → Q (some (.int 1)) M') : ∀ (m i : Nat) (q : tQ) (M : zf_M) (l6 l7 l8 l9 l10 l11 l12 : Slot), i + m = 4 → zR q M → (qA q).1 = i → zW X 168 3 [.val (.ref 0), .val (.ref 1000002), .val (.ref 58), .val (.int 4), .val (.int 7), .val (.int (nI i)), l6, l7, l8, l9, l10, l11, l12] [] M Q := by
  intro m
  induction m with
  | zero =>
    intro i q M l6 l7 l8 l9 l10 l11 l12 hi hR hA
    obtain rfl : i = 4 := by omega
    rw [w168_3]
    simp only [w168_5, w168_6, w168_203, w168_204, zk_sI, zk_sJ, zk_sP, zn_sI, zn_sJ, zn_sP, zI_sI, zI_sJ, zI_sP, zJ_sI, zJ_sJ, zJ_sP, zP_sI, zP_sJ, zP_sP, Option.toList_some, Option.toList_none, List.cons_append, List.nil_append]
    exact ⟨fun _ => ⟨rfl, h q M hR hA⟩, fun z => absurd (by decide) z⟩
  | succ m ih =>
    intro i q M l6 l7 l8 l9 l10 l11 l12 hi hR hA
    have hP := hR.2.1
    have hl := zR_l hR
    have h4 : ¬ (4 : Int32) ≤ nI i := by
      have e : ((4 : Int32) ≤ nI i) = (4 ≤ i) := n_le (a := 4) (by decide) (by omega)
      rw [e]
      omega
    rw [w168_3]
    simp only [w168_5, w168_6, w168_9, w168_10, w168_12, zk_sI, zk_sJ, zk_sP, zn_sI, zn_sJ, zn_sP, zI_sI, zI_sJ, zI_sP, zJ_sI, zJ_sJ, zJ_sP, zP_sI, zP_sJ, zP_sP, Option.toList_some, Option.toList_none, List.cons_append, List.nil_append]
    refine ⟨fun z => absurd z h4, fun _ => ?_⟩
    refine sc166 rfl (by omega) hx hl (fun v => ?_)
    simp only [w168_15, w168_17, w168_18, w168_20, w168_21, w168_22, w168_24, zk_sI, zk_sJ, zk_sP, zn_sI, zn_sJ, zn_sP, zI_sI, zI_sJ, zI_sP, zJ_sI, zJ_sJ, zJ_sP, zP_sI, zP_sJ, zP_sP, Option.toList_some, Option.toList_none, List.cons_append, List.nil_append]
    refine sc167 (k := 7) rfl (by decide) (by decide) (fun b hb => ?_)
    simp only [w168_27, w168_28, w168_30, w168_32, w168_33, w168_34, w168_35, zk_sI, zk_sJ, zk_sP, zn_sI, zn_sJ, zn_sP, zI_sI, zI_sJ, zI_sP, zJ_sI, zJ_sJ, zJ_sP, zP_sI, zP_sJ, zP_sP, Option.toList_some, Option.toList_none, List.cons_append, List.nil_append, y1p]
    have k46 : ∀ kd, kd ≤ 2 → zW X 168 46 [.val (.ref 0), .val (.ref 1000002), .val (.ref 58), .val (.int 4), .val (.int 7), .val (.int (nI i)), .val (.int v), .val (.int (nI (1 + b))), l8, l9, l10, l11, l12] [.int (nI kd)] M Q := by
      intro kd hkd
      simp only [w168_46, w168_48, w168_50, w168_52, w168_53, w168_55, zk_sI, zk_sJ, zk_sP, zn_sI, zn_sJ, zn_sP, zI_sI, zI_sJ, zI_sP, zJ_sI, zJ_sJ, zJ_sP, zP_sI, zP_sJ, zP_sP, Option.toList_some, Option.toList_none, List.cons_append, List.nil_append]
      refine sc167 (k := 7) rfl (by decide) (by decide) (fun c hc => ?_)
      simp only [w168_58, w168_60, w168_61, w168_63, w168_65, w168_66, w168_67, zk_sI, zk_sJ, zk_sP, zn_sI, zn_sJ, zn_sP, zI_sI, zI_sJ, zI_sP, zJ_sI, zJ_sJ, zJ_sP, zP_sI, zP_sJ, zP_sP, Option.toList_some, Option.toList_none, List.cons_append, List.nil_append]
      refine sc167 (k := 4) rfl (by decide) (by decide) (fun d hd => ?_)
      simp only [w168_70, w168_71, w168_73, w168_75, w168_77, w168_78, w168_79, w168_80, zk_sI, zk_sJ, zk_sP, zn_sI, zn_sJ, zn_sP, zI_sI, zI_sJ, zI_sP, zJ_sI, zJ_sJ, zJ_sP, zP_sI, zP_sJ, zP_sP, Option.toList_some, Option.toList_none, List.cons_append, List.nil_append, y1p]
      have k96 : ∀ e, e ≤ 3 → zW X 168 96 [.val (.ref 0), .val (.ref 1000002), .val (.ref 58), .val (.int 4), .val (.int 7), .val (.int (nI i)), .val (.int v), .val (.int (nI (1 + b))), .val (.int (nI kd)), .val (.int (nI c)), .val (.int (nI (1 + d))), l11, l12] [.int (nI e)] M Q := by
        intro e he
        simp only [w168_96, w168_98, w168_100, w168_102, w168_103, w168_105, zk_sI, zk_sJ, zk_sP, zn_sI, zn_sJ, zn_sP, zI_sI, zI_sJ, zI_sP, zJ_sI, zJ_sJ, zJ_sP, zP_sI, zP_sJ, zP_sP, Option.toList_some, Option.toList_none, List.cons_append, List.nil_append]
        refine sc167 (k := 10) rfl (by decide) (by decide) (fun f hf => ?_)
        simp only [w168_108, w168_110, w168_111, w168_113, w168_115, w168_117, w168_119, w168_121, w168_123, zk_sI, zk_sJ, zk_sP, zn_sI, zn_sJ, zn_sP, zI_sI, zI_sJ, zI_sP, zJ_sI, zJ_sJ, zJ_sP, zP_sI, zP_sJ, zP_sP, Option.toList_some, Option.toList_none, List.cons_append, List.nil_append, zk_of hP.1, zn_of hP.1, zix, ziN, ne_eq, reduceCtorEq, not_false_eq_true, true_and, and_true, Option.getD_some, Nat.reduceLeDiff, Nat.reduceLT, c_ofNat, zkd0, zp_0_0 hP, zp_0_1 hP, zp_0_2 hP, zp_0_3 hP, zp_0_4 hP, zp_0_5 hP, zp_0_6 hP, zp_0_7 hP]
        obtain ⟨ea, en⟩ := yFig (q := q) (a := kd) (b := 1 + b) (c := c) (d := 1 + d) (e := e) (f := f) hkd ⟨by omega, by omega⟩ (by omega) ⟨by omega, by omega⟩ (by omega) (by omega) (i := i) (by omega) hA
        refine C50 hR.1 hP hR.2.2 (fun M1 u1 k1 => ?_)
        have hR1 : zR (nFig q (nI kd) (nI (1 + b)) (nI c) (nI (1 + d)) (nI e) (nI f)) M1 := ⟨vFig _ _ _ _ _ _ hR.1, u1.1, k1⟩
        have hP1 := u1.1
        rw [ea]
        simp only [w168_126, w168_128, zk_sI, zk_sJ, zk_sP, zn_sI, zn_sJ, zn_sP, zI_sI, zI_sJ, zI_sP, zJ_sI, zJ_sJ, zJ_sP, zP_sI, zP_sJ, zP_sP, Option.toList_some, Option.toList_none, List.cons_append, List.nil_append]
        refine ⟨fun _ => ?_, fun z => absurd trivial z⟩
        have e6 : (6 : Int32) * nI i = nI (6 * i) := pk_mul 6 i
        have a1 : nI (6 * i) + 1 = nI (6 * i + 1) := nI_add _ 1
        have a2 : nI (6 * i) + 2 = nI (6 * i + 2) := nI_add _ 2
        have a3 : nI (6 * i) + 3 = nI (6 * i + 3) := nI_add _ 3
        have a4 : nI (6 * i) + 4 = nI (6 * i + 4) := nI_add _ 4
        have a5 : nI (6 * i) + 5 = nI (6 * i + 5) := nI_add _ 5
        have b24 : (24 : Nat) < 2 ^ 31 := by decide
        simp only [w168_133, w168_134, w168_136, w168_138, w168_139, w168_141, w168_142, w168_143, w168_145, w168_147, w168_148, w168_149, w168_150, w168_152, w168_153, w168_154, w168_156, w168_158, w168_159, w168_160, w168_161, w168_163, w168_164, w168_165, w168_167, w168_169, w168_170, w168_171, w168_172, w168_174, w168_175, w168_176, w168_178, w168_180, w168_181, w168_182, w168_183, w168_185, w168_186, w168_187, w168_189, w168_191, w168_192, w168_193, w168_194, w168_196, w168_197, w168_200, zk_sI, zk_sJ, zk_sP, zn_sI, zn_sJ, zn_sP, zI_sI, zI_sJ, zI_sP, zJ_sI, zJ_sJ, zJ_sP, zP_sI, zP_sJ, zP_sP, Option.toList_some, Option.toList_none, List.cons_append, List.nil_append, zk_of hP1.1, zn_of hP1.1, zix, ziN, ne_eq, reduceCtorEq, not_false_eq_true, true_and, and_true, Option.getD_some, Nat.reduceLeDiff, Nat.reduceLT, c_ofNat, zkd58, znd58, zfx58, e6, a1, a2, a3, a4, a5, n_in (show 6 * i < 24 by omega) b24, n_in (show 6 * i + 1 < 24 by omega) b24, n_in (show 6 * i + 2 < 24 by omega) b24, n_in (show 6 * i + 3 < 24 by omega) b24, n_in (show 6 * i + 4 < 24 by omega) b24, n_in (show 6 * i + 5 < 24 by omega) b24, n_a1]
        exact ih (i + 1) _ _ _ _ _ _ _ _ _ (by omega) (zR_58 (by decide) (zR_58 (by decide) (zR_58 (by decide) (zR_58 (by decide) (zR_58 (by decide) (zR_58 (by decide) hR1)))))) en
      refine ⟨fun _ => ?_, fun _ => ?_⟩
      · simp only [w168_87, w168_89, w168_91, w168_92, w168_93, zk_sI, zk_sJ, zk_sP, zn_sI, zn_sJ, zn_sP, zI_sI, zI_sJ, zI_sP, zJ_sI, zJ_sJ, zJ_sP, zP_sI, zP_sJ, zP_sP, Option.toList_some, Option.toList_none, List.cons_append, List.nil_append]
        exact sc167 (k := 4) rfl (by decide) (by decide) (fun e he => k96 e (by omega))
      · simp only [w168_83, w168_84, zk_sI, zk_sJ, zk_sP, zn_sI, zn_sJ, zn_sP, zI_sI, zI_sJ, zI_sP, zJ_sI, zJ_sJ, zJ_sP, zP_sI, zP_sJ, zP_sP, Option.toList_some, Option.toList_none, List.cons_append, List.nil_append]
        exact k96 0 (by decide)
    obtain ⟨j, j1, j2⟩ := pk_andE v (m := 3) 2 (by decide)
    have j3 : v &&& (3 : Int32) = nI j := j2
    refine ⟨fun z => ?_, fun _ => ?_⟩
    · rw [j3] at z
      simp only [w168_42, w168_44, w168_45, zk_sI, zk_sJ, zk_sP, zn_sI, zn_sJ, zn_sP, zI_sI, zI_sJ, zI_sP, zJ_sI, zJ_sJ, zJ_sP, zP_sI, zP_sJ, zP_sP, Option.toList_some, Option.toList_none, List.cons_append, List.nil_append, j3]
      refine k46 j ?_
      have e3 : j ≠ 3 := fun e => z (by rw [e]; rfl)
      omega
    · simp only [w168_38, w168_39, zk_sI, zk_sJ, zk_sP, zn_sI, zn_sJ, zn_sP, zI_sI, zI_sJ, zI_sP, zJ_sI, zJ_sJ, zJ_sP, zP_sI, zP_sJ, zP_sP, Option.toList_some, Option.toList_none, List.cons_append, List.nil_append]
      exact k46 0 (by decide)
/-- build -/
theorem sc168 (hx : X.1 < 2 ^ 31) (hR : zR q M) (hA : (qA q).1 = 0) (h : ∀ q' M', zR q' M' → (qA q').1 = 4 → Q (some (.int 1)) M') : zC X 168 [.ref 0, .ref 1000002, .ref 58, .int 4, .int 7] M Q := by
  rw [c168]
  simp only [w168_0, w168_1, zk_sI, zk_sJ, zk_sP, zn_sI, zn_sJ, zn_sP, zI_sI, zI_sJ, zI_sP, zJ_sI, zJ_sJ, zJ_sP, zP_sI, zP_sJ, zP_sP, Option.toList_some, Option.toList_none, List.cons_append, List.nil_append]
  exact sc168l hx h 4 0 q M _ _ _ _ _ _ _ (Nat.zero_add _) hR hA
/-! behind 'ended' -/
def zE : Nat × Nat := (10, 3)
def zRB (q : tQ) (M : zf_M) : Prop := ∃ M0, M = zg zE M0 ∧ zR q M0
theorem zE_l (hR : zR q M) : M.1.length < 1000000 := by
  rw [hR.2.1.1]
  decide
theorem zRB_k (h : zRB q M) : zf_k M 0 = 8 := by
  obtain ⟨M0, rfl, hR⟩ := h
  exact zg_k (by rw [zk_of hR.2.1.1]; rfl) (by decide)
theorem zRB_n (h : zRB q M) : zf_n M 10 59 = 3 ∧ M.1 = zSH ++ [zE] := by
  obtain ⟨M0, rfl, hR⟩ := h
  have e : (zg zE M0).1 = zSH ++ [zE] := by
    show M0.1 ++ [zE] = _
    rw [hR.2.1.1]
  refine ⟨?_, e⟩
  unfold zf_n
  rw [e]
  rfl
theorem zRB_l (h : zRB q M) : M.1.length ≤ 1000000 := by
  rw [(zRB_n h).2]
  decide
theorem zRB_59 {j : Nat} {v : Int32} (h : zRB q M) : zRB q (zf_sI M 59 j v) := by
  obtain ⟨M0, rfl, hR⟩ := h
  exact ⟨zf_sI M0 59 j v, rfl, zR_58 (by decide) hR⟩
/-- a call whose contract is known, beside 'ended' -/
theorem zRB_call {k : Nat} {as : List Value} {q2 : tQ} {r : Value} (hB : zRB q M) (hv2 : vQ q2) (C : ∀ (M : zf_M) (Q : Option Value → zf_M → Prop), zR q M → (∀ M1, zUp M M1 → zKC q2 M1 → Q (some r) M1) → zC X k as M Q) (h : ∀ M1, zRB q2 M1 → (∀ j, zf_I M1 59 j = zf_I M 59 j) → Q (some r) M1) : zC X k as M Q := by
  obtain ⟨M0, rfl, hR⟩ := hB
  refine zg_call (zE_l hR) (C M0 _ hR (fun M1 hu hk => ⟨hu.1.1.trans hR.2.1.1.symm, ?_⟩))
  exact h _ ⟨M1, rfl, hv2, hu.1, hk⟩ (fun j => hu.2 59 (by decide) j)
theorem D56 (hB : zRB q M) (h : ∀ M1, zRB q M1 → (∀ j, zf_I M1 59 j = zf_I M 59 j) → Q (some (.int (nI (aSlots q)))) M1) : zC X 56 [.ref 0] M Q :=
  zRB_call hB (by obtain ⟨M0, -, hR⟩ := hB; exact hR.1) (fun M Q hR => C56 hR.2.1 hR.2.2) h
theorem D57 (hB : zRB q M) (h : ∀ M1, zRB q M1 → (∀ j, zf_I M1 59 j = zf_I M 59 j) → Q (some (.long (zall' (zpq q 0)))) M1) : zC X 57 [.ref 0] M Q :=
  zRB_call hB (by obtain ⟨M0, -, hR⟩ := hB; exact hR.1) (fun M Q hR => C57 hR.1 hR.2.1 hR.2.2) h
theorem D60 {s k l u : Int32} (hB : zRB q M) (h : ∀ M1, zRB q M1 → (∀ j, zf_I M1 59 j = zf_I M 59 j) → Q (some (.long (aLeft q s k l u))) M1) : zC X 60 [.ref 0, .int s, .int k, .int l, .int u] M Q :=
  zRB_call hB (by obtain ⟨M0, -, hR⟩ := hB; exact hR.1) (fun M Q hR => C60 hR.1 hR.2.1 hR.2.2) h
theorem D62 {e : Int32} (hB : zRB q M) (h : ∀ M1, zRB q M1 → (∀ j, zf_I M1 59 j = zf_I M 59 j) → Q (some (.long (aEnds q e))) M1) : zC X 62 [.ref 0, .int e] M Q :=
  zRB_call hB (by obtain ⟨M0, -, hR⟩ := hB; exact hR.1) (fun M Q hR => C62 hR.1 hR.2.1 hR.2.2) h
theorem D74 {s : Int32} (hB : zRB q M) (h : ∀ M1, zRB (nPlay q s) M1 → (∀ j, zf_I M1 59 j = zf_I M 59 j) → Q (some (.int (aPlay q s))) M1) : zC X 74 [.ref 0, .int s] M Q :=
  zRB_call hB (vPlay s (by obtain ⟨M0, -, hR⟩ := hB; exact hR.1)) (fun M Q hR => C74 hR.1 hR.2.1 hR.2.2) h
theorem D75 {k : Int32} (hB : zRB q M) (h : ∀ M1, zRB q M1 → (∀ j, zf_I M1 59 j = zf_I M 59 j) → Q (some (.int (aPl q k))) M1) : zC X 75 [.ref 0, .int k] M Q :=
  zRB_call hB (by obtain ⟨M0, -, hR⟩ := hB; exact hR.1) (fun M Q hR => C75 hR.2.1 hR.2.2) h
theorem D78 {s f i v : Int32} (hB : zRB q M) (h : ∀ M1, zRB (nPut q s f i v) M1 → (∀ j, zf_I M1 59 j = zf_I M 59 j) → Q (some (.int (aPut q s f i))) M1) : zC X 78 [.ref 0, .int s, .int f, .int i, .int v] M Q :=
  zRB_call hB (vPut s f i v (by obtain ⟨M0, -, hR⟩ := hB; exact hR.1)) (fun M Q hR => C78 hR.1 hR.2.1 hR.2.2) h
theorem D81 {s r : Int32} (hB : zRB q M) (h : ∀ M1, zRB (nShake q s r) M1 → (∀ j, zf_I M1 59 j = zf_I M 59 j) → Q (some (.int (aShake q s))) M1) : zC X 81 [.ref 0, .int s, .int r] M Q :=
  zRB_call hB (vShake s r (by obtain ⟨M0, -, hR⟩ := hB; exact hR.1)) (fun M Q hR => C81 hR.1 hR.2.1 hR.2.2) h
/-- 'ended' is made -/
theorem zRB_new (hR : zR q M) : zRB q (zf_new M (10, 3)) ∧ ∀ j, zf_I (zf_new M (10, 3)) 59 j = 0 := by
  have hl : M.1.length = 59 := by
    rw [hR.2.1.1]
    rfl
  have e1 : zf_new M (10, 3) = zg zE (M.1, zf_r M.2.1 59 (fun _ => 0), zf_r M.2.2.1 59 (fun _ => 0), zf_r M.2.2.2 59 (fun _ => none)) := by
    unfold zf_new
    rw [hl]
    rfl
  have e2 : ∀ (b : Nat), b ≠ 59 → ∀ j, zf_P (M.1, zf_r M.2.1 59 (fun _ => 0), zf_r M.2.2.1 59 (fun _ => 0), zf_r M.2.2.2 59 (fun _ => none)) b j = zf_P M b j := by
    intro b hb j
    show zf_r M.2.2.2 59 (fun _ => none) b j = M.2.2.2 b j
    unfold zf_r
    rw [if_neg hb]
  have hF : zDn M (M.1, zf_r M.2.1 59 (fun _ => 0), zf_r M.2.2.1 59 (fun _ => 0), M.2.2.2) := by
    refine ⟨rfl, fun b hb j => ?_, fun _ _ => rfl⟩
    have hb9 : b ≠ 59 := fun e => hb (by rw [e]; decide)
    refine ⟨?_, ?_⟩
    · show zf_r M.2.1 59 (fun _ => 0) b j = M.2.1 b j
      unfold zf_r
      rw [if_neg hb9]
    · show zf_r M.2.2.1 59 (fun _ => 0) b j = M.2.2.1 b j
      unfold zf_r
      rw [if_neg hb9]
  have hK := zKC_dn hR.2.2 hF
  refine ⟨⟨_, e1, hR.1, ⟨hR.2.1.1, fun e he => ?_⟩, ?_, hK.2⟩, fun j => ?_⟩
  · have h9 : ∀ e ∈ zPL, e.1 ≠ 59 := by decide +kernel
    rw [e2 e.1 (h9 e he) e.2.1]
    exact hR.2.1.2 e he
  · obtain ⟨a, b, n, m, g1, g2, g3, g4, g5⟩ := hK.1
    refine ⟨a, b, n, m, g1, ?_, ?_, g4, g5⟩
    · rw [e2 12 (by decide) 5]
      exact g2
    · rw [e2 12 (by decide) 6]
      exact g3
  · rw [e1]
    show zf_r M.2.1 59 (fun _ => 0) 59 j = 0
    unfold zf_r
    rw [if_pos rfl]
end YCa
