/-! ===== digest ===== -/
def dgA (q : tQ) : Nat → Int64
  | 0 => 17
  | k + 1 => if k = 6 then dgA q k else 31 * dgA q k + (aCount q (nI k)).toInt64
def dgR (nu : Nat → Nat) (h : Int64) : Nat → Int64
  | 0 => h
  | k + 1 => 31 * dgR nu h k + (nI (nu k)).toInt64
def dgB (q : tQ) (h : Int64) : Nat → Int64
  | 0 => h
  | k + 1 => 31 * dgB q h k + (zvo (zwh q (k / 3) (k % 3))).toInt64
def dgP (q : tQ) (h : Int64) : Nat → Int64
  | 0 => h
  | k + 1 => 31 * dgP q h k + (aPl q (nI k)).toInt64
def aDig (q : tQ) : Int64 := dgP q (dgB q (dgR (qA q).2 (dgA q 10) (6 * (qA q).1)) 6) 3
section ZDg
variable {X : zf_X} {M : zf_M} {Q : Option Value → zf_M → Prop} {q : tQ}
theorem about_e {f w : Nat} (hv : vQ q) (hf : f < (qA q).1) (hw : w < 6) : aAbout q (nI f) (nI w) = nI ((qA q).2 (6 * f + w)) := by
  have h16 := hv.1.1
  unfold aAbout
  rw [if_pos ⟨⟨nI_pos' (by omega), (n_lt (by omega) (by omega)).mpr hf⟩, (zin_k (n := 5) rfl (by decide) (by omega)).mpr (by omega)⟩, n_cl (by omega), n_cl (by omega)]
theorem at_e {s k : Nat} (hs : s < 2) (hk : k < 3) : aAt q (nI s) (nI k) = zvo (zwh q s k) := by
  unfold aAt
  rw [if_pos ⟨(zin_k (n := 1) rfl (by decide) (by omega)).mpr (by omega), (zin_k (n := 2) rfl (by decide) (by omega)).mpr (by omega)⟩, n_cl (by omega), n_cl (by omega)]
theorem C83 (hv : vQ q) (hP : zPk M) (hC : zKC q M) (h : ∀ M1, zUp M M1 → zKC q M1 → Q (some (.long (aDig q))) M1) : zC X 83 [.ref 0] M Q := by
  have h16 := hv.1.1
  rw [c83]
  have l4 : ∀ (m k : Nat) (M1 : zf_M) (l4 : Slot), k + m = 3 → zUp M M1 → zKC q M1 → zW X 83 131 [.val (.ref 0), .val (.long (dgP q (dgB q (dgR (qA q).2 (dgA q 10) (6 * (qA q).1)) 6) k)), .second, .val (.int (nI k)), l4] [] M1 Q := by
    intro m
    induction m with
    | zero =>
      intro k M1 l4 hk u1 k1
      obtain rfl : k = 3 := by omega
      rw [w83_131]
      simp only [w83_132, w83_133, w83_136, w83_139, w83_140, w83_141, w83_142, w83_143, w83_146, w83_147, w83_148, w83_149, w83_152, w83_155, w83_156, zk_sI, zk_sJ, zk_sP, zn_sI, zn_sJ, zn_sP, zI_sI, zI_sJ, zI_sP, zJ_sI, zJ_sJ, zJ_sP, zP_sI, zP_sJ, zP_sP, Option.toList_some, Option.toList_none, List.cons_append, List.nil_append]
      exact ⟨fun _ => h M1 u1 k1, fun z => absurd (by decide) z⟩
    | succ m ih =>
      intro k M1 l4 hk u1 k1
      have hP1 := u1.1
      rw [w83_131]
      simp only [w83_132, w83_133, w83_136, w83_139, w83_140, w83_141, w83_142, w83_143, zk_sI, zk_sJ, zk_sP, zn_sI, zn_sJ, zn_sP, zI_sI, zI_sJ, zI_sP, zJ_sI, zJ_sJ, zJ_sP, zP_sI, zP_sJ, zP_sP, Option.toList_some, Option.toList_none, List.cons_append, List.nil_append, zk_of hP1.1, zn_of hP1.1, zix, ziN, ne_eq, reduceCtorEq, not_false_eq_true, true_and, and_true, Option.getD_some, Nat.reduceLeDiff, Nat.reduceLT, c_ofNat, zkd0, zp_0_0 hP1, zp_0_1 hP1, zp_0_2 hP1, zp_0_3 hP1, zp_0_4 hP1, zp_0_5 hP1, zp_0_6 hP1, zp_0_7 hP1]
      rw [c_2, n_lt (by decide) (by omega)]
      refine ⟨fun z => by omega, fun _ => ?_⟩
      refine C75 hP1 k1 (fun M2 u2 k2 => ?_)
      simp only [w83_146, w83_147, w83_148, w83_149, w83_152, zk_sI, zk_sJ, zk_sP, zn_sI, zn_sJ, zn_sP, zI_sI, zI_sJ, zI_sP, zJ_sI, zJ_sJ, zJ_sP, zP_sI, zP_sJ, zP_sP, Option.toList_some, Option.toList_none, List.cons_append, List.nil_append, n_a1]
      exact ih (k + 1) M2 l4 (by omega) (zUp_tr u1 u2) k2
  have l3 : ∀ (m s : Nat) (M1 : zf_M) (l4' : Slot), s + m = 2 → zUp M M1 → zKC q M1 → zW X 83 88 [.val (.ref 0), .val (.long (dgB q (dgR (qA q).2 (dgA q 10) (6 * (qA q).1)) (3 * s))), .second, .val (.int (nI s)), l4'] [] M1 Q := by
    intro m
    induction m with
    | zero =>
      intro s M1 l4' hs u1 k1
      obtain rfl : s = 2 := by omega
      rw [w83_88]
      simp only [w83_89, w83_90, w83_129, w83_130, zk_sI, zk_sJ, zk_sP, zn_sI, zn_sJ, zn_sP, zI_sI, zI_sJ, zI_sP, zJ_sI, zJ_sJ, zJ_sP, zP_sI, zP_sJ, zP_sP, Option.toList_some, Option.toList_none, List.cons_append, List.nil_append]
      exact ⟨fun _ => l4 3 0 M1 _ rfl u1 k1, fun z => absurd (by decide) z⟩
    | succ m ih =>
      intro s M1 l4' hs u1 k1
      have inner : ∀ (m2 k : Nat) (M2 : zf_M), k + m2 = 3 → zUp M M2 → zKC q M2 → zW X 83 96 [.val (.ref 0), .val (.long (dgB q (dgR (qA q).2 (dgA q 10) (6 * (qA q).1)) (3 * s + k))), .second, .val (.int (nI s)), .val (.int (nI k))] [] M2 Q := by
        intro m2
        induction m2 with
        | zero =>
          intro k M2 hk u2 k2
          obtain rfl : k = 3 := by omega
          rw [w83_96]
          simp only [w83_98, w83_99, w83_102, w83_105, w83_106, w83_107, w83_108, w83_109, w83_111, w83_114, w83_115, w83_116, w83_117, w83_120, w83_123, w83_126, zk_sI, zk_sJ, zk_sP, zn_sI, zn_sJ, zn_sP, zI_sI, zI_sJ, zI_sP, zJ_sI, zJ_sJ, zJ_sP, zP_sI, zP_sJ, zP_sP, Option.toList_some, Option.toList_none, List.cons_append, List.nil_append, n_a1]
          exact ⟨fun _ => ih (s + 1) M2 _ (by omega) u2 k2, fun z => absurd (by decide) z⟩
        | succ m2 ih2 =>
          intro k M2 hk u2 k2
          have hP2 := u2.1
          rw [w83_96]
          simp only [w83_98, w83_99, w83_102, w83_105, w83_106, w83_107, w83_108, w83_109, w83_111, zk_sI, zk_sJ, zk_sP, zn_sI, zn_sJ, zn_sP, zI_sI, zI_sJ, zI_sP, zJ_sI, zJ_sJ, zJ_sP, zP_sI, zP_sJ, zP_sP, Option.toList_some, Option.toList_none, List.cons_append, List.nil_append, zk_of hP2.1, zn_of hP2.1, zix, ziN, ne_eq, reduceCtorEq, not_false_eq_true, true_and, and_true, Option.getD_some, Nat.reduceLeDiff, Nat.reduceLT, c_ofNat, zkd0, zp_0_0 hP2, zp_0_1 hP2, zp_0_2 hP2, zp_0_3 hP2, zp_0_4 hP2, zp_0_5 hP2, zp_0_6 hP2, zp_0_7 hP2]
          rw [c_3, n_le (by decide) (by omega)]
          refine ⟨fun z => by omega, fun _ => ?_⟩
          refine C54 hP2 k2 (fun M3 u3 k3 => ?_)
          rw [at_e (by omega) (by omega)]
          simp only [w83_114, w83_115, w83_116, w83_117, w83_120, zk_sI, zk_sJ, zk_sP, zn_sI, zn_sJ, zn_sP, zI_sI, zI_sJ, zI_sP, zJ_sI, zJ_sJ, zJ_sP, zP_sI, zP_sJ, zP_sP, Option.toList_some, Option.toList_none, List.cons_append, List.nil_append, n_a1]
          have nxt := ih2 (k + 1) M3 (by omega) (zUp_tr u2 u3) k3
          rw [← Nat.add_assoc, dgB, show (3 * s + k) / 3 = s by omega, show (3 * s + k) % 3 = k by omega] at nxt
          exact nxt
      rw [w83_88]
      simp only [w83_89, w83_90, w83_93, w83_94, zk_sI, zk_sJ, zk_sP, zn_sI, zn_sJ, zn_sP, zI_sI, zI_sJ, zI_sP, zJ_sI, zJ_sJ, zJ_sP, zP_sI, zP_sJ, zP_sP, Option.toList_some, Option.toList_none, List.cons_append, List.nil_append]
      rw [c_1, n_lt (by decide) (by omega)]
      exact ⟨fun z => by omega, fun _ => inner 3 0 M1 rfl u1 k1⟩
  have l2 : ∀ (m f : Nat) (M1 : zf_M) (l4' : Slot), f + m = (qA q).1 → zUp M M1 → zKC q M1 → zW X 83 39 [.val (.ref 0), .val (.long (dgR (qA q).2 (dgA q 10) (6 * f))), .second, .val (.int (nI f)), l4'] [] M1 Q := by
    intro m
    induction m with
    | zero =>
      intro f M1 l4' hf u1 k1
      obtain rfl : f = (qA q).1 := by omega
      have hP1 := u1.1
      rw [w83_39]
      simp only [w83_40, w83_41, w83_44, w83_47, w83_86, w83_87, zk_sI, zk_sJ, zk_sP, zn_sI, zn_sJ, zn_sP, zI_sI, zI_sJ, zI_sP, zJ_sI, zJ_sJ, zJ_sP, zP_sI, zP_sJ, zP_sP, Option.toList_some, Option.toList_none, List.cons_append, List.nil_append, zk_of hP1.1, zn_of hP1.1, zix, ziN, ne_eq, reduceCtorEq, not_false_eq_true, true_and, and_true, Option.getD_some, Nat.reduceLeDiff, Nat.reduceLT, c_ofNat, zkd0, zp_0_0 hP1, zp_0_1 hP1, zp_0_2 hP1, zp_0_3 hP1, zp_0_4 hP1, zp_0_5 hP1, zp_0_6 hP1, zp_0_7 hP1, zkd1, zp_1_0 hP1, k1.2.1.1, Int32.le_refl, true_implies, not_true_eq_false, false_implies, and_true]
      exact l3 2 0 M1 _ rfl u1 k1
    | succ m ih =>
      intro f M1 l4' hf u1 k1
      have hP1 := u1.1
      have inner : ∀ (m2 k : Nat) (M2 : zf_M), k + m2 = 6 → zUp M M2 → zKC q M2 → zW X 83 53 [.val (.ref 0), .val (.long (dgR (qA q).2 (dgA q 10) (6 * f + k))), .second, .val (.int (nI f)), .val (.int (nI k))] [] M2 Q := by
        intro m2
        induction m2 with
        | zero =>
          intro k M2 hk u2 k2
          obtain rfl : k = 6 := by omega
          rw [w83_53]
          simp only [w83_55, w83_56, w83_59, w83_62, w83_63, w83_64, w83_65, w83_66, w83_68, w83_71, w83_72, w83_73, w83_74, w83_77, w83_80, w83_83, zk_sI, zk_sJ, zk_sP, zn_sI, zn_sJ, zn_sP, zI_sI, zI_sJ, zI_sP, zJ_sI, zJ_sJ, zJ_sP, zP_sI, zP_sJ, zP_sP, Option.toList_some, Option.toList_none, List.cons_append, List.nil_append, n_a1]
          exact ⟨fun _ => ih (f + 1) M2 _ (by omega) u2 k2, fun z => absurd (by decide) z⟩
        | succ m2 ih2 =>
          intro k M2 hk u2 k2
          have hP2 := u2.1
          rw [w83_53]
          simp only [w83_55, w83_56, w83_59, w83_62, w83_63, w83_64, w83_65, w83_66, w83_68, zk_sI, zk_sJ, zk_sP, zn_sI, zn_sJ, zn_sP, zI_sI, zI_sJ, zI_sP, zJ_sI, zJ_sJ, zJ_sP, zP_sI, zP_sJ, zP_sP, Option.toList_some, Option.toList_none, List.cons_append, List.nil_append, zk_of hP2.1, zn_of hP2.1, zix, ziN, ne_eq, reduceCtorEq, not_false_eq_true, true_and, and_true, Option.getD_some, Nat.reduceLeDiff, Nat.reduceLT, c_ofNat, zkd0, zp_0_0 hP2, zp_0_1 hP2, zp_0_2 hP2, zp_0_3 hP2, zp_0_4 hP2, zp_0_5 hP2, zp_0_6 hP2, zp_0_7 hP2]
          rw [c_5, n_lt (by decide) (by omega)]
          refine ⟨fun z => by omega, fun _ => ?_⟩
          refine C51 hv hP2 k2 (fun M3 u3 k3 => ?_)
          rw [about_e hv (by omega) (by omega)]
          simp only [w83_71, w83_72, w83_73, w83_74, w83_77, zk_sI, zk_sJ, zk_sP, zn_sI, zn_sJ, zn_sP, zI_sI, zI_sJ, zI_sP, zJ_sI, zJ_sJ, zJ_sP, zP_sI, zP_sJ, zP_sP, Option.toList_some, Option.toList_none, List.cons_append, List.nil_append, n_a1]
          exact ih2 (k + 1) M3 (by omega) (zUp_tr u2 u3) k3
      rw [w83_39]
      simp only [w83_40, w83_41, w83_44, w83_47, w83_50, w83_51, zk_sI, zk_sJ, zk_sP, zn_sI, zn_sJ, zn_sP, zI_sI, zI_sJ, zI_sP, zJ_sI, zJ_sJ, zJ_sP, zP_sI, zP_sJ, zP_sP, Option.toList_some, Option.toList_none, List.cons_append, List.nil_append, zk_of hP1.1, zn_of hP1.1, zix, ziN, ne_eq, reduceCtorEq, not_false_eq_true, true_and, and_true, Option.getD_some, Nat.reduceLeDiff, Nat.reduceLT, c_ofNat, zkd0, zp_0_0 hP1, zp_0_1 hP1, zp_0_2 hP1, zp_0_3 hP1, zp_0_4 hP1, zp_0_5 hP1, zp_0_6 hP1, zp_0_7 hP1, zkd1, zp_1_0 hP1, k1.2.1.1]
      rw [n_le (by omega) (by omega)]
      exact ⟨fun z => by omega, fun _ => inner 6 0 M1 rfl u1 k1⟩
  have l1 : ∀ (m k : Nat) (M1 : zf_M) (l4' : Slot), k + m = 10 → zUp M M1 → zKC q M1 → zW X 83 6 [.val (.ref 0), .val (.long (dgA q k)), .second, .val (.int (nI k)), l4'] [] M1 Q := by
    intro m
    induction m with
    | zero =>
      intro k M1 l4' hk u1 k1
      obtain rfl : k = 10 := by omega
      rw [w83_6]
      simp only [w83_7, w83_9, w83_37, w83_38, zk_sI, zk_sJ, zk_sP, zn_sI, zn_sJ, zn_sP, zI_sI, zI_sJ, zI_sP, zJ_sI, zJ_sJ, zJ_sP, zP_sI, zP_sJ, zP_sP, Option.toList_some, Option.toList_none, List.cons_append, List.nil_append]
      exact ⟨fun _ => l2 (qA q).1 0 M1 _ (Nat.zero_add _) u1 k1, fun z => absurd (by decide) z⟩
    | succ m ih =>
      intro k M1 l4' hk u1 k1
      have hP1 := u1.1
      have nxt := fun M2 u2 k2 => ih (k + 1) M2 l4' (by omega) u2 k2
      rw [dgA] at nxt
      have c9 : (9 : Int32) = nI 9 := rfl
      rw [w83_6]
      simp only [w83_7, w83_9, w83_12, w83_13, w83_15, w83_18, w83_21, w83_22, w83_23, w83_24, w83_25, w83_31, w83_34, zk_sI, zk_sJ, zk_sP, zn_sI, zn_sJ, zn_sP, zI_sI, zI_sJ, zI_sP, zJ_sI, zJ_sJ, zJ_sP, zP_sI, zP_sJ, zP_sP, Option.toList_some, Option.toList_none, List.cons_append, List.nil_append, zk_of hP1.1, zn_of hP1.1, zix, ziN, ne_eq, reduceCtorEq, not_false_eq_true, true_and, and_true, Option.getD_some, Nat.reduceLeDiff, Nat.reduceLT, c_ofNat, zkd0, zp_0_0 hP1, zp_0_1 hP1, zp_0_2 hP1, zp_0_3 hP1, zp_0_4 hP1, zp_0_5 hP1, zp_0_6 hP1, zp_0_7 hP1, n_a1]
      rw [c9, n_lt (by decide) (by omega), c_6, n_eq (by omega) (by decide)]
      refine ⟨fun z => by omega, fun _ => ⟨fun g => ?_, fun g => ?_⟩⟩
      · rw [if_pos g] at nxt
        exact nxt M1 u1 k1
      · rw [if_neg g] at nxt
        refine C82 hP1 k1 (fun M2 u2 k2 => ?_)
        simp only [w83_28, w83_29, w83_30, w83_31, w83_34, zk_sI, zk_sJ, zk_sP, zn_sI, zn_sJ, zn_sP, zI_sI, zI_sJ, zI_sP, zJ_sI, zJ_sJ, zJ_sP, zP_sI, zP_sJ, zP_sP, Option.toList_some, Option.toList_none, List.cons_append, List.nil_append, n_a1]
        exact nxt M2 (zUp_tr u1 u2) k2
  simp only [w83_0, w83_3, w83_4, w83_5, zk_sI, zk_sJ, zk_sP, zn_sI, zn_sJ, zn_sP, zI_sI, zI_sJ, zI_sP, zJ_sI, zJ_sJ, zJ_sP, zP_sI, zP_sJ, zP_sP, Option.toList_some, Option.toList_none, List.cons_append, List.nil_append]
  exact l1 10 0 M _ rfl (zUp_rf hP) hC
theorem M164 (hv : vQ q) (hP : zPk M) (hM : zKM q M) (h : ∀ M1, zDn M M1 → zKM q M1 → Q (some (.long (aDig q))) M1) : zC X 164 [.ref 58] M Q := by
  have h16 := hv.1.1
  rw [c164]
  have l4 : ∀ (m k : Nat) (M1 : zf_M), k + m = 3 → zDn M M1 → zKM q M1 → zW X 164 104 [.val (.ref 58), .val (.long (dgP q (dgB q (dgR (qA q).2 (dgA q 10) (6 * (qA q).1)) 6) k)), .second, .val (.int (nI k))] [] M1 Q := by
    intro m
    induction m with
    | zero =>
      intro k M1 hk u1 k1
      obtain rfl : k = 3 := by omega
      rw [w164_104]
      simp only [w164_105, w164_106, w164_109, w164_112, w164_113, w164_114, w164_115, w164_118, w164_119, w164_120, w164_121, w164_122, w164_123, w164_126, w164_129, w164_130, zk_sI, zk_sJ, zk_sP, zn_sI, zn_sJ, zn_sP, zI_sI, zI_sJ, zI_sP, zJ_sI, zJ_sJ, zJ_sP, zP_sI, zP_sJ, zP_sP, Option.toList_some, Option.toList_none, List.cons_append, List.nil_append]
      exact ⟨fun _ => h M1 u1 k1, fun z => absurd (by decide) z⟩
    | succ m ih =>
      intro k M1 hk u1 k1
      have hP1 := zPk_F hP u1
      have hp := k1.2.2.2.2.2.1
      have e78 : zf_I M1 78 k = aPl q (nI k) := by
        unfold aPl
        rcases (show k = 0 ∨ k = 1 ∨ k = 2 by omega) with rfl | rfl | rfl
        · rw [if_pos (show nI 0 = 0 from rfl)]
          exact hp.1
        · rw [if_neg (show ¬ nI 1 = 0 by decide), if_pos (show nI 1 = 1 from rfl)]
          exact hp.2.1
        · rw [if_neg (show ¬ nI 2 = 0 by decide), if_neg (show ¬ nI 2 = 1 by decide), if_pos (show nI 2 = 2 from rfl)]
          exact hp.2.2.1
      have nxt := ih (k + 1) M1 (by omega) u1 k1
      rw [dgP] at nxt
      rw [w164_104]
      simp only [w164_105, w164_106, w164_109, w164_112, w164_113, w164_114, w164_115, w164_118, w164_119, w164_120, w164_121, w164_122, w164_123, w164_126, zk_sI, zk_sJ, zk_sP, zn_sI, zn_sJ, zn_sP, zI_sI, zI_sJ, zI_sP, zJ_sI, zJ_sJ, zJ_sP, zP_sI, zP_sJ, zP_sP, Option.toList_some, Option.toList_none, List.cons_append, List.nil_append, zk_of hP1.1, zn_of hP1.1, zix, ziN, ne_eq, reduceCtorEq, not_false_eq_true, true_and, and_true, Option.getD_some, Nat.reduceLeDiff, Nat.reduceLT, c_ofNat, zkd58, zp_58_1 hP1, zp_58_2 hP1, zp_58_6 hP1, zp_58_7 hP1, zp_58_10 hP1, zp_58_11 hP1, zp_58_12 hP1, zp_58_14 hP1, zp_58_15 hP1, zp_58_17 hP1, zp_58_18 hP1, zp_58_19 hP1, zp_58_20 hP1, zp_58_21 hP1, zp_58_22 hP1, zp_58_24 hP1, zp_58_26 hP1, zp_58_29 hP1, zp_58_32 hP1, zp_58_33 hP1, zp_58_34 hP1, zp_58_35 hP1, zp_58_36 hP1, zp_58_37 hP1, zp_58_38 hP1, zp_58_39 hP1, zkd78, znd78, zfx78, n_cl (show k < 2 ^ 31 by omega), n_in (show k < 3 by omega) (show 3 < 2 ^ 31 by decide), e78, n_a1]
      rw [c_3, n_le (by decide) (by omega)]
      exact ⟨fun z => by omega, fun _ => nxt⟩
  have l3 : ∀ (m k : Nat) (M1 : zf_M), k + m = 6 → zDn M M1 → zKM q M1 → zW X 164 76 [.val (.ref 58), .val (.long (dgB q (dgR (qA q).2 (dgA q 10) (6 * (qA q).1)) k)), .second, .val (.int (nI k))] [] M1 Q := by
    intro m
    induction m with
    | zero =>
      intro k M1 hk u1 k1
      obtain rfl : k = 6 := by omega
      rw [w164_76]
      simp only [w164_77, w164_79, w164_82, w164_85, w164_86, w164_87, w164_88, w164_91, w164_92, w164_93, w164_94, w164_95, w164_96, w164_99, w164_102, w164_103, zk_sI, zk_sJ, zk_sP, zn_sI, zn_sJ, zn_sP, zI_sI, zI_sJ, zI_sP, zJ_sI, zJ_sJ, zJ_sP, zP_sI, zP_sJ, zP_sP, Option.toList_some, Option.toList_none, List.cons_append, List.nil_append]
      exact ⟨fun _ => l4 3 0 M1 rfl u1 k1, fun z => absurd (by decide) z⟩
    | succ m ih =>
      intro k M1 hk u1 k1
      have hP1 := zPk_F hP u1
      have e60 : zf_I M1 60 k = zvo (zwh q (k / 3) (k % 3)) := by
        have := zwh_m k1 (show k / 3 ≤ 1 by omega) (show k % 3 ≤ 2 by omega)
        rw [show 3 * (k / 3) + k % 3 = k by omega] at this
        exact this
      have nxt := ih (k + 1) M1 (by omega) u1 k1
      rw [dgB] at nxt
      rw [w164_76]
      simp only [w164_77, w164_79, w164_82, w164_85, w164_86, w164_87, w164_88, w164_91, w164_92, w164_93, w164_94, w164_95, w164_96, w164_99, zk_sI, zk_sJ, zk_sP, zn_sI, zn_sJ, zn_sP, zI_sI, zI_sJ, zI_sP, zJ_sI, zJ_sJ, zJ_sP, zP_sI, zP_sJ, zP_sP, Option.toList_some, Option.toList_none, List.cons_append, List.nil_append, zk_of hP1.1, zn_of hP1.1, zix, ziN, ne_eq, reduceCtorEq, not_false_eq_true, true_and, and_true, Option.getD_some, Nat.reduceLeDiff, Nat.reduceLT, c_ofNat, zkd58, zp_58_1 hP1, zp_58_2 hP1, zp_58_6 hP1, zp_58_7 hP1, zp_58_10 hP1, zp_58_11 hP1, zp_58_12 hP1, zp_58_14 hP1, zp_58_15 hP1, zp_58_17 hP1, zp_58_18 hP1, zp_58_19 hP1, zp_58_20 hP1, zp_58_21 hP1, zp_58_22 hP1, zp_58_24 hP1, zp_58_26 hP1, zp_58_29 hP1, zp_58_32 hP1, zp_58_33 hP1, zp_58_34 hP1, zp_58_35 hP1, zp_58_36 hP1, zp_58_37 hP1, zp_58_38 hP1, zp_58_39 hP1, zkd60, znd60, zfx60, n_cl (show k < 2 ^ 31 by omega), n_in (show k < 6 by omega) (show 6 < 2 ^ 31 by decide), e60, n_a1]
      rw [c_6, n_le (by decide) (by omega)]
      exact ⟨fun z => by omega, fun _ => nxt⟩
  have l2 : ∀ (m k : Nat) (M1 : zf_M), k + m = 6 * (qA q).1 → zDn M M1 → zKM q M1 → zW X 164 43 [.val (.ref 58), .val (.long (dgR (qA q).2 (dgA q 10) k)), .second, .val (.int (nI k))] [] M1 Q := by
    intro m
    induction m with
    | zero =>
      intro k M1 hk u1 k1
      obtain rfl : k = 6 * (qA q).1 := by omega
      have hP1 := zPk_F hP u1
      rw [w164_43]
      simp only [w164_44, w164_46, w164_47, w164_50, w164_51, w164_54, w164_57, w164_58, w164_59, w164_60, w164_63, w164_64, w164_65, w164_66, w164_67, w164_68, w164_71, w164_74, w164_75, zk_sI, zk_sJ, zk_sP, zn_sI, zn_sJ, zn_sP, zI_sI, zI_sJ, zI_sP, zJ_sI, zJ_sJ, zJ_sP, zP_sI, zP_sJ, zP_sP, Option.toList_some, Option.toList_none, List.cons_append, List.nil_append, zk_of hP1.1, zn_of hP1.1, zix, ziN, ne_eq, reduceCtorEq, not_false_eq_true, true_and, and_true, Option.getD_some, Nat.reduceLeDiff, Nat.reduceLT, c_ofNat, zkd58, zp_58_1 hP1, zp_58_2 hP1, zp_58_6 hP1, zp_58_7 hP1, zp_58_10 hP1, zp_58_11 hP1, zp_58_12 hP1, zp_58_14 hP1, zp_58_15 hP1, zp_58_17 hP1, zp_58_18 hP1, zp_58_19 hP1, zp_58_20 hP1, zp_58_21 hP1, zp_58_22 hP1, zp_58_24 hP1, zp_58_26 hP1, zp_58_29 hP1, zp_58_32 hP1, zp_58_33 hP1, zp_58_34 hP1, zp_58_35 hP1, zp_58_36 hP1, zp_58_37 hP1, zp_58_38 hP1, zp_58_39 hP1, k1.1.1, n_m6, Int32.le_refl, true_implies, not_true_eq_false, false_implies, and_true]
      exact l3 6 0 M1 rfl u1 k1
    | succ m ih =>
      intro k M1 hk u1 k1
      have hP1 := zPk_F hP u1
      have nxt := ih (k + 1) M1 (by omega) u1 k1
      rw [dgR] at nxt
      rw [w164_43]
      simp only [w164_44, w164_46, w164_47, w164_50, w164_51, w164_54, w164_57, w164_58, w164_59, w164_60, w164_63, w164_64, w164_65, w164_66, w164_67, w164_68, w164_71, zk_sI, zk_sJ, zk_sP, zn_sI, zn_sJ, zn_sP, zI_sI, zI_sJ, zI_sP, zJ_sI, zJ_sJ, zJ_sP, zP_sI, zP_sJ, zP_sP, Option.toList_some, Option.toList_none, List.cons_append, List.nil_append, zk_of hP1.1, zn_of hP1.1, zix, ziN, ne_eq, reduceCtorEq, not_false_eq_true, true_and, and_true, Option.getD_some, Nat.reduceLeDiff, Nat.reduceLT, c_ofNat, zkd58, zp_58_1 hP1, zp_58_2 hP1, zp_58_6 hP1, zp_58_7 hP1, zp_58_10 hP1, zp_58_11 hP1, zp_58_12 hP1, zp_58_14 hP1, zp_58_15 hP1, zp_58_17 hP1, zp_58_18 hP1, zp_58_19 hP1, zp_58_20 hP1, zp_58_21 hP1, zp_58_22 hP1, zp_58_24 hP1, zp_58_26 hP1, zp_58_29 hP1, zp_58_32 hP1, zp_58_33 hP1, zp_58_34 hP1, zp_58_35 hP1, zp_58_36 hP1, zp_58_37 hP1, zp_58_38 hP1, zp_58_39 hP1, zkd59, znd59, zfx59, k1.1.1, n_m6, n_cl (show k < 2 ^ 31 by omega), n_in (show k < 96 by omega) (show 96 < 2 ^ 31 by decide), k1.1.2 k (by omega), n_a1]
      rw [n_le (by omega) (by omega)]
      exact ⟨fun z => by omega, fun _ => nxt⟩
  have l1 : ∀ (m k : Nat) (M1 : zf_M), k + m = 10 → zDn M M1 → zKM q M1 → zW X 164 6 [.val (.ref 58), .val (.long (dgA q k)), .second, .val (.int (nI k))] [] M1 Q := by
    intro m
    induction m with
    | zero =>
      intro k M1 hk u1 k1
      obtain rfl : k = 10 := by omega
      rw [w164_6]
      simp only [w164_7, w164_9, w164_41, w164_42, zk_sI, zk_sJ, zk_sP, zn_sI, zn_sJ, zn_sP, zI_sI, zI_sJ, zI_sP, zJ_sI, zJ_sJ, zJ_sP, zP_sI, zP_sJ, zP_sP, Option.toList_some, Option.toList_none, List.cons_append, List.nil_append]
      exact ⟨fun _ => l2 (6 * (qA q).1) 0 M1 (Nat.zero_add _) u1 k1, fun z => absurd (by decide) z⟩
    | succ m ih =>
      intro k M1 hk u1 k1
      have hP1 := zPk_F hP u1
      have nxt := fun M2 u2 k2 => ih (k + 1) M2 (by omega) u2 k2
      rw [dgA] at nxt
      have c10 : (10 : Int32) = nI 10 := rfl
      rw [w164_6]
      simp only [w164_7, w164_9, w164_12, w164_13, w164_15, w164_18, w164_19, w164_22, w164_25, w164_26, w164_27, w164_28, w164_29, w164_34, w164_35, w164_38, zk_sI, zk_sJ, zk_sP, zn_sI, zn_sJ, zn_sP, zI_sI, zI_sJ, zI_sP, zJ_sI, zJ_sJ, zJ_sP, zP_sI, zP_sJ, zP_sP, Option.toList_some, Option.toList_none, List.cons_append, List.nil_append, zk_of hP1.1, zn_of hP1.1, zix, ziN, ne_eq, reduceCtorEq, not_false_eq_true, true_and, and_true, Option.getD_some, Nat.reduceLeDiff, Nat.reduceLT, c_ofNat, zkd58, zp_58_1 hP1, zp_58_2 hP1, zp_58_6 hP1, zp_58_7 hP1, zp_58_10 hP1, zp_58_11 hP1, zp_58_12 hP1, zp_58_14 hP1, zp_58_15 hP1, zp_58_17 hP1, zp_58_18 hP1, zp_58_19 hP1, zp_58_20 hP1, zp_58_21 hP1, zp_58_22 hP1, zp_58_24 hP1, zp_58_26 hP1, zp_58_29 hP1, zp_58_32 hP1, zp_58_33 hP1, zp_58_34 hP1, zp_58_35 hP1, zp_58_36 hP1, zp_58_37 hP1, zp_58_38 hP1, zp_58_39 hP1, n_a1]
      rw [c10, n_le (by decide) (by omega), c_6, n_eq (by omega) (by decide)]
      refine ⟨fun z => by omega, fun _ => ⟨fun g => ?_, fun g => ?_⟩⟩
      · rw [if_neg g] at nxt
        refine M163 hv hP1 k1 (fun M2 u2 k2 => ?_)
        simp only [w164_32, w164_33, w164_34, w164_35, w164_38, zk_sI, zk_sJ, zk_sP, zn_sI, zn_sJ, zn_sP, zI_sI, zI_sJ, zI_sP, zJ_sI, zJ_sJ, zJ_sP, zP_sI, zP_sJ, zP_sP, Option.toList_some, Option.toList_none, List.cons_append, List.nil_append, n_a1]
        exact nxt M2 (zF_tr u1 u2) k2
      · rw [if_pos (Classical.not_not.mp g)] at nxt
        exact nxt M1 u1 k1
  simp only [w164_0, w164_3, w164_4, w164_5, zk_sI, zk_sJ, zk_sP, zn_sI, zn_sJ, zn_sP, zI_sI, zI_sJ, zI_sP, zJ_sI, zJ_sJ, zJ_sP, zP_sI, zP_sJ, zP_sP, Option.toList_some, Option.toList_none, List.cons_append, List.nil_append]
  exact l1 10 0 M rfl (zF_rf _ _) hM
end ZDg
