/-! ===== play: the class's ===== -/
/-- a fight played on: what is left, rolls used, the round -/
def zpy (p : zPm) (it : Nat → Int32) (sz : Nat) : Nat → Nat → Nat → Nat → Option (Nat × Nat × Nat)
  | 0, _, N, u => some (N, u, pr p)
  | m + 1, t, N, u =>
    if ¬ (32 ≤ dg N (po p (t % pn p)) ∧ ¬ (nI (t / pn p + 1) = 1 ∧ nI (po p (t % pn p) / 3) = ps p)) then zpy p it sz m (t + 1) N u
    else if dg N (po p (t % pn p)) % 32 ≤ pe p (po p (t % pn p)) then
      (if zwin (sd N (po p (t % pn p)) (dg N (po p (t % pn p)) % 32)) = -1 then zpy p it sz m (t + 1) (sd N (po p (t % pn p)) (dg N (po p (t % pn p)) % 32)) u else some (sd N (po p (t % pn p)) (dg N (po p (t % pn p)) % 32), u, t / pn p + 1))
    else if ¬ u < sz then none
    else if zin (it u) 1 (nI (ph p (po p (t % pn p)))) then
      (if zwin (zhit (nI (pk p (po p (t % pn p)))) (pa p) (pf p (po p (t % pn p))) (pl p) N (po p (t % pn p))) = -1 then zpy p it sz m (t + 1) (zhit (nI (pk p (po p (t % pn p)))) (pa p) (pf p (po p (t % pn p))) (pl p) N (po p (t % pn p))) (u + 1) else some (zhit (nI (pk p (po p (t % pn p)))) (pa p) (pf p (po p (t % pn p))) (pl p) N (po p (t % pn p)), u + 1, t / pn p + 1))
    else zpy p it sz m (t + 1) N (u + 1)
def zpl (p : zPm) (it : Nat → Int32) (sz : Nat) : Option (Nat × Nat × Nat) := if zwin (zst p) = -1 then zpy p it sz (pr p * pn p) 0 (zst p) 0 else some (zst p, 0, 0)
section ZPy
variable {X : zf_X} {M : zf_M} {Q : Option Value → zf_M → Prop} {p : zPm}
/-- keepLives -/
theorem s2 {N : Nat} (hP : zPk M) (hp : zPo p) (hFP : zFP p M) (hN : N < 64 ^ 6) (h : ∀ M1, zF (fun c => c = 44) M M1 → (∀ k, k < 6 → zf_I M1 44 k = if ∃ i, i < pn p ∧ po p i = k then nI (dg N k % 32) else -2) → Q none M1) : zC X 2 [.ref 43, .ref 4, .long (lN N)] M Q := by
  have hn6 := hp.1
  rw [c2]
  have l2 : ∀ (m i : Nat) (M1 : zf_M) (l5 : Slot), i + m = pn p → zF (fun c => c = 44) M M1 → (∀ k, k < 6 → zf_I M1 44 k = if ∃ i', i' < i ∧ po p i' = k then nI (dg N k % 32) else -2) → zW X 2 31 [.val (.ref 43), .val (.ref 4), .val (.long (lN N)), .second, .val (.int (nI i)), l5] [] M1 Q := by
    intro m
    induction m with
    | zero =>
      intro i M1 l5 hi hF h1
      obtain rfl : i = pn p := by omega
      have hP1 := zPk_F hP hF
      have hF1 := zFP_F hFP hF (fun c x y => by omega)
      rw [w2_31]
      simp only [w2_33, w2_34, w2_37, w2_40, w2_41, w2_44, w2_46, w2_47, w2_49, w2_50, w2_53, w2_55, w2_56, w2_58, w2_61, w2_64, w2_65, w2_68, w2_71, zk_sI, zk_sJ, zk_sP, zn_sI, zn_sJ, zn_sP, zI_sI, zI_sJ, zI_sP, zJ_sI, zJ_sJ, zJ_sP, zP_sI, zP_sJ, zP_sP, Option.toList_some, Option.toList_none, List.cons_append, List.nil_append, zk_of hP1.1, zn_of hP1.1, zix, ziN, ne_eq, reduceCtorEq, not_false_eq_true, true_and, and_true, Option.getD_some, Nat.reduceLeDiff, Nat.reduceLT, c_ofNat, zkd4, zp_4_0 hP1, zp_4_1 hP1, zp_4_2 hP1, zp_4_3 hP1, zp_4_4 hP1, zp_4_5 hP1, zp_4_6 hP1, zkd11, znd11, zfx11, zkd43, zp_43_3 hP1, zkd44, znd44, zfx44, hF1.1, Int32.le_refl]
      exact ⟨fun _ => h M1 hF h1, fun z => absurd trivial z⟩
    | succ m ih =>
      intro i M1 l5 hi hF h1
      have hP1 := zPk_F hP hF
      have hF1 := zFP_F hFP hF (fun c x y => by omega)
      have ho := hp.2.1 i (by omega)
      rw [w2_31]
      simp only [w2_33, w2_34, w2_37, w2_40, w2_41, w2_44, w2_46, w2_47, w2_49, w2_50, w2_53, w2_55, w2_56, w2_58, zk_sI, zk_sJ, zk_sP, zn_sI, zn_sJ, zn_sP, zI_sI, zI_sJ, zI_sP, zJ_sI, zJ_sJ, zJ_sP, zP_sI, zP_sJ, zP_sP, Option.toList_some, Option.toList_none, List.cons_append, List.nil_append, zk_of hP1.1, zn_of hP1.1, zix, ziN, ne_eq, reduceCtorEq, not_false_eq_true, true_and, and_true, Option.getD_some, Nat.reduceLeDiff, Nat.reduceLT, c_ofNat, zkd4, zp_4_0 hP1, zp_4_1 hP1, zp_4_2 hP1, zp_4_3 hP1, zp_4_4 hP1, zp_4_5 hP1, zp_4_6 hP1, zkd11, znd11, zfx11, zkd43, zp_43_3 hP1, zkd44, znd44, zfx44, hF1.1, hF1.2.1 i (by omega), n_cl (show i < 2 ^ 31 by omega), n_in (show i < 6 by omega) (show 6 < 2 ^ 31 by decide)]
      rw [n_le (by omega) (by omega)]
      refine ⟨fun z => by omega, fun _ => ?_⟩
      refine s11 hN ho ?_
      simp only [w2_61, zk_sI, zk_sJ, zk_sP, zn_sI, zn_sJ, zn_sP, zI_sI, zI_sJ, zI_sP, zJ_sI, zJ_sJ, zJ_sP, zP_sI, zP_sJ, zP_sP, Option.toList_some, Option.toList_none, List.cons_append, List.nil_append]
      refine s12 ?_
      simp only [w2_64, w2_65, w2_68, zk_sI, zk_sJ, zk_sP, zn_sI, zn_sJ, zn_sP, zI_sI, zI_sJ, zI_sP, zJ_sI, zJ_sJ, zJ_sP, zP_sI, zP_sJ, zP_sP, Option.toList_some, Option.toList_none, List.cons_append, List.nil_append, zk_of hP1.1, zn_of hP1.1, zix, ziN, ne_eq, reduceCtorEq, not_false_eq_true, true_and, and_true, Option.getD_some, Nat.reduceLeDiff, Nat.reduceLT, c_ofNat, zkd4, zp_4_0 hP1, zp_4_1 hP1, zp_4_2 hP1, zp_4_3 hP1, zp_4_4 hP1, zp_4_5 hP1, zp_4_6 hP1, zkd11, znd11, zfx11, zkd43, zp_43_3 hP1, zkd44, znd44, zfx44, n_cl (show po p i < 2 ^ 31 by omega), n_in ho (show 6 < 2 ^ 31 by decide), n_a1]
      refine ih (i + 1) _ _ (by omega) (zF_sI hF rfl) (fun k hk => ?_)
      by_cases e : k = po p i
      · rw [e, zI_eq, if_pos ⟨i, by omega, rfl⟩]
      · rw [zI_ne (by omega), h1 k hk]
        by_cases g : ∃ i', i' < i ∧ po p i' = k
        · obtain ⟨i', g1, g2⟩ := g
          rw [if_pos ⟨i', g1, g2⟩, if_pos ⟨i', by omega, g2⟩]
        · rw [if_neg g, if_neg]
          rintro ⟨i', g1, g2⟩
          by_cases e2 : i' = i
          · rw [e2] at g2
            exact e g2.symm
          · exact g ⟨i', by omega, g2⟩
  have l1 : ∀ (m k : Nat) (M1 : zf_M) (l5 : Slot), k + m = 6 → zF (fun c => c = 44) M M1 → (∀ j, j < k → zf_I M1 44 j = -2) → zW X 2 3 [.val (.ref 43), .val (.ref 4), .val (.long (lN N)), .second, .val (.int (nI k)), l5] [] M1 Q := by
    intro m
    induction m with
    | zero =>
      intro k M1 l5 hk hF h1
      obtain rfl : k = 6 := by omega
      have hP1 := zPk_F hP hF
      rw [w2_3]
      simp only [w2_5, w2_6, w2_9, w2_10, w2_13, w2_14, w2_17, w2_19, w2_21, w2_22, w2_25, w2_28, w2_29, zk_sI, zk_sJ, zk_sP, zn_sI, zn_sJ, zn_sP, zI_sI, zI_sJ, zI_sP, zJ_sI, zJ_sJ, zJ_sP, zP_sI, zP_sJ, zP_sP, Option.toList_some, Option.toList_none, List.cons_append, List.nil_append, zk_of hP1.1, zn_of hP1.1, zix, ziN, ne_eq, reduceCtorEq, not_false_eq_true, true_and, and_true, Option.getD_some, Nat.reduceLeDiff, Nat.reduceLT, c_ofNat, zkd43, zp_43_3 hP1, zkd44, znd44, zfx44]
      refine ⟨fun _ => l2 (pn p) 0 M1 _ (Nat.zero_add _) hF (fun k hk => ?_), fun z => absurd (by decide) z⟩
      rw [if_neg (by rintro ⟨i, i1, -⟩; omega)]
      exact h1 k hk
    | succ m ih =>
      intro k M1 l5 hk hF h1
      have hP1 := zPk_F hP hF
      rw [w2_3]
      simp only [w2_5, w2_6, w2_9, w2_10, w2_13, w2_14, w2_17, w2_19, w2_21, w2_22, w2_25, zk_sI, zk_sJ, zk_sP, zn_sI, zn_sJ, zn_sP, zI_sI, zI_sJ, zI_sP, zJ_sI, zJ_sJ, zJ_sP, zP_sI, zP_sJ, zP_sP, Option.toList_some, Option.toList_none, List.cons_append, List.nil_append, zk_of hP1.1, zn_of hP1.1, zix, ziN, ne_eq, reduceCtorEq, not_false_eq_true, true_and, and_true, Option.getD_some, Nat.reduceLeDiff, Nat.reduceLT, c_ofNat, zkd43, zp_43_3 hP1, zkd44, znd44, zfx44, n_a1, n_cl (show k < 2 ^ 31 by omega), n_in (show k < 6 by omega) (show 6 < 2 ^ 31 by decide)]
      rw [n_le (by decide) (by omega)]
      refine ⟨fun z => by omega, fun _ => ih (k + 1) _ _ (by omega) (zF_sI hF rfl) (fun j hj => ?_)⟩
      by_cases e : j = k
      · rw [e, zI_eq]
      · rw [zI_ne (by omega)]
        exact h1 j (by omega)
  simp only [w2_0, w2_1, zk_sI, zk_sJ, zk_sP, zn_sI, zn_sJ, zn_sP, zI_sI, zI_sJ, zI_sP, zJ_sI, zJ_sJ, zJ_sP, zP_sI, zP_sJ, zP_sP, Option.toList_some, Option.toList_none, List.cons_append, List.nil_append]
  exact l1 6 0 M _ rfl (zF_rf _ _) (fun j hj => by omega)
/-- run -/
theorem s1 {a sz : Nat} {it : Nat → Int32} (hP : zPk M) (hp : zPo p) (hFP : zFP p M) (hw : zSw M a) (ha : a = 50 ∨ a = 52 ∨ a = 54 ∨ a = 56) (hn : zf_I M a 2 = nI sz) (hs6 : sz ≤ 60) (hit : ∀ j, j < sz → zf_I M (a + 1) j = it j)
    (h0 : zpl p it sz = none → Q (some (.int 0)) M)
    (h1 : ∀ N u R, zpl p it sz = some (N, u, R) → N < 64 ^ 6 → u ≤ 60 → R ≤ 6 → ∀ M1, zF (fun c => c = 43 ∨ c = 44) M M1 → zf_I M1 43 0 = zwm N → zf_I M1 43 1 = nI u → zf_I M1 43 2 = nI R → (∀ k, k < 6 → zf_I M1 44 k = if ∃ i, i < pn p ∧ po p i = k then nI (dg N k % 32) else -2) → Q (some (.int 1)) M1) : zC X 1 [.ref 43, .ref 4, .ref a] M Q := by
  obtain ⟨p1, p2, p3, p4, p5, p6⟩ := hp
  have hp : zPo p := ⟨p1, p2, p3, p4, p5, p6⟩
  have hza : zkd a = 7 := by rw [← zk_of hP.1]; exact hw.2.1
  rw [c1]
  have fin : ∀ N u R (l8 l9 l10 l11 : Slot), zpl p it sz = some (N, u, R) → N < 64 ^ 6 → u ≤ 60 → R ≤ 6 → zW X 1 176 [.val (.ref 43), .val (.ref 4), .val (.ref a), .val (.long (lN N)), .second, .val (.int (zwin N)), .val (.int (nI R)), .val (.int (nI u)), l8, l9, l10, l11] [] M Q := by
    intro N u R l8 l9 l10 l11 hz hN hu hR
    have key : ∀ w, w = zwm N → zC X 2 [.ref 43, .ref 4, .long (lN N)] (zf_sI (zf_sI (zf_sI M 43 0 w) 43 1 (nI u)) 43 2 (nI R)) (fun v M2 => zW X 1 210 [.val (.ref 43), .val (.ref 4), .val (.ref a), .val (.long (lN N)), .second, .val (.int (zwin N)), .val (.int (nI R)), .val (.int (nI u)), l8, l9, l10, l11] (v.toList ++ []) M2 Q) := by
      intro w hww
      have hF : zF (fun c => c = 43) M (zf_sI (zf_sI (zf_sI M 43 0 w) 43 1 (nI u)) 43 2 (nI R)) := zF_sI (zF_sI (zF_sI (zF_rf _ _) rfl) rfl) rfl
      refine s2 (zPk_F hP hF) hp (zFP_F hFP hF (fun c x y => by omega)) hN (fun M1 k1 k2 => ?_)
      simp only [w1_210, w1_211, zk_sI, zk_sJ, zk_sP, zn_sI, zn_sJ, zn_sP, zI_sI, zI_sJ, zI_sP, zJ_sI, zJ_sJ, zJ_sP, zP_sI, zP_sJ, zP_sP, Option.toList_some, Option.toList_none, List.cons_append, List.nil_append]
      refine ⟨rfl, h1 N u R hz hN hu hR M1 (zF_tr (zF_mo hF (fun c hc => Or.inl hc)) (zF_mo k1 (fun c hc => Or.inr hc))) ?_ ?_ ?_ k2⟩
      · rw [(k1.2.1 43 (by omega) 0).1, zI_ne (by omega), zI_ne (by omega), zI_eq]
        exact hww
      · rw [(k1.2.1 43 (by omega) 1).1, zI_ne (by omega), zI_eq]
      · rw [(k1.2.1 43 (by omega) 2).1, zI_eq]
    simp only [w1_176, w1_177, w1_179, w1_180, w1_183, w1_184, w1_187, w1_189, w1_192, w1_193, w1_195, w1_198, w1_199, w1_201, w1_204, w1_205, w1_206, w1_207, zk_sI, zk_sJ, zk_sP, zn_sI, zn_sJ, zn_sP, zI_sI, zI_sJ, zI_sP, zJ_sI, zJ_sJ, zJ_sP, zP_sI, zP_sJ, zP_sP, Option.toList_some, Option.toList_none, List.cons_append, List.nil_append, zk_of hP.1, zn_of hP.1, zix, ziN, ne_eq, reduceCtorEq, not_false_eq_true, true_and, and_true, Option.getD_some, Nat.reduceLeDiff, Nat.reduceLT, c_ofNat, zkd4, zp_4_0 hP, zp_4_1 hP, zp_4_2 hP, zp_4_3 hP, zp_4_4 hP, zp_4_5 hP, zp_4_6 hP, zkd43, zp_43_3 hP]
    unfold zwm at key
    refine ⟨fun g => ?_, fun g => ?_⟩
    · rw [if_neg g] at key
      exact key _ rfl
    · rw [if_pos (Classical.not_not.mp g)] at key
      exact key _ rfl
  have out : ∀ N u R i (l9 l10 l11 : Slot), zwin N ≠ -1 → zpl p it sz = some (N, u, R) → N < 64 ^ 6 → u ≤ 60 → R ≤ 6 → zW X 1 38 [.val (.ref 43), .val (.ref 4), .val (.ref a), .val (.long (lN N)), .second, .val (.int (zwin N)), .val (.int (nI R)), .val (.int (nI u)), .val (.int (nI i)), l9, l10, l11] [] M Q := by
    intro N u R i l9 l10 l11 hz h2 h3 h4 h5
    have e17 : zW X 1 17 [.val (.ref 43), .val (.ref 4), .val (.ref a), .val (.long (lN N)), .second, .val (.int (zwin N)), .val (.int (nI R)), .val (.int (nI u)), .val (.int (nI i)), l9, l10, l11] [] M Q := by
      rw [w1_17]
      simp only [w1_19, w1_20, w1_23, w1_25, w1_26, w1_29, w1_32, w1_35, zk_sI, zk_sJ, zk_sP, zn_sI, zn_sJ, zn_sP, zI_sI, zI_sJ, zI_sP, zJ_sI, zJ_sJ, zJ_sP, zP_sI, zP_sJ, zP_sP, Option.toList_some, Option.toList_none, List.cons_append, List.nil_append, zk_of hP.1, zn_of hP.1, zix, ziN, ne_eq, reduceCtorEq, not_false_eq_true, true_and, and_true, Option.getD_some, Nat.reduceLeDiff, Nat.reduceLT, c_ofNat, zkd4, zp_4_0 hP, zp_4_1 hP, zp_4_2 hP, zp_4_3 hP, zp_4_4 hP, zp_4_5 hP, zp_4_6 hP, hz, not_false_eq_true, true_implies, false_implies, and_true, true_and, ne_eq]
      exact ⟨fin N u R _ _ _ _ h2 h3 h4 h5, fun z => absurd trivial z⟩
    rw [w1_38]
    simp only [w1_40, w1_41, w1_44, w1_47, w1_49, w1_50, w1_173, zk_sI, zk_sJ, zk_sP, zn_sI, zn_sJ, zn_sP, zI_sI, zI_sJ, zI_sP, zJ_sI, zJ_sJ, zJ_sP, zP_sI, zP_sJ, zP_sP, Option.toList_some, Option.toList_none, List.cons_append, List.nil_append, zk_of hP.1, zn_of hP.1, zix, ziN, ne_eq, reduceCtorEq, not_false_eq_true, true_and, and_true, Option.getD_some, Nat.reduceLeDiff, Nat.reduceLT, c_ofNat, zkd4, zp_4_0 hP, zp_4_1 hP, zp_4_2 hP, zp_4_3 hP, zp_4_4 hP, zp_4_5 hP, zp_4_6 hP, hz, not_false_eq_true, true_implies, false_implies, and_true, true_and, ne_eq]
    exact ⟨fun _ => e17, fun _ => ⟨e17, fun z => absurd trivial z⟩⟩
  have h412 := hFP.1
  have h48 := hFP.2.2.2.1
  have hps := hFP.2.2.2.2.2
  have hpaa := hFP.2.2.2.2.1
  have nm1 : (-1 : Int32) = zwin (zst p) ∨ True := Or.inr trivial
  have loop : ∀ (m t r i N u : Nat) (l9 l10 l11 : Slot), pr p * pn p = t + m → t = r * pn p + i → i < pn p → r < pr p → zwin N = -1 → zV p N → u ≤ sz → zpy p it sz m t N u = zpl p it sz → zW X 1 38 [.val (.ref 43), .val (.ref 4), .val (.ref a), .val (.long (lN N)), .second, .val (.int (-1)), .val (.int (nI (r + 1))), .val (.int (nI u)), .val (.int (nI i)), l9, l10, l11] [] M Q := by
    intro m
    induction m with
    | zero =>
      intro t r i N u l9 l10 l11 ht hti hi hr hz hV hu hy
      have h3 : (r + 1) * pn p ≤ pr p * pn p := Nat.mul_le_mul_right _ hr
      have h4 : (r + 1) * pn p = r * pn p + pn p := Nat.succ_mul _ _
      omega
    | succ m ih =>
      intro t r i N u l9 l10 l11 ht hti hi hr hz hV hu hy
      have hdiv : t / pn p = r := by
        rw [hti, Nat.mul_comm, Nat.mul_add_div (by omega), Nat.div_eq_of_lt hi, Nat.add_zero]
      have hmod : t % pn p = i := by
        rw [hti, Nat.mul_comm, Nat.mul_add_mod, Nat.mod_eq_of_lt hi]
      have hrn : (r + 1) * pn p = r * pn p + pn p := Nat.succ_mul _ _
      have hle : (r + 1) * pn p ≤ pr p * pn p := Nat.mul_le_mul_right _ hr
      rw [zpy, hdiv, hmod] at hy
      have hk := p2 i hi
      obtain ⟨y1, y2, y3, y4, y5⟩ := hFP.2.2.1 i hi
      obtain ⟨v1, v2, v3, v4, v5, v6, v7⟩ := p4 i hi
      have hdl := dg_lt N (po p i)
      -- on to the next slot
      have nx : ∀ N2 u2 (l9 l10 l11 : Slot), zwin N2 = -1 → zV p N2 → u2 ≤ sz → zpy p it sz m (t + 1) N2 u2 = zpl p it sz → zW X 1 38 [.val (.ref 43), .val (.ref 4), .val (.ref a), .val (.long (lN N2)), .second, .val (.int (-1)), .val (.int (nI (r + 1))), .val (.int (nI u2)), .val (.int (nI (i + 1))), l9, l10, l11] [] M Q := by
        intro N2 u2 l9 l10 l11 z1 z2 z3 z4
        by_cases hin : i + 1 < pn p
        · exact ih (t + 1) r (i + 1) N2 u2 l9 l10 l11 (by omega) (by omega) hin hr z1 z2 z3 z4
        · have hin : i + 1 = pn p := by omega
          rw [w1_38]
          simp only [w1_40, w1_41, w1_44, w1_173, zk_sI, zk_sJ, zk_sP, zn_sI, zn_sJ, zn_sP, zI_sI, zI_sJ, zI_sP, zJ_sI, zJ_sJ, zJ_sP, zP_sI, zP_sJ, zP_sP, Option.toList_some, Option.toList_none, List.cons_append, List.nil_append, zk_of hP.1, zn_of hP.1, zix, ziN, ne_eq, reduceCtorEq, not_false_eq_true, true_and, and_true, Option.getD_some, Nat.reduceLeDiff, Nat.reduceLT, c_ofNat, zkd4, zp_4_0 hP, zp_4_1 hP, zp_4_2 hP, zp_4_3 hP, zp_4_4 hP, zp_4_5 hP, zp_4_6 hP, h412, hin, Int32.le_refl, true_implies, not_true_eq_false, false_implies, and_true]
          rw [w1_17]
          simp only [w1_19, w1_20, w1_23, w1_25, w1_26, w1_29, w1_32, w1_35, w1_36, zk_sI, zk_sJ, zk_sP, zn_sI, zn_sJ, zn_sP, zI_sI, zI_sJ, zI_sP, zJ_sI, zJ_sJ, zJ_sP, zP_sI, zP_sJ, zP_sP, Option.toList_some, Option.toList_none, List.cons_append, List.nil_append, zk_of hP.1, zn_of hP.1, zix, ziN, ne_eq, reduceCtorEq, not_false_eq_true, true_and, and_true, Option.getD_some, Nat.reduceLeDiff, Nat.reduceLT, c_ofNat, zkd4, zp_4_0 hP, zp_4_1 hP, zp_4_2 hP, zp_4_3 hP, zp_4_4 hP, zp_4_5 hP, zp_4_6 hP, h48, not_true_eq_false, false_implies, true_implies, true_and, n_a1]
          rw [n_le (by omega) (by omega)]
          refine ⟨fun g => ?_, fun g => ?_⟩
          · have hrr : r + 1 = pr p := by omega
            have hm : m = 0 := by
              rw [hrr] at hrn hle
              omega
            rw [hm, zpy, ← hrr] at z4
            have := fin N2 u2 (r + 1) (.val (.int (nI (pn p)))) l9 l10 l11 z4.symm z2.1 (by omega) (by omega)
            rw [z1] at this
            exact this
          · exact ih (t + 1) (r + 1) 0 N2 u2 l9 l10 l11 (by omega) (by omega) (by omega) (by omega) z1 z2 z3 z4
      rw [w1_38]
      simp only [w1_40, w1_41, w1_44, w1_47, w1_49, w1_50, w1_53, w1_54, w1_57, w1_59, w1_60, w1_62, w1_63, w1_64, w1_66, w1_68, zk_sI, zk_sJ, zk_sP, zn_sI, zn_sJ, zn_sP, zI_sI, zI_sJ, zI_sP, zJ_sI, zJ_sJ, zJ_sP, zP_sI, zP_sJ, zP_sP, Option.toList_some, Option.toList_none, List.cons_append, List.nil_append, zk_of hP.1, zn_of hP.1, zix, ziN, ne_eq, reduceCtorEq, not_false_eq_true, true_and, and_true, Option.getD_some, Nat.reduceLeDiff, Nat.reduceLT, c_ofNat, zkd4, zp_4_0 hP, zp_4_1 hP, zp_4_2 hP, zp_4_3 hP, zp_4_4 hP, zp_4_5 hP, zp_4_6 hP, zkd11, znd11, zfx11, h412, hFP.2.1 i hi, n_cl (show i < 2 ^ 31 by omega), n_in (show i < 6 by omega) (show 6 < 2 ^ 31 by decide), not_true_eq_false, false_implies, true_implies, true_and, and_true]
      rw [n_le (by omega) (by omega)]
      refine ⟨fun z => by omega, fun _ => ?_⟩
      refine s13 hP hV.1 hk ?_
      rw [hps]
      simp only [w1_71, w1_74, w1_77, w1_78, w1_79, w1_81, zk_sI, zk_sJ, zk_sP, zn_sI, zn_sJ, zn_sP, zI_sI, zI_sJ, zI_sP, zJ_sI, zJ_sJ, zJ_sP, zP_sI, zP_sJ, zP_sP, Option.toList_some, Option.toList_none, List.cons_append, List.nil_append, zk_of hP.1, zn_of hP.1, zix, ziN, ne_eq, reduceCtorEq, not_false_eq_true, true_and, and_true, Option.getD_some, Nat.reduceLeDiff, Nat.reduceLT, c_ofNat, zkd4, zp_4_0 hP, zp_4_1 hP, zp_4_2 hP, zp_4_3 hP, zp_4_4 hP, zp_4_5 hP, zp_4_6 hP, zB_0]
      -- behind a turn
      have af : ∀ N2 u2 (l9 l10 l11 : Slot), zV p N2 → u2 ≤ sz → (if zwin N2 = -1 then zpy p it sz m (t + 1) N2 u2 else some (N2, u2, r + 1)) = zpl p it sz → zW X 1 161 [.val (.ref 43), .val (.ref 4), .val (.ref a), .val (.long (lN N2)), .second, .val (.int (-1)), .val (.int (nI (r + 1))), .val (.int (nI u2)), .val (.int (nI i)), l9, l10, l11] [] M Q := by
        intro N2 u2 l9 l10 l11 z2 z3 z4
        simp only [w1_161, w1_162, zk_sI, zk_sJ, zk_sP, zn_sI, zn_sJ, zn_sP, zI_sI, zI_sJ, zI_sP, zJ_sI, zJ_sJ, zJ_sP, zP_sI, zP_sJ, zP_sP, Option.toList_some, Option.toList_none, List.cons_append, List.nil_append]
        refine s10 z2.1 ?_
        simp only [w1_165, w1_167, w1_170, zk_sI, zk_sJ, zk_sP, zn_sI, zn_sJ, zn_sP, zI_sI, zI_sJ, zI_sP, zJ_sI, zJ_sJ, zJ_sP, zP_sI, zP_sJ, zP_sP, Option.toList_some, Option.toList_none, List.cons_append, List.nil_append, n_a1]
        by_cases z1 : zwin N2 = -1
        · rw [if_pos z1] at z4
          rw [z1]
          exact nx N2 u2 l9 l10 l11 z1 z2 z3 z4
        · rw [if_neg z1] at z4
          exact out N2 u2 (r + 1) (i + 1) l9 l10 l11 z1 z4.symm z2.1 (by omega) (by omega)
      refine ⟨fun hc => ?_, fun hc => ?_⟩
      · have hc := Classical.not_not.mp hc
        rw [if_neg (fun z => z hc)] at hy
        refine s14 hP hV.1 hk ?_
        rw [y5]
        simp only [w1_84, w1_87, w1_88, w1_89, w1_91, w1_94, w1_95, w1_98, w1_99, w1_101, zk_sI, zk_sJ, zk_sP, zn_sI, zn_sJ, zn_sP, zI_sI, zI_sJ, zI_sP, zJ_sI, zJ_sJ, zJ_sP, zP_sI, zP_sJ, zP_sP, Option.toList_some, Option.toList_none, List.cons_append, List.nil_append, zk_of hP.1, zn_of hP.1, zix, ziN, ne_eq, reduceCtorEq, not_false_eq_true, true_and, and_true, Option.getD_some, Nat.reduceLeDiff, Nat.reduceLT, c_ofNat, zkd4, zp_4_0 hP, zp_4_1 hP, zp_4_2 hP, zp_4_3 hP, zp_4_4 hP, zp_4_5 hP, zp_4_6 hP, hza, zB_0]
        rw [n_le (by omega) (by omega)]
        refine ⟨fun hf => ?_, fun hf => ?_⟩
        · rw [if_neg hf] at hy
          refine s45 hw hn hs6 ?_
          simp only [w1_104, w1_107, w1_108, w1_109, w1_110, w1_112, zk_sI, zk_sJ, zk_sP, zn_sI, zn_sJ, zn_sP, zI_sI, zI_sJ, zI_sP, zJ_sI, zJ_sJ, zJ_sP, zP_sI, zP_sJ, zP_sP, Option.toList_some, Option.toList_none, List.cons_append, List.nil_append, zk_of hP.1, zn_of hP.1, zix, ziN, ne_eq, reduceCtorEq, not_false_eq_true, true_and, and_true, Option.getD_some, Nat.reduceLeDiff, Nat.reduceLT, c_ofNat, zkd4, zp_4_0 hP, zp_4_1 hP, zp_4_2 hP, zp_4_3 hP, zp_4_4 hP, zp_4_5 hP, zp_4_6 hP, hza, zB_0]
          by_cases hus : u < sz
          · rw [if_neg (fun z => z hus)] at hy
            have hvh : vhas sz (nI u) := ⟨nI_pos' (by omega), (n_lt (by omega) (by omega)).mpr hus⟩
            refine ⟨fun _ => ?_, fun z => (z (fun y => y hvh)).elim⟩
            refine s47 hw hn hs6 hus ?_
            rw [hit u hus]
            have hH : zV p (zhit (nI (pk p (po p i))) (pa p) (pf p (po p i)) (pl p) N (po p i)) := zV_hit hp hV hk
            have miss : ∀ (l9 l10 : Slot), ¬ zin (it u) 1 (nI (ph p (po p i))) → zW X 1 144 [.val (.ref 43), .val (.ref 4), .val (.ref a), .val (.long (lN N)), .second, .val (.int (-1)), .val (.int (nI (r + 1))), .val (.int (nI (u + 1))), .val (.int (nI i)), l9, l10, .val (.int 0)] [] M Q := by
              intro l9 l10 g
              rw [if_neg g] at hy
              simp only [w1_144, w1_146, w1_159, w1_160, zk_sI, zk_sJ, zk_sP, zn_sI, zn_sJ, zn_sP, zI_sI, zI_sJ, zI_sP, zJ_sI, zJ_sJ, zJ_sP, zP_sI, zP_sJ, zP_sP, Option.toList_some, Option.toList_none, List.cons_append, List.nil_append, true_implies, not_true_eq_false, false_implies, and_true]
              refine af N (u + 1) _ _ _ hV (by omega) ?_
              rw [if_pos hz]
              exact hy
            have hitt : ∀ (l10 : Slot), zin (it u) 1 (nI (ph p (po p i))) → zW X 1 144 [.val (.ref 43), .val (.ref 4), .val (.ref a), .val (.long (lN N)), .second, .val (.int (-1)), .val (.int (nI (r + 1))), .val (.int (nI (u + 1))), .val (.int (nI i)), .val (.int (nI (po p i))), l10, .val (.int 1)] [] M Q := by
              intro l10 g
              rw [if_pos g] at hy
              have n10 : ¬ (1 : Int32) = 0 := by decide
              simp only [w1_144, w1_146, w1_149, w1_150, w1_151, w1_153, zk_sI, zk_sJ, zk_sP, zn_sI, zn_sJ, zn_sP, zI_sI, zI_sJ, zI_sP, zJ_sI, zJ_sJ, zJ_sP, zP_sI, zP_sJ, zP_sP, Option.toList_some, Option.toList_none, List.cons_append, List.nil_append, zk_of hP.1, zn_of hP.1, zix, ziN, ne_eq, reduceCtorEq, not_false_eq_true, true_and, and_true, Option.getD_some, Nat.reduceLeDiff, Nat.reduceLT, c_ofNat, zkd4, zp_4_0 hP, zp_4_1 hP, zp_4_2 hP, zp_4_3 hP, zp_4_4 hP, zp_4_5 hP, zp_4_6 hP, n10, not_false_eq_true, false_implies, true_implies, true_and]
              refine s17 (f := pf p (po p i)) (lf := pl p) hP hV.1 hk ⟨y4, by omega⟩ ?_ (fun j hj hu => ?_) ?_
              · rw [y1]
                have : pk p (po p i) = 0 ∨ pk p (po p i) = 1 ∨ pk p (po p i) = 2 := by omega
                rcases this with e | e | e <;> rw [e]
                · exact Or.inl rfl
                · exact Or.inr (Or.inl rfl)
                · exact Or.inr (Or.inr rfl)
              · obtain ⟨⟨z, z1, z2⟩, z3⟩ := hV.2 j hj (by omega)
                obtain ⟨t1, t2, -⟩ := hFP.2.2.1 z z1
                obtain ⟨-, -, u3, -⟩ := hp.2.2.2.1 z z1
                rw [z2] at t2 u3
                exact ⟨t2, z3, by omega⟩
              · rw [y1, hpaa]
                simp only [w1_156, w1_159, w1_160, zk_sI, zk_sJ, zk_sP, zn_sI, zn_sJ, zn_sP, zI_sI, zI_sJ, zI_sP, zJ_sI, zJ_sJ, zJ_sP, zP_sI, zP_sJ, zP_sP, Option.toList_some, Option.toList_none, List.cons_append, List.nil_append]
                exact af _ (u + 1) _ _ _ hH (by omega) hy
            have hx1 : ∀ x : Int32, (x < 1) = ¬ (1 ≤ x) := fun x => propext (Int32.not_le).symm
            simp only [w1_115, w1_117, w1_120, w1_122, w1_123, w1_126, w1_128, w1_129, w1_131, w1_141, w1_142, zk_sI, zk_sJ, zk_sP, zn_sI, zn_sJ, zn_sP, zI_sI, zI_sJ, zI_sP, zJ_sI, zJ_sJ, zJ_sP, zP_sI, zP_sJ, zP_sP, Option.toList_some, Option.toList_none, List.cons_append, List.nil_append, zk_of hP.1, zn_of hP.1, zix, ziN, ne_eq, reduceCtorEq, not_false_eq_true, true_and, and_true, Option.getD_some, Nat.reduceLeDiff, Nat.reduceLT, c_ofNat, zkd4, zp_4_0 hP, zp_4_1 hP, zp_4_2 hP, zp_4_3 hP, zp_4_4 hP, zp_4_5 hP, zp_4_6 hP, n_a1, hx1]
            refine ⟨fun g => miss _ _ (fun z => g z.1), fun g => ?_⟩
            have g := Classical.not_not.mp g
            refine s16 hP hk ?_
            rw [y3]
            simp only [w1_134, w1_137, w1_138, w1_141, w1_142, zk_sI, zk_sJ, zk_sP, zn_sI, zn_sJ, zn_sP, zI_sI, zI_sJ, zI_sP, zJ_sI, zJ_sJ, zJ_sP, zP_sI, zP_sJ, zP_sP, Option.toList_some, Option.toList_none, List.cons_append, List.nil_append]
            exact ⟨fun g2 => miss _ _ (fun z => Int32.not_lt.mpr z.2 g2), fun g2 => hitt _ ⟨g, Int32.not_lt.mp g2⟩⟩
          · rw [if_pos hus] at hy
            have hvh : ¬ vhas sz (nI u) := fun z => hus ((n_lt (by omega) (by omega)).mp z.2)
            refine ⟨fun z => (z hvh).elim, fun _ => ⟨rfl, h0 hy.symm⟩⟩
        · have hf := Classical.not_not.mp hf
          rw [if_pos hf] at hy
          have hS : zV p (sd N (po p i) (dg N (po p i) % 32)) := zV_sd hV hk (by omega) (fun hne => by
            obtain ⟨g1, g2⟩ := hV.2 (po p i) hk (by omega)
            exact ⟨g1, by omega⟩)
          refine s15 hV.1 hk ?_
          simp only [w1_94, w1_95, zk_sI, zk_sJ, zk_sP, zn_sI, zn_sJ, zn_sP, zI_sI, zI_sJ, zI_sP, zJ_sI, zJ_sJ, zJ_sP, zP_sI, zP_sJ, zP_sP, Option.toList_some, Option.toList_none, List.cons_append, List.nil_append]
          exact af _ u _ _ _ hS hu hy
      · rw [if_pos (fun z => hc (fun y => y z))] at hy
        simp only [w1_167, w1_170, zk_sI, zk_sJ, zk_sP, zn_sI, zn_sJ, zn_sP, zI_sI, zI_sJ, zI_sP, zJ_sI, zJ_sJ, zJ_sP, zP_sI, zP_sJ, zP_sP, Option.toList_some, Option.toList_none, List.cons_append, List.nil_append, n_a1]
        exact nx N u _ _ _ hz hV hu hy
  have hzb := zst_ok hp
  simp only [w1_0, w1_1, zk_sI, zk_sJ, zk_sP, zn_sI, zn_sJ, zn_sP, zI_sI, zI_sJ, zI_sP, zJ_sI, zJ_sJ, zJ_sP, zP_sI, zP_sJ, zP_sP, Option.toList_some, Option.toList_none, List.cons_append, List.nil_append, zk_of hP.1, zn_of hP.1, zix, ziN, ne_eq, reduceCtorEq, not_false_eq_true, true_and, and_true, Option.getD_some, Nat.reduceLeDiff, Nat.reduceLT, c_ofNat, zkd4, zp_4_0 hP, zp_4_1 hP, zp_4_2 hP, zp_4_3 hP, zp_4_4 hP, zp_4_5 hP, zp_4_6 hP]
  refine s9 (lf := pl p) (od := po p) (n := pn p) hP ⟨hFP.1, p1⟩ (fun i hi => ⟨hFP.2.1 i hi, p2 i hi⟩) (fun i hi => ⟨(hFP.2.2.1 i hi).2.1, by have := (p4 i hi).2.2.1; omega⟩) p3 ?_
  change zW _ _ _ _ ((some (Value.long (lN (zst p)))).toList ++ []) _ _
  simp only [w1_4, w1_5, w1_6, zk_sI, zk_sJ, zk_sP, zn_sI, zn_sJ, zn_sP, zI_sI, zI_sJ, zI_sP, zJ_sI, zJ_sJ, zJ_sP, zP_sI, zP_sJ, zP_sP, Option.toList_some, Option.toList_none, List.cons_append, List.nil_append]
  refine s10 hzb.1 ?_
  simp only [w1_9, w1_11, w1_12, w1_14, w1_15, zk_sI, zk_sJ, zk_sP, zn_sI, zn_sJ, zn_sP, zI_sI, zI_sJ, zI_sP, zJ_sI, zJ_sJ, zJ_sP, zP_sI, zP_sJ, zP_sP, Option.toList_some, Option.toList_none, List.cons_append, List.nil_append]
  by_cases hz : zwin (zst p) = -1
  · rw [hz]
    have hup : 1 ≤ pn p := by
      refine Classical.byContradiction (fun g => ?_)
      have e0 : pn p = 0 := by omega
      have : zst p = 0 := by unfold zst; rw [e0]; rfl
      rw [this] at hz
      exact absurd hz (by decide)
    rw [w1_17]
    simp only [w1_19, w1_20, w1_23, w1_25, w1_26, w1_29, w1_32, w1_35, w1_36, zk_sI, zk_sJ, zk_sP, zn_sI, zn_sJ, zn_sP, zI_sI, zI_sJ, zI_sP, zJ_sI, zJ_sJ, zJ_sP, zP_sI, zP_sJ, zP_sP, Option.toList_some, Option.toList_none, List.cons_append, List.nil_append, zk_of hP.1, zn_of hP.1, zix, ziN, ne_eq, reduceCtorEq, not_false_eq_true, true_and, and_true, Option.getD_some, Nat.reduceLeDiff, Nat.reduceLT, c_ofNat, zkd4, zp_4_0 hP, zp_4_1 hP, zp_4_2 hP, zp_4_3 hP, zp_4_4 hP, zp_4_5 hP, zp_4_6 hP, h48, not_true_eq_false, false_implies, true_implies, true_and]
    refine ⟨fun g => ?_, fun _ => ?_⟩
    · rw [c_0, n_le (by omega) (by decide)] at g
      omega
    · exact loop (pr p * pn p) 0 0 0 (zst p) 0 _ _ _ (by omega) (by omega) hup (by omega) hz (zst_V hp) (Nat.zero_le _) (by unfold zpl; rw [if_pos hz])
  · have e17 := fin (zst p) 0 0 .unset .unset .unset .unset (by unfold zpl; rw [if_neg hz]) hzb.1 (by decide) (by decide)
    rw [w1_17]
    simp only [w1_19, w1_20, w1_23, w1_25, w1_26, w1_29, zk_sI, zk_sJ, zk_sP, zn_sI, zn_sJ, zn_sP, zI_sI, zI_sJ, zI_sP, zJ_sI, zJ_sJ, zJ_sP, zP_sI, zP_sJ, zP_sP, Option.toList_some, Option.toList_none, List.cons_append, List.nil_append, zk_of hP.1, zn_of hP.1, zix, ziN, ne_eq, reduceCtorEq, not_false_eq_true, true_and, and_true, Option.getD_some, Nat.reduceLeDiff, Nat.reduceLT, c_ofNat, zkd4, zp_4_0 hP, zp_4_1 hP, zp_4_2 hP, zp_4_3 hP, zp_4_4 hP, zp_4_5 hP, zp_4_6 hP, hz, not_false_eq_true, true_implies, not_true_eq_false, false_implies, and_true]
    exact e17
end ZPy

