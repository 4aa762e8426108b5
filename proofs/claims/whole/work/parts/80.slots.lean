/-! ===== the model: works, one slot ===== -/
section ZMx
variable {X : zf_X} {M : zf_M} {Q : Option Value → zf_M → Prop} {n : Nat} {c : zCs} {am su : Int32} {r : Nat} {p : zPm}
theorem zst1_V2 {p : zPm} {bh r k N w : Nat} {S : List (Nat × Nat) × zA} (hp : zPo p) (hk : k < 6) (hS : zLV p S.1) (hN : zV p N) : zLV p (zst1 p bh r false w S (zouts p r k N)).1 := zst1_V p bh r false w _ S hS (fun x hx => zouts_V hp hN hk x hx)
/-- all states of a slot -/
theorem s129c {L : List (Nat × Nat)} {k rd bh : Nat} {sl t : Int32} (hpe : p = zpm c am su r) (hp : zPo p) (hl4 : L.length ≤ 400) (hV : zLV p L) (hW : zLW L) (hk : ∃ q, q < pn p ∧ po p q = k) (hrd : rd < 6) {M0 : zf_M} (hP : zPk M0) (hF : zMF c n am su r M0) (hL : zML M0 L) (h13 : zf_I M0 58 13 = nI L.length) (R : List (Nat × Nat) × zA)
    (h : ∀ M1 l8, zF (fun c => c = 58 ∨ 64 ≤ c ∧ c ≤ 65 ∨ 68 ≤ c ∧ c ≤ 73) M0 M1 → (∀ j, j ≠ 16 → zf_I M1 58 j = zf_I M0 58 j) → zTL M1 R.1 → zAN M1 R.2 (zon p) → R.1.length ≤ 2 * L.length → zW X 129 435 [.val (.ref 58), .val (.int sl), .val (.int t), .val (.int (nI rd)), .val (.int (nI k)), .val (.long (lN bh)), .second, .val (.int (nI L.length)), l8] [] M1 Q) :
    ∀ (m i : Nat) (M1 : zf_M) (S : List (Nat × Nat) × zA) (l8 : Slot), i + m = L.length → zF (fun c => c = 58 ∨ 64 ≤ c ∧ c ≤ 65 ∨ 68 ≤ c ∧ c ≤ 73) M0 M1 → (∀ j, j ≠ 16 → zf_I M1 58 j = zf_I M0 58 j) → zTL M1 S.1 → zAN M1 S.2 (zon p) → S.1.length ≤ 2 * i → zslot p bh (rd + 1) k false S (L.drop i) = R → zW X 129 269 [.val (.ref 58), .val (.int sl), .val (.int t), .val (.int (nI rd)), .val (.int (nI k)), .val (.long (lN bh)), .second, .val (.int (nI i)), l8] [] M1 Q := by
  intro m
  induction m with
  | zero =>
    intro i M1 S l8 hi x1 x2 x3 x4 x5 x6
    obtain rfl : i = L.length := by omega
    rw [List.drop_length, zslot] at x6
    rw [x6] at x3 x4 x5
    have hP1 := zPk_F hP x1
    have h13' : zf_I M1 58 13 = nI L.length := by rw [x2 13 (by decide)]; exact h13
    rw [w129_269]
    simp only [w129_271, w129_272, w129_275, zk_sI, zk_sJ, zk_sP, zn_sI, zn_sJ, zn_sP, zI_sI, zI_sJ, zI_sP, zJ_sI, zJ_sJ, zJ_sP, zP_sI, zP_sJ, zP_sP, Option.toList_some, Option.toList_none, List.cons_append, List.nil_append, zk_of hP1.1, zn_of hP1.1, zix, ziN, ne_eq, reduceCtorEq, not_false_eq_true, true_and, and_true, Option.getD_some, Nat.reduceLeDiff, Nat.reduceLT, c_ofNat, zkd58, zp_58_1 hP1, zp_58_2 hP1, zp_58_6 hP1, zp_58_7 hP1, zp_58_10 hP1, zp_58_11 hP1, zp_58_12 hP1, zp_58_14 hP1, zp_58_15 hP1, zp_58_17 hP1, zp_58_18 hP1, zp_58_19 hP1, zp_58_20 hP1, zp_58_21 hP1, zp_58_22 hP1, zp_58_24 hP1, zp_58_26 hP1, zp_58_29 hP1, zp_58_32 hP1, zp_58_33 hP1, zp_58_34 hP1, zp_58_35 hP1, zp_58_36 hP1, zp_58_37 hP1, zp_58_38 hP1, zp_58_39 hP1, zkd59, znd59, zfx59, zkd60, znd60, zfx60, zkd61, znd61, zfx61, zkd62, znd62, zfx62, zkd63, znd63, zfx63, zkd64, znd64, zfx64, zkd65, znd65, zfx65, zkd66, znd66, zfx66, zkd67, znd67, zfx67, zkd68, znd68, zfx68, zkd69, znd69, zfx69, zkd70, znd70, zfx70, zkd71, znd71, zfx71, zkd72, znd72, zfx72, zkd73, znd73, zfx73, zkd74, znd74, zfx74, h13', Int32.le_refl]
    exact ⟨fun _ => h M1 l8 x1 x2 x3 x4 x5, fun z => absurd trivial z⟩
  | succ m ih =>
    intro i M1 S l8 hi x1 x2 x3 x4 x5 x6
    have hil : i < L.length := by omega
    have hP1 := zPk_F hP x1
    have hF1 := zMF_F hF x1 (by omega) (by omega) (by omega) (by omega) (fun j hj => x2 j (by omega))
    have hL1 := zML_F hL x1 (by omega) (by omega)
    have h13' : zf_I M1 58 13 = nI L.length := by rw [x2 13 (by decide)]; exact h13
    rw [List.drop_eq_getElem_cons hil, zslot] at x6
    have hm : L[i] ∈ L := List.getElem_mem hil
    have hw := hW _ hm
    have hlu := zst1_lenU p bh (rd + 1) false L[i].2 (zouts p (rd + 1) k L[i].1) S
    have hlo := zouts_len p (rd + 1) k L[i].1
    refine s129b (N := L[i].1) (w := L[i].2) (S := S) hpe hp hP1 hF1 (List.getElem?_eq_getElem hil) hL1 hl4 (hV _ hm) hw.1 hw.2 hk hrd x3 (by omega) x4 h13' (fun M2 l8 g1 g2 g3 g4 => ?_)
    exact ih (i + 1) M2 _ l8 (by omega) (zF_tr x1 g1) (fun j hj => by rw [g2 j hj, x2 j hj]) g3 g4 (by omega) x6
/-- a table without an entry -/
theorem zTL_nil {M : zf_M} (h : zf_I M 58 16 = 0) (h2 : ∀ q, q < 2048 → zf_I M 70 q = 0) : zTL M [] := by
  refine ⟨⟨fun _ => 0, zTI_of h ⟨by decide, fun i j hi => by simp at hi, fun i hi => by simp at hi, fun q hq => Or.inl (h2 q hq)⟩⟩, fun i q hq => by simp at hq⟩
/-- a slot -/
theorem s129d {L : List (Nat × Nat)} {A : zA} {wd t m sl : Nat} {l3 l4 l5 l6 l7 l8 : Slot} (hpe : p = zpm c am su r) (hp : zPo p) (hP : zPk M) (hF : zMF c n am su r M) (hL : zML M L) (hl4 : L.length ≤ 400) (hV : zLV p L) (hW : zLW L) (h13 : zf_I M 58 13 = nI L.length) (h23 : zf_I M 58 23 = nI wd) (hwd : wd ≤ 400) (hA : zAN M A (zon p)) (hpw : ∀ j, j ≤ sl → zf_J M 74 j = lN (6 ^ j)) (hsl : sl = t + (m + 1)) (hsl2 : sl = r * pn p) (hsl3 : sl ≤ 22)
    (h : ∀ M1 l3 l4 l5 l6 l7 l8, zF (fun c => c = 58 ∨ 64 ≤ c ∧ c ≤ 65 ∨ 68 ≤ c ∧ c ≤ 73) M M1 → (∀ j, j ≠ 16 → j ≠ 23 → zf_I M1 58 j = zf_I M 58 j) → zf_I M1 58 23 = nI (max wd L.length) → zTL M1 (zslot p (6 ^ m) (t / pn p + 1) (po p (t % pn p)) false ([], A) L).1 → zAN M1 (zslot p (6 ^ m) (t / pn p + 1) (po p (t % pn p)) false ([], A) L).2 (zon p) → (zslot p (6 ^ m) (t / pn p + 1) (po p (t % pn p)) false ([], A) L).1.length ≤ 800 → zW X 129 435 [.val (.ref 58), .val (.int (nI sl)), .val (.int (nI t)), l3, l4, l5, l6, l7, l8] [] M1 Q) :
    zW X 129 173 [.val (.ref 58), .val (.int (nI sl)), .val (.int (nI t)), l3, l4, l5, l6, l7, l8] [] M Q := by
  have hr6 := hF.1.2.2.2.2.2
  have hn6 : pn p ≤ 6 := hp.1
  have hpos : 0 < pn p := by
    refine Nat.pos_of_ne_zero (fun e => ?_)
    rw [e, Nat.mul_zero] at hsl2
    omega
  have hpn : (zol c 6).length = pn p := by rw [hpe]; rfl
  have hpo : ∀ i, zod c i = po p i := fun i => by rw [hpe]; rfl
  have h9 : zf_I M 58 9 = nI (pn p) := by rw [← hpn]; exact hF.2.1
  have hmod := Nat.mod_lt t hpos
  have hk6 : po p (t % pn p) < 6 := hp.2.1 _ hmod
  have h63 : zf_I M 63 (t % pn p) = nI (po p (t % pn p)) := by rw [← hpo]; exact hF.2.2 _ (by rw [hpn]; exact hmod)
  have hrd : t / pn p < 6 := by
    have : t / pn p < r := (Nat.div_lt_iff_lt_mul hpos).mpr (by omega)
    omega
  have ed : nI t / nI (pn p) = nI (t / pn p) := pk_div (by omega) hpos (by omega)
  have em : nI t - nI (t / pn p) * nI (pn p) = nI (t % pn p) := by rw [← ed]; exact pk_rem (by omega) hpos (by omega)
  have e1 : nI sl - 1 = nI (sl - 1) := pk_sub (b := 1) (by omega)
  have e2 : nI (sl - 1) - nI t = nI m := by
    have : nI (sl - 1) - nI t = nI (sl - 1 - t) := pk_sub (by omega)
    rw [this]
    congr 1
    omega
  have hpm := hpw m (by omega)
  have np0 : ¬ nI (pn p) = 0 := by
    rw [c_0, n_eq (by omega) (by decide)]
    omega
  have start : ∀ v, v = nI (max wd L.length) → ∀ (x3 x4 x5 x6 x7 x8 : Slot), zW X 129 244 [.val (.ref 58), .val (.int (nI sl)), .val (.int (nI t)), .val (.int (nI (t / pn p))), .val (.int (nI (po p (t % pn p)))), .val (.long (lN (6 ^ m))), .second, .val (.int 0), x8] [] (zf_sI (zf_sI M 58 23 v) 58 16 0) Q := by
    intro v hv x3 x4 x5 x6 x7 x8
    have hFa : zF (fun c => c = 58 ∨ 64 ≤ c ∧ c ≤ 65 ∨ 68 ≤ c ∧ c ≤ 73) M (zf_sI (zf_sI M 58 23 v) 58 16 0) := zF_sI (zF_sI (zF_rf _ _) (by omega)) (by omega)
    have hPa := zPk_F hP hFa
    have loop : ∀ (q i : Nat) (M1 : zf_M), i + q = 2048 → zF (fun c => c = 70) (zf_sI (zf_sI M 58 23 v) 58 16 0) M1 → (∀ j, j < i → zf_I M1 70 j = 0) → zW X 129 244 [.val (.ref 58), .val (.int (nI sl)), .val (.int (nI t)), .val (.int (nI (t / pn p))), .val (.int (nI (po p (t % pn p)))), .val (.long (lN (6 ^ m))), .second, .val (.int (nI i)), x8] [] M1 Q := by
      intro q
      induction q with
      | zero =>
        intro i M1 hi g1 g2
        obtain rfl : i = 2048 := by omega
        have b58 : ∀ j, zf_I M1 58 j = zf_I (zf_sI (zf_sI M 58 23 v) 58 16 0) 58 j := fun j => (g1.2.1 58 (by omega) j).1
        have hFb : zF (fun c => c = 58 ∨ 64 ≤ c ∧ c ≤ 65 ∨ 68 ≤ c ∧ c ≤ 73) M M1 := zF_tr hFa (zF_mo g1 (fun c hc => by omega))
        have hP1 := zPk_F hP hFb
        have c58 : ∀ j, j ≠ 16 → j ≠ 23 → zf_I M1 58 j = zf_I M 58 j := by
          intro j h1 h2
          rw [b58, zI_sI, if_pos rfl, if_neg h1, zI_sI, if_pos rfl, if_neg h2]
        have d16 : zf_I M1 58 16 = 0 := by rw [b58, zI_sI, if_pos rfl, if_pos rfl]
        have d23 : zf_I M1 58 23 = nI (max wd L.length) := by rw [b58, zI_sI, if_pos rfl, if_neg (by decide), zI_sI, if_pos rfl, if_pos rfl, hv]
        have hF1 := zMF_F hF hFb (by omega) (by omega) (by omega) (by omega) (fun j hj => c58 j (by omega) (by omega))
        rw [w129_244]
        simp only [w129_246, w129_249, w129_252, w129_253, w129_256, w129_258, w129_259, w129_260, w129_263, w129_266, w129_267, zk_sI, zk_sJ, zk_sP, zn_sI, zn_sJ, zn_sP, zI_sI, zI_sJ, zI_sP, zJ_sI, zJ_sJ, zJ_sP, zP_sI, zP_sJ, zP_sP, Option.toList_some, Option.toList_none, List.cons_append, List.nil_append, zk_of hP1.1, zn_of hP1.1, zix, ziN, ne_eq, reduceCtorEq, not_false_eq_true, true_and, and_true, Option.getD_some, Nat.reduceLeDiff, Nat.reduceLT, c_ofNat, zkd58, zp_58_1 hP1, zp_58_2 hP1, zp_58_6 hP1, zp_58_7 hP1, zp_58_10 hP1, zp_58_11 hP1, zp_58_12 hP1, zp_58_14 hP1, zp_58_15 hP1, zp_58_17 hP1, zp_58_18 hP1, zp_58_19 hP1, zp_58_20 hP1, zp_58_21 hP1, zp_58_22 hP1, zp_58_24 hP1, zp_58_26 hP1, zp_58_29 hP1, zp_58_32 hP1, zp_58_33 hP1, zp_58_34 hP1, zp_58_35 hP1, zp_58_36 hP1, zp_58_37 hP1, zp_58_38 hP1, zp_58_39 hP1, zkd59, znd59, zfx59, zkd60, znd60, zfx60, zkd61, znd61, zfx61, zkd62, znd62, zfx62, zkd63, znd63, zfx63, zkd64, znd64, zfx64, zkd65, znd65, zfx65, zkd66, znd66, zfx66, zkd67, znd67, zfx67, zkd68, znd68, zfx68, zkd69, znd69, zfx69, zkd70, znd70, zfx70, zkd71, znd71, zfx71, zkd72, znd72, zfx72, zkd73, znd73, zfx73, zkd74, znd74, zfx74]
        refine ⟨fun _ => ?_, fun z => absurd (by decide) z⟩
        refine s129c (L := L) (M0 := M1) hpe hp hl4 hV hW ⟨_, hmod, rfl⟩ hrd hP1 hF1 (zML_F hL hFb (by omega) (by omega)) (by rw [c58 13 (by decide) (by decide)]; exact h13) (zslot p (6 ^ m) (t / pn p + 1) (po p (t % pn p)) false ([], A) L) (fun M2 l8 k1 k2 k3 k4 k5 => ?_) L.length 0 M1 ([], A) _ (Nat.zero_add _) (zF_rf _ _) (fun _ _ => rfl) (zTL_nil d16 g2) (zAN_F (zAN_F (S := fun c => c = 58) hA (zF_sI (zF_sI (zF_rf _ _) rfl) rfl) (by omega) (by omega) (by omega)) g1 (by omega) (by omega) (by omega)) (Nat.le_refl _) rfl
        exact h M2 _ _ _ _ _ _ (zF_tr hFb k1) (fun j h1 h2 => by rw [k2 j h1, c58 j h1 h2]) (by rw [k2 23 (by decide)]; exact d23) k3 k4 (by omega)
      | succ q ih =>
        intro i M1 hi g1 g2
        have hP1 := zPk_F hPa g1
        rw [w129_244]
        simp only [w129_246, w129_249, w129_252, w129_253, w129_256, w129_258, w129_259, w129_260, w129_263, w129_266, w129_267, zk_sI, zk_sJ, zk_sP, zn_sI, zn_sJ, zn_sP, zI_sI, zI_sJ, zI_sP, zJ_sI, zJ_sJ, zJ_sP, zP_sI, zP_sJ, zP_sP, Option.toList_some, Option.toList_none, List.cons_append, List.nil_append, zk_of hP1.1, zn_of hP1.1, zix, ziN, ne_eq, reduceCtorEq, not_false_eq_true, true_and, and_true, Option.getD_some, Nat.reduceLeDiff, Nat.reduceLT, c_ofNat, zkd58, zp_58_1 hP1, zp_58_2 hP1, zp_58_6 hP1, zp_58_7 hP1, zp_58_10 hP1, zp_58_11 hP1, zp_58_12 hP1, zp_58_14 hP1, zp_58_15 hP1, zp_58_17 hP1, zp_58_18 hP1, zp_58_19 hP1, zp_58_20 hP1, zp_58_21 hP1, zp_58_22 hP1, zp_58_24 hP1, zp_58_26 hP1, zp_58_29 hP1, zp_58_32 hP1, zp_58_33 hP1, zp_58_34 hP1, zp_58_35 hP1, zp_58_36 hP1, zp_58_37 hP1, zp_58_38 hP1, zp_58_39 hP1, zkd59, znd59, zfx59, zkd60, znd60, zfx60, zkd61, znd61, zfx61, zkd62, znd62, zfx62, zkd63, znd63, zfx63, zkd64, znd64, zfx64, zkd65, znd65, zfx65, zkd66, znd66, zfx66, zkd67, znd67, zfx67, zkd68, znd68, zfx68, zkd69, znd69, zfx69, zkd70, znd70, zfx70, zkd71, znd71, zfx71, zkd72, znd72, zfx72, zkd73, znd73, zfx73, zkd74, znd74, zfx74, n_cl (show i < 2 ^ 31 by omega), n_in (show i < 2048 by omega) (show 2048 < 2 ^ 31 by decide), n_a1]
        rw [show (2048 : Int32) = nI 2048 from rfl, n_le (by decide) (by omega)]
        refine ⟨fun z => by omega, fun _ => ih (i + 1) _ (by omega) (zF_sI g1 rfl) (fun j hj => ?_)⟩
        rw [zI_sI, if_pos rfl]
        by_cases e : j = i
        · rw [if_pos e]
        · rw [if_neg e]
          exact g2 j (by omega)
    exact loop 2048 0 _ rfl (zF_rf _ _) (fun j hj => by omega)
  rw [w129_173]
  simp only [w129_174, w129_175, w129_178, w129_179, w129_180, w129_183, w129_184, w129_187, w129_190, w129_191, w129_194, w129_197, w129_198, w129_201, w129_204, w129_205, w129_206, w129_209, w129_210, w129_211, w129_212, w129_215, w129_216, w129_217, w129_220, w129_221, w129_222, w129_224, w129_225, w129_228, w129_229, w129_230, w129_231, w129_232, w129_233, w129_234, w129_236, w129_237, w129_238, w129_241, w129_242, zk_sI, zk_sJ, zk_sP, zn_sI, zn_sJ, zn_sP, zI_sI, zI_sJ, zI_sP, zJ_sI, zJ_sJ, zJ_sP, zP_sI, zP_sJ, zP_sP, Option.toList_some, Option.toList_none, List.cons_append, List.nil_append, zk_of hP.1, zn_of hP.1, zix, ziN, ne_eq, reduceCtorEq, not_false_eq_true, true_and, and_true, Option.getD_some, Nat.reduceLeDiff, Nat.reduceLT, c_ofNat, zkd58, zp_58_1 hP, zp_58_2 hP, zp_58_6 hP, zp_58_7 hP, zp_58_10 hP, zp_58_11 hP, zp_58_12 hP, zp_58_14 hP, zp_58_15 hP, zp_58_17 hP, zp_58_18 hP, zp_58_19 hP, zp_58_20 hP, zp_58_21 hP, zp_58_22 hP, zp_58_24 hP, zp_58_26 hP, zp_58_29 hP, zp_58_32 hP, zp_58_33 hP, zp_58_34 hP, zp_58_35 hP, zp_58_36 hP, zp_58_37 hP, zp_58_38 hP, zp_58_39 hP, zkd59, znd59, zfx59, zkd60, znd60, zfx60, zkd61, znd61, zfx61, zkd62, znd62, zfx62, zkd63, znd63, zfx63, zkd64, znd64, zfx64, zkd65, znd65, zfx65, zkd66, znd66, zfx66, zkd67, znd67, zfx67, zkd68, znd68, zfx68, zkd69, znd69, zfx69, zkd70, znd70, zfx70, zkd71, znd71, zfx71, zkd72, znd72, zfx72, zkd73, znd73, zfx73, zkd74, znd74, zfx74, h13, h23, h9, ed, em, h63, e1, e2, hpm, np0, n_cl (show t % pn p < 2 ^ 31 by omega), n_in (show t % pn p < 6 by omega) (show 6 < 2 ^ 31 by decide), n_cl (show m < 2 ^ 31 by omega), n_in (show m < 24 by omega) (show 24 < 2 ^ 31 by decide), Nat.reduceEqDiff, if_true, if_false, not_false_eq_true, true_and]
  rw [n_le (by omega) (by omega), n_le (by omega) (by omega)]
  refine ⟨fun z => by omega, fun _ => ⟨fun g => start _ ?_ l3 l4 l5 l6 l7 l8, fun g => start _ ?_ l3 l4 l5 l6 l7 l8⟩⟩
  · rw [Nat.max_eq_left g]
  · rw [Nat.max_eq_right (by omega)]
end ZMx
