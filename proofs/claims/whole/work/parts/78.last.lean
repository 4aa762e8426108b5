/-! ===== the last slot, drawn at once or afterwards ===== -/
theorem zA_ext {A B : zA} (h1 : ∀ i, A.1 i = B.1 i) (h2 : ∀ i, A.2.1 i = B.2.1 i) (h3 : ∀ i, A.2.2 i = B.2.2 i) : A = B := Prod.ext (funext h1) (Prod.ext (funext h2) (funext h3))
theorem ztl_r (od : Nat → Nat) (n : Nat) (A : zA) (N w r r2 : Nat) : ztl od n A N w 2 r = ztl od n A N w 2 r2 := zA_ext (fun _ => rfl) (fun i => by
  show A.2.1 i + (if _ then _ else _) = A.2.1 i + (if _ then _ else _)
  rw [if_neg (fun z => z.1 rfl), if_neg (fun z => z.1 rfl)]) (fun _ => rfl)
theorem ztl_com (od : Nat → Nat) (n : Nat) (A : zA) (N w e r N2 w2 e2 r2 : Nat) : ztl od n (ztl od n A N w e r) N2 w2 e2 r2 = ztl od n (ztl od n A N2 w2 e2 r2) N w e r := zA_ext (fun i => Nat.add_right_comm _ _ _) (fun i => Nat.add_right_comm _ _ _) (fun i => Nat.add_right_comm _ _ _)
theorem ite_add2 {c : Prop} [Decidable c] (x w w2 : Nat) : x + (if c then w else 0) + (if c then w2 else 0) = x + if c then w + w2 else 0 := by
  split <;> omega
theorem ztl_add (od : Nat → Nat) (n : Nat) (A : zA) (N w e r w2 : Nat) : ztl od n (ztl od n A N w e r) N w2 e r = ztl od n A N (w + w2) e r := zA_ext (fun i => ite_add2 _ _ _) (fun i => ite_add2 _ _ _) (fun i => ite_add2 _ _ _)
/-- all these are drawn -/
def zfn (p : zPm) (r : Nat) : zA → List (Nat × Nat) → zA
  | A, [] => A
  | A, q :: t => zfn p r (ztl (po p) (pn p) A q.1 q.2 2 r) t
theorem zfn_tl (p : zPm) (r N w e r2 : Nat) : ∀ (L : List (Nat × Nat)) (A : zA), zfn p r (ztl (po p) (pn p) A N w e r2) L = ztl (po p) (pn p) (zfn p r A L) N w e r2
  | [], A => rfl
  | q :: t, A => by
    rw [zfn, zfn, ztl_com, zfn_tl p r N w e r2 t]
theorem zfn_ins (p : zPm) (r N w : Nat) : ∀ (L : List (Nat × Nat)) (A : zA), zfn p r A (zins L N w) = ztl (po p) (pn p) (zfn p r A L) N w 2 r
  | [], A => rfl
  | q :: t, A => by
    rw [zins]
    split
    next h =>
      rw [zfn, zfn, ← zfn_tl, h, ztl_add]
    next h =>
      rw [zfn, zfn, zfn_ins p r N w t]
theorem zps_last (p : zPm) (r r2 N w : Nat) (S : List (Nat × Nat) × zA) : zps p 1 r true ([], zfn p r2 S.2 S.1) N w = ([], zfn p r2 (zps p 1 r false S N w).2 (zps p 1 r false S N w).1) := by
  unfold zps
  by_cases h : w = 0
  · rw [if_pos h, if_pos h]
  · rw [if_neg h, if_neg h]
    by_cases h2 : zwin N ≠ -1
    · rw [if_pos h2, if_pos h2]
      show (_, _) = (_, _)
      rw [zfn_tl]
    · rw [if_neg h2, if_neg h2, if_pos rfl, if_neg (by decide)]
      show (_, _) = (_, _)
      rw [zfn_ins, Nat.mul_one, ztl_r (po p) (pn p) _ N w r r2]
theorem zst1_last (p : zPm) (r r2 w : Nat) : ∀ (l : List (Nat × Nat)) (S : List (Nat × Nat) × zA), zst1 p 1 r true w ([], zfn p r2 S.2 S.1) l = ([], zfn p r2 (zst1 p 1 r false w S l).2 (zst1 p 1 r false w S l).1)
  | [], S => rfl
  | q :: t, S => by
    rw [zst1, zst1, zps_last, zst1_last p r r2 w t]
theorem zslot_last (p : zPm) (r r2 k : Nat) : ∀ (L : List (Nat × Nat)) (S : List (Nat × Nat) × zA), zslot p 1 r k true ([], zfn p r2 S.2 S.1) L = ([], zfn p r2 (zslot p 1 r k false S L).2 (zslot p 1 r k false S L).1)
  | [], S => rfl
  | q :: t, S => by
    rw [zslot, zslot, zst1_last, zslot_last p r r2 k t]
/-! how long a list gets -/
theorem zins_lenU (N w : Nat) : ∀ K, (zins K N w).length ≤ K.length + 1
  | [] => Nat.le_refl _
  | q :: t => by
    rw [zins]
    split
    · exact Nat.le_succ _
    · have := zins_lenU N w t
      simp only [List.length_cons]
      omega
theorem zps_lenU (p : zPm) (bh r : Nat) (la : Bool) (S : List (Nat × Nat) × zA) (N w : Nat) : (zps p bh r la S N w).1.length ≤ S.1.length + 1 := by
  unfold zps
  split
  · exact Nat.le_succ _
  · split
    · exact Nat.le_succ _
    · split
      · exact Nat.le_succ _
      · exact zins_lenU _ _ _
theorem zst1_lenU (p : zPm) (bh r : Nat) (la : Bool) (w : Nat) : ∀ (l : List (Nat × Nat)) (S : List (Nat × Nat) × zA), (zst1 p bh r la w S l).1.length ≤ S.1.length + l.length
  | [], S => Nat.le_refl _
  | q :: t, S => by
    have h1 := zst1_lenU p bh r la w t (zps p bh r la S q.1 (q.2 * w))
    have h2 := zps_lenU p bh r la S q.1 (q.2 * w)
    rw [zst1, List.length_cons]
    omega
theorem zouts_len (p : zPm) (r k N : Nat) : (zouts p r k N).length ≤ 2 := by
  unfold zouts
  split
  · exact Nat.le_succ _
  · split
    · exact Nat.le_succ _
    · exact Nat.le_refl _
/-- not over, and some way leads there -/
def zLW (L : List (Nat × Nat)) : Prop := ∀ q ∈ L, zwin q.1 = -1 ∧ q.2 ≠ 0
theorem zLW_ins {N w : Nat} (hN : zwin N = -1) (hw : w ≠ 0) : ∀ {K : List (Nat × Nat)}, zLW K → zLW (zins K N w)
  | [], _, q, hq => by
    simp only [zins, List.mem_singleton] at hq
    rw [hq]
    exact ⟨hN, hw⟩
  | a :: t, hK, q, hq => by
    rw [zins] at hq
    split at hq
    · rcases List.mem_cons.mp hq with e | e
      · have := hK a List.mem_cons_self
        rw [e]
        exact ⟨this.1, by show a.2 + w ≠ 0; omega⟩
      · exact hK q (List.mem_cons_of_mem _ e)
    · rcases List.mem_cons.mp hq with e | e
      · rw [e]
        exact hK a List.mem_cons_self
      · exact zLW_ins hN hw (fun x hx => hK x (List.mem_cons_of_mem _ hx)) q e
theorem zps_W {p : zPm} {bh r : Nat} {S : List (Nat × Nat) × zA} {N w : Nat} (hS : zLW S.1) : zLW (zps p bh r false S N w).1 := by
  unfold zps
  split
  · exact hS
  next h =>
    split
    · exact hS
    next h2 =>
      split
      · exact hS
      · exact zLW_ins (Classical.not_not.mp h2) h hS
theorem zst1_W (p : zPm) (bh r w : Nat) : ∀ (l : List (Nat × Nat)) (S : List (Nat × Nat) × zA), zLW S.1 → zLW (zst1 p bh r false w S l).1
  | [], S, hS => hS
  | q :: t, S, hS => by
    rw [zst1]
    exact zst1_W p bh r w t _ (zps_W hS)
section ZMg
variable {X : zf_X} {M : zf_M} {Q : Option Value → zf_M → Prop} {N w r : Nat}
/-- seats that are taken -/
def zon (p : zPm) (k : Nat) : Prop := ∃ q, q < pn p ∧ po p q = k
theorem zAN_F {S : Nat → Prop} {M M1 : zf_M} {A : zA} {on : Nat → Prop} (h : zAN M A on) (hF : zF S M M1) (h1 : ¬ S 71) (h2 : ¬ S 72) (h3 : ¬ S 73) : zAN M1 A on := ⟨fun i hi => by rw [(hF.2.1 71 h1 i).2]; exact h.1 i hi, fun i hi => by rw [(hF.2.1 72 h2 i).2]; exact h.2.1 i hi, fun k l u a b c d => by rw [(hF.2.1 73 h3 _).2]; exact h.2.2 k l u a b c d⟩
theorem zTL_F {S : Nat → Prop} {M M1 : zf_M} {K : List (Nat × Nat)} (h : zTL M K) (hF : zF S M M1) (h0 : zf_I M1 58 16 = zf_I M 58 16) (h1 : ¬ S 68) (h2 : ¬ S 69) (h3 : ¬ S 70) : zTL M1 K := by
  obtain ⟨⟨sp, hI⟩, hJ⟩ := h
  have e1 : (fun i => zf_J M1 68 i) = fun i => zf_J M 68 i := funext (fun i => (hF.2.1 68 h1 i).2)
  have e2 : (fun i => zf_I M1 70 i) = fun i => zf_I M 70 i := funext (fun i => (hF.2.1 70 h3 i).1)
  refine ⟨⟨sp, zTI_of (by rw [h0]; exact hI.1) ?_⟩, fun i q hq => ?_⟩
  · rw [e1, e2]
    exact zTI_0 hI
  · rw [(hF.2.1 68 h1 i).2, (hF.2.1 69 h2 i).2]
    exact hJ i q hq
/-- goesOn -/
theorem s127 {p : zPm} {bh : Nat} {S : List (Nat × Nat) × zA} (hP : zPk M) (hS : zSM M N) (hN : N < 64 ^ 6) (hl : ∀ k, k < 6 → dg N k % 32 ≤ 20) (hK : zTL M S.1) (hlen : S.1.length < 800) (hA : zAN M S.2 (zon p)) (hr : r < 6) (hw : w ≠ 0)
    (h : ∀ M1, zF (fun c => c = 58 ∨ 68 ≤ c ∧ c ≤ 73) M M1 → (∀ j, j ≠ 16 → zf_I M1 58 j = zf_I M 58 j) → zTL M1 (zps p bh (r + 1) false S N w).1 → zAN M1 (zps p bh (r + 1) false S N w).2 (zon p) → Q none M1) : zC X 127 [.ref 58, .int (nI r), .long (lN w), .long (lN bh)] M Q := by
  rw [c127]
  simp only [w127_0, w127_1, w127_4, w127_6, w127_8, w127_9, w127_12, w127_13, w127_15, w127_16, w127_17, w127_18, w127_19, w127_21, w127_22, w127_25, w127_28, w127_29, w127_30, w127_33, zk_sI, zk_sJ, zk_sP, zn_sI, zn_sJ, zn_sP, zI_sI, zI_sJ, zI_sP, zJ_sI, zJ_sJ, zJ_sP, zP_sI, zP_sJ, zP_sP, Option.toList_some, Option.toList_none, List.cons_append, List.nil_append, zk_of hP.1, zn_of hP.1, zix, ziN, ne_eq, reduceCtorEq, not_false_eq_true, true_and, and_true, Option.getD_some, Nat.reduceLeDiff, Nat.reduceLT, c_ofNat, zkd58, zp_58_1 hP, zp_58_2 hP, zp_58_6 hP, zp_58_7 hP, zp_58_10 hP, zp_58_11 hP, zp_58_12 hP, zp_58_14 hP, zp_58_15 hP, zp_58_17 hP, zp_58_18 hP, zp_58_19 hP, zp_58_20 hP, zp_58_21 hP, zp_58_22 hP, zp_58_24 hP, zp_58_26 hP, zp_58_29 hP, zp_58_32 hP, zp_58_33 hP, zp_58_34 hP, zp_58_35 hP, zp_58_36 hP, zp_58_37 hP, zp_58_38 hP, zp_58_39 hP]
  refine s117 hP hS ?_
  simp only [w127_0, w127_1, w127_4, w127_6, w127_8, w127_9, w127_12, w127_13, w127_15, w127_16, w127_17, w127_18, w127_19, w127_21, w127_22, w127_25, w127_28, w127_29, w127_30, w127_33, zk_sI, zk_sJ, zk_sP, zn_sI, zn_sJ, zn_sP, zI_sI, zI_sJ, zI_sP, zJ_sI, zJ_sJ, zJ_sP, zP_sI, zP_sJ, zP_sP, Option.toList_some, Option.toList_none, List.cons_append, List.nil_append, zk_of hP.1, zn_of hP.1, zix, ziN, ne_eq, reduceCtorEq, not_false_eq_true, true_and, and_true, Option.getD_some, Nat.reduceLeDiff, Nat.reduceLT, c_ofNat, zkd58, zp_58_1 hP, zp_58_2 hP, zp_58_6 hP, zp_58_7 hP, zp_58_10 hP, zp_58_11 hP, zp_58_12 hP, zp_58_14 hP, zp_58_15 hP, zp_58_17 hP, zp_58_18 hP, zp_58_19 hP, zp_58_20 hP, zp_58_21 hP, zp_58_22 hP, zp_58_24 hP, zp_58_26 hP, zp_58_29 hP, zp_58_32 hP, zp_58_33 hP, zp_58_34 hP, zp_58_35 hP, zp_58_36 hP, zp_58_37 hP, zp_58_38 hP, zp_58_39 hP, lN_mul, n_a1]
  unfold zps at h
  rw [if_neg hw] at h
  by_cases hz : zwin N = -1
  · rw [if_neg (fun z => z hz), if_neg (by decide)] at h
    rw [zwm, if_pos hz]
    refine ⟨fun _ => ?_, fun z => absurd (Int32.le_refl _) z⟩
    refine s126L hP hS hN hK hlen (fun M1 g1 g2 g3 => ?_)
    simp only [w127_0, w127_1, w127_4, w127_6, w127_8, w127_9, w127_12, w127_13, w127_15, w127_16, w127_17, w127_18, w127_19, w127_21, w127_22, w127_25, w127_28, w127_29, w127_30, w127_33, zk_sI, zk_sJ, zk_sP, zn_sI, zn_sJ, zn_sP, zI_sI, zI_sJ, zI_sP, zJ_sI, zJ_sJ, zJ_sP, zP_sI, zP_sJ, zP_sP, Option.toList_some, Option.toList_none, List.cons_append, List.nil_append]
    exact h M1 (zF_mo g1 (fun c hc => by omega)) g2 g3 (zAN_F hA g1 (by omega) (by omega) (by omega))
  · rw [if_pos hz] at h
    have he := zwe_lt N
    have he2 : zwe N < 2 := by unfold zwe; split <;> decide
    rw [zwm, if_neg hz, zwin_e hz]
    rw [c_2, n_le (by decide) (by omega)]
    refine ⟨fun z => by omega, fun _ => ?_⟩
    refine s125 (od := po p) (n := pn p) (e := zwe N) (r := r + 1) (w := w * bh) hP hS hl hA (by omega) (by omega) (fun M1 g1 g2 => ?_)
    simp only [w127_0, w127_1, w127_4, w127_6, w127_8, w127_9, w127_12, w127_13, w127_15, w127_16, w127_17, w127_18, w127_19, w127_21, w127_22, w127_25, w127_28, w127_29, w127_30, w127_33, zk_sI, zk_sJ, zk_sP, zn_sI, zn_sJ, zn_sP, zI_sI, zI_sJ, zI_sP, zJ_sI, zJ_sJ, zJ_sP, zP_sI, zP_sJ, zP_sP, Option.toList_some, Option.toList_none, List.cons_append, List.nil_append]
    exact h M1 (zF_mo g1 (fun c hc => by omega)) (fun j _ => (g1.2.1 58 (by omega) j).1) (zTL_F hK g1 (g1.2.1 58 (by omega) 16).1 (by omega) (by omega) (by omega)) g2
end ZMg
