/-! ===== reading what was written ===== -/
section ZB
variable {M : zf_M} {a b i j k : Nat} {v : Int32} {w : Int64} {q : Option Nat}
theorem zk_sI : zf_k (zf_sI M a j v) b = zf_k M b := rfl
theorem zk_sJ : zf_k (zf_sJ M a j w) b = zf_k M b := rfl
theorem zk_sP : zf_k (zf_sP M a j q) b = zf_k M b := rfl
theorem zn_sI : zf_n (zf_sI M a j v) k b = zf_n M k b := rfl
theorem zn_sJ : zf_n (zf_sJ M a j w) k b = zf_n M k b := rfl
theorem zn_sP : zf_n (zf_sP M a j q) k b = zf_n M k b := rfl
theorem zI_sI : zf_I (zf_sI M a j v) b i = if b = a then (if i = j then v else zf_I M b i) else zf_I M b i := rfl
theorem zI_sJ : zf_I (zf_sJ M a j w) b i = zf_I M b i := rfl
theorem zI_sP : zf_I (zf_sP M a j q) b i = zf_I M b i := rfl
theorem zJ_sI : zf_J (zf_sI M a j v) b i = zf_J M b i := rfl
theorem zJ_sJ : zf_J (zf_sJ M a j w) b i = if b = a then (if i = j then w else zf_J M b i) else zf_J M b i := rfl
theorem zJ_sP : zf_J (zf_sP M a j q) b i = zf_J M b i := rfl
theorem zP_sI : zf_P (zf_sI M a j v) b i = zf_P M b i := rfl
theorem zP_sJ : zf_P (zf_sJ M a j w) b i = zf_P M b i := rfl
theorem zP_sP : zf_P (zf_sP M a j q) b i = if b = a then (if i = j then q else zf_P M b i) else zf_P M b i := rfl
theorem zS_sI : (zf_sI M a j v).1 = M.1 := rfl
theorem zS_sJ : (zf_sJ M a j w).1 = M.1 := rfl
theorem zS_sP : (zf_sP M a j q).1 = M.1 := rfl
end ZB
theorem zb_1 : vp_nar .boolean 1 = 1 := rfl
theorem zb_0 : vp_nar .boolean 0 = 0 := rfl
/-- a truth value as an int -/
def zB (c : Prop) [Decidable c] : Int32 := if c then 1 else 0
theorem zB_t {c : Prop} [Decidable c] (h : c) : zB c = 1 := if_pos h
theorem zB_f {c : Prop} [Decidable c] (h : ¬ c) : zB c = 0 := if_neg h
theorem zB_nar {c : Prop} [Decidable c] : vp_nar .boolean (zB c) = zB c := by
  by_cases h : c
  · rw [zB_t h]; rfl
  · rw [zB_f h]; rfl
theorem zB_0 {c : Prop} [Decidable c] : (zB c = 0) = ¬ c := by
  by_cases h : c
  · rw [zB_t h]; simp [h]
  · rw [zB_f h]; simp [h]
theorem lc_lt {x y : Int64} : (lg_cmp x y < 0) = (x < y) := by
  have h := lg_cmp_ge x y
  simp only [eq_iff_iff]
  rw [← Int32.not_le, ← Int64.not_le, h]
theorem lc_gt {x y : Int64} : (0 < lg_cmp x y) = (y < x) := by
  have h := lg_cmp_le x y
  simp only [eq_iff_iff]
  rw [← Int32.not_le, ← Int64.not_le, h]
theorem lc_ge {x y : Int64} : (0 ≤ lg_cmp x y) = (y ≤ x) := propext (lg_cmp_ge x y)
theorem lc_le {x y : Int64} : (lg_cmp x y ≤ 0) = (x ≤ y) := propext (lg_cmp_le x y)
theorem lc_eq {x y : Int64} : (lg_cmp x y = 0) = (x = y) := by
  unfold lg_cmp
  by_cases h : x > y
  · rw [if_pos h]
    have h3 : ¬ x = y := fun e => by rw [e] at h; simp at h
    simp [h3]
  · rw [if_neg h]
    by_cases h2 : x = y <;> simp [h2]
section ZT
variable {X : zf_X} {M : zf_M} {Q : Option Value → zf_M → Prop}
/-- the two-valued tests of both classes -/
theorem zB_1 {c : Prop} [Decidable c] (hc : c) (h : Q (some (.int (zB c))) M) : vp_nar .boolean 1 = 1 ∧ Q (some (.int 1)) M := by
  rw [zB_t hc] at h
  exact ⟨rfl, h⟩
theorem zB_2 {c : Prop} [Decidable c] (hc : ¬ c) (h : Q (some (.int (zB c))) M) : vp_nar .boolean 0 = 0 ∧ Q (some (.int 0)) M := by
  rw [zB_f hc] at h
  exact ⟨rfl, h⟩
theorem s84 {s : Int32} (h : Q (some (.int (zB (s = 0 ∨ s = 1)))) M) : zC X 84 [.int s] M Q := by
  rw [c84]
  simp only [w84_0, w84_1, w84_4, w84_5, w84_6, w84_9, w84_10, w84_13, w84_14, zk_sI, zk_sJ, zk_sP, zn_sI, zn_sJ, zn_sP, zI_sI, zI_sJ, zI_sP, zJ_sI, zJ_sJ, zJ_sP, zP_sI, zP_sJ, zP_sP, Option.toList_some, Option.toList_none, List.cons_append, List.nil_append]
  exact ⟨fun h0 => zB_1 (Or.inl h0) h, fun h0 => ⟨fun h1 => zB_2 (fun z => z.elim h0 h1) h, fun h1 => zB_1 (Or.inr (Decidable.not_not.mp h1)) h⟩⟩
end ZT
/-! small numbers -/
theorem n_a1 (a : Nat) : nI a + 1 = nI (a + 1) := nI_1 a
theorem n_a3 (a : Nat) : nI a + 3 = nI (a + 3) := nI_add a 3
theorem n_m3 (a : Nat) : (3 : Int32) * nI a = nI (3 * a) := pk_mul 3 a
theorem n_m6 (a : Nat) : (6 : Int32) * nI a = nI (6 * a) := pk_mul 6 a
theorem n_lt {a b : Nat} (ha : a < 2 ^ 31) (hb : b < 2 ^ 31) : (nI a < nI b) = (a < b) := propext (nI_ltI ha hb)
theorem n_le {a b : Nat} (ha : a < 2 ^ 31) (hb : b < 2 ^ 31) : (nI a ≤ nI b) = (a ≤ b) := propext (nI_leI ha hb)
theorem n_eq {a b : Nat} (ha : a < 2 ^ 31) (hb : b < 2 ^ 31) : (nI a = nI b) = (a = b) := propext (nI_eq ha hb)
theorem n_cl {a : Nat} (ha : a < 2 ^ 31) : (nI a).toNatClampNeg = a := nI_clamp ha
theorem n_in {a n : Nat} (h : a < n) (hn : n < 2 ^ 31) : vp_in (nI a) n = True := eq_true (vp_in_nI h hn)
theorem n_ne {a : Nat} (ha : a < 2 ^ 31) : (nI a = -1) = False := by
  refine eq_false fun z => ?_
  have h := congrArg Int32.toInt z
  rw [nI_toInt ha] at h
  have h2 : (-1 : Int32).toInt = -1 := by decide
  rw [h2] at h
  omega
theorem c_0 : (0 : Int32) = nI 0 := rfl
theorem c_1 : (1 : Int32) = nI 1 := rfl
theorem c_2 : (2 : Int32) = nI 2 := rfl
theorem c_3 : (3 : Int32) = nI 3 := rfl
theorem c_5 : (5 : Int32) = nI 5 := rfl
theorem c_6 : (6 : Int32) = nI 6 := rfl
theorem c_20 : (20 : Int32) = nI 20 := rfl
theorem c_32 : (32 : Int32) = nI 32 := rfl
theorem n_div {a b : Nat} (ha : a < 2 ^ 31) (h0 : 0 < b) (hb : b < 2 ^ 31) : nI a / nI b = nI (a / b) := pk_div ha h0 hb
theorem c_ofNat (n : Nat) : Int32.ofNat n = nI n := rfl
/-- what else but the cells of S is as it was; references are -/
def zF (S : Nat → Prop) (M M1 : zf_M) : Prop := M1.1 = M.1 ∧ (∀ b, ¬ S b → ∀ j, zf_I M1 b j = zf_I M b j ∧ zf_J M1 b j = zf_J M b j) ∧ ∀ b j, zf_P M1 b j = zf_P M b j
theorem zF_rf (S : Nat → Prop) (M : zf_M) : zF S M M := ⟨rfl, fun _ _ _ => ⟨rfl, rfl⟩, fun _ _ => rfl⟩
theorem zF_tr {S : Nat → Prop} {M M1 M2 : zf_M} (h : zF S M M1) (h2 : zF S M1 M2) : zF S M M2 := ⟨h2.1.trans h.1, fun b hb j => ⟨((h2.2.1 b hb j).1).trans (h.2.1 b hb j).1, ((h2.2.1 b hb j).2).trans (h.2.1 b hb j).2⟩, fun b j => (h2.2.2 b j).trans (h.2.2 b j)⟩
theorem zF_mo {S S2 : Nat → Prop} {M M1 : zf_M} (h : zF S M M1) (hs : ∀ b, S b → S2 b) : zF S2 M M1 := ⟨h.1, fun b hb => h.2.1 b (fun z => hb (hs b z)), h.2.2⟩
theorem zF_sI {S : Nat → Prop} {M M1 : zf_M} {a j : Nat} {v : Int32} (h : zF S M M1) (ha : S a) : zF S M (zf_sI M1 a j v) := by
  refine ⟨h.1, fun b hb i => ⟨?_, (h.2.1 b hb i).2⟩, h.2.2⟩
  rw [zI_sI, if_neg (show ¬ b = a from fun z => hb (by rw [z]; exact ha))]
  exact (h.2.1 b hb i).1
theorem zF_sJ {S : Nat → Prop} {M M1 : zf_M} {a j : Nat} {v : Int64} (h : zF S M M1) (ha : S a) : zF S M (zf_sJ M1 a j v) := by
  refine ⟨h.1, fun b hb i => ⟨(h.2.1 b hb i).1, ?_⟩, h.2.2⟩
  rw [zJ_sJ, if_neg (show ¬ b = a from fun z => hb (by rw [z]; exact ha))]
  exact (h.2.1 b hb i).2
theorem zF_k {S : Nat → Prop} {M M1 : zf_M} (h : zF S M M1) (a : Nat) : zf_k M1 a = zf_k M a := by unfold zf_k; rw [h.1]
theorem zF_n {S : Nat → Prop} {M M1 : zf_M} (h : zF S M M1) (k a : Nat) : zf_n M1 k a = zf_n M k a := by unfold zf_n; rw [h.1]

