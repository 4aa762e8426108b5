/-! ===== what is made ===== -/
theorem gd_new {α : Type} (l : List α) (x d : α) (b : Nat) : (l ++ [x]).getD b d = if b = l.length then x else l.getD b d := by
  rw [List.getD_eq_getElem?_getD, List.getD_eq_getElem?_getD]
  by_cases e : b = l.length
  · rw [if_pos e, e, List.getElem?_append_right (Nat.le_refl _), Nat.sub_self]
    rfl
  · rw [if_neg e]
    by_cases g : b < l.length
    · rw [List.getElem?_append_left g]
    · rw [List.getElem?_append_right (by omega), List.getElem?_eq_none (by simp; omega), List.getElem?_eq_none (by omega)]
section ZIn
variable {X : zf_X} {M : zf_M} {Q : Option Value → zf_M → Prop} {a L : Nat}
theorem zk_new {kn : Nat × Nat} {b : Nat} : zf_k (zf_new M kn) b = if b = M.1.length then kn.1 else zf_k M b := by
  show ((M.1 ++ [kn]).getD b (99, 0)).1 = _
  rw [gd_new]
  split <;> rfl
theorem zn_new {kn : Nat × Nat} {k b : Nat} : zf_n (zf_new M kn) k b = if b = M.1.length then (if kn.1 = k then kn.2 else 0) else zf_n M k b := by
  show (if ((M.1 ++ [kn]).getD b (99, 0)).1 = k then ((M.1 ++ [kn]).getD b (99, 0)).2 else 0) = _
  rw [gd_new]
  split <;> rfl
theorem zl_new {kn : Nat × Nat} : (zf_new M kn).1.length = M.1.length + 1 := by
  show (M.1 ++ [kn]).length = _
  rw [List.length_append]
  rfl
theorem zl_sI {b j : Nat} {v : Int32} : (zf_sI M b j v).1.length = M.1.length := rfl
theorem zl_sJ {b j : Nat} {v : Int64} : (zf_sJ M b j v).1.length = M.1.length := rfl
theorem zl_sP {b j : Nat} {v : Option Nat} : (zf_sP M b j v).1.length = M.1.length := rfl
def fRow (M : zf_M) (a L : Nat) : zf_M := zf_sI (zf_sP (zf_sI (zf_sI (zf_sI (zf_new M (10, 3)) L 0 (-1)) L 1 (-1)) L 2 (-1)) a 0 (some L)) a 1 0
theorem mk40 (hl : M.1.length = L) (hL : L < 1000) (ha : zf_k M a = 6) (haL : a < L) (h : Q none (fRow M a L)) : zC X 40 [.ref a] M Q := by
  have hne : (a = L) = False := eq_false (by omega)
  rw [c40]
  simp only [w40_0, w40_1, w40_4, w40_5, w40_6, w40_8, w40_9, w40_10, w40_11, w40_12, w40_13, w40_14, w40_15, w40_16, w40_17, w40_18, w40_19, w40_20, w40_23, w40_24, w40_25, w40_28, zk_sI, zk_sP, zk_new, zn_sI, zn_sP, zn_new, zl_new, zl_sI, zl_sP, hl, hne, ha, if_true, if_false, zix, ziN]
  exact ⟨by omega, vp_in_nI (n := 0) (by decide) (by decide), vp_in_nI (n := 1) (by decide) (by decide), vp_in_nI (n := 2) (by decide) (by decide), trivial, trivial, h⟩
def fRos (M : zf_M) (a L : Nat) : zf_M := zf_sI (zf_sP (zf_new M (10, 96)) a 0 (some L)) a 1 0
theorem mk35 (hl : M.1.length = L) (hL : L < 1000) (ha : zf_k M a = 5) (haL : a < L) (h : Q none (fRos M a L)) : zC X 35 [.ref a] M Q := by
  have hne : (a = L) = False := eq_false (by omega)
  rw [c35]
  simp only [w35_0, w35_1, w35_4, w35_5, w35_7, w35_9, w35_12, w35_13, w35_14, w35_17, zk_sI, zk_sP, zk_new, zn_sI, zn_sP, zn_new, zl_new, zl_sI, zl_sP, hl, hne, ha, if_true, if_false, zix, ziN]
  exact ⟨by omega, trivial, trivial, h⟩
def fFray (M : zf_M) (a L : Nat) : zf_M := zf_sI (zf_sI (zf_sI (zf_sI (zf_sP (zf_new (zf_sP (zf_new (zf_sP (zf_new (zf_sP (zf_new (zf_sP (zf_new (zf_sP (zf_new (zf_sP (zf_new M (10, 6)) a 0 (some L)) (10, 6)) a 1 (some (L + 1))) (10, 6)) a 2 (some (L + 2))) (10, 6)) a 3 (some (L + 3))) (10, 6)) a 4 (some (L + 4))) (10, 6)) a 5 (some (L + 5))) (10, 6)) a 6 (some (L + 6))) a 7 0) a 8 1) a 9 0) a 10 (-1)
theorem mk6 (hl : M.1.length = L) (hL : L < 1000) (ha : zf_k M a = 2) (haL : a < L) (h : Q none (fFray M a L)) : zC X 6 [.ref a] M Q := by
  have hne : ∀ i, (a = L + i) = False := fun i => eq_false (by omega)
  have hne0 : (a = L) = False := eq_false (by omega)
  rw [c6]
  simp only [w6_0, w6_1, w6_4, w6_5, w6_7, w6_9, w6_12, w6_13, w6_15, w6_17, w6_20, w6_21, w6_23, w6_25, w6_28, w6_29, w6_31, w6_33, w6_36, w6_37, w6_39, w6_41, w6_44, w6_45, w6_47, w6_49, w6_52, w6_53, w6_55, w6_57, w6_60, w6_61, w6_62, w6_65, w6_66, w6_67, w6_70, w6_71, w6_72, w6_75, w6_76, w6_77, w6_80, zk_sI, zk_sP, zk_new, zn_sI, zn_sP, zn_new, zl_new, zl_sI, zl_sP, hl, hne, hne0, ha, if_true, if_false, zix, ziN, Nat.add_assoc, Nat.reduceAdd, true_and]
  exact ⟨by omega, by omega, by omega, by omega, by omega, by omega, by omega, h⟩
def fLay (M : zf_M) (a L : Nat) : zf_M := zf_sP (zf_new (zf_sP (zf_new (zf_sI (zf_sP (zf_new (zf_sP (zf_new M (11, 400)) a 0 (some L)) (11, 400)) a 1 (some (L + 1))) a 2 0) (10, 400)) a 3 (some (L + 2))) (10, 1024)) a 4 (some (L + 3))
theorem mk22 (hl : M.1.length = L) (hL : L < 1000) (ha : zf_k M a = 3) (haL : a < L) (h : Q none (fLay M a L)) : zC X 22 [.ref a] M Q := by
  have hne : ∀ i, (a = L + i) = False := fun i => eq_false (by omega)
  have hne0 : (a = L) = False := eq_false (by omega)
  rw [c22]
  simp only [w22_0, w22_1, w22_4, w22_5, w22_8, w22_10, w22_13, w22_14, w22_17, w22_19, w22_22, w22_23, w22_24, w22_27, w22_28, w22_31, w22_33, w22_36, w22_37, w22_40, w22_42, w22_45, zk_sI, zk_sP, zk_new, zn_sI, zn_sP, zn_new, zl_new, zl_sI, zl_sP, hl, hne, hne0, ha, if_true, if_false, zix, ziN, Nat.add_assoc, Nat.reduceAdd, true_and]
  exact ⟨by omega, by omega, by omega, by omega, h⟩
def fBout (M : zf_M) (a L : Nat) : zf_M := zf_sP (zf_sI (zf_sI (zf_sI (zf_sI (zf_sI (zf_sI (zf_new (zf_sI (zf_sI (zf_sI M a 0 0) a 1 0) a 2 0) (10, 6)) L 0 (-2)) L 1 (-2)) L 2 (-2)) L 3 (-2)) L 4 (-2)) L 5 (-2)) a 3 (some L)
theorem mk0 (hl : M.1.length = L) (hL : L < 1000) (ha : zf_k M a = 0) (haL : a < L) (h : Q none (fBout M a L)) : zC X 0 [.ref a] M Q := by
  have hne0 : (a = L) = False := eq_false (by omega)
  rw [c0]
  simp only [w0_0, w0_1, w0_4, w0_5, w0_6, w0_9, w0_10, w0_11, w0_14, w0_15, w0_16, w0_19, w0_20, w0_22, w0_24, w0_25, w0_26, w0_28, w0_29, w0_30, w0_31, w0_33, w0_34, w0_35, w0_36, w0_38, w0_39, w0_40, w0_41, w0_43, w0_44, w0_45, w0_46, w0_48, w0_49, w0_50, w0_51, w0_53, w0_54, w0_57, zk_sI, zk_sP, zk_new, zn_sI, zn_sP, zn_new, zl_new, zl_sI, zl_sP, hl, hne0, ha, if_true, if_false, zix, ziN, true_and]
  exact ⟨by omega, vp_in_nI (n := 0) (by decide) (by decide), vp_in_nI (n := 1) (by decide) (by decide), vp_in_nI (n := 2) (by decide) (by decide), vp_in_nI (n := 3) (by decide) (by decide), vp_in_nI (n := 4) (by decide) (by decide), vp_in_nI (n := 5) (by decide) (by decide), h⟩
def fShe (M : zf_M) (a L : Nat) : zf_M := zf_sI (zf_sI (zf_sI (zf_sP (zf_new M (10, 60)) a 0 (some L)) a 1 0) a 2 0) a 3 1
theorem mk43 (hl : M.1.length = L) (hL : L < 1000) (ha : zf_k M a = 7) (haL : a < L) (h : Q none (fShe M a L)) : zC X 43 [.ref a] M Q := by
  have hne0 : (a = L) = False := eq_false (by omega)
  rw [c43]
  simp only [w43_0, w43_1, w43_4, w43_5, w43_7, w43_9, w43_12, w43_13, w43_14, w43_17, w43_18, w43_19, w43_22, w43_23, w43_24, w43_27, zk_sI, zk_sP, zk_new, zn_sI, zn_sP, zn_new, zl_new, zl_sI, zl_sP, hl, hne0, ha, if_true, if_false, zix, ziN, true_and]
  exact ⟨by omega, Or.inr trivial, h⟩
/-! the memory, made -/
def Mz : zf_M := ([], fun _ _ => 0, fun _ _ => 0, fun _ _ => none)
def K0 : zf_M := zf_new Mz (8, 0)
def K1 : zf_M := zf_sP (fRos (zf_new K0 (5, 0)) 1 2) 0 0 (some 1)
def K2 : zf_M := zf_sP (zf_new K1 (13, 2)) 0 1 (some 3)
def K3 : zf_M := zf_sP (fFray (zf_new K2 (2, 0)) 4 5) 0 2 (some 4)
/-- the odds: up to the layers -/
def K3a : zf_M := zf_sP (zf_new (zf_sP (zf_new (zf_sP (zf_new (zf_sI (zf_sJ (zf_new K3 (4, 0)) 12 0 1) 12 1 0) (11, 3)) 12 2 (some 13)) (11, 7)) 12 3 (some 14)) (11, 384)) 12 4 (some 15)
def K3b : zf_M := zf_sP (fLay (zf_new K3a (3, 0)) 16 17) 12 5 (some 16)
def K3c : zf_M := zf_sJ (zf_sP (fLay (zf_new K3b (3, 0)) 21 22) 12 6 (some 21)) 12 7 1
def K4 : zf_M := zf_sP K3c 0 3 (some 12)
def K4a : zf_M := zf_sI (zf_sI (zf_sI (zf_sP (zf_new (zf_sP (zf_new (zf_sP (zf_new (zf_new K4 (1, 0)) (13, 6)) 26 0 (some 27)) (10, 6)) 26 1 (some 28)) (10, 6)) 26 2 (some 29)) 26 3 0) 26 4 1) 26 5 1
def kRow (M : zf_M) (b a j : Nat) : zf_M := zf_sP (fRow (zf_new M (6, 0)) a (a + 1)) b j (some a)
def kShe (M : zf_M) (b a j : Nat) : zf_M := zf_sP (fShe (zf_new M (7, 0)) a (a + 1)) b j (some a)
def K4b : zf_M := kRow (kRow (kRow (kRow (kRow (kRow K4a 27 30 0) 27 32 1) 27 34 2) 27 36 3) 27 38 4) 27 40 5
def K5 : zf_M := zf_sP K4b 0 4 (some 26)
def K6 : zf_M := zf_sP (zf_new K5 (10, 27)) 0 5 (some 42)
def K7 : zf_M := zf_sP (fBout (zf_new K6 (0, 0)) 43 44) 0 6 (some 43)
def K8 : zf_M := zf_sP (zf_new K7 (14, 4)) 0 7 (some 45)
def K9 : zf_M := zf_sI (zf_sI (zf_sI (zf_sI (zf_sI K8 0 8 3) 0 9 0) 0 10 (-1)) 0 11 0) 0 12 0
def K10 : zf_M := kRow (kRow K9 3 46 0) 3 48 1
def K11 : zf_M := kShe (kShe (kShe (kShe K10 45 50 0) 45 52 1) 45 54 2) 45 56 3
end ZIn

