/-! ===== what both keep ===== -/
def zat (B : Nat × (Nat → Nat)) (j : Nat) : Option Nat := if j < B.1 then some (B.2 j) else none
abbrev tA : Type := Nat × (Nat → Nat)
abbrev tB : Type := (Nat × (Nat → Nat)) × (Nat × (Nat → Nat))
abbrev tL : Type := Nat × Int32 × Int32
/-- how many fights, who stands in each, purse, bonus -/
abbrev tD : Type := Nat × (Nat → Nat × (Nat → Nat)) × Nat × Nat
abbrev tW : Type := Nat × (Nat → Int32)
abbrev tP : Type := (Int32 × Int32 × Int32) × (Nat → Int32)
/-- forms (less than 0: lost), sizes, items -/
abbrev tS : Type := (Nat → Int32) × (Nat → Nat) × (Nat → Nat → Int32)
abbrev tQ : Type := tA × tB × tL × tD × tW × tP × tS × Int32
def qA (q : tQ) : tA := q.1
def qB (q : tQ) : tB := q.2.1
def qL (q : tQ) : tL := q.2.2.1
def qD (q : tQ) : tD := q.2.2.2.1
def qW (q : tQ) : tW := q.2.2.2.2.1
def qP (q : tQ) : tP := q.2.2.2.2.2.1
def qS (q : tQ) : tS := q.2.2.2.2.2.2.1
def qF (q : tQ) : Int32 := q.2.2.2.2.2.2.2
def uA (q : tQ) (x : tA) : tQ := (x, qB q, qL q, qD q, qW q, qP q, qS q, qF q)
def uB (q : tQ) (x : tB) : tQ := (qA q, x, qL q, qD q, qW q, qP q, qS q, qF q)
def uL (q : tQ) (x : tL) : tQ := (qA q, qB q, x, qD q, qW q, qP q, qS q, qF q)
def uP (q : tQ) (x : tP) : tQ := (qA q, qB q, qL q, qD q, qW q, x, qS q, qF q)
def uS (q : tQ) (x : tS) : tQ := (qA q, qB q, qL q, qD q, qW q, qP q, x, qF q)
def uF (q : tQ) (x : Int32) : tQ := (qA q, qB q, qL q, qD q, qW q, qP q, qS q, x)
def vRow (n : Nat) (B : Nat × (Nat → Nat)) : Prop := B.1 ≤ 3 ∧ ∀ j, j < B.1 → B.2 j < n
/-- what such a state keeps -/
def vQ (q : tQ) : Prop := zNv (qA q).1 (qA q).2 ∧ (vRow (qA q).1 (qB q).1 ∧ vRow (qA q).1 (qB q).2) ∧ (1 ≤ (qL q).1 ∧ (qL q).1 ≤ 6) ∧ ((qD q).1 ≤ 6 ∧ (qD q).2.2.1 ≤ 6 ∧ (qD q).2.2.2 ≤ 9 ∧ ∀ f, f < (qD q).1 → vRow (qA q).1 ((qD q).2.1 f)) ∧ (qW q).1 ≤ 27 ∧ ∀ s, s < 4 → (qS q).2.1 s ≤ 60 ∧ (qS q).1 s ≤ 2
/-! in the class's memory -/
def cA (x : tA) (M : zf_M) : Prop := zf_I M 1 1 = nI x.1 ∧ ∀ i, i < 6 * x.1 → zf_I M 2 i = nI (x.2 i)
def cB (x : tB) (M : zf_M) : Prop := zf_I M 46 1 = nI x.1.1 ∧ zf_I M 48 1 = nI x.2.1 ∧ ∀ j, j < 3 → zf_I M 47 j = zvo (zat x.1 j) ∧ zf_I M 49 j = zvo (zat x.2 j)
def cL (x : tL) (M : zf_M) : Prop := zf_I M 0 8 = nI x.1 ∧ zf_I M 0 9 = x.2.1 ∧ zf_I M 0 10 = x.2.2
def cD (x : tD) (M : zf_M) : Prop := zf_I M 26 3 = nI x.1 ∧ zf_I M 26 4 = nI x.2.2.1 ∧ zf_I M 26 5 = nI x.2.2.2 ∧ ∀ f, f < x.1 → f < 6 → zf_I M (30 + 2 * f) 1 = nI (x.2.1 f).1 ∧ ∀ j, j < (x.2.1 f).1 → zf_I M (30 + 2 * f + 1) j = nI ((x.2.1 f).2 j)
def cW (x : tW) (M : zf_M) : Prop := zf_I M 0 11 = nI x.1 ∧ ∀ k, k < x.1 → zf_I M 42 k = x.2 k
def cP (x : tP) (M : zf_M) : Prop := zf_I M 43 0 = x.1.1 ∧ zf_I M 43 1 = x.1.2.1 ∧ zf_I M 43 2 = x.1.2.2 ∧ ∀ k, k < 6 → zf_I M 44 k = x.2 k
def cS (x : tS) (M : zf_M) : Prop := ∀ s, s < 4 → zf_I M (50 + 2 * s) 2 = nI (x.2.1 s) ∧ zf_I M (50 + 2 * s) 3 = zB (x.1 s < 0) ∧ (¬ x.1 s < 0 → zf_I M (50 + 2 * s) 1 = x.1 s) ∧ ∀ j, j < x.2.1 s → zf_I M (50 + 2 * s + 1) j = x.2.2 s j
def cF (x : Int32) (M : zf_M) : Prop := zf_I M 0 12 = x
/-! in the model's -/
/-! frames -/
section ZRl
variable {M M1 : zf_M}
theorem cA_fr {x : tA} (h : cA x M) (e : ∀ c j, c = 1 ∨ c = 2 → zf_I M1 c j = zf_I M c j) : cA x M1 := ⟨by rw [e 1 _ (by omega)]; exact h.1, fun i hi => by rw [e 2 _ (by omega)]; exact h.2 i hi⟩
theorem cB_fr {x : tB} (h : cB x M) (e : ∀ c j, 46 ≤ c ∧ c ≤ 49 → zf_I M1 c j = zf_I M c j) : cB x M1 := ⟨by rw [e 46 _ (by omega)]; exact h.1, by rw [e 48 _ (by omega)]; exact h.2.1, fun j hj => by rw [e 47 _ (by omega), e 49 _ (by omega)]; exact h.2.2 j hj⟩
theorem cL_fr {x : tL} (h : cL x M) (e : ∀ c j, c = 0 ∧ 8 ≤ j ∧ j ≤ 10 → zf_I M1 c j = zf_I M c j) : cL x M1 := ⟨by rw [e 0 _ (by omega)]; exact h.1, by rw [e 0 _ (by omega)]; exact h.2.1, by rw [e 0 _ (by omega)]; exact h.2.2⟩
theorem cD_fr {x : tD} (h : cD x M) (e : ∀ c j, c = 26 ∧ 3 ≤ j ∨ 30 ≤ c ∧ c ≤ 41 → zf_I M1 c j = zf_I M c j) : cD x M1 := ⟨by rw [e 26 _ (by omega)]; exact h.1, by rw [e 26 _ (by omega)]; exact h.2.1, by rw [e 26 _ (by omega)]; exact h.2.2.1, fun f hf hf6 => ⟨by rw [e _ _ (by omega)]; exact (h.2.2.2 f hf hf6).1, fun j hj => by rw [e _ _ (by omega)]; exact (h.2.2.2 f hf hf6).2 j hj⟩⟩
theorem cW_fr {x : tW} (h : cW x M) (e : ∀ c j, c = 0 ∧ j = 11 ∨ c = 42 → zf_I M1 c j = zf_I M c j) : cW x M1 := ⟨by rw [e 0 _ (by omega)]; exact h.1, fun k hk => by rw [e 42 _ (by omega)]; exact h.2 k hk⟩
theorem cP_fr {x : tP} (h : cP x M) (e : ∀ c j, 43 ≤ c ∧ c ≤ 44 → zf_I M1 c j = zf_I M c j) : cP x M1 := ⟨by rw [e 43 _ (by omega)]; exact h.1, by rw [e 43 _ (by omega)]; exact h.2.1, by rw [e 43 _ (by omega)]; exact h.2.2.1, fun k hk => by rw [e 44 _ (by omega)]; exact h.2.2.2 k hk⟩
theorem cS_fr {x : tS} (h : cS x M) (e : ∀ c j, 50 ≤ c ∧ c ≤ 57 → zf_I M1 c j = zf_I M c j) : cS x M1 := fun s hs => by
  rw [e _ 2 (by omega), e _ 3 (by omega), e _ 1 (by omega)]
  exact ⟨(h s hs).1, (h s hs).2.1, (h s hs).2.2.1, fun j hj => by rw [e _ _ (by omega)]; exact (h s hs).2.2.2 j hj⟩
theorem cF_fr {x : Int32} (h : cF x M) (e : ∀ c j, c = 0 ∧ j = 12 → zf_I M1 c j = zf_I M c j) : cF x M1 := (e 0 12 ⟨rfl, rfl⟩).trans h
def zKC (q : tQ) (M : zf_M) : Prop := zLO M ∧ cA (qA q) M ∧ cB (qB q) M ∧ cL (qL q) M ∧ cD (qD q) M ∧ cW (qW q) M ∧ cP (qP q) M ∧ cS (qS q) M ∧ cF (qF q) M
def kC (c j : Nat) : Prop := c ≤ 3 ∨ c = 26 ∧ 3 ≤ j ∨ 30 ≤ c ∧ c ≤ 57
theorem zKC_fr {q : tQ} (h : zKC q M) (hO : zLO M1) (e : ∀ c j, kC c j → (True) → zf_I M1 c j = zf_I M c j) : zKC q M1 := ⟨hO, cA_fr h.2.1 (fun c j k => e c j (by unfold kC; omega) trivial), cB_fr h.2.2.1 (fun c j k => e c j (by unfold kC; omega) trivial), cL_fr h.2.2.2.1 (fun c j k => e c j (by unfold kC; omega) trivial), cD_fr h.2.2.2.2.1 (fun c j k => e c j (by unfold kC; omega) trivial), cW_fr h.2.2.2.2.2.1 (fun c j k => e c j (by unfold kC; omega) trivial), cP_fr h.2.2.2.2.2.2.1 (fun c j k => e c j (by unfold kC; omega) trivial), cS_fr h.2.2.2.2.2.2.2.1 (fun c j k => e c j (by unfold kC; omega) trivial), cF_fr h.2.2.2.2.2.2.2.2 (fun c j k => e c j (by unfold kC; omega) trivial)⟩

theorem zKC_A {q : tQ} {x : tA} (h : zKC q M) (hO : zLO M1) (e : ∀ c j, kC c j → ¬ (c = 1 ∨ c = 2) → zf_I M1 c j = zf_I M c j) (hX : cA x M1) : zKC (uA q x) M1 := ⟨hO, hX, cB_fr h.2.2.1 (fun c j k => e c j (by unfold kC; omega) (by omega)), cL_fr h.2.2.2.1 (fun c j k => e c j (by unfold kC; omega) (by omega)), cD_fr h.2.2.2.2.1 (fun c j k => e c j (by unfold kC; omega) (by omega)), cW_fr h.2.2.2.2.2.1 (fun c j k => e c j (by unfold kC; omega) (by omega)), cP_fr h.2.2.2.2.2.2.1 (fun c j k => e c j (by unfold kC; omega) (by omega)), cS_fr h.2.2.2.2.2.2.2.1 (fun c j k => e c j (by unfold kC; omega) (by omega)), cF_fr h.2.2.2.2.2.2.2.2 (fun c j k => e c j (by unfold kC; omega) (by omega))⟩

theorem zKC_B {q : tQ} {x : tB} (h : zKC q M) (hO : zLO M1) (e : ∀ c j, kC c j → ¬ (46 ≤ c ∧ c ≤ 49) → zf_I M1 c j = zf_I M c j) (hX : cB x M1) : zKC (uB q x) M1 := ⟨hO, cA_fr h.2.1 (fun c j k => e c j (by unfold kC; omega) (by omega)), hX, cL_fr h.2.2.2.1 (fun c j k => e c j (by unfold kC; omega) (by omega)), cD_fr h.2.2.2.2.1 (fun c j k => e c j (by unfold kC; omega) (by omega)), cW_fr h.2.2.2.2.2.1 (fun c j k => e c j (by unfold kC; omega) (by omega)), cP_fr h.2.2.2.2.2.2.1 (fun c j k => e c j (by unfold kC; omega) (by omega)), cS_fr h.2.2.2.2.2.2.2.1 (fun c j k => e c j (by unfold kC; omega) (by omega)), cF_fr h.2.2.2.2.2.2.2.2 (fun c j k => e c j (by unfold kC; omega) (by omega))⟩

theorem zKC_L {q : tQ} {x : tL} (h : zKC q M) (hO : zLO M1) (e : ∀ c j, kC c j → ¬ (c = 0 ∧ 8 ≤ j ∧ j ≤ 10) → zf_I M1 c j = zf_I M c j) (hX : cL x M1) : zKC (uL q x) M1 := ⟨hO, cA_fr h.2.1 (fun c j k => e c j (by unfold kC; omega) (by omega)), cB_fr h.2.2.1 (fun c j k => e c j (by unfold kC; omega) (by omega)), hX, cD_fr h.2.2.2.2.1 (fun c j k => e c j (by unfold kC; omega) (by omega)), cW_fr h.2.2.2.2.2.1 (fun c j k => e c j (by unfold kC; omega) (by omega)), cP_fr h.2.2.2.2.2.2.1 (fun c j k => e c j (by unfold kC; omega) (by omega)), cS_fr h.2.2.2.2.2.2.2.1 (fun c j k => e c j (by unfold kC; omega) (by omega)), cF_fr h.2.2.2.2.2.2.2.2 (fun c j k => e c j (by unfold kC; omega) (by omega))⟩

theorem zKC_P {q : tQ} {x : tP} (h : zKC q M) (hO : zLO M1) (e : ∀ c j, kC c j → ¬ (43 ≤ c ∧ c ≤ 44) → zf_I M1 c j = zf_I M c j) (hX : cP x M1) : zKC (uP q x) M1 := ⟨hO, cA_fr h.2.1 (fun c j k => e c j (by unfold kC; omega) (by omega)), cB_fr h.2.2.1 (fun c j k => e c j (by unfold kC; omega) (by omega)), cL_fr h.2.2.2.1 (fun c j k => e c j (by unfold kC; omega) (by omega)), cD_fr h.2.2.2.2.1 (fun c j k => e c j (by unfold kC; omega) (by omega)), cW_fr h.2.2.2.2.2.1 (fun c j k => e c j (by unfold kC; omega) (by omega)), hX, cS_fr h.2.2.2.2.2.2.2.1 (fun c j k => e c j (by unfold kC; omega) (by omega)), cF_fr h.2.2.2.2.2.2.2.2 (fun c j k => e c j (by unfold kC; omega) (by omega))⟩

theorem zKC_S {q : tQ} {x : tS} (h : zKC q M) (hO : zLO M1) (e : ∀ c j, kC c j → ¬ (50 ≤ c ∧ c ≤ 57) → zf_I M1 c j = zf_I M c j) (hX : cS x M1) : zKC (uS q x) M1 := ⟨hO, cA_fr h.2.1 (fun c j k => e c j (by unfold kC; omega) (by omega)), cB_fr h.2.2.1 (fun c j k => e c j (by unfold kC; omega) (by omega)), cL_fr h.2.2.2.1 (fun c j k => e c j (by unfold kC; omega) (by omega)), cD_fr h.2.2.2.2.1 (fun c j k => e c j (by unfold kC; omega) (by omega)), cW_fr h.2.2.2.2.2.1 (fun c j k => e c j (by unfold kC; omega) (by omega)), cP_fr h.2.2.2.2.2.2.1 (fun c j k => e c j (by unfold kC; omega) (by omega)), hX, cF_fr h.2.2.2.2.2.2.2.2 (fun c j k => e c j (by unfold kC; omega) (by omega))⟩

theorem zKC_F {q : tQ} {x : Int32} (h : zKC q M) (hO : zLO M1) (e : ∀ c j, kC c j → ¬ (c = 0 ∧ j = 12) → zf_I M1 c j = zf_I M c j) (hX : cF x M1) : zKC (uF q x) M1 := ⟨hO, cA_fr h.2.1 (fun c j k => e c j (by unfold kC; omega) (by omega)), cB_fr h.2.2.1 (fun c j k => e c j (by unfold kC; omega) (by omega)), cL_fr h.2.2.2.1 (fun c j k => e c j (by unfold kC; omega) (by omega)), cD_fr h.2.2.2.2.1 (fun c j k => e c j (by unfold kC; omega) (by omega)), cW_fr h.2.2.2.2.2.1 (fun c j k => e c j (by unfold kC; omega) (by omega)), cP_fr h.2.2.2.2.2.2.1 (fun c j k => e c j (by unfold kC; omega) (by omega)), cS_fr h.2.2.2.2.2.2.2.1 (fun c j k => e c j (by unfold kC; omega) (by omega)), hX⟩

/-- the model's cells are as they were -/
def zUp (M M1 : zf_M) : Prop := zPk M1 ∧ ∀ c, 58 ≤ c → ∀ j, zf_I M1 c j = zf_I M c j
abbrev zDn (M M1 : zf_M) : Prop := zF (fun c => 58 ≤ c) M M1
theorem zUp_rf (h : zPk M) : zUp M M := ⟨h, fun _ _ _ => rfl⟩
theorem zUp_tr {M2 : zf_M} (h : zUp M M1) (h2 : zUp M1 M2) : zUp M M2 := ⟨h2.1, fun c hc j => (h2.2 c hc j).trans (h.2 c hc j)⟩
theorem zUp_F {S : Nat → Prop} (hP : zPk M) (h : zF S M M1) (hS : ∀ c, 58 ≤ c → ¬ S c) : zUp M M1 := ⟨zPk_F hP h, fun c hc j => (h.2.1 c (hS c hc) j).1⟩
theorem zUp_G {S : Nat → Prop} (hP : zPk M) (h : zG S M M1) (hS : ∀ c, 58 ≤ c → ¬ S c) : zUp M M1 := ⟨zPk_G hP h, fun c hc j => (h.2.1 c (hS c hc) j).1⟩
theorem zKC_dn {q : tQ} (h : zKC q M) (hd : zDn M M1) : zKC q M1 := zKC_fr h (zLO_F h.1 hd (fun c x y => by omega)) (fun c j k _ => (hd.2.1 c (by unfold kC at k; omega) j).1)
theorem zI_ne {a b i j : Nat} {v : Int32} (h : ¬ (b = a ∧ i = j)) : zf_I (zf_sI M a j v) b i = zf_I M b i := by
  rw [zI_sI]
  by_cases e : b = a
  · rw [if_pos e, if_neg (fun z => h ⟨e, z⟩)]
  · rw [if_neg e]
theorem zI_eq {a j : Nat} {v : Int32} : zf_I (zf_sI M a j v) a j = v := by rw [zI_sI, if_pos rfl, if_pos rfl]
end ZRl

