/-! ===== the law: the fights that are played ===== -/
theorem h_or {P A B : Prop} (h : P) (f : P → A) : A := f h
/-- what the law owes -/
def zEnd (v : Option Value) (M : zf_M) : Prop := v = some (.int 1) ∧ (M.1 = zSH ∨ M.1 = zSH ++ [zE])
/-- the ends that were counted -/
def yI (q : tQ) (c : Nat → Nat) (t : Nat) (M : zf_M) : Prop := (∀ e, e < 3 → zf_I M 59 e = nI (c e)) ∧ c 0 + c 1 + c 2 = t ∧ ∀ e, e < 3 → 0 < c e → 1 ≤ (yCn q).1 e
theorem yI_fr {q : tQ} {c : Nat → Nat} {t : Nat} {M M1 : zf_M} (h : yI q c t M) (e : ∀ j, zf_I M1 59 j = zf_I M 59 j) : yI q c t M1 := ⟨fun k hk => (e k).trans (h.1 k hk), h.2⟩
theorem yI_up {q : tQ} {c : Nat → Nat} {t e : Nat} {M : zf_M} (h : yI q c t M) (he : e < 3) (hw : 1 ≤ (yCn q).1 e) : yI q (fun k => if k = e then c k + 1 else c k) (t + 1) (zf_sI M 59 e (nI (c e + 1))) := by
  refine ⟨fun k hk => ?_, ?_, fun k hk h0 => ?_⟩
  · show zf_I (zf_sI M 59 e (nI (c e + 1))) 59 k = nI (if k = e then c k + 1 else c k)
    by_cases g : k = e
    · rw [g, zI_eq, if_pos rfl]
    · rw [zI_ne (fun z => g z.2), if_neg g]
      exact h.1 k hk
  · have h1 := h.2.1
    rcases (show e = 0 ∨ e = 1 ∨ e = 2 by omega) with rfl | rfl | rfl
    · show (c 0 + 1) + c 1 + c 2 = _
      omega
    · show c 0 + (c 1 + 1) + c 2 = _
      omega
    · show c 0 + c 1 + (c 2 + 1) = _
      omega
  · by_cases g : k = e
    · rw [g]
      exact hw
    · have h0 : 0 < if k = e then c k + 1 else c k := h0
      rw [if_neg g] at h0
      exact h.2.2 k hk h0
theorem yI_c {q : tQ} {c : Nat → Nat} {t e : Nat} {M : zf_M} (h : yI q c t M) (he : e < 3) : c e ≤ t := by
  have h1 := h.2.1
  rcases (show e = 0 ∨ e = 1 ∨ e = 2 by omega) with rfl | rfl | rfl <;> omega
theorem yFin {q : tQ} (h0 : yQ q) (hz : zrun (zpq q 0)) {c : Nat → Nat} {e : Nat} {M : zf_M} (h : yI q c 5 M) (he : e < 3) (ha : (yCn q).1 e = yAll q) : c e = 5 := by
  have hs := (yCn_s h0 hz).1
  have h1 := h.2.1
  have key : ∀ k, k < 3 → (yCn q).1 k = 0 → c k = 0 := by
    intro k hk hk0
    rcases Nat.eq_zero_or_pos (c k) with g | g
    · exact g
    · have := h.2.2 k hk g
      omega
  have k0 := key 0 (by decide)
  have k1 := key 1 (by decide)
  have k2 := key 2 (by decide)
  rcases (show e = 0 ∨ e = 1 ∨ e = 2 by omega) with rfl | rfl | rfl
  · have := k1 (by omega)
    have := k2 (by omega)
    omega
  · have := k0 (by omega)
    have := k2 (by omega)
    omega
  · have := k0 (by omega)
    have := k1 (by omega)
    omega
section YLa
variable {X : zf_X} {q : tQ} {l3 l4 : Slot}
/-- the end of the law -/
theorem law_D (h0 : yQ q) (hz : zrun (zpq q 0)) {q1 : tQ} {M : zf_M} {c : Nat → Nat} {l14 l15 l16 l17 l18 l19 : Slot} (hB : zRB q1 M) (hG : yG q q1) (hI : yI q c 5 M) : zW X 1000 602 [.val (.ref 1000002), .val (.ref 0), .val (.ref 58), l3, l4, .val (.int (nI (qL q).1)), .val (.long (lN ((yCn q).1 0))), .second, .val (.long (lN ((yCn q).1 1))), .second, .val (.long (lN ((yCn q).1 2))), .second, .val (.ref 59), .val (.int (nI 5)), l14, l15, l16, l17, l18, l19] [] M zEnd := by
  have hs := (yCn_s h0 hz).1
  have hb := yAll_b h0
  have hall := aAll_e hG hz
  have b59 : zf_fx X 59 = none := rfl
  have e0 : (lN ((yCn q).1 0) = lN (yAll q)) = ((yCn q).1 0 = yAll q) := propext (pk_lEQ (by omega) (by omega))
  have e1 : (lN ((yCn q).1 1) = lN (yAll q)) = ((yCn q).1 1 = yAll q) := propext (pk_lEQ (by omega) (by omega))
  have e2 : (lN ((yCn q).1 2) = lN (yAll q)) = ((yCn q).1 2 = yAll q) := propext (pk_lEQ (by omega) (by omega))
  have i0 : vp_in (0 : Int32) 3 = True := n_in (show 0 < 3 by decide) (by decide)
  have i1 : vp_in (1 : Int32) 3 = True := n_in (show 1 < 3 by decide) (by decide)
  have i2 : vp_in (2 : Int32) 3 = True := n_in (show 2 < 3 by decide) (by decide)
  have j0 : (0 : Int32).toNatClampNeg = 0 := rfl
  have j1 : (1 : Int32).toNatClampNeg = 1 := rfl
  have j2 : (2 : Int32).toNatClampNeg = 2 := rfl
  have k656 : ∀ M, zRB q1 M → yI q c 5 M → zW X 1000 656 [.val (.ref 1000002), .val (.ref 0), .val (.ref 58), l3, l4, .val (.int (nI (qL q).1)), .val (.long (lN ((yCn q).1 0))), .second, .val (.long (lN ((yCn q).1 1))), .second, .val (.long (lN ((yCn q).1 2))), .second, .val (.ref 59), .val (.int (nI 5)), l14, l15, l16, l17, l18, l19] [] M zEnd := by
    intro M hB hI
    simp only [w1000_656, w1000_657, w1000_660, w1000_661, zk_sI, zk_sJ, zk_sP, zn_sI, zn_sJ, zn_sP, zI_sI, zI_sJ, zI_sP, zJ_sI, zJ_sJ, zJ_sP, zP_sI, zP_sJ, zP_sP, Option.toList_some, Option.toList_none, List.cons_append, List.nil_append]
    exact ⟨rfl, rfl, Or.inr (zRB_n hB).2⟩
  have k638 : ∀ M, zRB q1 M → yI q c 5 M → zW X 1000 638 [.val (.ref 1000002), .val (.ref 0), .val (.ref 58), l3, l4, .val (.int (nI (qL q).1)), .val (.long (lN ((yCn q).1 0))), .second, .val (.long (lN ((yCn q).1 1))), .second, .val (.long (lN ((yCn q).1 2))), .second, .val (.ref 59), .val (.int (nI 5)), l14, l15, l16, l17, l18, l19] [] M zEnd := by
    intro M hB hI
    simp only [w1000_638, w1000_640, w1000_641, zk_sI, zk_sJ, zk_sP, zn_sI, zn_sJ, zn_sP, zI_sI, zI_sJ, zI_sP, zJ_sI, zJ_sJ, zJ_sP, zP_sI, zP_sJ, zP_sP, Option.toList_some, Option.toList_none, List.cons_append, List.nil_append]
    refine ⟨zRB_k hB, D57 hB (fun M1 hB1 hu => ?_)⟩
    have hI1 := yI_fr hI hu
    rw [hall]
    simp only [w1000_644, w1000_645, w1000_648, w1000_650, w1000_651, w1000_652, w1000_653, zk_sI, zk_sJ, zk_sP, zn_sI, zn_sJ, zn_sP, zI_sI, zI_sJ, zI_sP, zJ_sI, zJ_sJ, zJ_sP, zP_sI, zP_sJ, zP_sP, Option.toList_some, Option.toList_none, List.cons_append, List.nil_append, lc_eq, e2, w1000_651 b59, zix, (zRB_n hB1).1, i2, j2, hI1.1 2 (by decide), true_and]
    refine ⟨fun _ => k656 M1 hB1 hI1, fun z => ⟨fun z2 => absurd ?_ z2, fun _ => k656 M1 hB1 hI1⟩⟩
    rw [yFin h0 hz hI1 (by decide) (Classical.not_not.mp z)]
    rfl
  have k620 : ∀ M, zRB q1 M → yI q c 5 M → zW X 1000 620 [.val (.ref 1000002), .val (.ref 0), .val (.ref 58), l3, l4, .val (.int (nI (qL q).1)), .val (.long (lN ((yCn q).1 0))), .second, .val (.long (lN ((yCn q).1 1))), .second, .val (.long (lN ((yCn q).1 2))), .second, .val (.ref 59), .val (.int (nI 5)), l14, l15, l16, l17, l18, l19] [] M zEnd := by
    intro M hB hI
    simp only [w1000_620, w1000_622, w1000_623, zk_sI, zk_sJ, zk_sP, zn_sI, zn_sJ, zn_sP, zI_sI, zI_sJ, zI_sP, zJ_sI, zJ_sJ, zJ_sP, zP_sI, zP_sJ, zP_sP, Option.toList_some, Option.toList_none, List.cons_append, List.nil_append]
    refine ⟨zRB_k hB, D57 hB (fun M1 hB1 hu => ?_)⟩
    have hI1 := yI_fr hI hu
    rw [hall]
    simp only [w1000_626, w1000_627, w1000_630, w1000_632, w1000_633, w1000_634, w1000_635, zk_sI, zk_sJ, zk_sP, zn_sI, zn_sJ, zn_sP, zI_sI, zI_sJ, zI_sP, zJ_sI, zJ_sJ, zJ_sP, zP_sI, zP_sJ, zP_sP, Option.toList_some, Option.toList_none, List.cons_append, List.nil_append, lc_eq, e1, w1000_633 b59, zix, (zRB_n hB1).1, i1, j1, hI1.1 1 (by decide), true_and]
    refine ⟨fun _ => k638 M1 hB1 hI1, fun z => ⟨fun z2 => absurd ?_ z2, fun _ => k638 M1 hB1 hI1⟩⟩
    rw [yFin h0 hz hI1 (by decide) (Classical.not_not.mp z)]
    rfl
  simp only [w1000_602, w1000_604, w1000_605, zk_sI, zk_sJ, zk_sP, zn_sI, zn_sJ, zn_sP, zI_sI, zI_sJ, zI_sP, zJ_sI, zJ_sJ, zJ_sP, zP_sI, zP_sJ, zP_sP, Option.toList_some, Option.toList_none, List.cons_append, List.nil_append]
  refine ⟨zRB_k hB, D57 hB (fun M1 hB1 hu => ?_)⟩
  have hI1 := yI_fr hI hu
  rw [hall]
  simp only [w1000_608, w1000_609, w1000_612, w1000_614, w1000_615, w1000_616, w1000_617, zk_sI, zk_sJ, zk_sP, zn_sI, zn_sJ, zn_sP, zI_sI, zI_sJ, zI_sP, zJ_sI, zJ_sJ, zJ_sP, zP_sI, zP_sJ, zP_sP, Option.toList_some, Option.toList_none, List.cons_append, List.nil_append, lc_eq, e0, w1000_615 b59, zix, (zRB_n hB1).1, i0, j0, hI1.1 0 (by decide), true_and]
  refine ⟨fun _ => k620 M1 hB1 hI1, fun z => ⟨fun z2 => absurd ?_ z2, fun _ => k620 M1 hB1 hI1⟩⟩
  rw [yFin h0 hz hI1 (by decide) (Classical.not_not.mp z)]
  rfl
/-- the lives that are left -/
theorem law_side (h0 : yQ q) (hz : zrun (zpq q 0)) {q2 : tQ} {M0 : zf_M} {N e u R t : Nat} {l14 l15 l16 : Slot} (ht : t < 5) (hG : yG q q2) (hP : qP q2 = ((nI e, nI u, nI R), zlv q N)) (hN : zV (zpq q 0) N ∧ yU N) (hH : yH (zpq q 0) (yCn q) N e R)
    (nxt : ∀ (M1 : zf_M) (l17 l18 l19 : Slot), zRB q2 M1 → (∀ j, zf_I M1 59 j = zf_I M0 59 j) → zW X 1000 596 [.val (.ref 1000002), .val (.ref 0), .val (.ref 58), l3, l4, .val (.int (nI (qL q).1)), .val (.long (lN ((yCn q).1 0))), .second, .val (.long (lN ((yCn q).1 1))), .second, .val (.long (lN ((yCn q).1 2))), .second, .val (.ref 59), .val (.int (nI t)), l14, l15, l16, l17, l18, l19] [] M1 zEnd) :
    ∀ (m s : Nat) (M : zf_M) (l18 l19 : Slot), s + m = 2 → zRB q2 M → (∀ j, zf_I M 59 j = zf_I M0 59 j) → zW X 1000 492 [.val (.ref 1000002), .val (.ref 0), .val (.ref 58), l3, l4, .val (.int (nI (qL q).1)), .val (.long (lN ((yCn q).1 0))), .second, .val (.long (lN ((yCn q).1 1))), .second, .val (.long (lN ((yCn q).1 2))), .second, .val (.ref 59), .val (.int (nI t)), l14, l15, l16, .val (.int (nI s)), l18, l19] [] M zEnd := by
  intro m
  induction m with
  | zero =>
    intro s M l18 l19 hs hB hu
    obtain rfl : s = 2 := by omega
    rw [w1000_492]
    simp only [w1000_494, w1000_495, zk_sI, zk_sJ, zk_sP, zn_sI, zn_sJ, zn_sP, zI_sI, zI_sJ, zI_sP, zJ_sI, zJ_sJ, zJ_sP, zP_sI, zP_sJ, zP_sP, Option.toList_some, Option.toList_none, List.cons_append, List.nil_append]
    exact ⟨fun _ => nxt M _ _ _ hB hu, fun z => absurd (by decide) z⟩
  | succ m ih =>
    intro s M l18 l19 hs hB hu
    have hs2 : s < 2 := by omega
    have k590 : ∀ (M1 : zf_M) (l18 l19 : Slot), zRB q2 M1 → (∀ j, zf_I M1 59 j = zf_I M0 59 j) → zW X 1000 590 [.val (.ref 1000002), .val (.ref 0), .val (.ref 58), l3, l4, .val (.int (nI (qL q).1)), .val (.long (lN ((yCn q).1 0))), .second, .val (.long (lN ((yCn q).1 1))), .second, .val (.long (lN ((yCn q).1 2))), .second, .val (.ref 59), .val (.int (nI t)), l14, l15, l16, .val (.int (nI s)), l18, l19] [] M1 zEnd := by
      intro M1 l18 l19 hB1 hu1
      simp only [w1000_590, w1000_593, zk_sI, zk_sJ, zk_sP, zn_sI, zn_sJ, zn_sP, zI_sI, zI_sJ, zI_sP, zJ_sI, zJ_sJ, zJ_sP, zP_sI, zP_sJ, zP_sP, Option.toList_some, Option.toList_none, List.cons_append, List.nil_append, n_a1]
      exact ih (s + 1) M1 _ _ (by omega) hB1 hu1
    have g2 : ¬ (2 : Int32) ≤ nI s := by
      have e : ((2 : Int32) ≤ nI s) = (2 ≤ s) := n_le (a := 2) (by decide) (by omega)
      rw [e]
      omega
    rw [w1000_492]
    simp only [w1000_494, w1000_495, w1000_498, w1000_499, zk_sI, zk_sJ, zk_sP, zn_sI, zn_sJ, zn_sP, zI_sI, zI_sJ, zI_sP, zJ_sI, zJ_sJ, zJ_sP, zP_sI, zP_sJ, zP_sP, Option.toList_some, Option.toList_none, List.cons_append, List.nil_append]
    refine ⟨fun z => absurd z g2, fun _ => ?_⟩
    rw [w1000_501]
    simp only [w1000_503, w1000_504, w1000_507, w1000_509, w1000_510, zk_sI, zk_sJ, zk_sP, zn_sI, zn_sJ, zn_sP, zI_sI, zI_sJ, zI_sP, zJ_sI, zJ_sJ, zJ_sP, zP_sI, zP_sJ, zP_sP, Option.toList_some, Option.toList_none, List.cons_append, List.nil_append]
    refine ⟨fun z => absurd z (by decide), fun _ => ⟨fun _ => k590 M _ _ hB hu, fun _ => ?_⟩⟩
    have k584 : ∀ (M1 : zf_M) (l19 : Slot), zRB q2 M1 → (∀ j, zf_I M1 59 j = zf_I M0 59 j) → zW X 1000 584 [.val (.ref 1000002), .val (.ref 0), .val (.ref 58), l3, l4, .val (.int (nI (qL q).1)), .val (.long (lN ((yCn q).1 0))), .second, .val (.long (lN ((yCn q).1 1))), .second, .val (.long (lN ((yCn q).1 2))), .second, .val (.ref 59), .val (.int (nI t)), l14, l15, l16, .val (.int (nI s)), .val (.int 0), l19] [] M1 zEnd := by
      intro M1 l19 hB1 hu1
      simp only [w1000_584, w1000_587, zk_sI, zk_sJ, zk_sP, zn_sI, zn_sJ, zn_sP, zI_sI, zI_sJ, zI_sP, zJ_sI, zJ_sJ, zJ_sP, zP_sI, zP_sJ, zP_sP, Option.toList_some, Option.toList_none, List.cons_append, List.nil_append]
      rw [w1000_501]
      simp only [w1000_503, w1000_504, zk_sI, zk_sJ, zk_sP, zn_sI, zn_sJ, zn_sP, zI_sI, zI_sJ, zI_sP, zJ_sI, zJ_sJ, zJ_sP, zP_sI, zP_sJ, zP_sP, Option.toList_some, Option.toList_none, List.cons_append, List.nil_append]
      exact ⟨fun _ => k590 M1 _ _ hB1 hu1, fun z => absurd (by decide) z⟩
    obtain ⟨l, hl, w1, w2, w3⟩ := yLife h0 hz hs2 hN hH
    have hA := (yA_b h0 hz).2
    have hA0 := hA (64 * (3 * s) + l + 32 * 0)
    have hA1 := hA (64 * (3 * s) + l + 32 * 1)
    have hb := yAll_b h0
    have ea0 : aLeft q2 (nI s) 0 (nI l) 0 = lN ((yCn q).2.2 (64 * (3 * s) + l + 32 * 0)) := aLeft_e (u := 0) h0 hG hz hs2 hl (by decide)
    have ea1 : aLeft q2 (nI s) 0 (nI l) 1 = lN ((yCn q).2.2 (64 * (3 * s) + l + 32 * 1)) := aLeft_e (u := 1) h0 hG hz hs2 hl (by decide)
    have ep : aPl q2 (nI (10 + 3 * s)) = nI l := by
      rw [aPl_k (k := 3 * s) (by omega), hP]
      exact w1
    have e3 : (3 : Int32) * nI s = nI (3 * s) := pk_mul 3 s
    have e10 : (10 : Int32) + nI (3 * s) = nI (10 + 3 * s) := by rw [show (10 : Int32) = nI 10 from rfl, nI_add]
    have e00 : nI (10 + 3 * s) + 0 = nI (10 + 3 * s) := nI_add _ 0
    simp only [w1000_513, w1000_514, w1000_516, w1000_517, w1000_519, w1000_520, w1000_521, w1000_523, w1000_524, zk_sI, zk_sJ, zk_sP, zn_sI, zn_sJ, zn_sP, zI_sI, zI_sJ, zI_sP, zJ_sI, zJ_sJ, zJ_sP, zP_sI, zP_sJ, zP_sP, Option.toList_some, Option.toList_none, List.cons_append, List.nil_append, e3, e10, e00]
    refine ⟨zRB_k hB, D75 hB (fun M1 hB1 hu1 => ?_)⟩
    rw [ep]
    simp only [w1000_527, w1000_529, w1000_531, w1000_534, w1000_535, w1000_537, w1000_539, w1000_541, w1000_542, zk_sI, zk_sJ, zk_sP, zn_sI, zn_sJ, zn_sP, zI_sI, zI_sJ, zI_sP, zJ_sI, zJ_sJ, zJ_sP, zP_sI, zP_sJ, zP_sP, Option.toList_some, Option.toList_none, List.cons_append, List.nil_append]
    refine ⟨fun z => absurd z (nI_pos (by omega)), fun _ => ⟨zRB_k hB1, D60 hB1 (fun M2 hB2 hu2 => ?_)⟩⟩
    rw [ea0]
    simp only [w1000_545, w1000_546, w1000_548, w1000_550, w1000_552, w1000_553, zk_sI, zk_sJ, zk_sP, zn_sI, zn_sJ, zn_sP, zI_sI, zI_sJ, zI_sP, zJ_sI, zJ_sJ, zJ_sP, zP_sI, zP_sJ, zP_sP, Option.toList_some, Option.toList_none, List.cons_append, List.nil_append]
    refine ⟨zRB_k hB2, D60 hB2 (fun M3 hB3 hu3 => ?_)⟩
    rw [ea1]
    have f3 : ∀ j, zf_I M3 59 j = zf_I M0 59 j := fun j => (hu3 j).trans ((hu2 j).trans ((hu1 j).trans (hu j)))
    have es : (lN ((yCn q).2.2 (64 * (3 * s) + l + 32 * 0) + (yCn q).2.2 (64 * (3 * s) + l + 32 * 1)) < 1) = ((yCn q).2.2 (64 * (3 * s) + l + 32 * 0) + (yCn q).2.2 (64 * (3 * s) + l + 32 * 1) < 1) := propext (pk_lLT (b := 1) (by omega) (by decide))
    simp only [w1000_556, w1000_557, w1000_558, w1000_559, w1000_562, w1000_564, w1000_567, w1000_568, w1000_570, w1000_572, w1000_573, w1000_574, zk_sI, zk_sJ, zk_sP, zn_sI, zn_sJ, zn_sP, zI_sI, zI_sJ, zI_sP, zJ_sI, zJ_sJ, zJ_sP, zP_sI, zP_sJ, zP_sP, Option.toList_some, Option.toList_none, List.cons_append, List.nil_append, lN_add, lc_lt, es]
    refine ⟨fun z => by omega, fun _ => ⟨fun _ => k584 M3 _ hB3 f3, fun z => ?_⟩⟩
    have hl0 : l = 0 := by
      have z := Classical.not_not.mp z
      have e : (nI l = 0) = (l = 0) := n_eq (b := 0) (by omega) (by decide)
      rw [e] at z
      exact z
    subst hl0
    have ec : aLeft q2 (nI s) 0 0 0 = lN ((yCn q).2.2 (64 * (3 * s) + 0 + 32 * 0)) := ea0
    refine ⟨zRB_k hB3, D60 hB3 (fun M4 hB4 hu4 => ?_)⟩
    rw [ec]
    have eg : ((1 : Int64) ≤ lN ((yCn q).2.2 (64 * (3 * s) + 0 + 32 * 0))) = (1 ≤ (yCn q).2.2 (64 * (3 * s) + 0 + 32 * 0)) := propext (pk_lLE (a := 1) (by decide) (by omega))
    simp only [w1000_577, w1000_578, w1000_579, zk_sI, zk_sJ, zk_sP, zn_sI, zn_sJ, zn_sP, zI_sI, zI_sJ, zI_sP, zJ_sI, zJ_sJ, zJ_sP, zP_sI, zP_sJ, zP_sP, Option.toList_some, Option.toList_none, List.cons_append, List.nil_append, lc_ge, eg]
    exact ⟨fun _ => k584 M4 _ hB4 (fun j => (hu4 j).trans (f3 j)), fun z => absurd (w3 rfl) z⟩
/-- a fight is played -/
theorem law_play (h0 : yQ q) (hz : zrun (zpq q 0)) {q1 : tQ} {M : zf_M} {c : Nat → Nat} {t : Nat} {l14 l15 l16 l17 l18 l19 : Slot} (ht : t < 5) (hB : zRB q1 M) (hG : yG q q1) (hT : yT24 q1) (hI : yI q c t M)
    (nxt : ∀ (q2 : tQ) (M1 : zf_M) (c1 : Nat → Nat) (l14 l15 l16 l17 l18 l19 : Slot), zRB q2 M1 → yG q q2 → yI q c1 (t + 1) M1 → zW X 1000 291 [.val (.ref 1000002), .val (.ref 0), .val (.ref 58), l3, l4, .val (.int (nI (qL q).1)), .val (.long (lN ((yCn q).1 0))), .second, .val (.long (lN ((yCn q).1 1))), .second, .val (.long (lN ((yCn q).1 2))), .second, .val (.ref 59), .val (.int (nI (t + 1))), l14, l15, l16, l17, l18, l19] [] M1 zEnd) : zW X 1000 365 [.val (.ref 1000002), .val (.ref 0), .val (.ref 58), l3, l4, .val (.int (nI (qL q).1)), .val (.long (lN ((yCn q).1 0))), .second, .val (.long (lN ((yCn q).1 1))), .second, .val (.long (lN ((yCn q).1 2))), .second, .val (.ref 59), .val (.int (nI t)), l14, l15, l16, l17, l18, l19] [] M zEnd := by
  obtain ⟨N, u, R, p1, p2, p3, p4, p5, p6, p7, p8⟩ := yPlay h0 hz hG hT
  have he2 := (yzw N).2
  generalize ye N = e at p1 p3 p8 he2
  have hs16 : aSlots q ≤ 16 := by
    rw [ySl h0.1]
    exact yS16 h0
  have hr4 := h0.2.2.2
  have hb := yAll_b h0
  have hsum := (yCn_s h0 hz).1
  have hA1 := (yA_b h0 hz).1 R
  simp only [w1000_365, w1000_366, w1000_367, zk_sI, zk_sJ, zk_sP, zn_sI, zn_sJ, zn_sP, zI_sI, zI_sJ, zI_sP, zJ_sI, zJ_sJ, zJ_sP, zP_sI, zP_sJ, zP_sP, Option.toList_some, Option.toList_none, List.cons_append, List.nil_append]
  refine ⟨zRB_k hB, D74 hB (fun M1 hB1 hu1 => ?_)⟩
  rw [p1]
  generalize nPlay q1 0 = q2 at p2 p3 hB1
  have a0 : aPl q2 0 = nI e := by rw [aPl_0, p3]
  have a1 : aPl q2 1 = nI u := by rw [aPl_1, p3]
  have a2 : aPl q2 2 = nI R := by rw [aPl_2, p3]
  simp only [w1000_370, w1000_372, w1000_374, w1000_377, w1000_379, w1000_380, w1000_383, w1000_384, w1000_385, zk_sI, zk_sJ, zk_sP, zn_sI, zn_sJ, zn_sP, zI_sI, zI_sJ, zI_sP, zJ_sI, zJ_sJ, zJ_sP, zP_sI, zP_sJ, zP_sP, Option.toList_some, Option.toList_none, List.cons_append, List.nil_append]
  have g2 : ¬ (2 : Int32) < nI e := by
    have g : ((2 : Int32) < nI e) = (2 < e) := n_lt (a := 2) (by decide) (by omega)
    rw [g]
    omega
  refine ⟨fun z => absurd z (nI_pos (by omega)), fun _ => ⟨fun z => absurd z g2, fun _ => ⟨zRB_k hB1, D75 hB1 (fun M2 hB2 hu2 => ?_)⟩⟩⟩
  rw [a0]
  simp only [w1000_388, w1000_390, w1000_393, w1000_394, w1000_395, zk_sI, zk_sJ, zk_sP, zn_sI, zn_sJ, zn_sP, zI_sI, zI_sJ, zI_sP, zJ_sI, zJ_sJ, zJ_sP, zP_sI, zP_sJ, zP_sP, Option.toList_some, Option.toList_none, List.cons_append, List.nil_append]
  refine ⟨fun z => absurd trivial z, fun _ => ⟨zRB_k hB2, D75 hB2 (fun M3 hB3 hu3 => ?_)⟩⟩
  rw [a1]
  simp only [w1000_398, w1000_399, zk_sI, zk_sJ, zk_sP, zn_sI, zn_sJ, zn_sP, zI_sI, zI_sJ, zI_sP, zJ_sI, zJ_sJ, zJ_sP, zP_sI, zP_sJ, zP_sP, Option.toList_some, Option.toList_none, List.cons_append, List.nil_append]
  refine ⟨zRB_k hB3, D56 hB3 (fun M4 hB4 hu4 => ?_)⟩
  rw [aSlots_e p2]
  simp only [w1000_402, w1000_405, w1000_406, w1000_407, zk_sI, zk_sJ, zk_sP, zn_sI, zn_sJ, zn_sP, zI_sI, zI_sJ, zI_sP, zJ_sI, zJ_sJ, zJ_sP, zP_sI, zP_sJ, zP_sP, Option.toList_some, Option.toList_none, List.cons_append, List.nil_append]
  refine ⟨fun z => ?_, fun _ => ⟨zRB_k hB4, D75 hB4 (fun M5 hB5 hu5 => ?_)⟩⟩
  · rw [n_lt (by omega) (by omega)] at z
    omega
  rw [a2]
  simp only [w1000_410, w1000_411, w1000_414, w1000_415, w1000_416, zk_sI, zk_sJ, zk_sP, zn_sI, zn_sJ, zn_sP, zI_sI, zI_sJ, zI_sP, zJ_sI, zJ_sJ, zJ_sP, zP_sI, zP_sJ, zP_sP, Option.toList_some, Option.toList_none, List.cons_append, List.nil_append]
  refine ⟨fun z => ?_, fun _ => ⟨zRB_k hB5, D75 hB5 (fun M6 hB6 hu6 => ?_)⟩⟩
  · have g : (nI R < 1) = (R < 1) := n_lt (b := 1) (by omega) (by decide)
    rw [g] at z
    omega
  rw [a2]
  simp only [w1000_419, w1000_421, zk_sI, zk_sJ, zk_sP, zn_sI, zn_sJ, zn_sP, zI_sI, zI_sJ, zI_sP, zJ_sI, zJ_sJ, zJ_sP, zP_sI, zP_sJ, zP_sP, Option.toList_some, Option.toList_none, List.cons_append, List.nil_append]
  refine ⟨fun _ => ?_, fun z => absurd (by rw [n_le (by omega) (by omega)]; exact p6) z⟩
  have b59 : zf_fx X 59 = none := rfl
  have f6 : ∀ j, zf_I M6 59 j = zf_I M 59 j := fun j => (hu6 j).trans ((hu5 j).trans ((hu4 j).trans ((hu3 j).trans ((hu2 j).trans (hu1 j)))))
  have hI6 := yI_fr hI f6
  have hc := yI_c hI6 (show e < 3 by omega)
  simp only [w1000_426, w1000_428, w1000_430, w1000_431, w1000_432, w1000_433, w1000_434, w1000_435, w1000_437, zk_sI, zk_sJ, zk_sP, zn_sI, zn_sJ, zn_sP, zI_sI, zI_sJ, zI_sP, zJ_sI, zJ_sJ, zJ_sP, zP_sI, zP_sJ, zP_sP, Option.toList_some, Option.toList_none, List.cons_append, List.nil_append, w1000_431 b59, zix, (zRB_n hB6).1, n_cl (show e < 2 ^ 31 by omega), n_in (show e < 3 by omega) (show 3 < 2 ^ 31 by decide), hI6.1 e (by omega), n_a1, true_and]
  have hI7 := yI_up hI6 (show e < 3 by omega) p8.1
  have hB7 : zRB q2 (zf_sI M6 59 e (nI (c e + 1))) := zRB_59 hB6
  generalize zf_sI M6 59 e (nI (c e + 1)) = M7 at hI7 hB7 ⊢
  generalize (fun k => if k = e then c k + 1 else c k) = c7 at hI7
  have hAe : (yCn q).1 e ≤ yAll q := by
    rcases (show e = 0 ∨ e = 1 ∨ e = 2 by omega) with rfl | rfl | rfl <;> omega
  have k489 : ∀ (M8 : zf_M), zRB q2 M8 → (∀ j, zf_I M8 59 j = zf_I M7 59 j) → zW X 1000 489 [.val (.ref 1000002), .val (.ref 0), .val (.ref 58), l3, l4, .val (.int (nI (qL q).1)), .val (.long (lN ((yCn q).1 0))), .second, .val (.long (lN ((yCn q).1 1))), .second, .val (.long (lN ((yCn q).1 2))), .second, .val (.ref 59), .val (.int (nI t)), .val (.int (nI e)), .val (.long (lN ((yCn q).1 e))), .second, l17, l18, l19] [] M8 zEnd := by
    intro M8 hB8 hu8
    simp only [w1000_489, w1000_490, zk_sI, zk_sJ, zk_sP, zn_sI, zn_sJ, zn_sP, zI_sI, zI_sJ, zI_sP, zJ_sI, zJ_sJ, zJ_sP, zP_sI, zP_sJ, zP_sP, Option.toList_some, Option.toList_none, List.cons_append, List.nil_append]
    refine law_side h0 hz (M0 := M8) ht p2 p3 p7 p8 (fun M9 l17 l18 l19 hB9 hu9 => ?_) 2 0 M8 _ _ rfl hB8 (fun _ => rfl)
    simp only [w1000_596, w1000_599, zk_sI, zk_sJ, zk_sP, zn_sI, zn_sJ, zn_sP, zI_sI, zI_sJ, zI_sP, zJ_sI, zJ_sJ, zJ_sP, zP_sI, zP_sJ, zP_sP, Option.toList_some, Option.toList_none, List.cons_append, List.nil_append, n_a1]
    exact nxt q2 M9 c7 _ _ _ _ _ _ hB9 p2 (yI_fr hI7 (fun j => (hu9 j).trans (hu8 j)))
  have k458 : zW X 1000 458 [.val (.ref 1000002), .val (.ref 0), .val (.ref 58), l3, l4, .val (.int (nI (qL q).1)), .val (.long (lN ((yCn q).1 0))), .second, .val (.long (lN ((yCn q).1 1))), .second, .val (.long (lN ((yCn q).1 2))), .second, .val (.ref 59), .val (.int (nI t)), .val (.int (nI e)), l15, l16, l17, l18, l19] [.long (lN ((yCn q).1 e))] M7 zEnd := by
    have g1 : (lN ((yCn q).1 e) < 1) = ((yCn q).1 e < 1) := propext (pk_lLT (b := 1) (by omega) (by decide))
    have p81 := p8.1
    simp only [w1000_458, w1000_460, w1000_462, w1000_463, w1000_464, w1000_467, w1000_469, w1000_470, w1000_473, w1000_474, w1000_475, w1000_476, zk_sI, zk_sJ, zk_sP, zn_sI, zn_sJ, zn_sP, zI_sI, zI_sJ, zI_sP, zJ_sI, zJ_sJ, zJ_sP, zP_sI, zP_sJ, zP_sP, Option.toList_some, Option.toList_none, List.cons_append, List.nil_append, lc_lt, g1]
    refine ⟨fun z => by omega, fun _ => ⟨fun _ => k489 M7 hB7 (fun _ => rfl), fun z => ⟨zRB_k hB7, D75 hB7 (fun M8 hB8 hu8 => ?_)⟩⟩⟩
    rw [a2]
    simp only [w1000_479, zk_sI, zk_sJ, zk_sP, zn_sI, zn_sJ, zn_sP, zI_sI, zI_sJ, zI_sP, zJ_sI, zJ_sJ, zJ_sP, zP_sI, zP_sJ, zP_sP, Option.toList_some, Option.toList_none, List.cons_append, List.nil_append]
    refine ⟨zRB_k hB8, D62 hB8 (fun M9 hB9 hu9 => ?_)⟩
    rw [aEnds_e h0 p2 hz p6]
    have he : e ≠ 2 := fun g => z (by rw [g]; decide)
    have g2 : ((1 : Int64) ≤ lN ((yCn q).2.1 R)) = (1 ≤ (yCn q).2.1 R) := propext (pk_lLE (a := 1) (by decide) (by omega))
    simp only [w1000_482, w1000_483, w1000_484, zk_sI, zk_sJ, zk_sP, zn_sI, zn_sJ, zn_sP, zI_sI, zI_sJ, zI_sP, zJ_sI, zJ_sJ, zJ_sP, zP_sI, zP_sJ, zP_sP, Option.toList_some, Option.toList_none, List.cons_append, List.nil_append, lc_ge, g2]
    exact ⟨fun _ => k489 M9 hB9 (fun j => (hu9 j).trans (hu8 j)), fun z => absurd (p8.2.1 he) z⟩
  have ee0 : (nI e = 0) = (e = 0) := n_eq (b := 0) (by omega) (by decide)
  have ee1 : (nI e = 1) = (e = 1) := n_eq (b := 1) (by omega) (by decide)
  rw [ee0]
  refine ⟨fun g0 => ?_, fun g0 => ?_⟩
  · simp only [w1000_445, w1000_447, w1000_448, zk_sI, zk_sJ, zk_sP, zn_sI, zn_sJ, zn_sP, zI_sI, zI_sJ, zI_sP, zJ_sI, zJ_sJ, zJ_sP, zP_sI, zP_sJ, zP_sP, Option.toList_some, Option.toList_none, List.cons_append, List.nil_append, ee1]
    refine ⟨fun g1 => ?_, fun g1 => ?_⟩
    · obtain rfl : e = 2 := by omega
      simp only [w1000_456, zk_sI, zk_sJ, zk_sP, zn_sI, zn_sJ, zn_sP, zI_sI, zI_sJ, zI_sP, zJ_sI, zJ_sJ, zJ_sP, zP_sI, zP_sJ, zP_sP, Option.toList_some, Option.toList_none, List.cons_append, List.nil_append]
      exact k458
    · obtain rfl : e = 1 := Classical.not_not.mp g1
      simp only [w1000_451, w1000_453, zk_sI, zk_sJ, zk_sP, zn_sI, zn_sJ, zn_sP, zI_sI, zI_sJ, zI_sP, zJ_sI, zJ_sJ, zJ_sP, zP_sI, zP_sJ, zP_sP, Option.toList_some, Option.toList_none, List.cons_append, List.nil_append]
      exact k458
  · obtain rfl : e = 0 := Classical.not_not.mp g0
    simp only [w1000_440, w1000_442, zk_sI, zk_sJ, zk_sP, zn_sI, zn_sJ, zn_sP, zI_sI, zI_sJ, zI_sP, zJ_sI, zJ_sJ, zJ_sP, zP_sI, zP_sJ, zP_sP, Option.toList_some, Option.toList_none, List.cons_append, List.nil_append]
    exact k458
/-- rolls of one number -/
theorem law_put (h0 : yQ q) {t : Nat} (ht : t < 5) {M0 : zf_M} {l15 l16 l17 l18 l19 : Slot}
    (nxt : ∀ (q2 : tQ) (M1 : zf_M) (l14 : Slot), zRB q2 M1 → yG q q2 → yT24 q2 → (∀ j, zf_I M1 59 j = zf_I M0 59 j) → zW X 1000 365 [.val (.ref 1000002), .val (.ref 0), .val (.ref 58), l3, l4, .val (.int (nI (qL q).1)), .val (.long (lN ((yCn q).1 0))), .second, .val (.long (lN ((yCn q).1 1))), .second, .val (.long (lN ((yCn q).1 2))), .second, .val (.ref 59), .val (.int (nI t)), l14, l15, l16, l17, l18, l19] [] M1 zEnd) :
    ∀ (m i : Nat) (q1 : tQ) (M : zf_M), i + m = 24 → zRB q1 M → yG q q1 → yT24 q1 → (∀ j, zf_I M 59 j = zf_I M0 59 j) → zW X 1000 321 [.val (.ref 1000002), .val (.ref 0), .val (.ref 58), l3, l4, .val (.int (nI (qL q).1)), .val (.long (lN ((yCn q).1 0))), .second, .val (.long (lN ((yCn q).1 1))), .second, .val (.long (lN ((yCn q).1 2))), .second, .val (.ref 59), .val (.int (nI t)), .val (.int (nI i)), l15, l16, l17, l18, l19] [] M zEnd := by
  intro m
  induction m with
  | zero =>
    intro i q1 M hi hB hG hT hu
    obtain rfl : i = 24 := by omega
    rw [w1000_321]
    simp only [w1000_323, w1000_325, zk_sI, zk_sJ, zk_sP, zn_sI, zn_sJ, zn_sP, zI_sI, zI_sJ, zI_sP, zJ_sI, zJ_sJ, zJ_sP, zP_sI, zP_sJ, zP_sP, Option.toList_some, Option.toList_none, List.cons_append, List.nil_append]
    exact ⟨fun _ => nxt q1 M _ hB hG hT hu, fun z => absurd (by decide) z⟩
  | succ m ih =>
    intro i q1 M hi hB hG hT hu
    have g24 : ¬ (24 : Int32) ≤ nI i := by
      have e : ((24 : Int32) ≤ nI i) = (24 ≤ i) := n_le (a := 24) (by decide) (by omega)
      rw [e]
      omega
    rw [w1000_321]
    simp only [w1000_323, w1000_325, w1000_328, w1000_330, w1000_331, w1000_334, w1000_335, w1000_336, w1000_337, w1000_339, w1000_341, zk_sI, zk_sJ, zk_sP, zn_sI, zn_sJ, zn_sP, zI_sI, zI_sJ, zI_sP, zJ_sI, zJ_sJ, zJ_sP, zP_sI, zP_sJ, zP_sP, Option.toList_some, Option.toList_none, List.cons_append, List.nil_append]
    refine ⟨fun z => absurd z g24, fun _ => ⟨fun _ => nxt q1 M _ hB hG hT hu, fun _ => ?_⟩⟩
    have k350 : ∀ r, 1 ≤ r → r ≤ 6 → zW X 1000 350 [.val (.ref 1000002), .val (.ref 0), .val (.ref 58), l3, l4, .val (.int (nI (qL q).1)), .val (.long (lN ((yCn q).1 0))), .second, .val (.long (lN ((yCn q).1 1))), .second, .val (.long (lN ((yCn q).1 2))), .second, .val (.ref 59), .val (.int (nI t)), .val (.int (nI i)), l15, l16, l17, l18, l19] [.int (nI r), .int (nI i), .int 1, .int 0, .ref 0] M zEnd := by
      intro r r1 r6
      obtain ⟨p1, p2, p3⟩ := yPut hG hT (show i < 24 by omega) r1 r6
      simp only [w1000_350, zk_sI, zk_sJ, zk_sP, zn_sI, zn_sJ, zn_sP, zI_sI, zI_sJ, zI_sP, zJ_sI, zJ_sJ, zJ_sP, zP_sI, zP_sJ, zP_sP, Option.toList_some, Option.toList_none, List.cons_append, List.nil_append]
      refine ⟨zRB_k hB, D78 hB (fun M1 hB1 hu1 => ?_)⟩
      rw [p1]
      simp only [w1000_353, w1000_354, w1000_357, w1000_358, w1000_359, w1000_362, zk_sI, zk_sJ, zk_sP, zn_sI, zn_sJ, zn_sP, zI_sI, zI_sJ, zI_sP, zJ_sI, zJ_sJ, zJ_sP, zP_sI, zP_sJ, zP_sP, Option.toList_some, Option.toList_none, List.cons_append, List.nil_append, n_a1]
      refine ⟨fun _ => ih (i + 1) _ M1 (by omega) hB1 p2 p3 (fun j => (hu1 j).trans (hu j)), fun z => absurd trivial z⟩
    refine ⟨fun _ => ?_, fun _ => ?_⟩
    · simp only [w1000_348, zk_sI, zk_sJ, zk_sP, zn_sI, zn_sJ, zn_sP, zI_sI, zI_sJ, zI_sP, zJ_sI, zJ_sJ, zJ_sP, zP_sI, zP_sJ, zP_sP, Option.toList_some, Option.toList_none, List.cons_append, List.nil_append]
      exact k350 6 (by decide) (by decide)
    · simp only [w1000_344, w1000_345, zk_sI, zk_sJ, zk_sP, zn_sI, zn_sJ, zn_sP, zI_sI, zI_sJ, zI_sP, zJ_sI, zJ_sJ, zJ_sP, zP_sI, zP_sJ, zP_sP, Option.toList_some, Option.toList_none, List.cons_append, List.nil_append]
      exact k350 1 (by decide) (by decide)
/-- five fights -/
theorem law_C (hx : X.1 < 2 ^ 31) (h0 : yQ q) (hz : zrun (zpq q 0)) : ∀ (m t : Nat) (q1 : tQ) (M : zf_M) (c : Nat → Nat) (l14 l15 l16 l17 l18 l19 : Slot), t + m = 5 → zRB q1 M → yG q q1 → yI q c t M → zW X 1000 291 [.val (.ref 1000002), .val (.ref 0), .val (.ref 58), l3, l4, .val (.int (nI (qL q).1)), .val (.long (lN ((yCn q).1 0))), .second, .val (.long (lN ((yCn q).1 1))), .second, .val (.long (lN ((yCn q).1 2))), .second, .val (.ref 59), .val (.int (nI t)), l14, l15, l16, l17, l18, l19] [] M zEnd := by
  intro m
  induction m with
  | zero =>
    intro t q1 M c l14 l15 l16 l17 l18 l19 ht hB hG hI
    obtain rfl : t = 5 := by omega
    rw [w1000_291]
    simp only [w1000_293, w1000_294, zk_sI, zk_sJ, zk_sP, zn_sI, zn_sJ, zn_sP, zI_sI, zI_sJ, zI_sP, zJ_sI, zJ_sJ, zJ_sP, zP_sI, zP_sJ, zP_sP, Option.toList_some, Option.toList_none, List.cons_append, List.nil_append]
    exact ⟨fun _ => law_D h0 hz hB hG hI, fun z => absurd (by decide) z⟩
  | succ m ih =>
    intro t q1 M c l14 l15 l16 l17 l18 l19 ht hB hG hI
    have g5 : ¬ (5 : Int32) ≤ nI t := by
      have e : ((5 : Int32) ≤ nI t) = (5 ≤ t) := n_le (a := 5) (by decide) (by omega)
      rw [e]
      omega
    have e20 : (20 : Int32) + nI t = nI (20 + t) := by rw [show (20 : Int32) = nI 20 from rfl, nI_add]
    rw [w1000_291]
    simp only [w1000_293, w1000_294, w1000_297, w1000_298, w1000_299, w1000_300, w1000_302, w1000_304, w1000_305, zk_sI, zk_sJ, zk_sP, zn_sI, zn_sJ, zn_sP, zI_sI, zI_sJ, zI_sP, zJ_sI, zJ_sJ, zJ_sP, zP_sI, zP_sJ, zP_sP, Option.toList_some, Option.toList_none, List.cons_append, List.nil_append, e20]
    refine ⟨fun z => absurd z g5, fun _ => ?_⟩
    refine sc166 rfl (by omega) hx (zRB_l hB) (fun v => ?_)
    simp only [w1000_308, zk_sI, zk_sJ, zk_sP, zn_sI, zn_sJ, zn_sP, zI_sI, zI_sJ, zI_sP, zJ_sI, zJ_sJ, zJ_sP, zP_sI, zP_sJ, zP_sP, Option.toList_some, Option.toList_none, List.cons_append, List.nil_append]
    obtain ⟨p1, p2, p3⟩ := yShake hG v
    refine ⟨zRB_k hB, D81 hB (fun M1 hB1 hu1 => ?_)⟩
    rw [p1]
    simp only [w1000_311, w1000_313, w1000_316, w1000_317, w1000_318, w1000_319, zk_sI, zk_sJ, zk_sP, zn_sI, zn_sJ, zn_sP, zI_sI, zI_sJ, zI_sP, zJ_sI, zJ_sJ, zJ_sP, zP_sI, zP_sJ, zP_sP, Option.toList_some, Option.toList_none, List.cons_append, List.nil_append]
    refine ⟨fun _ => ?_, fun z => absurd trivial z⟩
    refine law_put h0 (show t < 5 by omega) (M0 := M1) (fun q2 M2 l14 hB2 hG2 hT2 hu2 => ?_) 24 0 _ M1 rfl hB1 p2 p3 (fun _ => rfl)
    exact law_play h0 hz (by omega) hB2 hG2 hT2 (yI_fr hI (fun j => (hu2 j).trans (hu1 j))) (fun q3 M3 c3 l14 l15 l16 l17 l18 l19 hB3 hG3 hI3 => ih (t + 1) q3 M3 c3 l14 l15 l16 l17 l18 l19 (by omega) hB3 hG3 hI3)
end YLa
