/-! ===== a fight that is played is one of those that are reckoned ===== -/
def yM (K : List (Nat × Nat)) (N : Nat) : Prop := ∃ w, 1 ≤ w ∧ (N, w) ∈ K
def yLe (A B : zA) : Prop := (∀ i, A.1 i ≤ B.1 i) ∧ (∀ i, A.2.1 i ≤ B.2.1 i) ∧ ∀ i, A.2.2 i ≤ B.2.2 i
theorem yLe_rf (A : zA) : yLe A A := ⟨fun _ => Nat.le_refl _, fun _ => Nat.le_refl _, fun _ => Nat.le_refl _⟩
theorem yLe_tr {A B C : zA} (h : yLe A B) (h2 : yLe B C) : yLe A C := ⟨fun i => Nat.le_trans (h.1 i) (h2.1 i), fun i => Nat.le_trans (h.2.1 i) (h2.2.1 i), fun i => Nat.le_trans (h.2.2 i) (h2.2.2 i)⟩
theorem yLe_tl (od : Nat → Nat) (n : Nat) (A : zA) (N w e r : Nat) : yLe A (ztl od n A N w e r) := ⟨fun _ => Nat.le_add_right _ _, fun _ => Nat.le_add_right _ _, fun _ => Nat.le_add_right _ _⟩
/-- an end, its round, what is left: each has ways -/
def yH (p : zPm) (A : zA) (N e r : Nat) : Prop := 1 ≤ A.1 e ∧ (e ≠ 2 → 1 ≤ A.2.1 r) ∧ ∀ i, i < pn p → 1 ≤ A.2.2 (64 * po p i + dg N (po p i))
theorem yH_le {p : zPm} {A B : zA} {N e r : Nat} (h : yH p A N e r) (hl : yLe A B) : yH p B N e r :=
  ⟨Nat.le_trans h.1 (hl.1 _), fun he => Nat.le_trans (h.2.1 he) (hl.2.1 _), fun i hi => Nat.le_trans (h.2.2 i hi) (hl.2.2 _)⟩
theorem yH_2 {p : zPm} {A : zA} {N r r2 : Nat} (h : yH p A N 2 r) : yH p A N 2 r2 := ⟨h.1, fun he => absurd rfl he, h.2.2⟩
theorem yH_tl {p : zPm} {A : zA} {N w e r : Nat} (hw : 1 ≤ w) : yH p (ztl (po p) (pn p) A N w e r) N e r := by
  refine ⟨?_, fun he => ?_, fun i hi => ?_⟩
  · show 1 ≤ A.1 e + if e = e then w else 0
    rw [if_pos rfl]
    omega
  · show 1 ≤ A.2.1 r + if e ≠ 2 ∧ r = r then w else 0
    rw [if_pos ⟨he, rfl⟩]
    omega
  · show 1 ≤ A.2.2 _ + if ∃ q, q < pn p ∧ 64 * po p i + dg N (po p i) = 64 * po p q + dg N (po p q) then w else 0
    rw [if_pos ⟨i, hi, rfl⟩]
    omega
theorem yM_ins {N N2 w : Nat} : ∀ {K : List (Nat × Nat)}, yM K N → yM (zins K N2 w) N
  | [], h => by
    obtain ⟨v, _, hm⟩ := h
    cases hm
  | a :: t, h => by
    obtain ⟨v, hv, hm⟩ := h
    rw [zins]
    by_cases e : a.1 = N2
    · rw [if_pos e]
      rcases List.mem_cons.mp hm with h | h
      · refine ⟨v + w, by omega, ?_⟩
        rw [← h]
        exact List.mem_cons_self
      · exact ⟨v, hv, List.mem_cons_of_mem _ h⟩
    · rw [if_neg e]
      rcases List.mem_cons.mp hm with h | h
      · exact ⟨v, hv, by rw [h]; exact List.mem_cons_self⟩
      · obtain ⟨v2, h2, h3⟩ := yM_ins (N2 := N2) (w := w) ⟨v, hv, h⟩
        exact ⟨v2, h2, List.mem_cons_of_mem _ h3⟩
theorem yM_new {N w : Nat} (hw : 1 ≤ w) : ∀ {K : List (Nat × Nat)}, yM (zins K N w) N
  | [] => ⟨w, hw, List.mem_cons_self⟩
  | a :: t => by
    rw [zins]
    by_cases e : a.1 = N
    · rw [if_pos e, e]
      exact ⟨a.2 + w, by omega, List.mem_cons_self⟩
    · rw [if_neg e]
      obtain ⟨v2, h2, h3⟩ := yM_new (K := t) hw
      exact ⟨v2, h2, List.mem_cons_of_mem _ h3⟩
/-- what a reckoning has, it keeps -/
def yS (S S2 : List (Nat × Nat) × zA) : Prop := yLe S.2 S2.2 ∧ ∀ N, yM S.1 N → yM S2.1 N
theorem yS_rf (S : List (Nat × Nat) × zA) : yS S S := ⟨yLe_rf _, fun _ h => h⟩
theorem yS_tr {S S2 S3 : List (Nat × Nat) × zA} (h : yS S S2) (h2 : yS S2 S3) : yS S S3 := ⟨yLe_tr h.1 h2.1, fun N g => h2.2 N (h.2 N g)⟩
def yT (p : zPm) (la : Bool) (r N : Nat) (S : List (Nat × Nat) × zA) : Prop := (zwin N ≠ -1 → yH p S.2 N (zwe N) r) ∧ (zwin N = -1 → la = true → yH p S.2 N 2 r) ∧ (zwin N = -1 → la = false → yM S.1 N)
theorem yT_S {p : zPm} {la : Bool} {r N : Nat} {S S2 : List (Nat × Nat) × zA} (h : yT p la r N S) (hs : yS S S2) : yT p la r N S2 :=
  ⟨fun a => yH_le (h.1 a) hs.1, fun a b => yH_le (h.2.1 a b) hs.1, fun a b => hs.2 N (h.2.2 a b)⟩
theorem zps_S (p : zPm) (bh r : Nat) (la : Bool) (S : List (Nat × Nat) × zA) (N w : Nat) : yS S (zps p bh r la S N w) := by
  unfold zps
  split
  · exact yS_rf S
  · split
    · exact ⟨yLe_tl _ _ _ _ _ _ _, fun _ h => h⟩
    · split
      · exact ⟨yLe_tl _ _ _ _ _ _ _, fun _ h => h⟩
      · exact ⟨yLe_rf _, fun _ h => yM_ins h⟩
theorem zps_T {p : zPm} {bh r : Nat} {la : Bool} {S : List (Nat × Nat) × zA} {N w : Nat} (hw : 1 ≤ w) (hb : 1 ≤ bh) : yT p la r N (zps p bh r la S N w) := by
  have hwb : 1 ≤ w * bh := Nat.mul_pos hw hb
  unfold zps
  rw [if_neg (by omega)]
  by_cases e : zwin N = -1
  · rw [if_neg (fun z => z e)]
    cases la with
    | true =>
      rw [if_pos rfl]
      exact ⟨fun z => absurd e z, fun _ _ => yH_tl hwb, fun _ z => by cases z⟩
    | false =>
      rw [if_neg (by decide)]
      exact ⟨fun z => absurd e z, fun _ z => (by cases z), fun _ _ => yM_new hw⟩
  · rw [if_pos e]
    exact ⟨fun _ => yH_tl hwb, fun z => absurd z e, fun z => absurd z e⟩
theorem zst1_S (p : zPm) (bh r : Nat) (la : Bool) (w : Nat) : ∀ (l : List (Nat × Nat)) (S : List (Nat × Nat) × zA), yS S (zst1 p bh r la w S l)
  | [], S => yS_rf S
  | q :: t, S => yS_tr (zps_S p bh r la S q.1 (q.2 * w)) (zst1_S p bh r la w t _)
theorem zst1_T {p : zPm} {bh r : Nat} {la : Bool} {w : Nat} (hw : 1 ≤ w) (hb : 1 ≤ bh) {q : Nat × Nat} (hq2 : 1 ≤ q.2) : ∀ (l : List (Nat × Nat)) (S : List (Nat × Nat) × zA), q ∈ l → yT p la r q.1 (zst1 p bh r la w S l)
  | [], S, h => by cases h
  | a :: t, S, h => by
    rw [zst1]
    rcases List.mem_cons.mp h with h | h
    · subst h
      exact yT_S (zps_T (Nat.mul_pos hq2 hw) hb) (zst1_S p bh r la w t _)
    · exact zst1_T hw hb hq2 t _ h
theorem zslot_S (p : zPm) (bh r k : Nat) (la : Bool) : ∀ (L : List (Nat × Nat)) (S : List (Nat × Nat) × zA), yS S (zslot p bh r k la S L)
  | [], S => yS_rf S
  | q :: t, S => yS_tr (zst1_S p bh r la q.2 _ S) (zslot_S p bh r k la t _)
theorem zslot_T {p : zPm} {bh r k : Nat} {la : Bool} (hb : 1 ≤ bh) {N : Nat} {q : Nat × Nat} (hq : q ∈ zouts p r k N) (hq2 : 1 ≤ q.2) : ∀ (L : List (Nat × Nat)) (S : List (Nat × Nat) × zA), yM L N → yT p la r q.1 (zslot p bh r k la S L)
  | [], S, h => by
    obtain ⟨v, _, hm⟩ := h
    cases hm
  | a :: t, S, h => by
    obtain ⟨v, hv, hm⟩ := h
    rw [zslot]
    rcases List.mem_cons.mp hm with h | h
    · subst h
      exact yT_S (zst1_T hv hb hq2 _ S hq) (zslot_S p bh r k la t _)
    · exact zslot_T hb hq hq2 t _ ⟨v, hv, h⟩
theorem zgo_le (p : zPm) : ∀ (m t : Nat) (S : List (Nat × Nat) × zA) (wd : Nat), yLe S.2 (zgo p m t S wd).2.1.2
  | 0, _, S, _ => yLe_rf S.2
  | m + 1, t, S, wd => by
    have h := (zslot_S p (6 ^ m) (t / pn p + 1) (po p (t % pn p)) (decide (m = 0)) S.1 ([], S.2)).1
    rw [zgo]
    split
    · exact yLe_rf S.2
    · exact yLe_tr h (zgo_le p m (t + 1) _ _)
def ye (N : Nat) : Nat := if zwin N = -1 then 2 else zwe N
/-- rolls -/
def yIt (it : Nat → Int32) (sz : Nat) : Prop := ∀ j, j < sz → ∃ m, 1 ≤ m ∧ m ≤ 6 ∧ it j = nI m
theorem yGo {p : zPm} {it : Nat → Int32} {sz : Nat} (hh : ∀ i, i < pn p → ph p (po p i) ≤ 6) (h0p : 0 < pn p) (hr : yIt it sz) : ∀ (m t : Nat) (S : List (Nat × Nat) × zA) (wd N u N' u' R' : Nat), (zgo p m t S wd).1 = true → zwin N = -1 → (m = 0 → yH p S.2 N 2 0) → (0 < m → yM S.1 N) → zpy p it sz m t N u = some (N', u', R') → yH p (zgo p m t S wd).2.1.2 N' (ye N') R'
  | 0, t, S, wd, N, u, N', u', R', _, hN, h0, _, h => by
    rw [zpy] at h
    obtain ⟨rfl, h⟩ := Prod.mk.inj (Option.some.inj h)
    unfold ye
    rw [if_pos hN]
    exact yH_2 (h0 rfl)
  | m + 1, t, S, wd, N, u, N', u', R', hz, hN, _, h1, h => by
    have hph := hh (t % pn p) (Nat.mod_lt _ h0p)
    rw [zpy] at h
    rw [zgo] at hz ⊢
    split at hz
    · cases hz
    next h4 =>
      rw [if_neg h4]
      have hb : 1 ≤ 6 ^ m := Nat.pow_pos (by decide)
      have hM := h1 (Nat.succ_pos m)
      have out : ∀ N1 w1, (N1, w1) ∈ zouts p (t / pn p + 1) (po p (t % pn p)) N → 1 ≤ w1 → yT p (decide (m = 0)) (t / pn p + 1) N1 (zslot p (6 ^ m) (t / pn p + 1) (po p (t % pn p)) (decide (m = 0)) ([], S.2) S.1) :=
        fun N1 w1 a b => zslot_T (q := (N1, w1)) hb a b S.1 ([], S.2) hM
      generalize zslot p (6 ^ m) (t / pn p + 1) (po p (t % pn p)) (decide (m = 0)) ([], S.2) S.1 = S1 at hz out ⊢
      have go : ∀ N1 u1, zwin N1 = -1 → yT p (decide (m = 0)) (t / pn p + 1) N1 S1 → zpy p it sz m (t + 1) N1 u1 = some (N', u', R') → yH p (zgo p m (t + 1) S1 (max wd S.1.length)).2.1.2 N' (ye N') R' := by
        intro N1 u1 hw hT hy
        refine yGo hh h0p hr m (t + 1) S1 _ N1 u1 N' u' R' hz hw (fun e => ?_) (fun e => ?_) hy
        · exact yH_2 (hT.2.1 hw (decide_eq_true e))
        · exact hT.2.2 hw (decide_eq_false (by omega))
      have stop : ∀ N1 u1, zwin N1 ≠ -1 → yT p (decide (m = 0)) (t / pn p + 1) N1 S1 → some (N1, u1, t / pn p + 1) = some (N', u', R') → yH p (zgo p m (t + 1) S1 (max wd S.1.length)).2.1.2 N' (ye N') R' := by
        intro N1 u1 hw hT hy
        obtain ⟨rfl, hy2⟩ := Prod.mk.inj (Option.some.inj hy)
        obtain ⟨-, rfl⟩ := Prod.mk.inj hy2
        unfold ye
        rw [if_neg hw]
        exact yH_le (hT.1 hw) (zgo_le p m (t + 1) S1 _)
      unfold zouts at out
      split at h
      next c =>
        rw [if_pos c] at out
        exact go N u hN (out N 6 List.mem_cons_self (by decide)) h
      next c =>
        rw [if_neg c] at out
        split at h
        next c2 =>
          rw [if_pos c2] at out
          have hT := out _ 6 List.mem_cons_self (by decide)
          split at h
          next c3 => exact go _ u c3 hT h
          next c3 => exact stop _ u c3 hT h
        next c2 =>
          rw [if_neg c2] at out
          split at h
          · cases h
          next c3 =>
            obtain ⟨r6, r1, r2, r3⟩ := hr u (Classical.not_not.mp c3)
            rw [r3] at h
            have hz1 : zin (nI r6) 1 (nI (ph p (po p (t % pn p)))) ↔ r6 ≤ ph p (po p (t % pn p)) := by
              show (1 ≤ nI r6 ∧ nI r6 ≤ nI _) ↔ _
              rw [c_1, n_le (by decide) (by omega), n_le (by omega) (by omega)]
              exact ⟨fun z => z.2, fun z => ⟨r1, z⟩⟩
            split at h
            next c4 =>
              rw [hz1] at c4
              have hT := out _ (ph p (po p (t % pn p))) (List.mem_cons_of_mem _ List.mem_cons_self) (by omega)
              split at h
              next c5 => exact go _ (u + 1) c5 hT h
              next c5 => exact stop _ (u + 1) c5 hT h
            next c4 =>
              rw [hz1] at c4
              exact go N (u + 1) hN (out N (6 - ph p (po p (t % pn p))) List.mem_cons_self (by omega)) h
/-- there are rolls enough -/
theorem ySome {p : zPm} {it : Nat → Int32} {sz : Nat} : ∀ (m t N u : Nat), u + m ≤ sz → ∃ x, zpy p it sz m t N u = some x
  | 0, t, N, u, _ => ⟨_, rfl⟩
  | m + 1, t, N, u, h => by
    rw [zpy]
    split
    · exact ySome m (t + 1) _ u (by omega)
    · split
      · split
        · exact ySome m (t + 1) _ u (by omega)
        · exact ⟨_, rfl⟩
      · rw [if_neg (show ¬ ¬ u < sz by omega)]
        split
        · split
          · exact ySome m (t + 1) _ (u + 1) (by omega)
          · exact ⟨_, rfl⟩
        · exact ySome m (t + 1) _ (u + 1) (by omega)
theorem yBd {p : zPm} {it : Nat → Int32} {sz : Nat} (h0p : 0 < pn p) (h1p : 1 ≤ pr p) : ∀ (m t N u N' u' R' : Nat), t + m = pr p * pn p → zpy p it sz m t N u = some (N', u', R') → u' ≤ u + m ∧ 1 ≤ R' ∧ R' ≤ pr p
  | 0, t, N, u, N', u', R', _, h => by
    rw [zpy] at h
    obtain ⟨-, h⟩ := Prod.mk.inj (Option.some.inj h)
    obtain ⟨rfl, rfl⟩ := Prod.mk.inj h
    exact ⟨Nat.le_refl _, h1p, Nat.le_refl _⟩
  | m + 1, t, N, u, N', u', R', ht, h => by
    have hd : t / pn p < pr p := Nat.div_lt_of_lt_mul (by rw [Nat.mul_comm]; omega)
    have stop : ∀ N1 u1, u1 ≤ u + 1 → some (N1, u1, t / pn p + 1) = some (N', u', R') → u' ≤ u + (m + 1) ∧ 1 ≤ R' ∧ R' ≤ pr p := by
      intro N1 u1 hu hy
      obtain ⟨-, hy⟩ := Prod.mk.inj (Option.some.inj hy)
      obtain ⟨rfl, rfl⟩ := Prod.mk.inj hy
      exact ⟨by omega, Nat.succ_pos _, hd⟩
    have go : ∀ N1 u1, u1 ≤ u + 1 → zpy p it sz m (t + 1) N1 u1 = some (N', u', R') → u' ≤ u + (m + 1) ∧ 1 ≤ R' ∧ R' ≤ pr p := by
      intro N1 u1 hu hy
      have := yBd h0p h1p m (t + 1) N1 u1 N' u' R' (by omega) hy
      exact ⟨by omega, this.2⟩
    rw [zpy] at h
    split at h
    · exact go _ u (by omega) h
    · split at h
      · split at h
        · exact go _ u (by omega) h
        · exact stop _ u (by omega) h
      · split at h
        · cases h
        · split at h
          · split at h
            · exact go _ (u + 1) (by omega) h
            · exact stop _ (u + 1) (by omega) h
          · exact go _ (u + 1) (by omega) h
/-- who is up has life -/
def yU (N : Nat) : Prop := ∀ j, j < 6 → dg N j ≠ 32
theorem yU_sd {N k d : Nat} (h : yU N) (hk : k < 6) (hd : d < 64) (hs : d ≠ 32) : yU (sd N k d) := by
  intro j hj
  by_cases e : j = k
  · subst e
    rw [dg_sd hk hd]
    exact hs
  · rw [dg_sd_ne hk hj hd e]
    exact h j hj
theorem yU_str {N k f : Nat} (h : yU N) (hk : k < 6) : yU (sd N k (zstr (dg N k) f)) := by
  have hd := dg_lt N k
  refine yU_sd h hk (zstr_lt _ _ hd) ?_
  unfold zstr
  split <;> omega
theorem yU_all {N s f : Nat} (h : yU N) : ∀ n, s + n ≤ 6 → yU (zall N s f n)
  | 0, _ => h
  | n + 1, hs => by
    rw [zall]
    split
    · exact yU_str (yU_all h n (by omega)) (by omega)
    · exact yU_all h n (by omega)
theorem yU_hit {p : zPm} {N k f : Nat} {kd am : Int32} (hp : zPo p) (hv : zV p N) (h : yU N) (hk : k < 6) : yU (zhit kd am f (pl p) N k) := by
  unfold zhit
  split
  · rcases zch_seat (y := decide (am = 1)) (N := N) (show 1 - k / 3 < 2 by omega) with q | ⟨j, q1, q2, q3⟩
    · simp only [q, if_true]
      exact h
    · simp only [q2, n_ne (show j < 2 ^ 31 by omega), if_false, n_cl (show j < 2 ^ 31 by omega)]
      exact yU_str h q1
  · split
    · exact yU_all h 3 (by omega)
    · rcases zch_seat (y := true) (N := N) (show k / 3 < 2 by omega) with q | ⟨j, q1, q2, q3⟩
      · simp only [q, if_true]
        exact h
      · simp only [q2, n_ne (show j < 2 ^ 31 by omega), if_false, n_cl (show j < 2 ^ 31 by omega)]
        obtain ⟨⟨i, i1, i2⟩, h2⟩ := hv.2 j q1 (by omega)
        have hl := (hp.2.2.2.1 i i1).2.2.1
        rw [i2] at hl
        have hd := dg_lt N j
        have hn := h j q1
        exact yU_sd h q1 (by omega) (by omega)
theorem yPy {p : zPm} {it : Nat → Int32} {sz : Nat} (hp : zPo p) (h0p : 0 < pn p) : ∀ (m t N u N' u' R' : Nat), zV p N → yU N → zpy p it sz m t N u = some (N', u', R') → zV p N' ∧ yU N'
  | 0, t, N, u, N', u', R', hV, hU, h => by
    rw [zpy] at h
    obtain ⟨rfl, h⟩ := Prod.mk.inj (Option.some.inj h)
    exact ⟨hV, hU⟩
  | m + 1, t, N, u, N', u', R', hV, hU, h => by
    have hk := hp.2.1 (t % pn p) (Nat.mod_lt _ h0p)
    have hd := dg_lt N (po p (t % pn p))
    have stop : ∀ N1 u1, zV p N1 → yU N1 → some (N1, u1, t / pn p + 1) = some (N', u', R') → zV p N' ∧ yU N' := by
      intro N1 u1 h1 h2 hy
      obtain ⟨rfl, -⟩ := Prod.mk.inj (Option.some.inj hy)
      exact ⟨h1, h2⟩
    have go : ∀ N1 u1, zV p N1 → yU N1 → zpy p it sz m (t + 1) N1 u1 = some (N', u', R') → zV p N' ∧ yU N' := fun N1 u1 h1 h2 hy => yPy hp h0p m (t + 1) N1 u1 N' u' R' h1 h2 hy
    rw [zpy] at h
    split at h
    · exact go _ u hV hU h
    · split at h
      next c2 =>
        have a1 : zV p (sd N (po p (t % pn p)) (dg N (po p (t % pn p)) % 32)) := zV_sd hV hk (by omega) (fun hne => by
          obtain ⟨h1, h2⟩ := hV.2 _ hk (by omega)
          exact ⟨h1, by omega⟩)
        have a2 : yU (sd N (po p (t % pn p)) (dg N (po p (t % pn p)) % 32)) := yU_sd hU hk (by omega) (by omega)
        split at h
        · exact go _ u a1 a2 h
        · exact stop _ u a1 a2 h
      · split at h
        · cases h
        · split at h
          · have a1 := zV_hit (f := pf p (po p (t % pn p))) (kd := nI (pk p (po p (t % pn p)))) (am := pa p) hp hV hk
            have a2 := yU_hit (f := pf p (po p (t % pn p))) (kd := nI (pk p (po p (t % pn p)))) (am := pa p) hp hV hU hk
            split at h
            · exact go _ (u + 1) a1 a2 h
            · exact stop _ (u + 1) a1 a2 h
          · exact go _ (u + 1) hV hU h
theorem yU_st {p : zPm} (hp : zPo p) : yU (zst p) := by
  intro j hj
  rw [(zst_ok hp).2 j hj]
  split
  next c =>
    obtain ⟨i, i1, i2⟩ := c
    have := (hp.2.2.2.1 i i1).2.1
    rw [i2] at this
    omega
  · decide
/-! all ways -/
theorem zps_la {p : zPm} {bh r : Nat} {S : List (Nat × Nat) × zA} {N w : Nat} : (zps p bh r true S N w).1 = S.1 := by
  unfold zps
  split
  · rfl
  · split
    · rfl
    · rfl
theorem zst1_la (p : zPm) (bh r : Nat) (w : Nat) : ∀ (l : List (Nat × Nat)) (S : List (Nat × Nat) × zA), (zst1 p bh r true w S l).1 = S.1
  | [], S => rfl
  | q :: t, S => by rw [zst1, zst1_la p bh r w t, zps_la]
theorem zslot_la (p : zPm) (bh r k : Nat) : ∀ (L : List (Nat × Nat)) (S : List (Nat × Nat) × zA), (zslot p bh r k true S L).1 = S.1
  | [], S => rfl
  | q :: t, S => by rw [zslot, zslot_la p bh r k t, zst1_la]
theorem ySum {p : zPm} (hh : ∀ i, i < pn p → ph p (po p i) ≤ 6) (h0p : 0 < pn p) : ∀ (m t : Nat) (S : List (Nat × Nat) × zA) (wd : Nat), 0 < m → (zgo p m t S wd).1 = true → zsm (zgo p m t S wd).2.1.2 = zsm S.2 + zws S.1 * 6 ^ m
  | 0, _, _, _, h, _ => absurd h (by decide)
  | m + 1, t, S, wd, _, hz => by
    have hph := hh (t % pn p) (Nat.mod_lt _ h0p)
    have hs := zslot_sm p (6 ^ m) (t / pn p + 1) (po p (t % pn p)) (decide (m = 0)) hph S.1 ([], S.2)
    have hl := zslot_la p (6 ^ m) (t / pn p + 1) (po p (t % pn p)) S.1 ([], S.2)
    rw [zgo] at hz ⊢
    split at hz
    · cases hz
    next h4 =>
      rw [if_neg h4]
      have e6 : 6 ^ (m + 1) = 6 * 6 ^ m := by rw [Nat.pow_succ, Nat.mul_comm]
      have e7 : 6 * zws S.1 * 6 ^ m = zws S.1 * 6 ^ (m + 1) := by rw [e6, Nat.mul_comm 6 (zws S.1), Nat.mul_assoc]
      rw [zws_nil, Nat.zero_mul, e7] at hs
      by_cases h0 : m = 0
      · subst h0
        rw [show decide (0 = 0) = true from rfl] at hs ⊢
        rw [hl, zws_nil] at hs
        rw [zgo]
        show zsm (zslot p (6 ^ 0) (t / pn p + 1) (po p (t % pn p)) true ([], S.2) S.1).2 = _
        have hs2 : zsm (zslot p (6 ^ 0) (t / pn p + 1) (po p (t % pn p)) true ([], S.2) S.1).2 + 0 * 6 ^ 0 = zsm S.2 + 0 + zws S.1 * 6 ^ (0 + 1) := hs
        omega
      · rw [ySum hh h0p m (t + 1) _ _ (by omega) hz]
        have hs2 : zsm (zslot p (6 ^ m) (t / pn p + 1) (po p (t % pn p)) (decide (m = 0)) ([], S.2) S.1).2 + zws (zslot p (6 ^ m) (t / pn p + 1) (po p (t % pn p)) (decide (m = 0)) ([], S.2) S.1).1 * 6 ^ m = zsm S.2 + 0 + zws S.1 * 6 ^ (m + 1) := hs
        omega
/-- no counter is above the sum -/
def yA (A : zA) : Prop := (∀ i, A.2.1 i ≤ zsm A) ∧ ∀ i, A.2.2 i ≤ zsm A
theorem yA_tl {od : Nat → Nat} {n : Nat} {A : zA} {N w e r : Nat} (h : yA A) (he : e < 3) : yA (ztl od n A N w e r) := by
  have hs := zsm_tl od n A N w e r he
  refine ⟨fun i => ?_, fun i => ?_⟩
  · rw [hs]
    have := h.1 i
    show A.2.1 i + (if e ≠ 2 ∧ i = r then w else 0) ≤ _
    split <;> omega
  · rw [hs]
    have := h.2 i
    show A.2.2 i + (if ∃ q, q < n ∧ i = 64 * od q + dg N (od q) then w else 0) ≤ _
    split <;> omega
theorem zps_A {p : zPm} {bh r : Nat} {la : Bool} {S : List (Nat × Nat) × zA} {N w : Nat} (h : yA S.2) : yA (zps p bh r la S N w).2 := by
  unfold zps
  split
  · exact h
  · split
    · exact yA_tl h (zwe_lt N)
    · split
      · exact yA_tl h (by decide)
      · exact h
theorem zst1_A (p : zPm) (bh r : Nat) (la : Bool) (w : Nat) : ∀ (l : List (Nat × Nat)) (S : List (Nat × Nat) × zA), yA S.2 → yA (zst1 p bh r la w S l).2
  | [], S, h => h
  | q :: t, S, h => zst1_A p bh r la w t _ (zps_A h)
theorem zslot_A (p : zPm) (bh r k : Nat) (la : Bool) : ∀ (L : List (Nat × Nat)) (S : List (Nat × Nat) × zA), yA S.2 → yA (zslot p bh r k la S L).2
  | [], S, h => h
  | q :: t, S, h => zslot_A p bh r k la t _ (zst1_A p bh r la q.2 _ S h)
theorem zgo_A (p : zPm) : ∀ (m t : Nat) (S : List (Nat × Nat) × zA) (wd : Nat), yA S.2 → yA (zgo p m t S wd).2.1.2
  | 0, _, S, _, h => h
  | m + 1, t, S, wd, h => by
    have h2 := zslot_A p (6 ^ m) (t / pn p + 1) (po p (t % pn p)) (decide (m = 0)) S.1 ([], S.2) h
    rw [zgo]
    split
    · exact h
    · exact zgo_A p m (t + 1) _ _ h2
/-- the widest is no more than there is room -/
theorem yWd (p : zPm) : ∀ (m t : Nat) (S : List (Nat × Nat) × zA) (wd : Nat), wd ≤ 400 → S.1.length ≤ 400 → (zgo p m t S wd).1 = true → (zgo p m t S wd).2.2 ≤ 400
  | 0, _, S, wd, h, _, _ => h
  | m + 1, t, S, wd, h, h2, hz => by
    rw [zgo] at hz ⊢
    split at hz
    · cases hz
    next h4 =>
      rw [if_neg h4]
      exact yWd p m (t + 1) _ _ (by omega) (by omega) hz
/-- what the reckoning of a fight of two sides keeps -/
theorem yRk {p : zPm} (hp : zPo p) (h0p : 0 < pn p) (hst : zwin (zst p) = -1) (hz : (zrk p).1 = true) : zsm (zrk p).2.1 = 6 ^ (pr p * pn p) ∧ yA (zrk p).2.1 ∧ (zrk p).2.2 ≤ 400 := by
  have hm : 0 < pr p * pn p := Nat.mul_pos hp.2.2.2.2.1 h0p
  have hh : ∀ i, i < pn p → ph p (po p i) ≤ 6 := fun i hi => (hp.2.2.2.1 i hi).2.2.2.1
  unfold zrk at hz ⊢
  rw [if_neg (fun z => z hst)] at hz ⊢
  refine ⟨?_, zgo_A p _ _ _ _ ⟨fun _ => Nat.le_refl _, fun _ => Nat.le_refl _⟩, yWd p _ _ _ _ (by decide) (show (1 : Nat) ≤ 400 by decide) hz⟩
  have h := ySum hh h0p (pr p * pn p) 0 ([(zst p, 1)], zA0) 0 hm hz
  rw [show zsm (([(zst p, 1)], zA0) : List (Nat × Nat) × zA).2 = 0 from rfl, show zws (([(zst p, 1)], zA0) : List (Nat × Nat) × zA).1 = 1 from rfl] at h
  show zsm (zgo p (pr p * pn p) 0 ([(zst p, 1)], zA0) 0).2.1.2 = _
  omega
/-- a fight of two sides, played with rolls enough: its end, its round, its lives have ways -/
theorem yPl {p : zPm} {it : Nat → Int32} {sz : Nat} (hp : zPo p) (h0p : 0 < pn p) (hst : zwin (zst p) = -1) (hz : (zrk p).1 = true) (hr : yIt it sz) (hs : pr p * pn p ≤ sz) :
    ∃ N u R, zpl p it sz = some (N, u, R) ∧ u ≤ pr p * pn p ∧ 1 ≤ R ∧ R ≤ pr p ∧ (zV p N ∧ yU N) ∧ yH p (zrk p).2.1 N (ye N) R := by
  have hm : 0 < pr p * pn p := Nat.mul_pos hp.2.2.2.2.1 h0p
  have hh : ∀ i, i < pn p → ph p (po p i) ≤ 6 := fun i hi => (hp.2.2.2.1 i hi).2.2.2.1
  obtain ⟨⟨N, u, R⟩, hx⟩ := ySome (p := p) (it := it) (sz := sz) (pr p * pn p) 0 (zst p) 0 (by omega)
  obtain ⟨b1, b2, b3⟩ := yBd h0p hp.2.2.2.2.1 _ _ _ _ _ _ _ (Nat.zero_add _) hx
  refine ⟨N, u, R, by unfold zpl; rw [if_pos hst]; exact hx, by omega, b2, b3, yPy hp h0p _ _ _ _ _ _ _ (zst_V hp) (yU_st hp) hx, ?_⟩
  unfold zrk at hz ⊢
  rw [if_neg (fun z => z hst)] at hz ⊢
  exact yGo hh h0p hr _ 0 _ 0 _ 0 _ _ _ hz hst (fun e => by omega) (fun _ => ⟨1, Nat.le_refl _, List.mem_cons_self⟩) hx
