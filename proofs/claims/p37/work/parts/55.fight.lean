/-! ===== a fight, as a function ===== -/
/-- how many seats and in which order; by seat kind, life, hit, force, flee; aim, who is surprised, rounds -/
abbrev zPm : Type := (Nat × (Nat → Nat)) × ((Nat → Nat) × (Nat → Nat) × (Nat → Nat) × (Nat → Nat) × (Nat → Nat)) × (Int32 × Int32 × Nat)
def pn (p : zPm) : Nat := p.1.1
def po (p : zPm) : Nat → Nat := p.1.2
def pk (p : zPm) : Nat → Nat := p.2.1.1
def pl (p : zPm) : Nat → Nat := p.2.1.2.1
def ph (p : zPm) : Nat → Nat := p.2.1.2.2.1
def pf (p : zPm) : Nat → Nat := p.2.1.2.2.2.1
def pe (p : zPm) : Nat → Nat := p.2.1.2.2.2.2
def pa (p : zPm) : Int32 := p.2.2.1
def ps (p : zPm) : Int32 := p.2.2.2.1
def pr (p : zPm) : Nat := p.2.2.2.2
/-- what a fight's numbers keep -/
def zPo (p : zPm) : Prop := pn p ≤ 6 ∧ (∀ i, i < pn p → po p i < 6) ∧ (∀ i j, i < pn p → j < pn p → po p i = po p j → i = j) ∧ (∀ i, i < pn p → pk p (po p i) ≤ 2 ∧ 1 ≤ pl p (po p i) ∧ pl p (po p i) ≤ 20 ∧ ph p (po p i) ≤ 6 ∧ 1 ≤ pf p (po p i) ∧ pf p (po p i) ≤ 18 ∧ pe p (po p i) ≤ 19) ∧ 1 ≤ pr p ∧ pr p ≤ 6
/-- a state that a fight can come to -/
def zV (p : zPm) (N : Nat) : Prop := N < 64 ^ 6 ∧ ∀ j, j < 6 → dg N j ≠ 0 → (∃ i, i < pn p ∧ po p i = j) ∧ dg N j % 32 ≤ pl p j
theorem zV_sd {p : zPm} {N k d : Nat} (h : zV p N) (hk : k < 6) (hd : d < 64) (hs : d ≠ 0 → (∃ i, i < pn p ∧ po p i = k) ∧ d % 32 ≤ pl p k) : zV p (sd N k d) := by
  refine ⟨sd_lt h.1 hk hd, fun j hj hne => ?_⟩
  by_cases e : j = k
  · subst e
    rw [dg_sd hk hd] at hne ⊢
    exact hs hne
  · rw [dg_sd_ne hk hj hd e] at hne ⊢
    exact h.2 j hj hne
theorem zV_str {p : zPm} {N k f : Nat} (h : zV p N) (hk : k < 6) : zV p (sd N k (zstr (dg N k) f)) := by
  refine zV_sd h hk (zstr_lt _ _ (dg_lt _ _)) (fun hne => ?_)
  have hd := dg_lt N k
  unfold zstr at hne ⊢
  by_cases hc : dg N k % 32 ≤ f
  · rw [if_pos hc] at hne
    exact absurd rfl hne
  · rw [if_neg hc] at hne ⊢
    obtain ⟨h1, h2⟩ := h.2 k hk (by omega)
    exact ⟨h1, by omega⟩
theorem zV_all {p : zPm} {N s f : Nat} (h : zV p N) : ∀ n, s + n ≤ 6 → zV p (zall N s f n)
  | 0, _ => h
  | n + 1, hs => by
    rw [zall]
    split
    · exact zV_str (zV_all h n (by omega)) (by omega)
    · exact zV_all h n (by omega)
theorem zch_seat {y : Bool} {N d : Nat} (hd : d < 2) : ((zch y N (3 * d) 3).1 = -1) ∨ ∃ j, j < 6 ∧ (zch y N (3 * d) 3).1 = nI j ∧ 32 ≤ dg N j := by
  rcases zch_in y N (3 * d) 3 with q | ⟨i, q1, q2, q3⟩
  · exact Or.inl q
  · exact Or.inr ⟨3 * d + i, by omega, q2, q3⟩
theorem zV_hit {p : zPm} {N k f : Nat} {kd am : Int32} (hp : zPo p) (h : zV p N) (hk : k < 6) : zV p (zhit kd am f (pl p) N k) := by
  unfold zhit
  split
  · rcases zch_seat (y := decide (am = 1)) (N := N) (show 1 - k / 3 < 2 by omega) with q | ⟨j, q1, q2, q3⟩
    · simp only [q, if_true]
      exact h
    · simp only [q2, n_ne (show j < 2 ^ 31 by omega), if_false, n_cl (show j < 2 ^ 31 by omega)]
      exact zV_str h q1
  · split
    · exact zV_all h 3 (by omega)
    · rcases zch_seat (y := true) (N := N) (show k / 3 < 2 by omega) with q | ⟨j, q1, q2, q3⟩
      · simp only [q, if_true]
        exact h
      · simp only [q2, n_ne (show j < 2 ^ 31 by omega), if_false, n_cl (show j < 2 ^ 31 by omega)]
        obtain ⟨⟨i, i1, i2⟩, h2⟩ := h.2 j q1 (by omega)
        have hl := (hp.2.2.2.1 i i1).2.2.1
        rw [i2] at hl
        have hd := dg_lt N j
        refine zV_sd h q1 (by omega) (fun _ => ⟨⟨i, i1, i2⟩, by omega⟩)
/-- what a turn makes of a state, each with its ways of six -/
def zouts (p : zPm) (r k N : Nat) : List (Nat × Nat) :=
  if ¬ (32 ≤ dg N k ∧ ¬ (nI r = 1 ∧ nI (k / 3) = ps p)) then [(N, 6)]
  else if dg N k % 32 ≤ pe p k then [(sd N k (dg N k % 32), 6)]
  else [(N, 6 - ph p k), (zhit (nI (pk p k)) (pa p) (pf p k) (pl p) N k, ph p k)]
theorem zouts_V {p : zPm} {r k N : Nat} (hp : zPo p) (h : zV p N) (hk : k < 6) : ∀ q ∈ zouts p r k N, zV p q.1 := by
  intro q hq
  unfold zouts at hq
  split at hq
  · simp only [List.mem_singleton] at hq
    subst hq
    exact h
  · split at hq
    · simp only [List.mem_singleton] at hq
      subst hq
      refine zV_sd h hk (by omega) (fun hne => ?_)
      obtain ⟨h1, h2⟩ := h.2 k hk (by omega)
      exact ⟨h1, by omega⟩
    · simp only [List.mem_cons, List.not_mem_nil, or_false] at hq
      rcases hq with rfl | rfl
      · exact h
      · exact zV_hit hp h hk
def zws (L : List (Nat × Nat)) : Nat := (L.map (fun q => q.2)).sum
theorem zws_nil : zws [] = 0 := rfl
theorem zws_cons (q : Nat × Nat) (L : List (Nat × Nat)) : zws (q :: L) = q.2 + zws L := by simp [zws]
theorem zws_mem {L : List (Nat × Nat)} {q : Nat × Nat} (h : q ∈ L) : q.2 ≤ zws L := by
  induction L with
  | nil => cases h
  | cons a t ih =>
    rw [zws_cons]
    rcases List.mem_cons.mp h with rfl | h
    · omega
    · have := ih h
      omega
theorem zws_ins (N w : Nat) : ∀ K, zws (zins K N w) = zws K + w
  | [] => by simp [zins, zws]
  | q :: t => by
    rw [zins]
    split
    · rw [zws_cons, zws_cons]
      show q.2 + w + _ = _
      omega
    · rw [zws_cons, zws_cons, zws_ins N w t]
      omega
theorem zins_len (N w : Nat) : ∀ K, K.length ≤ (zins K N w).length
  | [] => Nat.zero_le _
  | q :: t => by
    rw [zins]
    split
    · exact Nat.le_refl _
    · have := zins_len N w t
      simp only [List.length_cons]
      omega
theorem zins_mem {N w : Nat} : ∀ {K q}, q ∈ zins K N w → q.1 = N ∨ ∃ q2, q2 ∈ K ∧ q2.1 = q.1
  | [], q, h => by
    simp only [zins, List.mem_singleton] at h
    subst h
    exact Or.inl rfl
  | a :: t, q, h => by
    rw [zins] at h
    split at h
    next e =>
      rcases List.mem_cons.mp h with rfl | h
      · exact Or.inl e
      · exact Or.inr ⟨q, List.mem_cons_of_mem _ h, rfl⟩
    next =>
      rcases List.mem_cons.mp h with rfl | h
      · exact Or.inr ⟨q, List.mem_cons_self, rfl⟩
      · rcases zins_mem h with e | ⟨q2, e1, e2⟩
        · exact Or.inl e
        · exact Or.inr ⟨q2, List.mem_cons_of_mem _ e1, e2⟩
theorem zouts_w (p : zPm) (r k N : Nat) (hh : ph p k ≤ 6) : zws (zouts p r k N) = 6 := by
  unfold zouts
  split
  · rfl
  · split
    · rfl
    · rw [zws_cons, zws_cons, zws_nil]
      show 6 - ph p k + (ph p k + 0) = 6
      omega
/-- one state behind a slot -/
def zps (p : zPm) (bh r : Nat) (la : Bool) (S : List (Nat × Nat) × zA) (N w : Nat) : List (Nat × Nat) × zA :=
  if w = 0 then S else if zwin N ≠ -1 then (S.1, ztl (po p) (pn p) S.2 N (w * bh) (zwe N) r)
  else if la = true then (S.1, ztl (po p) (pn p) S.2 N (w * bh) 2 r) else (zins S.1 N w, S.2)
/-- all that a state becomes at a slot -/
def zst1 (p : zPm) (bh r : Nat) (la : Bool) (w : Nat) (S : List (Nat × Nat) × zA) : List (Nat × Nat) → List (Nat × Nat) × zA
  | [] => S
  | q :: t => zst1 p bh r la w (zps p bh r la S q.1 (q.2 * w)) t
def zslot (p : zPm) (bh r k : Nat) (la : Bool) (S : List (Nat × Nat) × zA) : List (Nat × Nat) → List (Nat × Nat) × zA
  | [] => S
  | q :: t => zslot p bh r k la (zst1 p bh r la q.2 S (zouts p r k q.1)) t
theorem zps_len (p : zPm) (bh r : Nat) (la : Bool) (S : List (Nat × Nat) × zA) (N w : Nat) : S.1.length ≤ (zps p bh r la S N w).1.length := by
  unfold zps
  split
  · exact Nat.le_refl _
  · split
    · exact Nat.le_refl _
    · split
      · exact Nat.le_refl _
      · exact zins_len _ _ _
theorem zst1_len (p : zPm) (bh r : Nat) (la : Bool) (w : Nat) : ∀ (l : List (Nat × Nat)) (S : List (Nat × Nat) × zA), S.1.length ≤ (zst1 p bh r la w S l).1.length
  | [], S => Nat.le_refl _
  | q :: t, S => Nat.le_trans (zps_len p bh r la S q.1 (q.2 * w)) (zst1_len p bh r la w t _)
theorem zslot_len (p : zPm) (bh r k : Nat) (la : Bool) : ∀ (L : List (Nat × Nat)) (S : List (Nat × Nat) × zA), S.1.length ≤ (zslot p bh r k la S L).1.length
  | [], S => Nat.le_refl _
  | q :: t, S => Nat.le_trans (zst1_len p bh r la q.2 _ S) (zslot_len p bh r k la t _)
theorem zps_ws (p : zPm) (bh r : Nat) (la : Bool) (S : List (Nat × Nat) × zA) (N w : Nat) : zws (zps p bh r la S N w).1 ≤ zws S.1 + w := by
  unfold zps
  split
  · omega
  · split
    · show zws S.1 ≤ _
      omega
    · split
      · show zws S.1 ≤ _
        omega
      · show zws (zins S.1 N w) ≤ _
        rw [zws_ins]
        omega
theorem zst1_ws (p : zPm) (bh r : Nat) (la : Bool) (w : Nat) : ∀ (l : List (Nat × Nat)) (S : List (Nat × Nat) × zA), zws (zst1 p bh r la w S l).1 ≤ zws S.1 + zws l * w
  | [], S => by rw [zst1, zws_nil]; omega
  | q :: t, S => by
    rw [zst1, zws_cons, Nat.add_mul]
    have h1 := zst1_ws p bh r la w t (zps p bh r la S q.1 (q.2 * w))
    have h2 := zps_ws p bh r la S q.1 (q.2 * w)
    omega
theorem zslot_ws (p : zPm) (bh r k : Nat) (la : Bool) (hh : ph p k ≤ 6) : ∀ (L : List (Nat × Nat)) (S : List (Nat × Nat) × zA), zws (zslot p bh r k la S L).1 ≤ zws S.1 + 6 * zws L
  | [], S => by rw [zslot, zws_nil]; omega
  | q :: t, S => by
    rw [zslot, zws_cons]
    have h1 := zslot_ws p bh r k la hh t (zst1 p bh r la q.2 S (zouts p r k q.1))
    have h2 := zst1_ws p bh r la q.2 (zouts p r k q.1) S
    rw [zouts_w p r k q.1 hh] at h2
    omega
def zLV (p : zPm) (L : List (Nat × Nat)) : Prop := ∀ q ∈ L, zV p q.1
theorem zps_V {p : zPm} {bh r : Nat} {la : Bool} {S : List (Nat × Nat) × zA} {N w : Nat} (hS : zLV p S.1) (hN : zV p N) : zLV p (zps p bh r la S N w).1 := by
  unfold zps
  split
  · exact hS
  · split
    · exact hS
    · split
      · exact hS
      · intro q hq
        rcases zins_mem hq with e | ⟨q2, e1, e2⟩
        · rw [e]
          exact hN
        · rw [← e2]
          exact hS q2 e1
theorem zst1_V (p : zPm) (bh r : Nat) (la : Bool) (w : Nat) : ∀ (l : List (Nat × Nat)) (S : List (Nat × Nat) × zA), zLV p S.1 → zLV p l → zLV p (zst1 p bh r la w S l).1
  | [], S, hS, _ => hS
  | q :: t, S, hS, hl => by
    rw [zst1]
    exact zst1_V p bh r la w t _ (zps_V hS (hl q List.mem_cons_self)) (fun x hx => hl x (List.mem_cons_of_mem _ hx))
theorem zslot_V {p : zPm} (bh r k : Nat) (la : Bool) (hp : zPo p) (hk : k < 6) : ∀ (L : List (Nat × Nat)) (S : List (Nat × Nat) × zA), zLV p S.1 → zLV p L → zLV p (zslot p bh r k la S L).1
  | [], S, hS, _ => hS
  | q :: t, S, hS, hl => by
    rw [zslot]
    exact zslot_V bh r k la hp hk t _ (zst1_V p bh r la q.2 _ S hS (fun x hx => zouts_V hp (hl q List.mem_cons_self) hk x hx)) (fun x hx => hl x (List.mem_cons_of_mem _ hx))
/-- the fight's numbers in the class's memory -/
def zFP (p : zPm) (M : zf_M) : Prop := zf_I M 4 7 = nI (pn p) ∧ (∀ i, i < pn p → zf_I M 11 i = nI (po p i)) ∧ (∀ i, i < pn p → zf_I M 5 (po p i) = nI (pk p (po p i)) ∧ zf_I M 6 (po p i) = nI (pl p (po p i)) ∧ zf_I M 7 (po p i) = nI (ph p (po p i)) ∧ zf_I M 8 (po p i) = nI (pf p (po p i)) ∧ zf_I M 9 (po p i) = nI (pe p (po p i))) ∧ zf_I M 4 8 = nI (pr p) ∧ zf_I M 4 9 = pa p ∧ zf_I M 4 10 = ps p
theorem zFP_F {S : Nat → Prop} {p : zPm} {M M1 : zf_M} (h : zFP p M) (hF : zF S M M1) (hS : ∀ b, 4 ≤ b → b ≤ 11 → ¬ S b) : zFP p M1 := by
  obtain ⟨h1, h2, h3, h4, h5, h6⟩ := h
  have e : ∀ b, 4 ≤ b → b ≤ 11 → ∀ j, zf_I M1 b j = zf_I M b j := fun b x y j => (hF.2.1 b (hS b x y) j).1
  refine ⟨by rw [e 4 (by omega) (by omega)]; exact h1, fun i hi => by rw [e 11 (by omega) (by omega)]; exact h2 i hi, fun i hi => ?_, by rw [e 4 (by omega) (by omega)]; exact h4, by rw [e 4 (by omega) (by omega)]; exact h5, by rw [e 4 (by omega) (by omega)]; exact h6⟩
  rw [e 5 (by omega) (by omega), e 6 (by omega) (by omega), e 7 (by omega) (by omega), e 8 (by omega) (by omega), e 9 (by omega) (by omega)]
  exact h3 i hi

