/-! ===== the law from its entry: the machine's start beside the abstract one's ===== -/
theorem zst_arr {s : State} {args : Array Value} {ty : FieldType} (hty : ∀ C, ty ≠ .object C) (h : (Cond.arrayClass ty).before args s = true) : ∃ cA : ClassId, ArrOfT s cA ty ∧ va_RA s cA ty := by
  obtain ⟨c, k, comp, h1, h2, h3⟩ := Cond.arrayClass_spec h
  refine ⟨c, fun n z => ⟨(fun k h => by cases h), k, h2, comp, h3⟩, ?_⟩
  cases ty with
  | object C => exact absurd rfl (hty C)
  | _ => exact h1
theorem zst_obj {s : State} {args : Array Value} {C : String} (h : (Cond.arrayOver (.object C)).before args s = true) : ∃ cA : ClassId, ArrOfT s cA (.object C) ∧ va_RA s cA (.object C) := by
  obtain ⟨comp, c, k, h1, -, h2, h3, h4⟩ := Cond.arrayOver_spec h
  exact ⟨c, fun n z => ⟨(fun k h => by cases h), k, h2, comp, h3⟩, k, comp, h2, h3, h1, h4⟩
theorem zst_tab {s : State} {args : Array Value} {d : String} {f : Nat → Int32} (hl : (Cond.laysStatic RX5 d "[I").before args s = true) (hi : (Cond.initialized RX5).before args s = true)
    (ha : (Cond.arrayOf (.static RX5 d "[I") .int).before args s = true) (hn : (Cond.eq (.length (.static RX5 d "[I")) (.int 6)).before args s = true)
    (he : ∀ j : Nat, j < 6 → (Cond.eq (.elem (.static RX5 d "[I") (.int (Int32.ofNat j))) (.int (f j))).before args s = true) :
    ∃ t : Nat, va_Z RX5 d "[I" (.ref t) (fun q => s.heap.size ≤ q) s s.heap ∧ va_T .int t 6 (fun j => .int (f j)) (fun q => s.heap.size ≤ q) s s.heap := by
  obtain ⟨t, h1, h2⟩ := va_Tof (N := 6) (f := fun j => .int (f j)) (A := fun q => s.heap.size ≤ q) (by decide) ha (Cond.eq_int hn rfl) (fun j hj => Cond.eq_int (he j hj) rfl) (fun a h => Nat.not_le.mpr h)
  exact ⟨t, va_Zof hl hi h1 (fun a h => Nat.not_le.mpr h), h2⟩
theorem zst_cls {s : State} {args : Array Value} (hT : ∀ w ∈ zf_T, w.before args s = true) : ∀ k, k < 10 → ∃ (c : ClassId) (iS : Nat → Nat), u_Kn s (zf_cR k) (zf_cT k) (zf_cN k) c iS := by
  intro k hk
  rcases (show k = 0 ∨ k = 1 ∨ k = 2 ∨ k = 3 ∨ k = 4 ∨ k = 5 ∨ k = 6 ∨ k = 7 ∨ k = 8 ∨ k = 9 by omega) with rfl | rfl | rfl | rfl | rfl | rfl | rfl | rfl | rfl | rfl
  · exact u_known (C := RX0) (T := TX0) (N := 4) hT zf_uw0 (hT _ (zf_cI 0 (by decide)).1)
  · exact u_known (C := RX1) (T := TX1) (N := 6) hT zf_uw1 (hT _ (zf_cI 1 (by decide)).1)
  · exact u_known (C := RX2) (T := TX2) (N := 11) hT zf_uw2 (hT _ (zf_cI 2 (by decide)).1)
  · exact u_known (C := RX3) (T := TX3) (N := 5) hT zf_uw3 (hT _ (zf_cI 3 (by decide)).1)
  · exact u_known (C := RX4) (T := TX4) (N := 8) hT zf_uw4 (hT _ (zf_cI 4 (by decide)).1)
  · exact u_known (C := RX5) (T := TX5) (N := 2) hT zf_uw5 (hT _ (zf_cI 5 (by decide)).1)
  · exact u_known (C := RX6) (T := TX6) (N := 2) hT zf_uw6 (hT _ (zf_cI 6 (by decide)).1)
  · exact u_known (C := RX7) (T := TX7) (N := 4) hT zf_uw7 (hT _ (zf_cI 7 (by decide)).1)
  · exact u_known (C := RX8) (T := TX8) (N := 13) hT zf_uw8 (hT _ (zf_cI 8 (by decide)).1)
  · exact u_known (C := RX0) (T := TX0) (N := 4) hT zf_uw0 (hT _ (zf_cI 0 (by decide)).1)
theorem zst_D {s : State} {args : Array Value} (hT : ∀ w ∈ zf_T, w.before args s = true) : ∃ D : va_G, ∀ (c : Nat) (q : vw_C), vwCl[c]? = some q → u_Kn s q.1 q.2.1 q.2.2 (D.1 c) (D.2 c) := by
  have h := zst_cls hT
  obtain ⟨c0, i0, -⟩ := h 0 (by decide)
  have h2 : ∀ k : Nat, ∃ q : ClassId × (Nat → Nat), k < 10 → u_Kn s (zf_cR k) (zf_cT k) (zf_cN k) q.1 q.2 := by
    intro k
    by_cases hk : k < 10
    · obtain ⟨c, i, e⟩ := h k hk
      exact ⟨(c, i), fun _ => e⟩
    · exact ⟨(c0, i0), fun h' => absurd h' hk⟩
  obtain ⟨f, hf⟩ := Classical.axiomOfChoice h2
  refine ⟨(fun k => (f k).1, fun k => (f k).2), fun k q hq => ?_⟩
  by_cases hk : k < 10
  · rw [zf_vck k hk] at hq
    cases hq
    exact hf k hk
  · rw [List.getElem?_eq_none (show (10 : Nat) ≤ k by omega)] at hq
    cases hq
theorem zst_cy {s : State} {args : Array Value} (hts : ∀ w ∈ lw_tbl, w.before args s = true) (hT : ∀ w ∈ zf_T, w.before args s = true) : ∃ cy : Nat → ClassId, ∀ (k : Nat) (q : ClassId × FieldType), (zf_ty cy)[k]? = some q → ArrOfT s q.1 q.2 ∧ va_RA s q.1 q.2 := by
  obtain ⟨a0, h0⟩ := zst_arr (ty := .int) (by intro C h; cases h) (hT _ zf_acI)
  obtain ⟨a1, h1⟩ := zst_arr (ty := .long) (by intro C h; cases h) (hT _ zf_acJ)
  obtain ⟨a3, h3⟩ := zst_obj (C := RX6) (hts _ zf_aoRow)
  obtain ⟨a4, h4⟩ := zst_obj (C := RX7) (hts _ zf_aoSheet)
  refine ⟨fun k => if k = 10 then a0 else if k = 11 then a1 else if k = 12 then a0 else if k = 13 then a3 else a4, fun k q hq => ?_⟩
  match k, hq with
  | 0, hq => cases hq; exact h0
  | 1, hq => cases hq; exact h1
  | 2, hq => cases hq; exact h0
  | 3, hq => cases hq; exact h3
  | 4, hq => cases hq; exact h4
  | k + 5, hq => simp [zf_ty] at hq
theorem zst_lo {args : Array Value} {s : State} (hgv : (Jvm.Cond.and given_1 narrow_1).before args s = true) : (Cond.arrayOf (.static RX5 "LOWEST" "[I") .int).before args s = true ∧ (Cond.eq (.length (.static RX5 "LOWEST" "[I")) (.int 6)).before args s = true ∧ ∀ j : Nat, j < 6 → (Cond.eq (.elem (.static RX5 "LOWEST" "[I") (.int (Int32.ofNat j))) (.int (zf_lo j))).before args s = true := by
  have hs := flat_of_before _ hgv
  refine ⟨hs _ (by decide +kernel), hs _ (by decide +kernel), fun j hj => ?_⟩
  rcases (show j = 0 ∨ j = 1 ∨ j = 2 ∨ j = 3 ∨ j = 4 ∨ j = 5 by omega) with rfl | rfl | rfl | rfl | rfl | rfl <;> exact hs _ (by decide +kernel)
theorem zst_hi {args : Array Value} {s : State} (hgv : (Jvm.Cond.and given_1 narrow_1).before args s = true) : (Cond.arrayOf (.static RX5 "HIGHEST" "[I") .int).before args s = true ∧ (Cond.eq (.length (.static RX5 "HIGHEST" "[I")) (.int 6)).before args s = true ∧ ∀ j : Nat, j < 6 → (Cond.eq (.elem (.static RX5 "HIGHEST" "[I") (.int (Int32.ofNat j))) (.int (zf_hi j))).before args s = true := by
  have hs := flat_of_before _ hgv
  refine ⟨hs _ (by decide +kernel), hs _ (by decide +kernel), fun j hj => ?_⟩
  rcases (show j = 0 ∨ j = 1 ∨ j = 2 ∨ j = 3 ∨ j = 4 ∨ j = 5 by omega) with rfl | rfl | rfl | rfl | rfl | rfl <;> exact hs _ (by decide +kernel)
theorem zst_sum : (zSH.length ≤ 600000 ∧ zf_sum zSH ≤ 7302250) ∧ ((zSH ++ [zE]).length ≤ 600000 ∧ zf_sum (zSH ++ [zE]) ≤ 7302250) := by decide +kernel
set_option maxHeartbeats 4000000 in
/-- THE LAW, from its entry -/
theorem whole_start {p : Program} {e : Env} {s : State} {m : MethodId} {below : List Frame} {meth : Method} {c : Code} (l : Launch) (hflags : l.flags = flags0) {b L : Nat} {xs : Nat → Int32} (hL : L ≤ 260) (C0 : lw_At p s m meth c b L xs) : W p l e room_1 s m #[Value.ref b] below meth c s.heap [] 0 0 (lw_Z below #[Value.ref b] s) (entryFrame m ([Value.ref b] : List Value).toArray 20) := by
  obtain ⟨hx, hb, hr, hml, hown, hts, hX, hbl, hlocks, hgv⟩ := id C0
  have hT : ∀ w ∈ zf_T, w.before #[Value.ref b] s = true := fun w hw => hts w (List.mem_filter.mp hw).1
  obtain ⟨D, hD⟩ := zst_D hT
  obtain ⟨cy, hcy⟩ := zst_cy hts hT
  obtain ⟨la, ln, le⟩ := zst_lo hgv
  obtain ⟨ha, hn, he⟩ := zst_hi hgv
  obtain ⟨t0, z0, v0⟩ := zst_tab (hts _ zf_lsLOWEST) (hT _ (zf_cI 5 (by decide)).2) la ln le
  obtain ⟨t1, z1, v1⟩ := zst_tab (hts _ zf_lsHIGHEST) (hT _ (zf_cI 5 (by decide)).2) ha hn he
  obtain ⟨ad, had, h0, h1, h2⟩ : ∃ ad : Nat → Nat, (∀ a, a < 1000000 → ad a = s.heap.size + a) ∧ ad 1000000 = t0 ∧ ad 1000001 = t1 ∧ ad 1000002 = b :=
    ⟨fun a => if a < 1000000 then s.heap.size + a else if a = 1000000 then t0 else if a = 1000001 then t1 else b, fun a h => if_pos h, rfl, rfl, rfl⟩
  obtain ⟨n, r, hev, hr1, hr2⟩ := law_run (X := (L, xs)) hL
  obtain ⟨r, M'⟩ := r
  dsimp only at hr1 hr2
  subst hr1
  have hF : zf_F D ad cy s.heap.size (L, xs) s := by
    refine ⟨⟨hD, hcy⟩, ⟨va_AO.of (hts _ zf_aoRow), va_AO.of (hts _ zf_aoSheet)⟩, fun e he => va_Nw.of rfl (hts _ (zf_nlt e he)), ⟨?_, ?_⟩, ⟨?_, ?_⟩, ⟨?_, ?_⟩, Nat.le_refl _, had⟩
    · rw [h0]; exact z0
    · rw [h1]; exact z1
    · rw [h0]; exact v0
    · rw [h1]; exact v1
    · rw [h2]; exact hX
    · rw [h2]; exact hbl
  have hC : zf_C 1000 p room_1 s m #[Value.ref b] meth c := ⟨hx, hb, hml, hown, hT, fun h => by rw [zf_g1000] at h; exact absurd h (by decide), by decide, by decide⟩
  have hLo := zf_Lo.entry ad 1000 [.ref 1000002] (by decide)
  have hm1 : ([Value.ref 1000002]).map (zf_v ad) = [.ref b] := by
    show [Value.ref (ad 1000002)] = _
    rw [h2]
  rw [hm1] at hLo
  have hH : zf_H D ad cy s.heap.size Mz s.heap := ⟨rfl, fun k q h => by simp [zf_w, Mz] at h, Nat.zero_le _⟩
  have z3 : Mz.1.length = 0 := rfl
  have z4 : M'.1.length ≤ 600000 ∧ zf_sum M'.1 ≤ 7302250 := by
    rcases hr2 with e | e
    · rw [e]; exact zst_sum.1
    · rw [e]; exact zst_sum.2
  rw [lg_entry_eq]
  refine zf_ok (D := D) (ad := ad) (cy := cy) (base := s.heap.size) (l := l) (X := (L, xs)) n 1000 0 _ [] Mz _ M' hev p e room_1 s m #[Value.ref b] below meth c (lw_Z below #[Value.ref b] s) 0 0 600000 7302250 hC hF (Nat.le_refl _) (Nat.le_refl _) (by omega) (by omega) ?_ _ s.heap [] ⟨hLo, hH, va_S.rf⟩
  intro pc' lsC H locs hR hH1 hS
  rcases hR with ⟨v, hv, hd, -⟩ | ⟨v, hv, -⟩ | ⟨hv, -⟩
  · cases hv
    exact va_forget (fun q hq => hS.2.2 q hq) (lw_ret hx hb hr hlocks hd)
  · cases hv
  · cases hv
