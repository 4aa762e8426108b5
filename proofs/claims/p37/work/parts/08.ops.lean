/-! ===== each abstract step beside the machine's ===== -/
theorem zf_uw (k : Nat) (h : k < 10) : ∀ w ∈ u_ws (zf_cR k) (zf_cT k) (zf_cN k), w ∈ zf_T := by
  rcases (show k = 0 ∨ k = 1 ∨ k = 2 ∨ k = 3 ∨ k = 4 ∨ k = 5 ∨ k = 6 ∨ k = 7 ∨ k = 8 ∨ k = 9 by omega) with rfl | rfl | rfl | rfl | rfl | rfl | rfl | rfl | rfl | rfl
  · exact zf_uw0
  · exact zf_uw1
  · exact zf_uw2
  · exact zf_uw3
  · exact zf_uw4
  · exact zf_uw5
  · exact zf_uw6
  · exact zf_uw7
  · exact zf_uw8
  · exact zf_uw0
theorem zf_tyk (k : Nat) (h : k < 10) : ∀ j, j < zf_cN k → parseFieldDescriptor (zf_cT k j).2.2.1 = some (zf_ct k j) := by
  rcases (show k = 0 ∨ k = 1 ∨ k = 2 ∨ k = 3 ∨ k = 4 ∨ k = 5 ∨ k = 6 ∨ k = 7 ∨ k = 8 ∨ k = 9 by omega) with rfl | rfl | rfl | rfl | rfl | rfl | rfl | rfl | rfl | rfl
  · exact tyX0_ok
  · exact tyX1_ok
  · exact tyX2_ok
  · exact tyX3_ok
  · exact tyX4_ok
  · exact tyX5_ok
  · exact tyX6_ok
  · exact tyX7_ok
  · exact tyX8_ok
  · exact tyX0_ok
theorem zf_nmk (k : Nat) (h : k < 10) : ∀ a, a < zf_cN k → ∀ b, b < zf_cN k → a ≠ b → (zf_cT k a).2.1 ≠ (zf_cT k b).2.1 := by
  rcases (show k = 0 ∨ k = 1 ∨ k = 2 ∨ k = 3 ∨ k = 4 ∨ k = 5 ∨ k = 6 ∨ k = 7 ∨ k = 8 ∨ k = 9 by omega) with rfl | rfl | rfl | rfl | rfl | rfl | rfl | rfl | rfl | rfl
  · exact nmX0
  · exact nmX1
  · exact nmX2
  · exact nmX3
  · exact nmX4
  · exact nmX5
  · exact nmX6
  · exact nmX7
  · exact nmX8
  · exact nmX0
theorem zf_vck (k : Nat) (h : k < 10) : vwCl[k]? = some (zf_cR k, zf_cT k, zf_cN k) := by
  rcases (show k = 0 ∨ k = 1 ∨ k = 2 ∨ k = 3 ∨ k = 4 ∨ k = 5 ∨ k = 6 ∨ k = 7 ∨ k = 8 ∨ k = 9 by omega) with rfl | rfl | rfl | rfl | rfl | rfl | rfl | rfl | rfl | rfl <;> rfl
section ZO
variable {D : va_G} {ad : Nat → Nat} {cy : Nat → ClassId} {base mi : Nat} {p : Program} {l : Launch} {e : Env} {R : Room} {s : State} {m : MethodId} {args : Array Value} {below : List Frame} {meth : Method} {c : Code} {Q : State → Prop} {cells slots : Nat} {X : zf_X} {pc pc' : Nat} {ls ls' : List Slot} {st st' : List Value} {M M' : zf_M} {S : zf_S}
theorem zf_il_g {k : Nat} (row : ∀ {H locs lsC x rest}, lsC[k]? = some (.val (.int x)) → W p l e R s m args below meth c H locs cells slots Q (F0 m pc' lsC (.int x :: rest)) → W p l e R s m args below meth c H locs cells slots Q (F0 m pc lsC rest)) (h : zf_il pc' ls k st M = some (.inl S)) (kk : S.2.2.2.1 = M.1 → zf_G D ad cy base mi p l e R s m args below meth c Q cells slots S) : zf_G D ad cy base mi p l e R s m args below meth c Q cells slots (pc, ls, st, M) := by
  unfold zf_il at h
  split at h
  next x hx =>
    have e := zf_st_e h
    subst e
    exact zf_sT (kk rfl) fun lsC H locs hR q => row (hR.1.2.2.2 k (.int x) hx (fun h => by cases h)) q
  next => cases h
theorem zf_al_g {k : Nat} (row : ∀ {H locs lsC x rest}, lsC[k]? = some (.val (.ref x)) → W p l e R s m args below meth c H locs cells slots Q (F0 m pc' lsC (.ref x :: rest)) → W p l e R s m args below meth c H locs cells slots Q (F0 m pc lsC rest)) (h : zf_al pc' ls k st M = some (.inl S)) (kk : S.2.2.2.1 = M.1 → zf_G D ad cy base mi p l e R s m args below meth c Q cells slots S) : zf_G D ad cy base mi p l e R s m args below meth c Q cells slots (pc, ls, st, M) := by
  unfold zf_al at h
  split at h
  next x hx =>
    have e := zf_st_e h
    subst e
    exact zf_sT (kk rfl) fun lsC H locs hR q => row (hR.1.2.2.2 k (.ref x) hx (fun h => by cases h)) q
  next => cases h
theorem zf_ll_g {k : Nat} (row : ∀ {H locs lsC x rest}, lsC[k]? = some (.val (.long x)) → W p l e R s m args below meth c H locs cells slots Q (F0 m pc' lsC (.long x :: rest)) → W p l e R s m args below meth c H locs cells slots Q (F0 m pc lsC rest)) (h : zf_ll pc' ls k st M = some (.inl S)) (kk : S.2.2.2.1 = M.1 → zf_G D ad cy base mi p l e R s m args below meth c Q cells slots S) : zf_G D ad cy base mi p l e R s m args below meth c Q cells slots (pc, ls, st, M) := by
  unfold zf_ll at h
  split at h
  next x hx hx2 =>
    have e := zf_st_e h
    subst e
    exact zf_sT (kk rfl) fun lsC H locs hR q => row (hR.1.2.2.2 k (.long x) hx (fun _ => hx2)) q
  next => cases h
theorem zf_is_g {k : Nat} (row : ∀ {H locs lsC nL x rest lv}, lv_has lsC nL lv → k < nL → (∀ ls' : Array Slot, lv_has ls' nL ((k, Value.int x) :: lv.filter (fun q => !(q.1 == k) && !(q.1 + 1 == k && q.2.category == 2))) → W p l e R s m args below meth c H locs cells slots Q (F0 m pc' ls' rest)) → W p l e R s m args below meth c H locs cells slots Q (F0 m pc lsC (.int x :: rest))) (h : zf_is pc' ls k st M = some (.inl S)) (kk : S.2.2.2.1 = M.1 → zf_G D ad cy base mi p l e R s m args below meth c Q cells slots S) : zf_G D ad cy base mi p l e R s m args below meth c Q cells slots (pc, ls, st, M) := by
  unfold zf_is at h
  split at h
  next x r =>
    split at h
    next hk =>
      have e := zf_st_e h
      subst e
      exact zf_sS (kk rfl) fun lsC H locs hR q => row hR.1.has (by rw [← hR.1.2.2.1]; exact hk) fun ls' h' => q ls' (hR.1.put1 hk rfl h')
    next => cases h
  next => cases h
theorem zf_as_g {k : Nat} (row : ∀ {H locs lsC nL x rest lv}, lv_has lsC nL lv → k < nL → (∀ ls' : Array Slot, lv_has ls' nL ((k, Value.ref x) :: lv.filter (fun q => !(q.1 == k) && !(q.1 + 1 == k && q.2.category == 2))) → W p l e R s m args below meth c H locs cells slots Q (F0 m pc' ls' rest)) → W p l e R s m args below meth c H locs cells slots Q (F0 m pc lsC (.ref x :: rest))) (h : zf_as pc' ls k st M = some (.inl S)) (kk : S.2.2.2.1 = M.1 → zf_G D ad cy base mi p l e R s m args below meth c Q cells slots S) : zf_G D ad cy base mi p l e R s m args below meth c Q cells slots (pc, ls, st, M) := by
  unfold zf_as at h
  split at h
  next x r =>
    split at h
    next hk =>
      have e := zf_st_e h
      subst e
      exact zf_sS (kk rfl) fun lsC H locs hR q => row hR.1.has (by rw [← hR.1.2.2.1]; exact hk) fun ls' h' => q ls' (hR.1.put1 (v := .ref x) hk rfl h')
    next => cases h
  next => cases h
theorem zf_ls_g {k : Nat} (row : ∀ {H locs lsC nL x rest lv}, lv_has lsC nL lv → k + 1 < nL → (∀ ls' : Array Slot, lv_has ls' nL ((k, Value.long x) :: lv.filter (fun q => !(q.1 == k) && (!(q.1 == k + 1) && !(q.1 + 1 == k && q.2.category == 2)))) → W p l e R s m args below meth c H locs cells slots Q (F0 m pc' ls' rest)) → W p l e R s m args below meth c H locs cells slots Q (F0 m pc lsC (.long x :: rest))) (h : zf_ls pc' ls k st M = some (.inl S)) (kk : S.2.2.2.1 = M.1 → zf_G D ad cy base mi p l e R s m args below meth c Q cells slots S) : zf_G D ad cy base mi p l e R s m args below meth c Q cells slots (pc, ls, st, M) := by
  unfold zf_ls at h
  split at h
  next x r =>
    split at h
    next hk =>
      have e := zf_st_e h
      subst e
      exact zf_sS (kk rfl) fun lsC H locs hR q => row hR.1.has (by rw [← hR.1.2.2.1]; exact hk) fun ls' h' => q ls' (hR.1.put2 (v := .long x) hk h')
    next => cases h
  next => cases h
theorem zf_ic_g {k : Nat} {n : Int} (row : ∀ {H locs lsC nL x rest lv} {j : Nat}, lv_has lsC nL lv → lv[j]? = some (k, .int x) → k < nL → (∀ ls' : Array Slot, lv_has ls' nL ((k, Value.int (x + Int32.ofInt n)) :: lv.filter (fun q => !(q.1 == k) && !(q.1 + 1 == k && q.2.category == 2))) → W p l e R s m args below meth c H locs cells slots Q (F0 m pc' ls' rest)) → W p l e R s m args below meth c H locs cells slots Q (F0 m pc lsC rest)) (h : zf_ic pc' ls k n st M = some (.inl S)) (kk : S.2.2.2.1 = M.1 → zf_G D ad cy base mi p l e R s m args below meth c Q cells slots S) : zf_G D ad cy base mi p l e R s m args below meth c Q cells slots (pc, ls, st, M) := by
  unfold zf_ic at h
  split at h
  next x hx =>
    have e := zf_st_e h
    subst e
    have hk : k < ls.length := (List.getElem?_eq_some_iff.mp hx).1
    refine zf_sS (kk rfl) fun lsC H locs hR q => ?_
    obtain ⟨j, hj⟩ := List.getElem?_of_mem (zf_pl_mem (ad := ad).mpr ⟨.int x, hx, (fun h => by cases h), rfl⟩)
    exact row hR.1.has hj (by rw [← hR.1.2.2.1]; exact hk) fun ls' h' => q ls' (hR.1.put1 hk rfl h')
  next => cases h
theorem zf_ii_g {f : Int32 → Int32 → Value} (row : ∀ {H locs lsC x y rest}, W p l e R s m args below meth c H locs cells slots Q (F0 m pc' lsC (zf_v ad (f x y) :: rest)) → W p l e R s m args below meth c H locs cells slots Q (F0 m pc lsC (.int y :: .int x :: rest))) (h : zf_ii pc' f ls st M = some (.inl S)) (kk : S.2.2.2.1 = M.1 → zf_G D ad cy base mi p l e R s m args below meth c Q cells slots S) : zf_G D ad cy base mi p l e R s m args below meth c Q cells slots (pc, ls, st, M) := by
  unfold zf_ii at h
  split at h
  next x y r =>
    have e := zf_st_e h
    subst e
    exact zf_sT (kk rfl) fun lsC H locs hR q => row q
  next => cases h
theorem zf_id_g {f : Int32 → Int32 → Value} (row : ∀ {H locs lsC x y rest}, ¬ y = 0 → W p l e R s m args below meth c H locs cells slots Q (F0 m pc' lsC (zf_v ad (f x y) :: rest)) → W p l e R s m args below meth c H locs cells slots Q (F0 m pc lsC (.int y :: .int x :: rest))) (h : zf_id pc' f ls st M = some (.inl S)) (kk : S.2.2.2.1 = M.1 → zf_G D ad cy base mi p l e R s m args below meth c Q cells slots S) : zf_G D ad cy base mi p l e R s m args below meth c Q cells slots (pc, ls, st, M) := by
  unfold zf_id at h
  split at h
  next x y r =>
    split at h
    next => cases h
    next hy =>
      have e := zf_st_e h
      subst e
      exact zf_sT (kk rfl) fun lsC H locs hR q => row hy q
  next => cases h
theorem zf_jj_g {f : Int64 → Int64 → Value} (row : ∀ {H locs lsC x y rest}, W p l e R s m args below meth c H locs cells slots Q (F0 m pc' lsC (zf_v ad (f x y) :: rest)) → W p l e R s m args below meth c H locs cells slots Q (F0 m pc lsC (.long y :: .long x :: rest))) (h : zf_jj pc' f ls st M = some (.inl S)) (kk : S.2.2.2.1 = M.1 → zf_G D ad cy base mi p l e R s m args below meth c Q cells slots S) : zf_G D ad cy base mi p l e R s m args below meth c Q cells slots (pc, ls, st, M) := by
  unfold zf_jj at h
  split at h
  next x y r =>
    have e := zf_st_e h
    subst e
    exact zf_sT (kk rfl) fun lsC H locs hR q => row q
  next => cases h
theorem zf_jd_g {f : Int64 → Int64 → Value} (row : ∀ {H locs lsC x y rest}, ¬ y = 0 → W p l e R s m args below meth c H locs cells slots Q (F0 m pc' lsC (zf_v ad (f x y) :: rest)) → W p l e R s m args below meth c H locs cells slots Q (F0 m pc lsC (.long y :: .long x :: rest))) (h : zf_jd pc' f ls st M = some (.inl S)) (kk : S.2.2.2.1 = M.1 → zf_G D ad cy base mi p l e R s m args below meth c Q cells slots S) : zf_G D ad cy base mi p l e R s m args below meth c Q cells slots (pc, ls, st, M) := by
  unfold zf_jd at h
  split at h
  next x y r =>
    split at h
    next => cases h
    next hy =>
      have e := zf_st_e h
      subst e
      exact zf_sT (kk rfl) fun lsC H locs hR q => row hy q
  next => cases h
theorem zf_ji_g {f : Int64 → Int32 → Value} (row : ∀ {H locs lsC x y rest}, W p l e R s m args below meth c H locs cells slots Q (F0 m pc' lsC (zf_v ad (f x y) :: rest)) → W p l e R s m args below meth c H locs cells slots Q (F0 m pc lsC (.int y :: .long x :: rest))) (h : zf_ji pc' f ls st M = some (.inl S)) (kk : S.2.2.2.1 = M.1 → zf_G D ad cy base mi p l e R s m args below meth c Q cells slots S) : zf_G D ad cy base mi p l e R s m args below meth c Q cells slots (pc, ls, st, M) := by
  unfold zf_ji at h
  split at h
  next x y r =>
    have e := zf_st_e h
    subst e
    exact zf_sT (kk rfl) fun lsC H locs hR q => row q
  next => cases h
theorem zf_i1_g {f : Int32 → Value} (row : ∀ {H locs lsC x rest}, W p l e R s m args below meth c H locs cells slots Q (F0 m pc' lsC (zf_v ad (f x) :: rest)) → W p l e R s m args below meth c H locs cells slots Q (F0 m pc lsC (.int x :: rest))) (h : zf_i1 pc' f ls st M = some (.inl S)) (kk : S.2.2.2.1 = M.1 → zf_G D ad cy base mi p l e R s m args below meth c Q cells slots S) : zf_G D ad cy base mi p l e R s m args below meth c Q cells slots (pc, ls, st, M) := by
  unfold zf_i1 at h
  split at h
  next x r =>
    have e := zf_st_e h
    subst e
    exact zf_sT (kk rfl) fun lsC H locs hR q => row q
  next => cases h
theorem zf_j1_g {f : Int64 → Value} (row : ∀ {H locs lsC x rest}, W p l e R s m args below meth c H locs cells slots Q (F0 m pc' lsC (zf_v ad (f x) :: rest)) → W p l e R s m args below meth c H locs cells slots Q (F0 m pc lsC (.long x :: rest))) (h : zf_j1 pc' f ls st M = some (.inl S)) (kk : S.2.2.2.1 = M.1 → zf_G D ad cy base mi p l e R s m args below meth c Q cells slots S) : zf_G D ad cy base mi p l e R s m args below meth c Q cells slots (pc, ls, st, M) := by
  unfold zf_j1 at h
  split at h
  next x r =>
    have e := zf_st_e h
    subst e
    exact zf_sT (kk rfl) fun lsC H locs hR q => row q
  next => cases h
theorem zf_k_g {v : Value} (row : ∀ {H locs lsC rest}, W p l e R s m args below meth c H locs cells slots Q (F0 m pc' lsC (zf_v ad v :: rest)) → W p l e R s m args below meth c H locs cells slots Q (F0 m pc lsC rest)) (h : zf_st pc' ls (v :: st) M = some (.inl S)) (kk : S.2.2.2.1 = M.1 → zf_G D ad cy base mi p l e R s m args below meth c Q cells slots S) : zf_G D ad cy base mi p l e R s m args below meth c Q cells slots (pc, ls, st, M) := by
  have e := zf_st_e h
  subst e
  exact zf_sT (kk rfl) fun lsC H locs hR q => row q
theorem zf_go_g {off : Int} (row : ∀ {H locs lsC rest} {tgt : Nat}, (pc : Int) + off = (tgt : Int) → W p l e R s m args below meth c H locs cells slots Q (F0 m tgt lsC rest) → W p l e R s m args below meth c H locs cells slots Q (F0 m pc lsC rest)) (h : zf_go pc off ls st M = some (.inl S)) (kk : S.2.2.2.1 = M.1 → zf_G D ad cy base mi p l e R s m args below meth c Q cells slots S) : zf_G D ad cy base mi p l e R s m args below meth c Q cells slots (pc, ls, st, M) := by
  obtain ⟨t, ht, e⟩ := zf_go_e h
  subst e
  exact zf_sT (kk rfl) fun lsC H locs hR q => row ht q
theorem zf_dup_g (hx : p.tables.exec = Jvm.exec) (hb : c.code = (zf_g mi).2.1) (hd : decode (zf_g mi).2.1 pc = .ok (.dup, 1)) (h : zf_dup (pc + 1) ls st M = some (.inl S)) (kk : S.2.2.2.1 = M.1 → zf_G D ad cy base mi p l e R s m args below meth c Q cells slots S) : zf_G D ad cy base mi p l e R s m args below meth c Q cells slots (pc, ls, st, M) := by
  unfold zf_dup at h
  split at h
  next v r =>
    split at h
    next hv =>
      have e := zf_st_e h
      subst e
      exact zf_sT (kk rfl) fun lsC H locs hR q => lv_dup hx hb hd (by rw [zf_vc]; exact hv) q
    next => cases h
  next => cases h
theorem zf_pop_g (hx : p.tables.exec = Jvm.exec) (hb : c.code = (zf_g mi).2.1) (hd : decode (zf_g mi).2.1 pc = .ok (.pop, 1)) (h : zf_pop (pc + 1) ls st M = some (.inl S)) (kk : S.2.2.2.1 = M.1 → zf_G D ad cy base mi p l e R s m args below meth c Q cells slots S) : zf_G D ad cy base mi p l e R s m args below meth c Q cells slots (pc, ls, st, M) := by
  unfold zf_pop at h
  split at h
  next v r =>
    split at h
    next hv =>
      have e := zf_st_e h
      subst e
      exact zf_sT (kk rfl) fun lsC H locs hR q => lv_pop hx hb hd (va := zf_v ad v) (by rw [zf_vc]; exact hv) q
    next => cases h
  next => cases h
theorem zf_dp2_g (hx : p.tables.exec = Jvm.exec) (hb : c.code = (zf_g mi).2.1) (hd : decode (zf_g mi).2.1 pc = .ok (.dup2, 1)) (h : zf_dp2 (pc + 1) ls st M = some (.inl S)) (kk : S.2.2.2.1 = M.1 → zf_G D ad cy base mi p l e R s m args below meth c Q cells slots S) : zf_G D ad cy base mi p l e R s m args below meth c Q cells slots (pc, ls, st, M) := by
  unfold zf_dp2 at h
  split at h
  next v w r =>
    split at h
    next hv =>
      have e := zf_st_e h
      subst e
      exact zf_sT (kk rfl) fun lsC H locs hR q => lv_dup2_11 hx hb hd (by rw [zf_vc]; exact hv.1) (by rw [zf_vc]; exact hv.2) q
    next =>
      split at h
      next hv =>
        have e := zf_st_e h
        subst e
        exact zf_sT (kk rfl) fun lsC H locs hR q => lv_dup2_2 hx hb hd (by rw [zf_vc]; exact hv) q
      next => cases h
  next v =>
    split at h
    next hv =>
      have e := zf_st_e h
      subst e
      exact zf_sT (kk rfl) fun lsC H locs hR q => lv_dup2_2 hx hb hd (by rw [zf_vc]; exact hv) q
    next => cases h
  next => cases h
theorem zf_tb_g {d lo hi : Int} {offs : Array Int} {n : Nat} (hx : p.tables.exec = Jvm.exec) (hb : c.code = (zf_g mi).2.1) (hd : decode (zf_g mi).2.1 pc = .ok (.tableswitch d lo hi offs, n)) (h : zf_tb pc d lo hi offs ls st M = some (.inl S)) (kk : S.2.2.2.1 = M.1 → zf_G D ad cy base mi p l e R s m args below meth c Q cells slots S) : zf_G D ad cy base mi p l e R s m args below meth c Q cells slots (pc, ls, st, M) := by
  unfold zf_tb at h
  split at h
  next x r =>
    split at h
    next hc =>
      obtain ⟨t, ht, e⟩ := zf_go_e h
      subst e
      exact zf_sT (kk rfl) fun lsC H locs hR q => lv_tableOut hx hb hd hc ht q
    next hc =>
      split at h
      next off ho =>
        obtain ⟨t, ht, e⟩ := zf_go_e h
        subst e
        exact zf_sT (kk rfl) fun lsC H locs hR q => lv_tableIn hx hb hd (fun z => hc (Or.inl z)) (fun z => hc (Or.inr z)) ho ht q
      next => cases h
  next => cases h
theorem zf_lk_g {d : Int} {ps : Array (Int × Int)} {n : Nat} (hx : p.tables.exec = Jvm.exec) (hb : c.code = (zf_g mi).2.1) (hd : decode (zf_g mi).2.1 pc = .ok (.lookupswitch d ps, n)) (h : zf_lk pc d ps ls st M = some (.inl S)) (kk : S.2.2.2.1 = M.1 → zf_G D ad cy base mi p l e R s m args below meth c Q cells slots S) : zf_G D ad cy base mi p l e R s m args below meth c Q cells slots (pc, ls, st, M) := by
  unfold zf_lk at h
  split at h
  next x r =>
    split at h
    next hc =>
      obtain ⟨t, ht, e⟩ := zf_go_e h
      subst e
      exact zf_sT (kk rfl) fun lsC H locs hR q => lv_lookup hx hb hd hc rfl ht q
    next => cases h
  next => cases h
theorem va_Xlt {b L : Nat} {xs : Nat → Int32} {U : State} {H : Heap} (h : va_X b L xs U H) : b < H.size := by
  obtain ⟨scr, h1, -⟩ := h
  exact (Array.getElem?_eq_some_iff.mp h1).1
/-- the cell of an object, of an array -/
theorem zf_wo {a k n : Nat} (h : M.1[a]? = some (k, n)) (hk : k < 10) : (zf_w ad cy M)[a]? = some (ad a, .inr (k, zf_fs ad M k a)) := by
  rw [zf_wg h]
  simp only [zf_ce]
  rw [if_pos hk]
theorem zf_wi {a n : Nat} (h : M.1[a]? = some (10, n)) : (zf_w ad cy M)[a]? = some (ad a, .inl (cy 10, n, .inl (M.2.1 a))) := zf_wg h
theorem zf_wj {a n : Nat} (h : M.1[a]? = some (11, n)) : (zf_w ad cy M)[a]? = some (ad a, .inl (cy 11, n, .inr (.inl (M.2.2.1 a)))) := zf_wg h
theorem zf_wz {a n : Nat} (h : M.1[a]? = some (12, n)) : (zf_w ad cy M)[a]? = some (ad a, .inl (cy 12, n, .inl (M.2.1 a))) := zf_wg h
theorem zf_wq {a n : Nat} (h : M.1[a]? = some (13, n)) : (zf_w ad cy M)[a]? = some (ad a, .inl (cy 13, n, .inr (.inr (.inr (.inr (fun j => (M.2.2.2 a j).map ad)))))) := zf_wg h
theorem zf_wq2 {a n : Nat} (h : M.1[a]? = some (14, n)) : (zf_w ad cy M)[a]? = some (ad a, .inl (cy 14, n, .inr (.inr (.inr (.inr (fun j => (M.2.2.2 a j).map ad)))))) := zf_wg h
theorem zf_fsk {k a j : Nat} (h : j < zf_cN k) : (zf_fs ad M k a)[j]? = some (zf_fv ad M (zf_ct k j) a j) := by
  simp [zf_fs, h]
theorem zf_fsl {k a : Nat} : (zf_fs ad M k a).length = zf_cN k := by simp [zf_fs]
/-- a field of an object becomes another -/
theorem zf_fset {k a j : Nat} {v : Value} (hj : j < zf_cN k) (hs : zf_fv ad M' (zf_ct k j) a j = v) (ho : ∀ i, i ≠ j → M'.2.1 a i = M.2.1 a i ∧ M'.2.2.1 a i = M.2.2.1 a i ∧ M'.2.2.2 a i = M.2.2.2 a i) : (zf_fs ad M k a).set j v = zf_fs ad M' k a := by
  apply List.ext_getElem?
  intro i
  by_cases hi : i = j
  · subst hi
    rw [List.getElem?_set_self (by rw [zf_fsl]; exact hj), zf_fsk hj, hs]
  · rw [List.getElem?_set_ne (Ne.symm hi)]
    by_cases hl : i < zf_cN k
    · rw [zf_fsk hl, zf_fsk hl]
      obtain ⟨h1, h2, h3⟩ := ho i hi
      cases zf_ct k i <;> simp only [zf_fv, h1, h2, h3]
    · rw [List.getElem?_eq_none (by rw [zf_fsl]; omega), List.getElem?_eq_none (by rw [zf_fsl]; omega)]
theorem zf_cRo (k : Nat) (h : k < 10) : zf_cR k = zf_oR k := by
  rcases (show k = 0 ∨ k = 1 ∨ k = 2 ∨ k = 3 ∨ k = 4 ∨ k = 5 ∨ k = 6 ∨ k = 7 ∨ k = 8 ∨ k = 9 by omega) with rfl | rfl | rfl | rfl | rfl | rfl | rfl | rfl | rfl | rfl <;> rfl
theorem zf_un {α : Type} {f : Nat → Nat → α} {a j b i : Nat} {v : α} (h : ¬ (b = a ∧ i = j)) : zf_u f a j v b i = f b i := by
  unfold zf_u
  by_cases h1 : b = a
  · rw [if_pos h1, if_neg (fun z => h ⟨h1, z⟩)]
  · rw [if_neg h1]
/-- one cell was written -/
theorem zf_wr {a i : Nat} {e0 e : va_E} {M2 : zf_M} {lsC : Array Slot} {H H1 : Heap} {locs : List Loc} (hF : zf_F D ad cy base X s) (hR : zf_R D ad cy base mi s lsC H locs ls M) (h0 : (zf_w ad cy M)[a]? = some (ad a, e0)) (hw : (zf_w ad cy M).set a (ad a, e) = zf_w ad cy M2) (hs : M2.1 = M.1) (he : va_at D vwCl (ad a, e) H1) (z : H1.size = H.size) (oq : ∀ q : Nat, q ≠ ad a → H1[q]? = H[q]?) : zf_R D ad cy base mi s lsC H1 (locs ++ [⟨ad a, i⟩]) ls M2 := by
  have hD := zf_wD (cy := cy) (M := M) hF.2.2.2.2.2.2.2 hR.2.1.2.2
  exact ⟨hR.1, ⟨by rw [z, hR.2.1.1, hs], hw ▸ hR.2.1.2.1.set hD h0 he oq, by rw [hs]; exact hR.2.1.2.2⟩, hR.2.2.put z oq (hD.2 a _ h0)⟩
theorem zf_get_g {idx : Nat} (hC : zf_C mi p R s m args meth c) (hF : zf_F D ad cy base X s) (hd : decode (zf_g mi).2.1 pc = .ok (.getfield idx, 3)) (h : zf_get (zf_g mi).2.2.2.2.1 (pc + 3) idx ls st M = some (.inl S)) (kk : S.2.2.2.1 = M.1 → zf_G D ad cy base mi p l e R s m args below meth c Q cells slots S) : zf_G D ad cy base mi p l e R s m args below meth c Q cells slots (pc, ls, st, M) := by
  obtain ⟨hx, hb, hml, hown, hts, hnm, hfr, hlo⟩ := hC
  unfold zf_get at h
  split at h
  next a r k j hat =>
    obtain ⟨hlk, hk10, hjN, -⟩ := zf_flt _ (zf_at_in hat)
    dsimp only at hlk hk10 hjN
    split at h
    next hka =>
      obtain ⟨n, hn⟩ := zf_kE hka (by omega)
      have key : ∀ v : Value, zf_fv ad M (zf_ct k j) a j = zf_v ad v → S = (pc + 3, ls, v :: r, M) → zf_G D ad cy base mi p l e R s m args below meth c Q cells slots (pc, ls, .ref a :: r, M) := by
        intro v hv e
        subst e
        refine zf_sT (kk rfl) fun lsC H locs hR q => ?_
        exact va_get hx hb hts (zf_uw k hk10) hown hF.1 hR.2.1.2.1 a (zf_wo hn hk10) (zf_vck k hk10) j hjN (hts _ hlk) (fun x h => h) (by rw [zf_fsk hjN, hv]) hd q
      split at h
      next hty => exact key _ (by rw [hty]; rfl) (zf_st_e h)
      next nm hty =>
        split at h
        next b hb2 => exact key _ (by rw [hty]; simp only [zf_fv, hb2]; rfl) (zf_st_e h)
        next => cases h
      next nm hty =>
        split at h
        next b hb2 => exact key _ (by rw [hty]; simp only [zf_fv, hb2]; rfl) (zf_st_e h)
        next => cases h
      next h1 h2 h3 =>
        refine key _ ?_ (zf_st_e h)
        cases hty : zf_ct k j <;> first | rfl | exact absurd hty (by first | exact h1 | exact h2 _ | exact h3 _)
    next => cases h
  next => cases h
theorem zf_put_g {idx : Nat} (hC : zf_C mi p R s m args meth c) (hF : zf_F D ad cy base X s) (hmi : (zf_g mi).2.2.2.2.2.2.1 = 2 → (zf_g mi).1.name = "<init>") (hd : decode (zf_g mi).2.1 pc = .ok (.putfield idx, 3)) (h : zf_put (decide ((zf_g mi).2.2.2.2.2.2.1 = 2)) (zf_g mi).2.2.2.2.1 (pc + 3) idx ls st M = some (.inl S)) (kk : S.2.2.2.1 = M.1 → zf_G D ad cy base mi p l e R s m args below meth c Q cells slots S) : zf_G D ad cy base mi p l e R s m args below meth c Q cells slots (pc, ls, st, M) := by
  obtain ⟨hx, hb, hml, hown, hts, hnm, hfr, hlo⟩ := hC
  unfold zf_put at h
  split at h
  next v a r k j hat =>
    obtain ⟨hlk, hk10, hjN, hdecl⟩ := zf_flt _ (zf_at_in hat)
    dsimp only at hlk hk10 hjN hdecl
    split at h
    next hka =>
      obtain ⟨hka, hfin⟩ := hka
      obtain ⟨n, hn⟩ := zf_kE hka (by omega)
      have key : ∀ (M2 : zf_M), M2.1 = M.1 → narrow (zf_ct k j) (zf_v ad v) = zf_v ad v → fits (zf_ct k j) (zf_v ad v) = true → zf_fv ad M2 (zf_ct k j) a j = zf_v ad v → (∀ b i, ¬ (b = a ∧ i = j) → M2.2.1 b i = M.2.1 b i ∧ M2.2.2.1 b i = M.2.2.1 b i ∧ M2.2.2.2 b i = M.2.2.2 b i) → S = (pc + 3, ls, r, M2) → zf_G D ad cy base mi p l e R s m args below meth c Q cells slots (pc, ls, v :: .ref a :: r, M) := by
        intro M2 hs hnar hfit hv ho e
        subst e
        intro lsC H locs hR
        have hw : (zf_w ad cy M).set a (ad a, .inr (k, (zf_fs ad M k a).set j (zf_v ad v))) = zf_w ad cy M2 := by
          refine zf_ws hn hs ?_ (fun b hb => ⟨funext fun i => (ho b i (fun z => hb z.1)).1, funext fun i => (ho b i (fun z => hb z.1)).2.1, funext fun i => (ho b i (fun z => hb z.1)).2.2⟩)
          simp only [zf_ce]
          rw [if_pos hk10, zf_fset hjN hv (fun i hi => ho a i (fun z => hi z.2))]
        have hwo := zf_wo (ad := ad) (cy := cy) hn hk10
        have hap := va_apart (own := zf_oR (zf_g mi).2.2.2.2.1) hts (zf_uw k hk10) (zf_ct k) (zf_tyk k hk10) (zf_nmk k hk10) hF.1 (zf_vck k hk10)
        obtain ⟨r0, h1, cell, q1, q2, q3, q4⟩ := hR.2.1.2.1 a _ hwo
        have hr : r0 = (zf_cR k, zf_cT k, zf_cN k) := Option.some.inj (h1.symm.trans (zf_vck k hk10))
        subst hr
        obtain ⟨hS, hfc, kC, hkC, hkind⟩ := hF.1.1 k _ (zf_vck k hk10)
        obtain ⟨cf, kf, fi, f, hi, hsl⟩ := hS j hjN
        have hlay := hts _ (zf_uw k hk10 _ (u_in_lay hjN))
        unfold u_lay at hlay
        have hst := (u_facts hfc hkC (u_lays hts (zf_uw k hk10) hjN) hi).1
        have hq : ∀ H' : Heap, H'[ad a]? = some (cell.setSlot (D.2 k j) (zf_v ad v)) → H'.size = H.size → (∀ q : Nat, q ≠ ad a → H'[q]? = H[q]?) → W p l e R s m args below meth c H' (locs ++ [⟨ad a, D.2 k j⟩]) cells slots Q (F0 m (pc + 3) lsC (r.map (zf_v ad))) := by
          intro H' e1 e2 e3
          exact kk hs lsC H' _ (zf_wr hF hR hwo hw hs ⟨_, zf_vck k hk10, t_OB.to (V := updV (vp_V (zf_fs ad M k a)) j (zf_v ad v)) ⟨_, e1, q2, q3, t_set q4 hap hjN _⟩ (fun i _ => vp_updV_set (by rw [zf_fsl]; exact hjN) _ i)⟩ e2 e3)
        by_cases hf0 : (zf_cT k j).2.2.2 = true
        · rw [if_pos hf0] at hlay
          obtain ⟨hin1, hin2⟩ := hfin.resolve_left (by rw [hf0]; decide)
          have hcf : m.cls = cf := by
            obtain ⟨_, _, c', _, _, _, -, -, hf', -, -, -, hown2, -⟩ := Cond.laysFinal_spec hlay
            have e1 : c' = cf := by have := hi.symm.trans hf'; simp at this; exact this.1.symm
            have e2 : (zf_cT k j).1 = zf_oR (zf_g mi).2.2.2.2.1 := by rw [hdecl, hin2]; exact zf_cRo k hk10
            rw [e2] at hown2
            rw [← e1]; exact Option.some.inj (hown.symm.trans hown2)
          have h6 := u_fits hfc hkC hkind (Or.inr hlay) hi (zf_tyk k hk10 j hjN) hnar hfit
          refine W.putFinK hx hb hown (hts _ hlk) hi hst hcf ((hnm (of_decide_eq_true hin1)).trans (hmi (of_decide_eq_true hin1))) (by rw [q2]; exact h6) q1 q3 (by rw [hsl]; exact k2_hasslot (q4 j hjN)) rfl rfl hd fun H' e1 e2 e3 => ?_
          rw [hsl] at e1 ⊢
          exact hq H' e1 e2 e3
        · rw [if_neg hf0] at hlay
          have h6 := u_store hfc hkC hkind hlay hi (zf_tyk k hk10 j hjN) hnar hfit
          refine W.putK hx hb (f := f) ⟨hown, hts _ hlk, ⟨_, _, _, hi⟩, hst⟩ (by rw [q2]; exact h6) q1 q3 (by rw [hsl]; exact k2_hasslot (q4 j hjN)) rfl rfl hd fun H' e1 e2 e3 => ?_
          rw [hsl] at e1 ⊢
          exact hq H' e1 e2 e3
      split at h
      next x hty => exact key (zf_sI M a j x) rfl (by rw [hty]; rfl) (by rw [hty]; rfl) (by rw [hty]; simp [zf_fv, zf_sI, zf_u]; rfl) (fun b i hbi => ⟨by simp only [zf_sI]; exact zf_un hbi, rfl, rfl⟩) (zf_st_e h)
      next x hty =>
        split at h
        next hx01 =>
          refine key (zf_sI M a j x) rfl ?_ ?_ (by rw [hty]; simp [zf_fv, zf_sI, zf_u]; rfl) (fun b i hbi => ⟨by simp only [zf_sI]; exact zf_un hbi, rfl, rfl⟩) (zf_st_e h)
          · rw [hty]
            rcases hx01 with rfl | rfl <;> rfl
          · rw [hty]
            rcases hx01 with rfl | rfl <;> rfl
        next => cases h
      next x hty => exact key (zf_sJ M a j x) rfl (by rw [hty]; rfl) (by rw [hty]; rfl) (by rw [hty]; simp [zf_fv, zf_sJ, zf_u]; rfl) (fun b i hbi => ⟨rfl, by simp only [zf_sJ]; exact zf_un hbi, rfl⟩) (zf_st_e h)
      next nm b hty => exact key (zf_sP M a j (some b)) rfl (by rw [hty]; rfl) (by rw [hty]; rfl) (by rw [hty]; simp [zf_fv, zf_sP, zf_u]; rfl) (fun b i hbi => ⟨rfl, rfl, by simp only [zf_sP]; exact zf_un hbi⟩) (zf_st_e h)
      next nm b hty => exact key (zf_sP M a j (some b)) rfl (by rw [hty]; rfl) (by rw [hty]; rfl) (by rw [hty]; simp [zf_fv, zf_sP, zf_u]; rfl) (fun b i hbi => ⟨rfl, rfl, by simp only [zf_sP]; exact zf_un hbi⟩) (zf_st_e h)
      next => cases h
    next => cases h
  next => cases h
theorem zf_tI : (zf_ty cy)[0]? = some (cy 10, .int) := rfl
theorem zf_tJ : (zf_ty cy)[1]? = some (cy 11, .long) := rfl
theorem zf_tZ : (zf_ty cy)[2]? = some (cy 12, .int) := rfl
theorem zf_tQ : (zf_ty cy)[3]? = some (cy 13, .object RX6) := rfl
theorem zf_tQ2 : (zf_ty cy)[4]? = some (cy 14, .object RX7) := rfl
theorem zf_ia_g (hC : zf_C mi p R s m args meth c) (hF : zf_F D ad cy base X s) (hd : decode (zf_g mi).2.1 pc = .ok (.iaload, 1)) (h : zf_ia X (pc + 1) ls st M = some (.inl S)) (kk : S.2.2.2.1 = M.1 → zf_G D ad cy base mi p l e R s m args below meth c Q cells slots S) : zf_G D ad cy base mi p l e R s m args below meth c Q cells slots (pc, ls, st, M) := by
  obtain ⟨hx, hb, hml, hown, hts, hnm, hfr, hlo⟩ := hC
  unfold zf_ia at h
  split at h
  next i a r =>
    split at h
    next hin =>
      have e := zf_st_e h
      subst e
      exact zf_sT (kk rfl) fun lsC H locs hR q => va_iald hx hb hF.1 hR.2.1.2.1 a 0 (zf_wi (zf_nE (zf_iN_e hin))) zf_tI (zf_iN_e hin) hd q
    next =>
      split at h
      next q hq =>
        split at h
        next hin =>
          obtain ⟨hin, -⟩ := hin
          have e := zf_st_e h
          subst e
          unfold zf_fx at hq
          obtain ⟨-, -, -, -, ⟨h7, h8⟩, ⟨h9, h10⟩, -, -⟩ := hF
          split at hq
          next h0 =>
            cases hq
            subst h0
            exact zf_sT (kk rfl) fun lsC H locs hR q => va_ti hx hb h7 hR.2.2 (zf_iN_e hin) rfl hd q
          next =>
            split at hq
            next h0 =>
              cases hq
              subst h0
              exact zf_sT (kk rfl) fun lsC H locs hR q => va_ti hx hb h8 hR.2.2 (zf_iN_e hin) rfl hd q
            next =>
              split at hq
              next h0 =>
                cases hq
                subst h0
                exact zf_sT (kk rfl) fun lsC H locs hR q => va_sld hx hb h9 (va_Xlt h9) (by show ¬ base ≤ _; omega) hR.2.2 (zf_iN_e hin) hd q
              next => cases hq
        next => cases h
      next => cases h
  next => cases h
theorem zf_ja_g (hC : zf_C mi p R s m args meth c) (hF : zf_F D ad cy base X s) (hd : decode (zf_g mi).2.1 pc = .ok (.laload, 1)) (h : zf_ja (pc + 1) ls st M = some (.inl S)) (kk : S.2.2.2.1 = M.1 → zf_G D ad cy base mi p l e R s m args below meth c Q cells slots S) : zf_G D ad cy base mi p l e R s m args below meth c Q cells slots (pc, ls, st, M) := by
  obtain ⟨hx, hb, hml, hown, hts, hnm, hfr, hlo⟩ := hC
  unfold zf_ja at h
  split at h
  next i a r =>
    split at h
    next hin =>
      have e := zf_st_e h
      subst e
      exact zf_sT (kk rfl) fun lsC H locs hR q => va_lald hx hb hF.1 hR.2.1.2.1 a 1 (zf_wj (zf_nE (zf_iN_e hin))) zf_tJ (zf_iN_e hin) hd q
    next => cases h
  next => cases h
theorem zf_qa_g (hC : zf_C mi p R s m args meth c) (hF : zf_F D ad cy base X s) (hd : decode (zf_g mi).2.1 pc = .ok (.aaload, 1)) (h : zf_qa (pc + 1) ls st M = some (.inl S)) (kk : S.2.2.2.1 = M.1 → zf_G D ad cy base mi p l e R s m args below meth c Q cells slots S) : zf_G D ad cy base mi p l e R s m args below meth c Q cells slots (pc, ls, st, M) := by
  obtain ⟨hx, hb, hml, hown, hts, hnm, hfr, hlo⟩ := hC
  unfold zf_qa at h
  split at h
  next i a r =>
    split at h
    next hin =>
      split at h
      next b hb2 =>
        have e := zf_st_e h
        subst e
        rcases hin with hin | hin
        · exact zf_sT (kk rfl) fun lsC H locs hR q => va_aldq hx hb hF.1 hR.2.1.2.1 a 3 (zf_wq (zf_nE (zf_iN_e hin))) zf_tQ (zf_iN_e hin) hd (by rw [hb2]; exact q)
        · exact zf_sT (kk rfl) fun lsC H locs hR q => va_aldq hx hb hF.1 hR.2.1.2.1 a 4 (zf_wq2 (zf_nE (zf_iN_e hin))) zf_tQ2 (zf_iN_e hin) hd (by rw [hb2]; exact q)
      next => cases h
    next => cases h
  next => cases h
theorem zf_sia_g (hC : zf_C mi p R s m args meth c) (hF : zf_F D ad cy base X s) (hd : decode (zf_g mi).2.1 pc = .ok (.iastore, 1)) (h : zf_sia (pc + 1) ls st M = some (.inl S)) (kk : S.2.2.2.1 = M.1 → zf_G D ad cy base mi p l e R s m args below meth c Q cells slots S) : zf_G D ad cy base mi p l e R s m args below meth c Q cells slots (pc, ls, st, M) := by
  obtain ⟨hx, hb, hml, hown, hts, hnm, hfr, hlo⟩ := hC
  unfold zf_sia at h
  split at h
  next x i a r =>
    split at h
    next hin =>
      have e := zf_st_e h
      subst e
      intro lsC H locs hR
      have hn := zf_nE (zf_iN_e hin)
      refine W.iast hx hb (hR.2.1.2.1 a _ (zf_wi hn)) ((hF.1.2 0 _ zf_tI).1 _ (fun j => .int (M.2.1 a j))) (fun q => by cases q) (by show ¬ (i < 0 ∨ (arrV _ _ _).slots.size ≤ _); rw [arrV_size]; exact zf_iN_e hin) rfl rfl hd fun H1 e1 z oq => ?_
      refine kk rfl lsC H1 _ (zf_wr hF hR (zf_wi hn) (e := .inl (cy 10, zf_n M 10 a, .inl (upd (M.2.1 a) i.toNatClampNeg x))) (zf_ws hn rfl ?_ (fun b hb => ⟨by simp only [zf_sI]; exact zf_uo hb, rfl, rfl⟩)) rfl ?_ z oq)
      · show (Sum.inl _ : va_E) = _
        simp only [zf_sI, zf_us]
        rfl
      · show H1[_]? = some (vp_cell _ _)
        rw [e1]
        rw [vp_cell_i, vp_cell_i, arrV_store]
        congr 2
        funext q
        by_cases hq : q = i.toNatClampNeg
        · subst hq
          simp [updV, upd]
        · simp [updV, upd, hq]
    next => cases h
  next => cases h
theorem zf_sja_g (hC : zf_C mi p R s m args meth c) (hF : zf_F D ad cy base X s) (hd : decode (zf_g mi).2.1 pc = .ok (.lastore, 1)) (h : zf_sja (pc + 1) ls st M = some (.inl S)) (kk : S.2.2.2.1 = M.1 → zf_G D ad cy base mi p l e R s m args below meth c Q cells slots S) : zf_G D ad cy base mi p l e R s m args below meth c Q cells slots (pc, ls, st, M) := by
  obtain ⟨hx, hb, hml, hown, hts, hnm, hfr, hlo⟩ := hC
  unfold zf_sja at h
  split at h
  next x i a r =>
    split at h
    next hin =>
      have e := zf_st_e h
      subst e
      intro lsC H locs hR
      have hn := zf_nE (zf_iN_e hin)
      refine W.last hx hb (hR.2.1.2.1 a _ (zf_wj hn)) ((hF.1.2 1 _ zf_tJ).1 _ (fun j => .long (M.2.2.1 a j))) (fun q => by cases q) (by show ¬ (i < 0 ∨ (arrV _ _ _).slots.size ≤ _); rw [arrV_size]; exact zf_iN_e hin) rfl rfl hd fun H1 e1 z oq => ?_
      refine kk rfl lsC H1 _ (zf_wr hF hR (zf_wj hn) (e := .inl (cy 11, zf_n M 11 a, .inr (.inl (vp_updL (M.2.2.1 a) i.toNatClampNeg x)))) (zf_ws hn rfl ?_ (fun b hb => ⟨rfl, by simp only [zf_sJ]; exact zf_uo hb, rfl⟩)) rfl ?_ z oq)
      · show (Sum.inl _ : va_E) = _
        simp only [zf_sJ, zf_us]
        rfl
      · show H1[_]? = some (vp_cell _ _)
        rw [e1]
        rw [vp_cell_l, vp_cell_l, arrV_store]
        congr 2
        funext q
        by_cases hq : q = i.toNatClampNeg
        · subst hq
          simp [updV, vp_updL]
        · simp [updV, vp_updL, hq]
    next => cases h
  next => cases h
theorem zf_sqa_g (hC : zf_C mi p R s m args meth c) (hF : zf_F D ad cy base X s) (hd : decode (zf_g mi).2.1 pc = .ok (.aastore, 1)) (h : zf_sqa (pc + 1) ls st M = some (.inl S)) (kk : S.2.2.2.1 = M.1 → zf_G D ad cy base mi p l e R s m args below meth c Q cells slots S) : zf_G D ad cy base mi p l e R s m args below meth c Q cells slots (pc, ls, st, M) := by
  obtain ⟨hx, hb, hml, hown, hts, hnm, hfr, hlo⟩ := hC
  unfold zf_sqa at h
  split at h
  next b i a r =>
    split at h
    next hin =>
      have e := zf_st_e h
      subst e
      intro lsC H locs hR
      have key : ∀ (kn cn t0 : Nat) (C : String), vp_in i (zf_n M kn a) → zf_k M b = cn → cn < 10 → (zf_w ad cy M)[a]? = some (ad a, .inl (cy kn, zf_n M kn a, .inr (.inr (.inr (.inr (fun j => (M.2.2.2 a j).map ad)))))) → (zf_ty cy)[t0]? = some (cy kn, .object C) → zf_cR cn = C → zf_ce ad cy (zf_sP M a i.toNatClampNeg (some b)) a (kn, zf_n M kn a) = .inl (cy kn, zf_n M kn a, .inr (.inr (.inr (.inr (fun j => ((zf_sP M a i.toNatClampNeg (some b)).2.2.2 a j).map ad))))) → W p l e R s m args below meth c H locs cells slots Q (F0 m pc lsC ((.ref b :: .int i :: .ref a :: r).map (zf_v ad))) := by
        intro kn cn t0 C hin hkb hcn hwa ht hCn hce
        subst hCn
        have hn := zf_nE hin
        obtain ⟨nb, hnb⟩ := zf_kE hkb (by omega)
        have hlt : i.toNatClampNeg < zf_n M kn a := Nat.not_le.mp fun q => hin (Or.inr q)
        have h0 : ¬ i < 0 := fun q => hin (Or.inl q)
        obtain ⟨r', hr', cellV, g1, g2, g3, -⟩ := hR.2.1.2.1 b _ (zf_wo hnb hcn)
        have hcls := (hF.1.1 cn _ (zf_vck cn hcn)).2
        obtain ⟨kA, comp, k1, k2, k3, -⟩ := (hF.1.2 t0 _ ht).2
        have hcomp : comp = D.1 cn := Option.some.inj (k3.symm.trans hcls.1)
        subst hcomp
        obtain ⟨kC, hkC, -⟩ := hcls.2
        refine W.aast hx hb (hR.2.1.2.1 a _ hwa) (fun q h => by cases h) (fun h => by cases h) k1 k2 rfl hkC ⟨h0, by show _ < (arrV _ _ _).slots.size; rw [arrV_size]; exact hlt⟩ g1 (fun q h => by rw [g3] at h; cases h) (by rw [g2]; exact hkC) (by rw [g2]; exact va_assign hcls) rfl rfl hd fun H1 e1 z oq => ?_
        refine kk rfl lsC H1 _ (zf_wr hF hR hwa (zf_ws hn rfl hce (fun b2 hb2 => ⟨rfl, rfl, by simp only [zf_sP]; exact zf_uo hb2⟩)) rfl ?_ z oq)
        show H1[_]? = some (vp_cell _ _)
        rw [e1]
        rw [vp_cell_q, vp_cell_q, arrV_store]
        congr 2
        funext q
        by_cases hq : q = i.toNatClampNeg
        · subst hq
          simp [updV, zf_sP, zf_u, va_rf]
        · simp [updV, zf_sP, zf_u, hq]
      rcases hin with ⟨hin, hkb⟩ | ⟨hin, hkb⟩
      · exact key 13 6 3 _ (zf_iN_e hin) hkb (by omega) (zf_wq (zf_nE (zf_iN_e hin))) rfl rfl rfl
      · exact key 14 7 4 _ (zf_iN_e hin) hkb (by omega) (zf_wq2 (zf_nE (zf_iN_e hin))) rfl rfl rfl
    next => cases h
  next => cases h
theorem zf_len_g (hC : zf_C mi p R s m args meth c) (hF : zf_F D ad cy base X s) (hd : decode (zf_g mi).2.1 pc = .ok (.arraylength, 1)) (h : zf_len X (pc + 1) ls st M = some (.inl S)) (kk : S.2.2.2.1 = M.1 → zf_G D ad cy base mi p l e R s m args below meth c Q cells slots S) : zf_G D ad cy base mi p l e R s m args below meth c Q cells slots (pc, ls, st, M) := by
  obtain ⟨hx, hb, hml, hown, hts, hnm, hfr, hlo⟩ := hC
  unfold zf_len at h
  split at h
  next a r =>
    split at h
    next hk =>
      have e := zf_st_e h
      subst e
      obtain ⟨n, hn⟩ := zf_kE (M := M) (a := a) rfl (by omega)
      have hgn : (M.1.getD a (99, 0)).2 = n := by rw [List.getD_eq_getElem?_getD, hn]; rfl
      refine zf_sT (kk rfl) fun lsC H locs hR q => ?_
      rw [hgn] at q
      rcases (show zf_k M a = 10 ∨ zf_k M a = 11 ∨ zf_k M a = 12 ∨ zf_k M a = 13 ∨ zf_k M a = 14 by omega) with hz | hz | hz | hz | hz <;> rw [hz] at hn
      · exact va_alen hx hb hF.1 hR.2.1.2.1 a 0 (zf_wi hn) zf_tI rfl hd q
      · exact va_alen hx hb hF.1 hR.2.1.2.1 a 1 (zf_wj hn) zf_tJ rfl hd q
      · exact va_alen hx hb hF.1 hR.2.1.2.1 a 2 (zf_wz hn) zf_tZ rfl hd q
      · exact va_alen hx hb hF.1 hR.2.1.2.1 a 3 (zf_wq hn) zf_tQ rfl hd q
      · exact va_alen hx hb hF.1 hR.2.1.2.1 a 4 (zf_wq2 hn) zf_tQ2 rfl hd q
    next =>
      split at h
      next q hq =>
        split at h
        next =>
          have e := zf_st_e h
          subst e
          unfold zf_fx at hq
          obtain ⟨-, -, -, -, ⟨h7, h8⟩, ⟨h9, h10⟩, -, -⟩ := hF
          split at hq
          next h0 =>
            cases hq
            subst h0
            exact zf_sT (kk rfl) fun lsC H locs hR q => va_tlen hx hb h7 hR.2.2 rfl hd q
          next =>
            split at hq
            next h0 =>
              cases hq
              subst h0
              exact zf_sT (kk rfl) fun lsC H locs hR q => va_tlen hx hb h8 hR.2.2 rfl hd q
            next =>
              split at hq
              next h0 =>
                cases hq
                subst h0
                exact zf_sT (kk rfl) fun lsC H locs hR q => va_slen hx hb h9 (va_Xlt h9) (by show ¬ base ≤ _; omega) hR.2.2 hd q
              next => cases hq
        next => cases h
      next => cases h
  next => cases h
theorem zf_gets_g {idx a : Nat} (hC : zf_C mi p R s m args meth c) (hF : zf_F D ad cy base X s) (hd : decode (zf_g mi).2.1 pc = .ok (.getstatic idx, 3)) (hat : zf_at zf_sl (zf_g mi).2.2.2.2.1 idx = some a) (h : zf_st (pc + 3) ls (.ref a :: st) M = some (.inl S)) (kk : S.2.2.2.1 = M.1 → zf_G D ad cy base mi p l e R s m args below meth c Q cells slots S) : zf_G D ad cy base mi p l e R s m args below meth c Q cells slots (pc, ls, st, M) := by
  obtain ⟨hx, hb, hml, hown, hts, hnm, hfr, hlo⟩ := hC
  obtain ⟨hlk, ha⟩ := zf_slt _ (zf_at_in hat)
  dsimp only at hlk ha
  obtain ⟨-, -, -, ⟨h5, h6⟩, -, -, -, -⟩ := hF
  have e := zf_st_e h
  subst e
  rcases ha with rfl | rfl
  · exact zf_sT (kk rfl) fun lsC H locs hR q => va_gets hx hb h5 hR.2.2 hown (hts _ hlk) (fun x h => h) hd q
  · exact zf_sT (kk rfl) fun lsC H locs hR q => va_gets hx hb h6 hR.2.2 hown (hts _ hlk) (fun x h => h) hd q
end ZO
