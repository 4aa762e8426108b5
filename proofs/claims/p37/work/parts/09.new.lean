/-! ===== new cells, the library's own calls ===== -/
section ZN
variable {D : va_G} {ad : Nat → Nat} {cy : Nat → ClassId} {base mi : Nat} {p : Program} {l : Launch} {e : Env} {R : Room} {s : State} {m : MethodId} {args : Array Value} {below : List Frame} {meth : Method} {c : Code} {Q : State → Prop} {cells slots : Nat} {X : zf_X} {pc pc' : Nat} {ls ls' : List Slot} {st st' : List Value} {M M' : zf_M} {S : zf_S}
theorem zf_wn (kn : Nat × Nat) : zf_w ad cy (zf_new M kn) = zf_w ad cy M ++ [(ad M.1.length, zf_ce ad cy (zf_new M kn) M.1.length kn)] := by
  apply List.ext_getElem?
  intro b
  by_cases hb : b < M.1.length
  · rw [List.getElem?_append_left (by simpa [zf_w] using hb)]
    have hg : M.1[b]? = some M.1[b] := List.getElem?_eq_getElem hb
    have hg2 : (zf_new M kn).1[b]? = some M.1[b] := by
      show (M.1 ++ [kn])[b]? = _
      rw [List.getElem?_append_left hb, hg]
    rw [zf_wg hg, zf_wg hg2]
    have hne : ¬ b = M.1.length := by omega
    have e1 : (zf_new M kn).2.1 b = M.2.1 b := by show zf_r _ _ _ b = _; unfold zf_r; rw [if_neg hne]
    have e2 : (zf_new M kn).2.2.1 b = M.2.2.1 b := by show zf_r _ _ _ b = _; unfold zf_r; rw [if_neg hne]
    have e3 : (zf_new M kn).2.2.2 b = M.2.2.2 b := by show zf_r _ _ _ b = _; unfold zf_r; rw [if_neg hne]
    have hfv : ∀ ty j, zf_fv ad (zf_new M kn) ty b j = zf_fv ad M ty b j := by
      intro ty j
      cases ty <;> simp only [zf_fv, e1, e2, e3]
    simp only [zf_ce, zf_fs, e1, e2, e3, hfv]
  · rw [List.getElem?_append_right (by simpa [zf_w] using hb)]
    have hl : (zf_w ad cy M).length = M.1.length := by simp [zf_w]
    rw [hl]
    by_cases hb2 : b = M.1.length
    · subst hb2
      have hg2 : (zf_new M kn).1[M.1.length]? = some kn := by
        show (M.1 ++ [kn])[M.1.length]? = _
        simp
      rw [zf_wg hg2, Nat.sub_self]
      rfl
    · rw [List.getElem?_eq_none (by simp [zf_w, zf_new]; omega), List.getElem?_eq_none (by simp; omega)]
theorem zf_newR {kn : Nat × Nat} {lsC : Array Slot} {H H1 : Heap} {locs : List Loc} (hF : zf_F D ad cy base X s) (hR : zf_R D ad cy base mi s lsC H locs ls M) (hl : M.1.length < 1000000) (e1 : va_at D vwCl (ad M.1.length, zf_ce ad cy (zf_new M kn) M.1.length kn) H1) (z1 : H1.size = H.size + 1) (o1 : ∀ q : Nat, q < H.size → H1[q]? = H[q]?) : zf_R D ad cy base mi s lsC H1 locs ls (zf_new M kn) := by
  have hk : ∀ (k : Nat) (x : Nat × va_E), (zf_w ad cy M)[k]? = some x → H1[x.1]? = H[x.1]? := fun k x hx => o1 x.1 ((hR.2.1.2.1 k x hx).lt)
  refine ⟨hR.1, ⟨?_, ?_, ?_⟩, ⟨Nat.le_trans hR.2.2.1 (by omega), fun q h1 h2 => (o1 q (Nat.lt_of_lt_of_le h1 hR.2.2.1)).trans (hR.2.2.2.1 q h1 h2), hR.2.2.2.2⟩⟩
  · rw [z1, hR.2.1.1]
    show _ = base + (M.1 ++ [kn]).length
    simp
    omega
  · rw [zf_wn]
    refine (hR.2.1.2.1.kept hk).app (fun k x hx => ?_)
    have hz : k < 1 := (List.getElem?_eq_some_iff.mp hx).1
    rw [show k = 0 by omega] at hx
    cases hx
    exact e1
  · show (M.1 ++ [kn]).length ≤ _
    simp
    omega
theorem zf_adl (hF : zf_F D ad cy base X s) {lsC : Array Slot} {H : Heap} {locs : List Loc} (hR : zf_R D ad cy base mi s lsC H locs ls M) (hl : M.1.length < 1000000) : H.size = ad M.1.length := by
  rw [hR.2.1.1, hF.2.2.2.2.2.2.2 _ hl]
theorem zf_cell_e {kn : Nat × Nat} (h : zf_cell pc kn ls st M = some (.inl S)) : M.1.length < 1000000 ∧ S = (pc, ls, .ref M.1.length :: st, zf_new M kn) := by
  unfold zf_cell at h
  split at h
  next hl => exact ⟨hl, zf_st_e h⟩
  next => cases h
def zf_dv (ty : FieldType) : Bool := match ty with
  | .float => false
  | .double => false
  | _ => true
theorem zf_dvk (k : Nat) (h : k < 10) : ∀ j, j < zf_cN k → zf_dv (zf_ct k j) = true := by
  rcases (show k = 0 ∨ k = 1 ∨ k = 2 ∨ k = 3 ∨ k = 4 ∨ k = 5 ∨ k = 6 ∨ k = 7 ∨ k = 8 ∨ k = 9 by omega) with rfl | rfl | rfl | rfl | rfl | rfl | rfl | rfl | rfl | rfl <;> decide +kernel
theorem zf_new0 {kn : Nat × Nat} : (zf_new M kn).2.1 M.1.length = (fun _ => 0) ∧ (zf_new M kn).2.2.1 M.1.length = (fun _ => 0) ∧ (zf_new M kn).2.2.2 M.1.length = (fun _ => none) := by
  refine ⟨?_, ?_, ?_⟩ <;> (show zf_r _ _ _ _ = _; unfold zf_r; rw [if_pos rfl])
theorem zf_nw_g {idx : Nat} (hC : zf_C mi p R s m args meth c) (hF : zf_F D ad cy base X s) (hd : decode (zf_g mi).2.1 pc = .ok (.new idx, 3)) (h : zf_nw (zf_g mi).2.2.2.2.1 (pc + 3) idx ls st M = some (.inl S)) (cap : ∀ kn, S.2.2.2.1 = M.1 ++ [kn] → cells + 1 ≤ R.cells ∧ slots + zf_size kn ≤ R.slots) (kk : ∀ kn, S.2.2.2.1 = M.1 ++ [kn] → zf_G D ad cy base mi p l e R s m args below meth c Q (cells + 1) (slots + zf_size kn) S) : zf_G D ad cy base mi p l e R s m args below meth c Q cells slots (pc, ls, st, M) := by
  obtain ⟨hx, hb, hml, hown, hts, hnm, hfr, hlo⟩ := hC
  unfold zf_nw at h
  split at h
  next k hat =>
    obtain ⟨hlk, hk10⟩ := zf_clt _ (zf_at_in hat)
    dsimp only at hlk hk10
    obtain ⟨hl, e⟩ := zf_cell_e h
    subst e
    intro lsC H locs hR
    obtain ⟨hins, hini⟩ := zf_cI k hk10
    have hKn := hF.1.1 k _ (zf_vck k hk10)
    have hcap := cap (k, 0) rfl
    have hsz : zf_size (k, 0) = zf_cN k := by unfold zf_size; rw [if_pos hk10]
    rw [hsz] at hcap
    have kk2 := kk (k, 0) rfl
    rw [hsz] at kk2
    refine W.newcK hx hb hown (hts _ hlk) (hts _ hins) (hts _ hini) rfl hd hcap.1 hcap.2 hKn.2.1 (zf_adl hF hR hl) fun H1 kC hkC e1 z1 o1 => ?_
    refine kk2 lsC H1 locs (zf_newR hF hR hl ?_ (by rw [z1, zf_adl hF hR hl]) (fun q hq => o1 q (by rw [← zf_adl hF hR hl]; exact hq)))
    have hce : zf_ce ad cy (zf_new M (k, 0)) M.1.length (k, 0) = .inr (k, zf_fs ad (zf_new M (k, 0)) k M.1.length) := by
      simp only [zf_ce]
      rw [if_pos hk10]
    rw [hce]
    refine ⟨_, zf_vck k hk10, (u_born (zf_ct k) hts (zf_uw k hk10) hKn hkC e1 (zf_tyk k hk10)).to fun j hj => ?_⟩
    show defaultValue (zf_ct k j) = (zf_fs ad (zf_new M (k, 0)) k M.1.length).getD j .null
    rw [List.getD_eq_getElem?_getD, zf_fsk hj]
    have hdv := zf_dvk k hk10 j hj
    obtain ⟨z1, z2, z3⟩ := zf_new0 (M := M) (kn := (k, 0))
    show _ = zf_fv ad (zf_new M (k, 0)) (zf_ct k j) M.1.length j
    cases hty : zf_ct k j <;> simp only [zf_fv, z1, z2, z3] <;> first | rfl | (rw [hty] at hdv; cases hdv)
  next => cases h
theorem zf_na_g {t : ArrayType} (hC : zf_C mi p R s m args meth c) (hF : zf_F D ad cy base X s) (hd : decode (zf_g mi).2.1 pc = .ok (.newarray t, 2)) (h : zf_na (pc + 2) (zf_nk t) ls st M = some (.inl S)) (cap : ∀ kn, S.2.2.2.1 = M.1 ++ [kn] → cells + 1 ≤ R.cells ∧ slots + zf_size kn ≤ R.slots) (kk : ∀ kn, S.2.2.2.1 = M.1 ++ [kn] → zf_G D ad cy base mi p l e R s m args below meth c Q (cells + 1) (slots + zf_size kn) S) : zf_G D ad cy base mi p l e R s m args below meth c Q cells slots (pc, ls, st, M) := by
  obtain ⟨hx, hb, hml, hown, hts, hnm, hfr, hlo⟩ := hC
  unfold zf_na at h
  split at h
  next n r =>
    split at h
    next hn =>
      obtain ⟨hn0, hn1, hk⟩ := hn
      obtain ⟨hl, e⟩ := zf_cell_e h
      subst e
      intro lsC H locs hR
      obtain ⟨z1', z2', z3'⟩ := zf_new0 (M := M) (kn := (zf_nk t, n.toNatClampNeg))
      have hcap := cap (zf_nk t, n.toNatClampNeg) rfl
      have hsz : zf_size (zf_nk t, n.toNatClampNeg) = n.toNatClampNeg := by unfold zf_size; rw [if_neg (by show ¬ zf_nk t < 10; omega)]
      have kk2 := kk (zf_nk t, n.toNatClampNeg) rfl
      rw [hsz] at hcap kk2
      cases t with
      | int =>
        refine va_newaK hx hb (atype := .int) (hts _ zf_acI) rfl hd rfl hn0 rfl (by show _ * 4 ≤ _; omega) hcap.1 hcap.2 (zf_adl hF hR hl) fun H1 cA e1 z1 o1 hAr hNm => ?_
        have hcA : cA = cy 10 := Option.some.inj (hNm.symm.trans (hF.1.2 0 _ zf_tI).2)
        subst hcA
        refine kk2 lsC H1 locs (zf_newR hF hR hl ?_ (by rw [z1, zf_adl hF hR hl]) (fun q hq => o1 q (by rw [← zf_adl hF hR hl]; exact hq)))
        show H1[ad M.1.length]? = some (vp_cell (cy 10) (n.toNatClampNeg, .inl ((zf_new M (10, n.toNatClampNeg)).2.1 M.1.length)))
        rw [e1]
        have z9 : (zf_new M (10, n.toNatClampNeg)).2.1 M.1.length = fun _ => 0 := z1'
        rw [z9, vp_cell_i]
        rfl
      | long =>
        refine va_newaK hx hb (atype := .long) (hts _ zf_acJ) rfl hd rfl hn0 rfl (by show _ * 8 ≤ _; omega) hcap.1 hcap.2 (zf_adl hF hR hl) fun H1 cA e1 z1 o1 hAr hNm => ?_
        have hcA : cA = cy 11 := Option.some.inj (hNm.symm.trans (hF.1.2 1 _ zf_tJ).2)
        subst hcA
        refine kk2 lsC H1 locs (zf_newR hF hR hl ?_ (by rw [z1, zf_adl hF hR hl]) (fun q hq => o1 q (by rw [← zf_adl hF hR hl]; exact hq)))
        show H1[ad M.1.length]? = some (vp_cell (cy 11) (n.toNatClampNeg, .inr (.inl ((zf_new M (11, n.toNatClampNeg)).2.2.1 M.1.length))))
        rw [e1]
        have z9 : (zf_new M (11, n.toNatClampNeg)).2.2.1 M.1.length = fun _ => 0 := z2'
        rw [z9, vp_cell_l]
        rfl
      | _ => exact absurd hk (by decide)
    next => cases h
  next => cases h
theorem zf_nq_g {idx : Nat} (hC : zf_C mi p R s m args meth c) (hF : zf_F D ad cy base X s) (hd : decode (zf_g mi).2.1 pc = .ok (.anewarray idx, 3)) (h : zf_nq (zf_g mi).2.2.2.2.1 (pc + 3) idx ls st M = some (.inl S)) (cap : ∀ kn, S.2.2.2.1 = M.1 ++ [kn] → cells + 1 ≤ R.cells ∧ slots + zf_size kn ≤ R.slots) (kk : ∀ kn, S.2.2.2.1 = M.1 ++ [kn] → zf_G D ad cy base mi p l e R s m args below meth c Q (cells + 1) (slots + zf_size kn) S) : zf_G D ad cy base mi p l e R s m args below meth c Q cells slots (pc, ls, st, M) := by
  obtain ⟨hx, hb, hml, hown, hts, hnm, hfr, hlo⟩ := hC
  have key : ∀ (k t0 : Nat) (C : String), zf_na (pc + 3) k ls st M = some (.inl S) → 13 ≤ k → (Cond.classLink (zf_oR (zf_g mi).2.2.2.2.1) idx C).before args s = true → va_AO C s → (zf_ty cy)[t0]? = some (cy k, .object C) → (∀ n, zf_ce ad cy (zf_new M (k, n)) M.1.length (k, n) = .inl (cy k, n, .inr (.inr (.inr (.inr (fun j => ((zf_new M (k, n)).2.2.2 M.1.length j).map ad)))))) → zf_G D ad cy base mi p l e R s m args below meth c Q cells slots (pc, ls, st, M) := by
    intro k t0 C h hk13 hlk hAO ht hce
    unfold zf_na at h
    split at h
    next n r hst =>
      split at h
      next hn =>
        obtain ⟨hn0, hn1, hk⟩ := hn
        obtain ⟨hl, e⟩ := zf_cell_e h
        subst e
        intro lsC H locs hR
        have hcap := cap (k, n.toNatClampNeg) rfl
        have hsz : zf_size (k, n.toNatClampNeg) = n.toNatClampNeg := by unfold zf_size; rw [if_neg (by show ¬ k < 10; omega)]
        have kk2 := kk (k, n.toNatClampNeg) rfl
        rw [hsz] at hcap kk2
        refine W.anew hx hb hown hlk (va_AO.use hAO) rfl hd rfl hn0 (by omega) hcap.1 hcap.2 fun cA kA comp f1 f2 f3 f4 => ?_
        obtain ⟨kA', comp', -, -, -, g4⟩ := (hF.1.2 t0 _ ht).2
        have hcA : cA = cy k := Option.some.inj (f1.symm.trans g4)
        subst hcA
        generalize hH1 : H.push ({ cls := cy k, slots := Array.replicate n.toNatClampNeg .null, vm := .none } : Cell) = H1
        have z1 : H1.size = H.size + 1 := by rw [← hH1, Array.size_push]
        have e1 : H1[H.size]? = some (arrV (cy k) n.toNatClampNeg (fun _ => .null)) := by rw [← hH1, Array.getElem?_push_size, ← arrV_new]
        have o1 : ∀ q : Nat, q < H.size → H1[q]? = H[q]? := fun q hq => by rw [← hH1, Array.getElem?_push, if_neg (Nat.ne_of_lt hq)]
        have hq := kk2 lsC H1 locs (zf_newR hF hR hl (by
          rw [hce]
          show H1[ad M.1.length]? = some (vp_cell _ _)
          rw [← zf_adl hF hR hl, e1, vp_cell_q]
          have z3 := (zf_new0 (M := M) (kn := (k, n.toNatClampNeg))).2.2
          rw [z3]
          rfl) z1 o1)
        have hsz2 := zf_adl hF hR hl
        rw [hsz2]
        exact hq
      next => cases h
    next => cases h
  unfold zf_nq at h
  split at h
  next k hat =>
    obtain ⟨hlk, hk10⟩ := zf_clt _ (zf_at_in hat)
    dsimp only at hlk hk10
    split at h
    next hk =>
      subst hk
      exact key 13 3 _ h (by omega) (hts _ hlk) hF.2.1.1 rfl (fun _ => rfl)
    next =>
      split at h
      next hk =>
        subst hk
        exact key 14 4 _ h (by omega) (hts _ hlk) hF.2.1.2 rfl (fun _ => rfl)
      next => cases h
  next => cases h
theorem zf_lows {r : List Value} (h : zf_low r = true) : ((r.map (zf_v ad)).map fun v => v.category).sum ≤ 8 := by
  rw [zf_vcs]
  exact of_decide_eq_true h
theorem zf_iz_g {idx : Nat} (hC : zf_C mi p R s m args meth c) (hF : zf_F D ad cy base X s) (hd : decode (zf_g mi).2.1 pc = .ok (.invokestatic idx, 3)) (h : zf_iz mi (pc + 3) idx ls st M = some (.inl S)) (cap : cells ≤ R.cells ∧ slots ≤ R.slots) (kk : S.2.2.2.1 = M.1 → zf_G D ad cy base mi p l e R s m args below meth c Q cells slots S) : zf_G D ad cy base mi p l e R s m args below meth c Q cells slots (pc, ls, st, M) := by
  obtain ⟨hx, hb, hml, hown, hts, hnm, hfr, hlo⟩ := hC
  unfold zf_iz at h
  split at h
  next => simp only [zf_call] at h; (repeat' split at h) <;> cases h
  next => simp only [zf_call] at h; (repeat' split at h) <;> cases h
  next k hat =>
    have hlk := zf_mlt _ (zf_at_in hat)
    dsimp only [zf_mlO] at hlk
    split at h
    next y x r =>
      split at h
      next hc =>
        obtain ⟨hc1, hc2, hc3⟩ := hc
        have e := zf_st_e h
        subst e
        have h8 := zf_lows (ad := ad) hc1
        exact zf_sT (kk rfl) fun lsC H locs hR q => va_mmax hx hb (by rw [hml]; exact hR.1.1.symm) hown (hts _ hlk) (hts _ zf_mxS) (hts _ zf_mtI) (hts _ zf_mxC) (by omega) (by omega) cap.1 cap.2 hd q
      next => cases h
    next => cases h
  next k hat =>
    have hlk := zf_mlt _ (zf_at_in hat)
    dsimp only [zf_mlO] at hlk
    split at h
    next y x r =>
      split at h
      next hc =>
        obtain ⟨hc1, hc2, hc3⟩ := hc
        have e := zf_st_e h
        subst e
        have h8 := zf_lows (ad := ad) hc1
        exact zf_sT (kk rfl) fun lsC H locs hR q => va_mmin hx hb (by rw [hml]; exact hR.1.1.symm) hown (hts _ hlk) (hts _ zf_mnS) (hts _ zf_mtI) (hts _ zf_mnC) (by omega) (by omega) cap.1 cap.2 hd q
      next => cases h
    next => cases h
  next k hat =>
    have hlk := zf_mlt _ (zf_at_in hat)
    dsimp only [zf_mlO] at hlk
    exact hlk.elim
  next => cases h
theorem zf_ix_g {idx : Nat} (hC : zf_C mi p R s m args meth c) (hF : zf_F D ad cy base X s) (hd : decode (zf_g mi).2.1 pc = .ok (.invokespecial idx, 3)) (h : zf_ix mi (pc + 3) idx ls st M = some (.inl S)) (kk : S.2.2.2.1 = M.1 → zf_G D ad cy base mi p l e R s m args below meth c Q cells slots S) : zf_G D ad cy base mi p l e R s m args below meth c Q cells slots (pc, ls, st, M) := by
  obtain ⟨hx, hb, hml, hown, hts, hnm, hfr, hlo⟩ := hC
  unfold zf_ix at h
  split at h
  next k hat =>
    have hlk := zf_mlt _ (zf_at_in hat)
    dsimp only [zf_mlO] at hlk
    split at h
    next b r =>
      split at h
      next hc =>
        obtain ⟨hc1, hc2, hc3⟩ := hc
        have e := zf_st_e h
        subst e
        have h8 := zf_lows (ad := ad) hc1
        exact zf_sT (kk rfl) fun lsC H locs hR q => W.objInit hx hb hown (hts _ hlk) (hts _ zf_obI) (hts _ zf_obC) rfl (hR.1.1.trans hml.symm) rfl hd (by omega) (by show 2 * 0 + _ + 12 ≤ _; omega) q
      next => cases h
    next => cases h
  next => simp only [zf_call] at h; (repeat' split at h) <;> cases h
  next => simp only [zf_call] at h; (repeat' split at h) <;> cases h
  next => cases h
end ZN
