/-! ===== every step, every call ===== -/
section ZD
variable {D : va_G} {ad : Nat → Nat} {cy : Nat → ClassId} {base mi : Nat} {p : Program} {l : Launch} {e : Env} {R : Room} {s : State} {m : MethodId} {args : Array Value} {below : List Frame} {meth : Method} {c : Code} {Q : State → Prop} {cells slots : Nat} {X : zf_X} {pc pc' : Nat} {ls ls' : List Slot} {st st' : List Value} {M M' : zf_M} {S : zf_S}
theorem zf_c_eq {x y : Int32} : (zf_c .eq x y = true) = (x = y) := by simp [zf_c]
theorem zf_c_ne {x y : Int32} : (zf_c .ne x y = true) = (¬ x = y) := by simp [zf_c]
theorem zf_c_lt {x y : Int32} : (zf_c .lt x y = true) = (x < y) := by simp [zf_c]
theorem zf_c_ge {x y : Int32} : (zf_c .ge x y = true) = (y ≤ x) := by simp [zf_c]
theorem zf_c_gt {x y : Int32} : (zf_c .gt x y = true) = (y < x) := by simp [zf_c]
theorem zf_c_le {x y : Int32} : (zf_c .le x y = true) = (x ≤ y) := by simp [zf_c]
theorem zf_ifr {cc : Jvm.ClassFile.Cond} {off : Int} (hx : p.tables.exec = Jvm.exec) (hb : c.code = (zf_g mi).2.1) (hd : decode (zf_g mi).2.1 pc = .ok (.ifCond cc off, 3)) {H : Heap} {locs : List Loc} {lsC : Array Slot} {x : Int32} {rest : List Value} (kt : ∀ tgt : Nat, (pc : Int) + off = (tgt : Int) → zf_c cc x 0 = true → W p l e R s m args below meth c H locs cells slots Q (F0 m tgt lsC rest)) (kf : ¬ zf_c cc x 0 = true → W p l e R s m args below meth c H locs cells slots Q (F0 m (pc + 3) lsC rest)) {tgt : Nat} (ht : (pc : Int) + off = (tgt : Int)) : W p l e R s m args below meth c H locs cells slots Q (F0 m pc lsC (.int x :: rest)) := by
  cases cc with
  | eq => exact lv_if_eq hx hb hd ht (fun h => kt tgt ht (by rw [zf_c_eq]; exact h)) (fun h => kf (by rw [zf_c_eq]; exact h))
  | ne => exact lv_if_ne hx hb hd ht (fun h => kt tgt ht (by rw [zf_c_ne]; exact h)) (fun h => kf (by rw [zf_c_ne]; exact fun z => z h))
  | lt => exact lv_if_lt hx hb hd ht (fun h => kt tgt ht (by rw [zf_c_lt]; exact h)) (fun h => kf (by rw [zf_c_lt]; exact h))
  | ge => exact lv_if_ge hx hb hd ht (fun h => kt tgt ht (by rw [zf_c_ge]; exact h)) (fun h => kf (by rw [zf_c_ge]; exact h))
  | gt => exact lv_if_gt hx hb hd ht (fun h => kt tgt ht (by rw [zf_c_gt]; exact h)) (fun h => kf (by rw [zf_c_gt]; exact h))
  | le => exact lv_if_le hx hb hd ht (fun h => kt tgt ht (by rw [zf_c_le]; exact h)) (fun h => kf (by rw [zf_c_le]; exact h))
theorem zf_ipr {cc : Jvm.ClassFile.Cond} {off : Int} (hx : p.tables.exec = Jvm.exec) (hb : c.code = (zf_g mi).2.1) (hd : decode (zf_g mi).2.1 pc = .ok (.if_icmp cc off, 3)) {H : Heap} {locs : List Loc} {lsC : Array Slot} {x y : Int32} {rest : List Value} (kt : ∀ tgt : Nat, (pc : Int) + off = (tgt : Int) → zf_c cc x y = true → W p l e R s m args below meth c H locs cells slots Q (F0 m tgt lsC rest)) (kf : ¬ zf_c cc x y = true → W p l e R s m args below meth c H locs cells slots Q (F0 m (pc + 3) lsC rest)) {tgt : Nat} (ht : (pc : Int) + off = (tgt : Int)) : W p l e R s m args below meth c H locs cells slots Q (F0 m pc lsC (.int y :: .int x :: rest)) := by
  cases cc with
  | eq => exact lv_icmp_eq hx hb hd ht (fun h => kt tgt ht (by rw [zf_c_eq]; exact h)) (fun h => kf (by rw [zf_c_eq]; exact h))
  | ne => exact lv_icmp_ne hx hb hd ht (fun h => kt tgt ht (by rw [zf_c_ne]; exact h)) (fun h => kf (by rw [zf_c_ne]; exact fun z => z h))
  | lt => exact lv_icmp_lt hx hb hd ht (fun h => kt tgt ht (by rw [zf_c_lt]; exact h)) (fun h => kf (by rw [zf_c_lt]; exact h))
  | ge => exact lv_icmp_ge hx hb hd ht (fun h => kt tgt ht (by rw [zf_c_ge]; exact h)) (fun h => kf (by rw [zf_c_ge]; exact h))
  | gt => exact lv_icmp_gt hx hb hd ht (fun h => kt tgt ht (by rw [zf_c_gt]; exact h)) (fun h => kf (by rw [zf_c_gt]; exact h))
  | le => exact lv_icmp_le hx hb hd ht (fun h => kt tgt ht (by rw [zf_c_le]; exact h)) (fun h => kf (by rw [zf_c_le]; exact h))
theorem zf_if_g {cc : Jvm.ClassFile.Cond} {off : Int} (hx : p.tables.exec = Jvm.exec) (hb : c.code = (zf_g mi).2.1) (hd : decode (zf_g mi).2.1 pc = .ok (.ifCond cc off, 3)) (h : zf_if cc pc off ls st M = some (.inl S)) (kk : S.2.2.2.1 = M.1 → zf_G D ad cy base mi p l e R s m args below meth c Q cells slots S) : zf_G D ad cy base mi p l e R s m args below meth c Q cells slots (pc, ls, st, M) := by
  unfold zf_if at h
  split at h
  next x r =>
    split at h
    next h0 =>
      intro lsC H locs hR
      refine zf_ifr hx hb hd (tgt := ((pc : Int) + off).toNat) (fun t ht hc => ?_) (fun hc => ?_) (by omega)
      · rw [if_pos hc] at h
        have e := zf_st_e h
        subst e
        rw [show t = ((pc : Int) + off).toNat by omega]
        exact kk rfl lsC H locs hR
      · rw [if_neg hc] at h
        have e := zf_st_e h
        subst e
        exact kk rfl lsC H locs hR
    next => cases h
  next => cases h
theorem zf_ip_g {cc : Jvm.ClassFile.Cond} {off : Int} (hx : p.tables.exec = Jvm.exec) (hb : c.code = (zf_g mi).2.1) (hd : decode (zf_g mi).2.1 pc = .ok (.if_icmp cc off, 3)) (h : zf_ip cc pc off ls st M = some (.inl S)) (kk : S.2.2.2.1 = M.1 → zf_G D ad cy base mi p l e R s m args below meth c Q cells slots S) : zf_G D ad cy base mi p l e R s m args below meth c Q cells slots (pc, ls, st, M) := by
  unfold zf_ip at h
  split at h
  next x y r =>
    split at h
    next h0 =>
      intro lsC H locs hR
      refine zf_ipr hx hb hd (tgt := ((pc : Int) + off).toNat) (fun t ht hc => ?_) (fun hc => ?_) (by omega)
      · rw [if_pos hc] at h
        have e := zf_st_e h
        subst e
        rw [show t = ((pc : Int) + off).toNat by omega]
        exact kk rfl lsC H locs hR
      · rw [if_neg hc] at h
        have e := zf_st_e h
        subst e
        exact kk rfl lsC H locs hR
    next => cases h
  next => cases h
theorem zf_do_snd {i : Instr} {n : Nat} (hC : zf_C mi p R s m args meth c) (hF : zf_F D ad cy base X s) (hmi : (zf_g mi).2.2.2.2.2.2.1 = 2 → (zf_g mi).1.name = "<init>") (hd : decode (zf_g mi).2.1 pc = .ok (i, n)) (h : zf_do X mi pc i n ls st M = some (.inl S)) (cap0 : cells ≤ R.cells ∧ slots ≤ R.slots) (cap : ∀ kn, S.2.2.2.1 = M.1 ++ [kn] → cells + 1 ≤ R.cells ∧ slots + zf_size kn ≤ R.slots) (kk : S.2.2.2.1 = M.1 → zf_G D ad cy base mi p l e R s m args below meth c Q cells slots S) (kn : ∀ kn, S.2.2.2.1 = M.1 ++ [kn] → zf_G D ad cy base mi p l e R s m args below meth c Q (cells + 1) (slots + zf_size kn) S) : zf_G D ad cy base mi p l e R s m args below meth c Q cells slots (pc, ls, st, M) := by
  have hx := hC.1
  have hb := hC.2.1
  have hown := hC.2.2.2.1
  have hts := hC.2.2.2.2.1
  unfold zf_do at h
  split at h
  · exact zf_k_g (fun k => lv_iconst hx hb hd rfl k) h kk
  · exact zf_k_g (fun k => lv_bipush hx hb hd rfl k) h kk
  · exact zf_k_g (fun k => lv_sipush hx hb hd rfl k) h kk
  · exact zf_k_g (fun k => lv_lconst hx hb hd rfl k) h kk
  · split at h
    next v hv => exact zf_k_g (fun k => lv_ldc hx hb hown (hts _ (zf_k4t _ (zf_at_in hv))) hd k) h kk
    next => cases h
  · split at h
    next v hv => exact zf_k_g (fun k => lv_ldcw hx hb hown (hts _ (zf_k4t _ (zf_at_in hv))) hd k) h kk
    next => cases h
  · split at h
    next v hv => exact zf_k_g (fun k => lv_ldc2 hx hb hown (hts _ (zf_k8t _ (zf_at_in hv))) hd k) h kk
    next => cases h
  · exact zf_il_g (fun hl k => lv_iload_n hx hb hd rfl hl k) h kk
  · exact zf_il_g (fun hl k => lv_iload hx hb hd hl k) h kk
  · exact zf_al_g (fun hl k => lv_aload_n hx hb hd rfl hl k) h kk
  · exact zf_al_g (fun hl k => lv_aload hx hb hd hl k) h kk
  · exact zf_ll_g (fun hl k => lv_lload_n hx hb hd rfl hl k) h kk
  · exact zf_ll_g (fun hl k => lv_lload hx hb hd hl k) h kk
  · exact zf_is_g (fun hl hn k => lv_istore_n hx hb hd rfl hl hn rfl k) h kk
  · exact zf_is_g (fun hl hn k => lv_istore hx hb hd hl hn rfl k) h kk
  · exact zf_as_g (fun hl hn k => lv_astore_n hx hb hd rfl hl hn rfl k) h kk
  · exact zf_as_g (fun hl hn k => lv_astore hx hb hd hl hn rfl k) h kk
  · exact zf_ls_g (fun hl hn k => lv_lstore_n hx hb hd rfl hl hn rfl k) h kk
  · exact zf_ls_g (fun hl hn k => lv_lstore hx hb hd hl hn rfl k) h kk
  · exact zf_ic_g (fun hl hj hn k => lv_iinc hx hb hd hl hj rfl hn rfl k) h kk
  · exact zf_ii_g (fun k => lv_iadd hx hb hd k) h kk
  · exact zf_ii_g (fun k => lv_isub hx hb hd k) h kk
  · exact zf_ii_g (fun k => lv_imul hx hb hd k) h kk
  · exact zf_ii_g (fun k => lv_iand hx hb hd k) h kk
  · exact zf_id_g (fun hy k => lv_idiv hx hb hd hy k) h kk
  · exact zf_id_g (fun hy k => lv_irem hx hb hd hy k) h kk
  · exact zf_ii_g (fun k => lv_ishl hx hb hd k) h kk
  · exact zf_ii_g (fun k => lv_ishr hx hb hd k) h kk
  · exact zf_ii_g (fun k => lv_iushr hx hb hd rfl k) h kk
  · exact zf_jj_g (fun k => lv_ladd hx hb hd k) h kk
  · exact zf_jj_g (fun k => lv_lsub hx hb hd k) h kk
  · exact zf_jj_g (fun k => lv_lmul hx hb hd k) h kk
  · exact zf_jj_g (fun k => lv_land hx hb hd k) h kk
  · exact zf_jj_g (fun k => lv_lor hx hb hd k) h kk
  · exact zf_jj_g (fun k => lv_lxor hx hb hd k) h kk
  · exact zf_jd_g (fun hy k => lv_ldiv hx hb hd hy k) h kk
  · exact zf_jd_g (fun hy k => lv_lrem hx hb hd hy k) h kk
  · exact zf_ji_g (fun k => lv_lshl hx hb hd rfl k) h kk
  · exact zf_ji_g (fun k => lv_lshr hx hb hd rfl k) h kk
  · exact zf_ji_g (fun k => lv_lushr hx hb hd rfl k) h kk
  · exact zf_jj_g (fun k => W.lcmp hx hb hd k) h kk
  · exact zf_i1_g (fun k => lv_i2l hx hb hd rfl k) h kk
  · exact zf_j1_g (fun k => lv_l2i hx hb hd rfl k) h kk
  · exact zf_i1_g (fun k => lv_i2b hx hb hd rfl k) h kk
  · exact zf_i1_g (fun k => lv_i2s hx hb hd rfl k) h kk
  · exact zf_dup_g hx hb hd h kk
  · exact zf_pop_g hx hb hd h kk
  · exact zf_dp2_g hx hb hd h kk
  · exact zf_if_g hx hb hd h kk
  · exact zf_ip_g hx hb hd h kk
  · exact zf_go_g (fun ht k => lv_goto hx hb hd ht k) h kk
  · exact zf_tb_g hx hb hd h kk
  · exact zf_lk_g hx hb hd h kk
  · exact zf_get_g hC hF hd h kk
  · exact zf_put_g hC hF hmi hd h kk
  · split at h
    next a ha => exact zf_gets_g hC hF hd ha h kk
    next => cases h
  · exact zf_ia_g hC hF hd h kk
  · exact zf_ja_g hC hF hd h kk
  · exact zf_qa_g hC hF hd h kk
  · exact zf_sia_g hC hF hd h kk
  · exact zf_sja_g hC hF hd h kk
  · exact zf_sqa_g hC hF hd h kk
  · exact zf_len_g hC hF hd h kk
  · exact zf_nw_g hC hF hd h cap kn
  · exact zf_na_g hC hF hd h cap kn
  · exact zf_nq_g hC hF hd h cap kn
  · unfold zf_iv zf_call at h
    (repeat' split at h) <;> cases h
  · exact zf_iz_g hC hF hd h cap0 kk
  · exact zf_ix_g hC hF hd h kk
  · unfold zf_iret at h
    (repeat' split at h) <;> cases h
  · unfold zf_jret at h
    (repeat' split at h) <;> cases h
  · unfold zf_vret at h
    (repeat' split at h) <;> cases h
  · cases h
end ZD
