/-! ===== the rules once more, with the entry of the method at hand ===== -/
section ZV
variable {X : zf_X} {mi pc tgt idx : Nat} {ls : List Slot} {st : List Value} {M : zf_M} {Q : Option Value → zf_M → Prop} {E : zf_E}
theorem zs_iconst {n : Int} {v : Int32} (hg : zf_g mi = E) (hd : decode E.2.1 pc = .ok (.iconst n, 1)) (hv : Int32.ofInt n = v) : zW X mi pc ls (st) M Q ↔ zW X mi (pc + 1) ls (.int v :: st) M Q := by
  subst hv
  exact zr_ofAct (by rw [hg]; exact hd) rfl
theorem zs_bipush {n : Int} {v : Int32} (hg : zf_g mi = E) (hd : decode E.2.1 pc = .ok (.bipush n, 2)) (hv : (Int8.ofInt n).toInt32 = v) : zW X mi pc ls (st) M Q ↔ zW X mi (pc + 2) ls (.int v :: st) M Q := by
  subst hv
  exact zr_ofAct (by rw [hg]; exact hd) rfl
theorem zs_sipush {n : Int} {v : Int32} (hg : zf_g mi = E) (hd : decode E.2.1 pc = .ok (.sipush n, 3)) (hv : (Int16.ofInt n).toInt32 = v) : zW X mi pc ls (st) M Q ↔ zW X mi (pc + 3) ls (.int v :: st) M Q := by
  subst hv
  exact zr_ofAct (by rw [hg]; exact hd) rfl
theorem zs_lconst {n : Fin 2} {v : Int64} (hg : zf_g mi = E) (hd : decode E.2.1 pc = .ok (.lconst n, 1)) (hv : Int64.ofNat (n : Nat) = v) : zW X mi pc ls (st) M Q ↔ zW X mi (pc + 1) ls (.long v :: st) M Q := by
  subst hv
  exact zr_ofAct (by rw [hg]; exact hd) rfl
theorem zs_iadd {x y : Int32} (hg : zf_g mi = E) (hd : decode E.2.1 pc = .ok (.iadd, 1)) : zW X mi pc ls (.int y :: .int x :: st) M Q ↔ zW X mi (pc + 1) ls (.int (x + y) :: st) M Q := by
  exact zr_ofAct (by rw [hg]; exact hd) rfl
theorem zs_isub {x y : Int32} (hg : zf_g mi = E) (hd : decode E.2.1 pc = .ok (.isub, 1)) : zW X mi pc ls (.int y :: .int x :: st) M Q ↔ zW X mi (pc + 1) ls (.int (x - y) :: st) M Q := by
  exact zr_ofAct (by rw [hg]; exact hd) rfl
theorem zs_imul {x y : Int32} (hg : zf_g mi = E) (hd : decode E.2.1 pc = .ok (.imul, 1)) : zW X mi pc ls (.int y :: .int x :: st) M Q ↔ zW X mi (pc + 1) ls (.int (x * y) :: st) M Q := by
  exact zr_ofAct (by rw [hg]; exact hd) rfl
theorem zs_iand {x y : Int32} (hg : zf_g mi = E) (hd : decode E.2.1 pc = .ok (.iand, 1)) : zW X mi pc ls (.int y :: .int x :: st) M Q ↔ zW X mi (pc + 1) ls (.int (x &&& y) :: st) M Q := by
  exact zr_ofAct (by rw [hg]; exact hd) rfl
theorem zs_ishl {x y : Int32} (hg : zf_g mi = E) (hd : decode E.2.1 pc = .ok (.ishl, 1)) : zW X mi pc ls (.int y :: .int x :: st) M Q ↔ zW X mi (pc + 1) ls (.int (x <<< (y &&& 31)) :: st) M Q := by
  exact zr_ofAct (by rw [hg]; exact hd) rfl
theorem zs_ishr {x y : Int32} (hg : zf_g mi = E) (hd : decode E.2.1 pc = .ok (.ishr, 1)) : zW X mi pc ls (.int y :: .int x :: st) M Q ↔ zW X mi (pc + 1) ls (.int (x >>> (y &&& 31)) :: st) M Q := by
  exact zr_ofAct (by rw [hg]; exact hd) rfl
theorem zs_iushr {x y : Int32} (hg : zf_g mi = E) (hd : decode E.2.1 pc = .ok (.iushr, 1)) : zW X mi pc ls (.int y :: .int x :: st) M Q ↔ zW X mi (pc + 1) ls (.int (x.toUInt32 >>> (y.toUInt32 &&& Int32.toUInt32 31)).toInt32 :: st) M Q := by
  exact zr_ofAct (by rw [hg]; exact hd) rfl
theorem zs_ladd {x y : Int64} (hg : zf_g mi = E) (hd : decode E.2.1 pc = .ok (.ladd, 1)) : zW X mi pc ls (.long y :: .long x :: st) M Q ↔ zW X mi (pc + 1) ls (.long (x + y) :: st) M Q := by
  exact zr_ofAct (by rw [hg]; exact hd) rfl
theorem zs_lsub {x y : Int64} (hg : zf_g mi = E) (hd : decode E.2.1 pc = .ok (.lsub, 1)) : zW X mi pc ls (.long y :: .long x :: st) M Q ↔ zW X mi (pc + 1) ls (.long (x - y) :: st) M Q := by
  exact zr_ofAct (by rw [hg]; exact hd) rfl
theorem zs_lmul {x y : Int64} (hg : zf_g mi = E) (hd : decode E.2.1 pc = .ok (.lmul, 1)) : zW X mi pc ls (.long y :: .long x :: st) M Q ↔ zW X mi (pc + 1) ls (.long (x * y) :: st) M Q := by
  exact zr_ofAct (by rw [hg]; exact hd) rfl
theorem zs_land {x y : Int64} (hg : zf_g mi = E) (hd : decode E.2.1 pc = .ok (.land, 1)) : zW X mi pc ls (.long y :: .long x :: st) M Q ↔ zW X mi (pc + 1) ls (.long (x &&& y) :: st) M Q := by
  exact zr_ofAct (by rw [hg]; exact hd) rfl
theorem zs_lor {x y : Int64} (hg : zf_g mi = E) (hd : decode E.2.1 pc = .ok (.lor, 1)) : zW X mi pc ls (.long y :: .long x :: st) M Q ↔ zW X mi (pc + 1) ls (.long (x ||| y) :: st) M Q := by
  exact zr_ofAct (by rw [hg]; exact hd) rfl
theorem zs_lxor {x y : Int64} (hg : zf_g mi = E) (hd : decode E.2.1 pc = .ok (.lxor, 1)) : zW X mi pc ls (.long y :: .long x :: st) M Q ↔ zW X mi (pc + 1) ls (.long (x ^^^ y) :: st) M Q := by
  exact zr_ofAct (by rw [hg]; exact hd) rfl
theorem zs_lshl {x : Int64} {y : Int32} (hg : zf_g mi = E) (hd : decode E.2.1 pc = .ok (.lshl, 1)) : zW X mi pc ls (.int y :: .long x :: st) M Q ↔ zW X mi (pc + 1) ls (.long (x <<< (y.toInt64 &&& 63)) :: st) M Q := by
  exact zr_ofAct (by rw [hg]; exact hd) rfl
theorem zs_lshr {x : Int64} {y : Int32} (hg : zf_g mi = E) (hd : decode E.2.1 pc = .ok (.lshr, 1)) : zW X mi pc ls (.int y :: .long x :: st) M Q ↔ zW X mi (pc + 1) ls (.long (x >>> (y.toInt64 &&& 63)) :: st) M Q := by
  exact zr_ofAct (by rw [hg]; exact hd) rfl
theorem zs_lushr {x : Int64} {y : Int32} (hg : zf_g mi = E) (hd : decode E.2.1 pc = .ok (.lushr, 1)) : zW X mi pc ls (.int y :: .long x :: st) M Q ↔ zW X mi (pc + 1) ls (.long (x.toUInt64 >>> (y.toInt64.toUInt64 &&& Int64.toUInt64 63)).toInt64 :: st) M Q := by
  exact zr_ofAct (by rw [hg]; exact hd) rfl
theorem zs_lcmp {x y : Int64} (hg : zf_g mi = E) (hd : decode E.2.1 pc = .ok (.lcmp, 1)) : zW X mi pc ls (.long y :: .long x :: st) M Q ↔ zW X mi (pc + 1) ls (.int (lg_cmp x y) :: st) M Q := by
  exact zr_ofAct (by rw [hg]; exact hd) rfl
theorem zs_i2l {x : Int32} (hg : zf_g mi = E) (hd : decode E.2.1 pc = .ok (.i2l, 1)) : zW X mi pc ls (.int x :: st) M Q ↔ zW X mi (pc + 1) ls (.long x.toInt64 :: st) M Q := by
  exact zr_ofAct (by rw [hg]; exact hd) rfl
theorem zs_l2i {x : Int64} (hg : zf_g mi = E) (hd : decode E.2.1 pc = .ok (.l2i, 1)) : zW X mi pc ls (.long x :: st) M Q ↔ zW X mi (pc + 1) ls (.int x.toInt32 :: st) M Q := by
  exact zr_ofAct (by rw [hg]; exact hd) rfl
theorem zs_i2b {x : Int32} (hg : zf_g mi = E) (hd : decode E.2.1 pc = .ok (.i2b, 1)) : zW X mi pc ls (.int x :: st) M Q ↔ zW X mi (pc + 1) ls (.int x.toInt8.toInt32 :: st) M Q := by
  exact zr_ofAct (by rw [hg]; exact hd) rfl
theorem zs_i2s {x : Int32} (hg : zf_g mi = E) (hd : decode E.2.1 pc = .ok (.i2s, 1)) : zW X mi pc ls (.int x :: st) M Q ↔ zW X mi (pc + 1) ls (.int x.toInt16.toInt32 :: st) M Q := by
  exact zr_ofAct (by rw [hg]; exact hd) rfl
theorem zs_dup_i {x : Int32} (hg : zf_g mi = E) (hd : decode E.2.1 pc = .ok (.dup, 1)) : zW X mi pc ls (.int x :: st) M Q ↔ zW X mi (pc + 1) ls (.int x :: .int x :: st) M Q := zr_ofAct (by rw [hg]; exact hd) rfl
theorem zs_dup_a {x : Nat} (hg : zf_g mi = E) (hd : decode E.2.1 pc = .ok (.dup, 1)) : zW X mi pc ls (.ref x :: st) M Q ↔ zW X mi (pc + 1) ls (.ref x :: .ref x :: st) M Q := zr_ofAct (by rw [hg]; exact hd) rfl
theorem zs_pop_i {x : Int32} (hg : zf_g mi = E) (hd : decode E.2.1 pc = .ok (.pop, 1)) : zW X mi pc ls (.int x :: st) M Q ↔ zW X mi (pc + 1) ls st M Q := zr_ofAct (by rw [hg]; exact hd) rfl
theorem zs_dup2_ia {x : Int32} {a : Nat} (hg : zf_g mi = E) (hd : decode E.2.1 pc = .ok (.dup2, 1)) : zW X mi pc ls (.int x :: .ref a :: st) M Q ↔ zW X mi (pc + 1) ls (.int x :: .ref a :: .int x :: .ref a :: st) M Q := zr_ofAct (by rw [hg]; exact hd) rfl
theorem zs_iload_n {k : Fin 4} {x : Int32} (hg : zf_g mi = E) (hd : decode E.2.1 pc = .ok (.iload_n k, 1)) (hl : ls[(k : Nat)]? = some (.val (.int x))) : zW X mi pc ls st M Q ↔ zW X mi (pc + 1) ls (.int x :: st) M Q := by
  subst hg
  exact zr_iload_n hd hl
theorem zs_iload {k : Nat} {x : Int32} (hg : zf_g mi = E) (hd : decode E.2.1 pc = .ok (.iload k, 2)) (hl : ls[k]? = some (.val (.int x))) : zW X mi pc ls st M Q ↔ zW X mi (pc + 2) ls (.int x :: st) M Q := by
  subst hg
  exact zr_iload hd hl
theorem zs_aload_n {k : Fin 4} {x : Nat} (hg : zf_g mi = E) (hd : decode E.2.1 pc = .ok (.aload_n k, 1)) (hl : ls[(k : Nat)]? = some (.val (.ref x))) : zW X mi pc ls st M Q ↔ zW X mi (pc + 1) ls (.ref x :: st) M Q := by
  subst hg
  exact zr_aload_n hd hl
theorem zs_aload {k : Nat} {x : Nat} (hg : zf_g mi = E) (hd : decode E.2.1 pc = .ok (.aload k, 2)) (hl : ls[k]? = some (.val (.ref x))) : zW X mi pc ls st M Q ↔ zW X mi (pc + 2) ls (.ref x :: st) M Q := by
  subst hg
  exact zr_aload hd hl
theorem zs_lload_n {k : Fin 4} {x : Int64} (hg : zf_g mi = E) (hd : decode E.2.1 pc = .ok (.lload_n k, 1)) (hl : ls[(k : Nat)]? = some (.val (.long x))) (hl2 : ls[(k : Nat) + 1]? = some .second) : zW X mi pc ls st M Q ↔ zW X mi (pc + 1) ls (.long x :: st) M Q := by
  subst hg
  exact zr_lload_n hd hl hl2
theorem zs_lload {k : Nat} {x : Int64} (hg : zf_g mi = E) (hd : decode E.2.1 pc = .ok (.lload k, 2)) (hl : ls[k]? = some (.val (.long x))) (hl2 : ls[k + 1]? = some .second) : zW X mi pc ls st M Q ↔ zW X mi (pc + 2) ls (.long x :: st) M Q := by
  subst hg
  exact zr_lload hd hl hl2
theorem zs_istore_n {k : Fin 4} {x : Int32} (hg : zf_g mi = E) (hd : decode E.2.1 pc = .ok (.istore_n k, 1)) (hl : (k : Nat) < ls.length) : zW X mi pc ls (.int x :: st) M Q ↔ zW X mi (pc + 1) (ls.set (k : Nat) (.val (.int x))) st M Q := by
  subst hg
  exact zr_istore_n hd hl
theorem zs_istore {k : Nat} {x : Int32} (hg : zf_g mi = E) (hd : decode E.2.1 pc = .ok (.istore k, 2)) (hl : k < ls.length) : zW X mi pc ls (.int x :: st) M Q ↔ zW X mi (pc + 2) (ls.set k (.val (.int x))) st M Q := by
  subst hg
  exact zr_istore hd hl
theorem zs_astore_n {k : Fin 4} {x : Nat} (hg : zf_g mi = E) (hd : decode E.2.1 pc = .ok (.astore_n k, 1)) (hl : (k : Nat) < ls.length) : zW X mi pc ls (.ref x :: st) M Q ↔ zW X mi (pc + 1) (ls.set (k : Nat) (.val (.ref x))) st M Q := by
  subst hg
  exact zr_astore_n hd hl
theorem zs_astore {k : Nat} {x : Nat} (hg : zf_g mi = E) (hd : decode E.2.1 pc = .ok (.astore k, 2)) (hl : k < ls.length) : zW X mi pc ls (.ref x :: st) M Q ↔ zW X mi (pc + 2) (ls.set k (.val (.ref x))) st M Q := by
  subst hg
  exact zr_astore hd hl
theorem zs_lstore_n {k : Fin 4} {x : Int64} (hg : zf_g mi = E) (hd : decode E.2.1 pc = .ok (.lstore_n k, 1)) (hl : (k : Nat) + 1 < ls.length) : zW X mi pc ls (.long x :: st) M Q ↔ zW X mi (pc + 1) ((ls.set (k : Nat) (.val (.long x))).set ((k : Nat) + 1) .second) st M Q := by
  subst hg
  exact zr_lstore_n hd hl
theorem zs_lstore {k : Nat} {x : Int64} (hg : zf_g mi = E) (hd : decode E.2.1 pc = .ok (.lstore k, 2)) (hl : k + 1 < ls.length) : zW X mi pc ls (.long x :: st) M Q ↔ zW X mi (pc + 2) ((ls.set k (.val (.long x))).set (k + 1) .second) st M Q := by
  subst hg
  exact zr_lstore hd hl
theorem zs_iinc {k : Nat} {n : Int} {x v : Int32} (hg : zf_g mi = E) (hd : decode E.2.1 pc = .ok (.iinc k n, 3)) (hl : ls[k]? = some (.val (.int x))) (hv : Int32.ofInt n = v) : zW X mi pc ls st M Q ↔ zW X mi (pc + 3) (ls.set k (.val (.int (x + v)))) st M Q := by
  subst hg
  exact zr_iinc hd hl hv
theorem zs_goto {off : Int} (hg : zf_g mi = E) (hd : decode E.2.1 pc = .ok (.goto off, 3)) (ht : (pc : Int) + off = (tgt : Int)) : zW X mi pc ls st M Q ↔ zW X mi tgt ls st M Q := by
  subst hg
  exact zr_goto hd ht
theorem zs_ldc {v : Int32} (hg : zf_g mi = E) (hd : decode E.2.1 pc = .ok (.ldc idx, 2)) (hv : zf_at zf_k4 E.2.2.2.2.1 idx = some v) : zW X mi pc ls st M Q ↔ zW X mi (pc + 2) ls (.int v :: st) M Q := by
  subst hg
  exact zr_ldc hd hv
theorem zs_ldcw {v : Int32} (hg : zf_g mi = E) (hd : decode E.2.1 pc = .ok (.ldc_w idx, 3)) (hv : zf_at zf_k4 E.2.2.2.2.1 idx = some v) : zW X mi pc ls st M Q ↔ zW X mi (pc + 3) ls (.int v :: st) M Q := by
  subst hg
  exact zr_ldcw hd hv
theorem zs_ldc2 {v : Int64} (hg : zf_g mi = E) (hd : decode E.2.1 pc = .ok (.ldc2_w idx, 3)) (hv : zf_at zf_k8 E.2.2.2.2.1 idx = some v) : zW X mi pc ls st M Q ↔ zW X mi (pc + 3) ls (.long v :: st) M Q := by
  subst hg
  exact zr_ldc2 hd hv
theorem zs_getstatic {a : Nat} (hg : zf_g mi = E) (hd : decode E.2.1 pc = .ok (.getstatic idx, 3)) (hv : zf_at zf_sl E.2.2.2.2.1 idx = some a) : zW X mi pc ls st M Q ↔ zW X mi (pc + 3) ls (.ref a :: st) M Q := by
  subst hg
  exact zr_getstatic hd hv
theorem zs_if {c : Jvm.ClassFile.Cond} {off : Int} {x : Int32} {A : Prop} (hg : zf_g mi = E) (hd : decode E.2.1 pc = .ok (.ifCond c off, 3)) (ht : (pc : Int) + off = (tgt : Int)) (hc : (zf_c c x 0 = true) = A) : zW X mi pc ls (.int x :: st) M Q ↔ (A → zW X mi tgt ls st M Q) ∧ (¬ A → zW X mi (pc + 3) ls st M Q) := by
  subst hg
  exact zr_if hd ht hc
theorem zs_icmp {c : Jvm.ClassFile.Cond} {off : Int} {x y : Int32} {A : Prop} (hg : zf_g mi = E) (hd : decode E.2.1 pc = .ok (.if_icmp c off, 3)) (ht : (pc : Int) + off = (tgt : Int)) (hc : (zf_c c x y = true) = A) : zW X mi pc ls (.int y :: .int x :: st) M Q ↔ (A → zW X mi tgt ls st M Q) ∧ (¬ A → zW X mi (pc + 3) ls st M Q) := by
  subst hg
  exact zr_icmp hd ht hc
theorem zs_idiv {x y : Int32} (hg : zf_g mi = E) (hd : decode E.2.1 pc = .ok (.idiv, 1)) : zW X mi pc ls (.int y :: .int x :: st) M Q ↔ y ≠ 0 ∧ zW X mi (pc + 1) ls (.int (x / y) :: st) M Q := by
  subst hg
  exact zr_idiv hd
theorem zs_irem {x y : Int32} (hg : zf_g mi = E) (hd : decode E.2.1 pc = .ok (.irem, 1)) : zW X mi pc ls (.int y :: .int x :: st) M Q ↔ y ≠ 0 ∧ zW X mi (pc + 1) ls (.int (x - x / y * y) :: st) M Q := by
  subst hg
  exact zr_irem hd
theorem zs_ldiv {x y : Int64} (hg : zf_g mi = E) (hd : decode E.2.1 pc = .ok (.ldiv, 1)) : zW X mi pc ls (.long y :: .long x :: st) M Q ↔ y ≠ 0 ∧ zW X mi (pc + 1) ls (.long (x / y) :: st) M Q := by
  subst hg
  exact zr_ldiv hd
theorem zs_lrem {x y : Int64} (hg : zf_g mi = E) (hd : decode E.2.1 pc = .ok (.lrem, 1)) : zW X mi pc ls (.long y :: .long x :: st) M Q ↔ y ≠ 0 ∧ zW X mi (pc + 1) ls (.long (x - x / y * y) :: st) M Q := by
  subst hg
  exact zr_lrem hd
theorem zs_getI {a k f : Nat} (hg : zf_g mi = E) (hd : decode E.2.1 pc = .ok (.getfield idx, 3)) (hv : zf_at zf_fl E.2.2.2.2.1 idx = some (k, f)) (ht : zf_ct k f = .int ∨ zf_ct k f = .boolean) : zW X mi pc ls (.ref a :: st) M Q ↔ zf_k M a = k ∧ zW X mi (pc + 3) ls (.int (zf_I M a f) :: st) M Q := by
  subst hg
  exact zr_getI hd hv ht
theorem zs_getJ {a k f : Nat} (hg : zf_g mi = E) (hd : decode E.2.1 pc = .ok (.getfield idx, 3)) (hv : zf_at zf_fl E.2.2.2.2.1 idx = some (k, f)) (ht : zf_ct k f = .long) : zW X mi pc ls (.ref a :: st) M Q ↔ zf_k M a = k ∧ zW X mi (pc + 3) ls (.long (zf_J M a f) :: st) M Q := by
  subst hg
  exact zr_getJ hd hv ht
theorem zs_getP {a k f : Nat} (hg : zf_g mi = E) (hd : decode E.2.1 pc = .ok (.getfield idx, 3)) (hv : zf_at zf_fl E.2.2.2.2.1 idx = some (k, f)) (ht : zf_isO (zf_ct k f) = true) : zW X mi pc ls (.ref a :: st) M Q ↔ (zf_k M a = k ∧ zf_P M a f ≠ none) ∧ zW X mi (pc + 3) ls (.ref ((zf_P M a f).getD 0) :: st) M Q := by
  subst hg
  exact zr_getP hd hv ht
theorem zs_putI {a k f : Nat} {x : Int32} (hg : zf_g mi = E) (hd : decode E.2.1 pc = .ok (.putfield idx, 3)) (hv : zf_at zf_fl E.2.2.2.2.1 idx = some (k, f)) (ht : zf_ct k f = .int) (hf : (zf_cT k f).2.2.2 = false ∨ (decide (E.2.2.2.2.2.2.1 = 2) = true ∧ E.2.2.2.2.1 = k)) : zW X mi pc ls (.int x :: .ref a :: st) M Q ↔ zf_k M a = k ∧ zW X mi (pc + 3) ls st (zf_sI M a f x) Q := by
  subst hg
  exact zr_putI hd hv ht hf
theorem zs_putZ {a k f : Nat} {x : Int32} (hg : zf_g mi = E) (hd : decode E.2.1 pc = .ok (.putfield idx, 3)) (hv : zf_at zf_fl E.2.2.2.2.1 idx = some (k, f)) (ht : zf_ct k f = .boolean) (hf : (zf_cT k f).2.2.2 = false ∨ (decide (E.2.2.2.2.2.2.1 = 2) = true ∧ E.2.2.2.2.1 = k)) : zW X mi pc ls (.int x :: .ref a :: st) M Q ↔ (zf_k M a = k ∧ (x = 0 ∨ x = 1)) ∧ zW X mi (pc + 3) ls st (zf_sI M a f x) Q := by
  subst hg
  exact zr_putZ hd hv ht hf
theorem zs_putJ {a k f : Nat} {x : Int64} (hg : zf_g mi = E) (hd : decode E.2.1 pc = .ok (.putfield idx, 3)) (hv : zf_at zf_fl E.2.2.2.2.1 idx = some (k, f)) (ht : zf_ct k f = .long) (hf : (zf_cT k f).2.2.2 = false ∨ (decide (E.2.2.2.2.2.2.1 = 2) = true ∧ E.2.2.2.2.1 = k)) : zW X mi pc ls (.long x :: .ref a :: st) M Q ↔ zf_k M a = k ∧ zW X mi (pc + 3) ls st (zf_sJ M a f x) Q := by
  subst hg
  exact zr_putJ hd hv ht hf
theorem zs_putP {a k f b : Nat} (hg : zf_g mi = E) (hd : decode E.2.1 pc = .ok (.putfield idx, 3)) (hv : zf_at zf_fl E.2.2.2.2.1 idx = some (k, f)) (ht : zf_isO (zf_ct k f) = true) (hf : (zf_cT k f).2.2.2 = false ∨ (decide (E.2.2.2.2.2.2.1 = 2) = true ∧ E.2.2.2.2.1 = k)) : zW X mi pc ls (.ref b :: .ref a :: st) M Q ↔ zf_k M a = k ∧ zW X mi (pc + 3) ls st (zf_sP M a f (some b)) Q := by
  subst hg
  exact zr_putP hd hv ht hf
theorem zs_iaload {a : Nat} {i : Int32} (hg : zf_g mi = E) (hd : decode E.2.1 pc = .ok (.iaload, 1)) (hn : zf_fx X a = none) : zW X mi pc ls (.int i :: .ref a :: st) M Q ↔ zf_ix1 M 10 a i ∧ zW X mi (pc + 1) ls (.int (zf_I M a i.toNatClampNeg) :: st) M Q := by
  subst hg
  exact zr_iaload hd hn
theorem zs_laload {a : Nat} {i : Int32} (hg : zf_g mi = E) (hd : decode E.2.1 pc = .ok (.laload, 1)) : zW X mi pc ls (.int i :: .ref a :: st) M Q ↔ zf_ix1 M 11 a i ∧ zW X mi (pc + 1) ls (.long (zf_J M a i.toNatClampNeg) :: st) M Q := by
  subst hg
  exact zr_laload hd
theorem zs_aaload {a : Nat} {i : Int32} (hg : zf_g mi = E) (hd : decode E.2.1 pc = .ok (.aaload, 1)) : zW X mi pc ls (.int i :: .ref a :: st) M Q ↔ ((zf_iN i (zf_n M 13 a) = true ∨ zf_iN i (zf_n M 14 a) = true) ∧ zf_P M a i.toNatClampNeg ≠ none) ∧ zW X mi (pc + 1) ls (.ref ((zf_P M a i.toNatClampNeg).getD 0) :: st) M Q := by
  subst hg
  exact zr_aaload hd
theorem zs_iastore {a : Nat} {i x : Int32} (hg : zf_g mi = E) (hd : decode E.2.1 pc = .ok (.iastore, 1)) : zW X mi pc ls (.int x :: .int i :: .ref a :: st) M Q ↔ zf_ix1 M 10 a i ∧ zW X mi (pc + 1) ls st (zf_sI M a i.toNatClampNeg x) Q := by
  subst hg
  exact zr_iastore hd
theorem zs_lastore {a : Nat} {i : Int32} {x : Int64} (hg : zf_g mi = E) (hd : decode E.2.1 pc = .ok (.lastore, 1)) : zW X mi pc ls (.long x :: .int i :: .ref a :: st) M Q ↔ zf_ix1 M 11 a i ∧ zW X mi (pc + 1) ls st (zf_sJ M a i.toNatClampNeg x) Q := by
  subst hg
  exact zr_lastore hd
theorem zs_aastore {a b : Nat} {i : Int32} (hg : zf_g mi = E) (hd : decode E.2.1 pc = .ok (.aastore, 1)) : zW X mi pc ls (.ref b :: .int i :: .ref a :: st) M Q ↔ ((zf_iN i (zf_n M 13 a) = true ∧ zf_k M b = 6) ∨ (zf_iN i (zf_n M 14 a) = true ∧ zf_k M b = 7)) ∧ zW X mi (pc + 1) ls st (zf_sP M a i.toNatClampNeg (some b)) Q := by
  subst hg
  exact zr_aastore hd
theorem zs_len {a : Nat} (hg : zf_g mi = E) (hd : decode E.2.1 pc = .ok (.arraylength, 1)) (hn : zf_fx X a = none) : zW X mi pc ls (.ref a :: st) M Q ↔ (10 ≤ zf_k M a ∧ zf_k M a < 15) ∧ zW X mi (pc + 1) ls (.int (Int32.ofNat (zf_n M (zf_k M a) a)) :: st) M Q := by
  subst hg
  exact zr_len hd hn
theorem zs_new {k : Nat} (hg : zf_g mi = E) (hd : decode E.2.1 pc = .ok (.new idx, 3)) (hv : zf_at zf_cl E.2.2.2.2.1 idx = some k) : zW X mi pc ls st M Q ↔ M.1.length < 1000000 ∧ zW X mi (pc + 3) ls (.ref M.1.length :: st) (zf_new M (k, 0)) Q := by
  subst hg
  exact zr_new hd hv
theorem zs_newarray {t : ArrayType} {n : Int32} (hg : zf_g mi = E) (hd : decode E.2.1 pc = .ok (.newarray t, 2)) (ht : zf_nk t = 10 ∨ zf_nk t = 11) (hn : ¬ n < 0 ∧ n.toNatClampNeg ≤ 10000) : zW X mi pc ls (.int n :: st) M Q ↔ M.1.length < 1000000 ∧ zW X mi (pc + 2) ls (.ref M.1.length :: st) (zf_new M (zf_nk t, n.toNatClampNeg)) Q := by
  subst hg
  exact zr_newarray hd ht hn
theorem zs_anewarray {k k2 : Nat} {n : Int32} (hg : zf_g mi = E) (hd : decode E.2.1 pc = .ok (.anewarray idx, 3)) (hv : zf_at zf_cl E.2.2.2.2.1 idx = some k) (hk : (k = 6 ∧ k2 = 13) ∨ (k = 7 ∧ k2 = 14)) (hn : ¬ n < 0 ∧ n.toNatClampNeg ≤ 10000) : zW X mi pc ls (.int n :: st) M Q ↔ M.1.length < 1000000 ∧ zW X mi (pc + 3) ls (.ref M.1.length :: st) (zf_new M (k2, n.toNatClampNeg)) Q := by
  subst hg
  exact zr_anewarray hd hv hk hn
theorem zs_obj {b q0 : Nat} (hg : zf_g mi = E) (hd : decode E.2.1 pc = .ok (.invokespecial idx, 3)) (hv : zf_at zf_ml E.2.2.2.2.1 idx = some (3, q0)) (hc : zf_low st = true ∧ 1 ≤ E.2.2.2.2.2.2.2.1 ∧ 20 ≤ E.2.2.2.2.2.2.2.2) : zW X mi pc ls (.ref b :: st) M Q ↔ zW X mi (pc + 3) ls st M Q := by
  subst hg
  exact zr_obj hd hv hc
theorem zs_max {q0 : Nat} {x y : Int32} (hg : zf_g mi = E) (hd : decode E.2.1 pc = .ok (.invokestatic idx, 3)) (hv : zf_at zf_ml E.2.2.2.2.1 idx = some (4, q0)) (hc : zf_low st = true ∧ 1 ≤ E.2.2.2.2.2.2.2.1 ∧ 21 ≤ E.2.2.2.2.2.2.2.2) : zW X mi pc ls (.int y :: .int x :: st) M Q ↔ zW X mi (pc + 3) ls (.int (if x < y then y else x) :: st) M Q := by
  subst hg
  exact zr_max hd hv hc
theorem zs_min {q0 : Nat} {x y : Int32} (hg : zf_g mi = E) (hd : decode E.2.1 pc = .ok (.invokestatic idx, 3)) (hv : zf_at zf_ml E.2.2.2.2.1 idx = some (5, q0)) (hc : zf_low st = true ∧ 1 ≤ E.2.2.2.2.2.2.2.1 ∧ 21 ≤ E.2.2.2.2.2.2.2.2) : zW X mi pc ls (.int y :: .int x :: st) M Q ↔ zW X mi (pc + 3) ls (.int (if y < x then y else x) :: st) M Q := by
  subst hg
  exact zr_min hd hv hc
theorem zs_copy {q0 a b : Nat} {i j n : Int32} (hg : zf_g mi = E) (hd : decode E.2.1 pc = .ok (.invokestatic idx, 3)) (hv : zf_at zf_ml E.2.2.2.2.1 idx = some (6, q0)) (hc : zf_low st = true ∧ 1 ≤ E.2.2.2.2.2.2.2.1 ∧ 26 ≤ E.2.2.2.2.2.2.2.2) : zW X mi pc ls (.int n :: .int j :: .ref b :: .int i :: .ref a :: st) M Q ↔ (¬ i < 0 ∧ ¬ j < 0 ∧ ¬ n < 0 ∧ i.toNatClampNeg + n.toNatClampNeg ≤ zf_n M 10 a ∧ j.toNatClampNeg + n.toNatClampNeg ≤ zf_n M 10 b ∧ zf_k M a = 10 ∧ zf_k M b = 10) ∧ zW X mi (pc + 3) ls st (zf_cpy M a b i.toNatClampNeg j.toNatClampNeg n.toNatClampNeg) Q := by
  subst hg
  exact zr_copy hd hv hc
theorem zs_iret {v : Int32} (hg : zf_g mi = E) (hd : decode E.2.1 pc = .ok (.ireturn, 1)) (hr : E.2.2.2.1 = some .int) : zW X mi pc ls [.int v] M Q ↔ Q (some (.int v)) M := by
  subst hg
  exact zr_iret hd hr
theorem zs_zret {v : Int32} (hg : zf_g mi = E) (hd : decode E.2.1 pc = .ok (.ireturn, 1)) (hr : E.2.2.2.1 = some .boolean) : zW X mi pc ls [.int v] M Q ↔ vp_nar .boolean v = v ∧ Q (some (.int v)) M := by
  subst hg
  exact zr_zret hd hr
theorem zs_jret {v : Int64} (hg : zf_g mi = E) (hd : decode E.2.1 pc = .ok (.lreturn, 1)) (hr : E.2.2.2.1 = some .long) : zW X mi pc ls [.long v] M Q ↔ Q (some (.long v)) M := by
  subst hg
  exact zr_jret hd hr
theorem zs_vret (hg : zf_g mi = E) (hd : decode E.2.1 pc = .ok (.return_, 1)) (hr : E.2.2.2.1 = none) : zW X mi pc ls [] M Q ↔ Q none M := by
  subst hg
  exact zr_vret hd hr
theorem zs_room {k : Nat} {E2 : zf_E} (hg : zf_g mi = E) (hk : zf_g k = E2) (h : decide (E2.2.2.2.2.2.2.2.1 + 1 ≤ E.2.2.2.2.2.2.2.1 ∧ 8 + (E2.2.2.1 + 11) + E2.2.2.2.2.2.2.2.2 ≤ E.2.2.2.2.2.2.2.2) = true) : zf_room mi k = true := by
  subst hg
  subst hk
  exact h
/-- a call of an object's method: the arguments lie above the object -/
theorem zs_virtual {k b c : Nat} {av rest : List Value} {E2 : zf_E} (hg : zf_g mi = E) (hk : zf_g k = E2) (hc : E2.2.2.2.2.1 = c) (hc10 : c < 10) (hd : decode E.2.1 pc = .ok (.invokevirtual idx, 3)) (hv : zf_at zf_ml E.2.2.2.2.1 idx = some (0, k)) (ht : st.take E2.2.2.2.2.2.1 = av) (hr : st.drop E2.2.2.2.2.2.1 = .ref b :: rest) (hn : av.length = E2.2.2.2.2.2.1) (hro : decide (E2.2.2.2.2.2.2.2.1 + 1 ≤ E.2.2.2.2.2.2.2.1 ∧ 8 + (E2.2.2.1 + 11) + E2.2.2.2.2.2.2.2.2 ≤ E.2.2.2.2.2.2.2.2) = true) (hlo : zf_low rest = true) (hl : (lg_sl (.ref b :: av.reverse)).length ≤ E2.2.2.1) : zW X mi pc ls st M Q ↔ zf_k M b = c ∧ zC X k (.ref b :: av.reverse) M (fun v M' => zW X mi (pc + 3) ls (v.toList ++ rest) M' Q) := by
  have hro2 := zs_room hg hk hro
  subst hg
  subst hk
  rw [zr_virtual hd hv ht hr hn hro2 hlo hl, hc]
  exact ⟨fun q => ⟨q.1.1, q.2⟩, fun q => ⟨⟨q.1, by rw [q.1]; exact hc10⟩, q.2⟩⟩
theorem zs_static {k : Nat} {av rest : List Value} {kd : Nat} {E2 : zf_E} (hg : zf_g mi = E) (hk : zf_g k = E2) (hkd : kd = 1 ∨ kd = 8) (hd : decode E.2.1 pc = .ok (.invokestatic idx, 3)) (hv : zf_at zf_ml E.2.2.2.2.1 idx = some (kd, k)) (ht : st.take E2.2.2.2.2.2.1 = av) (hr : st.drop E2.2.2.2.2.2.1 = rest) (hn : av.length = E2.2.2.2.2.2.1) (hro : decide (E2.2.2.2.2.2.2.2.1 + 1 ≤ E.2.2.2.2.2.2.2.1 ∧ 8 + (E2.2.2.1 + 11) + E2.2.2.2.2.2.2.2.2 ≤ E.2.2.2.2.2.2.2.2) = true) (hlo : zf_low rest = true) (hl : (lg_sl av.reverse).length ≤ E2.2.2.1) : zW X mi pc ls st M Q ↔ zC X k av.reverse M (fun v M' => zW X mi (pc + 3) ls (v.toList ++ rest) M' Q) := by
  have hro2 := zs_room hg hk hro
  subst hg
  subst hk
  exact zr_static hkd hd hv ht hr hn hro2 hlo hl
theorem zs_init {k b : Nat} {av rest : List Value} {kd : Nat} {E2 : zf_E} (hg : zf_g mi = E) (hk : zf_g k = E2) (hkd : kd = 2 ∨ kd = 7) (hd : decode E.2.1 pc = .ok (.invokespecial idx, 3)) (hv : zf_at zf_ml E.2.2.2.2.1 idx = some (kd, k)) (ht : st.take E2.2.2.2.2.2.1 = av) (hr : st.drop E2.2.2.2.2.2.1 = .ref b :: rest) (hn : av.length = E2.2.2.2.2.2.1) (hro : decide (E2.2.2.2.2.2.2.2.1 + 1 ≤ E.2.2.2.2.2.2.2.1 ∧ 8 + (E2.2.2.1 + 11) + E2.2.2.2.2.2.2.2.2 ≤ E.2.2.2.2.2.2.2.2) = true) (hlo : zf_low rest = true) (hl : (lg_sl (.ref b :: av.reverse)).length ≤ E2.2.2.1) : zW X mi pc ls st M Q ↔ zC X k (.ref b :: av.reverse) M (fun v M' => zW X mi (pc + 3) ls (v.toList ++ rest) M' Q) := by
  have hro2 := zs_room hg hk hro
  subst hg
  subst hk
  exact zr_init hkd hd hv ht hr hn hro2 hlo hl
end ZV
