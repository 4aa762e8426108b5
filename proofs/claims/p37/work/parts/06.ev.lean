/-! ===== the abstract machine's steps ===== -/
abbrev zf_S : Type := Nat × List Slot × List Value × zf_M
/-- a step; an answer; a call: whom, with what, where to go on, the stack below -/
abbrev zf_A : Type := Option (zf_S ⊕ (Option Value ⊕ (Nat × List Value × Nat × List Value)))
abbrev zf_X : Type := Nat × (Nat → Int32)
def zf_st (pc : Nat) (ls : List Slot) (st : List Value) (M : zf_M) : zf_A := some (.inl (pc, ls, st, M))
def zf_go (pc : Nat) (off : Int) (ls : List Slot) (st : List Value) (M : zf_M) : zf_A := if 0 ≤ (pc : Int) + off then zf_st ((pc : Int) + off).toNat ls st M else none
def zf_s1 (ls : List Slot) (i : Nat) (v : Value) : List Slot := ls.set i (.val v)
def zf_s2 (ls : List Slot) (i : Nat) (v : Value) : List Slot := (ls.set i (.val v)).set (i + 1) .second
def zf_il (pc : Nat) (ls : List Slot) (k : Nat) (st : List Value) (M : zf_M) : zf_A := match ls[k]? with
  | some (.val (.int x)) => zf_st pc ls (.int x :: st) M
  | _ => none
def zf_al (pc : Nat) (ls : List Slot) (k : Nat) (st : List Value) (M : zf_M) : zf_A := match ls[k]? with
  | some (.val (.ref x)) => zf_st pc ls (.ref x :: st) M
  | _ => none
def zf_ll (pc : Nat) (ls : List Slot) (k : Nat) (st : List Value) (M : zf_M) : zf_A := match ls[k]?, ls[k + 1]? with
  | some (.val (.long x)), some .second => zf_st pc ls (.long x :: st) M
  | _, _ => none
def zf_is (pc : Nat) (ls : List Slot) (k : Nat) (st : List Value) (M : zf_M) : zf_A := match st with
  | .int x :: r => if k < ls.length then zf_st pc (zf_s1 ls k (.int x)) r M else none
  | _ => none
def zf_as (pc : Nat) (ls : List Slot) (k : Nat) (st : List Value) (M : zf_M) : zf_A := match st with
  | .ref x :: r => if k < ls.length then zf_st pc (zf_s1 ls k (.ref x)) r M else none
  | _ => none
def zf_ls (pc : Nat) (ls : List Slot) (k : Nat) (st : List Value) (M : zf_M) : zf_A := match st with
  | .long x :: r => if k + 1 < ls.length then zf_st pc (zf_s2 ls k (.long x)) r M else none
  | _ => none
def zf_ic (pc : Nat) (ls : List Slot) (k : Nat) (n : Int) (st : List Value) (M : zf_M) : zf_A := match ls[k]? with
  | some (.val (.int x)) => zf_st pc (zf_s1 ls k (.int (x + Int32.ofInt n))) st M
  | _ => none
/-- two ints, two longs, a long and an int, one int, one long -/
def zf_ii (pc : Nat) (f : Int32 → Int32 → Value) (ls : List Slot) (st : List Value) (M : zf_M) : zf_A := match st with
  | .int y :: .int x :: r => zf_st pc ls (f x y :: r) M
  | _ => none
def zf_id (pc : Nat) (f : Int32 → Int32 → Value) (ls : List Slot) (st : List Value) (M : zf_M) : zf_A := match st with
  | .int y :: .int x :: r => if y = 0 then none else zf_st pc ls (f x y :: r) M
  | _ => none
def zf_jj (pc : Nat) (f : Int64 → Int64 → Value) (ls : List Slot) (st : List Value) (M : zf_M) : zf_A := match st with
  | .long y :: .long x :: r => zf_st pc ls (f x y :: r) M
  | _ => none
def zf_jd (pc : Nat) (f : Int64 → Int64 → Value) (ls : List Slot) (st : List Value) (M : zf_M) : zf_A := match st with
  | .long y :: .long x :: r => if y = 0 then none else zf_st pc ls (f x y :: r) M
  | _ => none
def zf_ji (pc : Nat) (f : Int64 → Int32 → Value) (ls : List Slot) (st : List Value) (M : zf_M) : zf_A := match st with
  | .int y :: .long x :: r => zf_st pc ls (f x y :: r) M
  | _ => none
def zf_i1 (pc : Nat) (f : Int32 → Value) (ls : List Slot) (st : List Value) (M : zf_M) : zf_A := match st with
  | .int x :: r => zf_st pc ls (f x :: r) M
  | _ => none
def zf_j1 (pc : Nat) (f : Int64 → Value) (ls : List Slot) (st : List Value) (M : zf_M) : zf_A := match st with
  | .long x :: r => zf_st pc ls (f x :: r) M
  | _ => none
def zf_c (c : Jvm.ClassFile.Cond) (x y : Int32) : Bool := match c with
  | .eq => decide (x = y)
  | .ne => decide (¬ x = y)
  | .lt => decide (x < y)
  | .ge => decide (y ≤ x)
  | .gt => decide (y < x)
  | .le => decide (x ≤ y)
def zf_if (c : Jvm.ClassFile.Cond) (pc : Nat) (off : Int) (ls : List Slot) (st : List Value) (M : zf_M) : zf_A := match st with
  | .int x :: r => if 0 ≤ (pc : Int) + off then (if zf_c c x 0 = true then zf_st ((pc : Int) + off).toNat ls r M else zf_st (pc + 3) ls r M) else none
  | _ => none
def zf_ip (c : Jvm.ClassFile.Cond) (pc : Nat) (off : Int) (ls : List Slot) (st : List Value) (M : zf_M) : zf_A := match st with
  | .int y :: .int x :: r => if 0 ≤ (pc : Int) + off then (if zf_c c x y = true then zf_st ((pc : Int) + off).toNat ls r M else zf_st (pc + 3) ls r M) else none
  | _ => none
def zf_tb (pc : Nat) (d lo hi : Int) (offs : Array Int) (ls : List Slot) (st : List Value) (M : zf_M) : zf_A := match st with
  | .int x :: r => if x.toInt < lo ∨ hi < x.toInt then zf_go pc d ls r M else match offs[(x.toInt - lo).toNat]? with
    | some off => zf_go pc off ls r M
    | none => none
  | _ => none
def zf_lk (pc : Nat) (d : Int) (ps : Array (Int × Int)) (ls : List Slot) (st : List Value) (M : zf_M) : zf_A := match st with
  | .int x :: r => if (ps.toList.zip (ps.toList.drop 1)).all (fun (a, next) => a.1 < next.1) = true then zf_go pc (Op.lookupswitch.offset ps.toList d x.toInt) ls r M else none
  | _ => none
/-- the tables that nobody writes: two of the class's own, and the script -/
def zf_lo (j : Nat) : Int32 := if j = 1 then 1 else if j = 3 then 1 else 0
def zf_hi (j : Nat) : Int32 := if j = 0 then 2 else if j = 1 then 20 else if j = 2 then 6 else if j = 3 then 9 else if j = 4 then 19 else 9
def zf_fx (X : zf_X) (a : Nat) : Option (Nat × (Nat → Int32)) := if a = 1000000 then some (6, zf_lo) else if a = 1000001 then some (6, zf_hi) else if a = 1000002 then some X else none
def zf_get (own pc idx : Nat) (ls : List Slot) (st : List Value) (M : zf_M) : zf_A := match st, zf_at zf_fl own idx with
  | .ref a :: r, some (c, k) => if zf_k M a = c then match zf_ct c k with
      | .long => zf_st pc ls (.long (M.2.2.1 a k) :: r) M
      | .object _ => match M.2.2.2 a k with
        | some b => zf_st pc ls (.ref b :: r) M
        | none => none
      | .array _ => match M.2.2.2 a k with
        | some b => zf_st pc ls (.ref b :: r) M
        | none => none
      | _ => zf_st pc ls (.int (M.2.1 a k) :: r) M
    else none
  | _, _ => none
/-- a field becomes another: only where it isn't final, or in a constructor of its class -/
def zf_put (ini : Bool) (own pc idx : Nat) (ls : List Slot) (st : List Value) (M : zf_M) : zf_A := match st, zf_at zf_fl own idx with
  | v :: .ref a :: r, some (c, k) => if zf_k M a = c ∧ ((zf_cT c k).2.2.2 = false ∨ (ini = true ∧ own = c)) then match zf_ct c k, v with
      | .int, .int x => zf_st pc ls r (zf_sI M a k x)
      | .boolean, .int x => if x = 0 ∨ x = 1 then zf_st pc ls r (zf_sI M a k x) else none
      | .long, .long x => zf_st pc ls r (zf_sJ M a k x)
      | .object _, .ref b => zf_st pc ls r (zf_sP M a k (some b))
      | .array _, .ref b => zf_st pc ls r (zf_sP M a k (some b))
      | _, _ => none
    else none
  | _, _ => none
def zf_iN (i : Int32) (n : Nat) : Bool := decide (¬ (i < 0 ∨ n ≤ i.toNatClampNeg))
theorem zf_iN_e {i : Int32} {n : Nat} (h : zf_iN i n = true) : vp_in i n := by
  have h2 : ¬ (i < 0 ∨ n ≤ i.toNatClampNeg) := by
    unfold zf_iN at h
    exact of_decide_eq_true h
  exact h2
theorem zf_iN_i {i : Int32} {n : Nat} (h : vp_in i n) : zf_iN i n = true := by
  have h2 : ¬ (i < 0 ∨ n ≤ i.toNatClampNeg) := h
  unfold zf_iN
  exact decide_eq_true h2
def zf_ia (X : zf_X) (pc : Nat) (ls : List Slot) (st : List Value) (M : zf_M) : zf_A := match st with
  | .int i :: .ref a :: r => if zf_iN i (zf_n M 10 a) = true then zf_st pc ls (.int (M.2.1 a i.toNatClampNeg) :: r) M else match zf_fx X a with
    | some q => if zf_iN i q.1 = true ∧ M.1.length ≤ a then zf_st pc ls (.int (q.2 i.toNatClampNeg) :: r) M else none
    | none => none
  | _ => none
def zf_ja (pc : Nat) (ls : List Slot) (st : List Value) (M : zf_M) : zf_A := match st with
  | .int i :: .ref a :: r => if zf_iN i (zf_n M 11 a) = true then zf_st pc ls (.long (M.2.2.1 a i.toNatClampNeg) :: r) M else none
  | _ => none
def zf_za (pc : Nat) (ls : List Slot) (st : List Value) (M : zf_M) : zf_A := match st with
  | .int i :: .ref a :: r => if zf_iN i (zf_n M 12 a) = true then zf_st pc ls (.int (M.2.1 a i.toNatClampNeg) :: r) M else none
  | _ => none
def zf_qa (pc : Nat) (ls : List Slot) (st : List Value) (M : zf_M) : zf_A := match st with
  | .int i :: .ref a :: r => if zf_iN i (zf_n M 13 a) = true ∨ zf_iN i (zf_n M 14 a) = true then match M.2.2.2 a i.toNatClampNeg with
    | some b => zf_st pc ls (.ref b :: r) M
    | none => none
    else none
  | _ => none
def zf_sia (pc : Nat) (ls : List Slot) (st : List Value) (M : zf_M) : zf_A := match st with
  | .int x :: .int i :: .ref a :: r => if zf_iN i (zf_n M 10 a) = true then zf_st pc ls r (zf_sI M a i.toNatClampNeg x) else none
  | _ => none
def zf_sja (pc : Nat) (ls : List Slot) (st : List Value) (M : zf_M) : zf_A := match st with
  | .long x :: .int i :: .ref a :: r => if zf_iN i (zf_n M 11 a) = true then zf_st pc ls r (zf_sJ M a i.toNatClampNeg x) else none
  | _ => none
def zf_sza (pc : Nat) (ls : List Slot) (st : List Value) (M : zf_M) : zf_A := match st with
  | .int x :: .int i :: .ref a :: r => if zf_iN i (zf_n M 12 a) = true ∧ vp_nar .boolean x = x then zf_st pc ls r (zf_sI M a i.toNatClampNeg x) else none
  | _ => none
def zf_sqa (pc : Nat) (ls : List Slot) (st : List Value) (M : zf_M) : zf_A := match st with
  | .ref b :: .int i :: .ref a :: r => if (zf_iN i (zf_n M 13 a) = true ∧ zf_k M b = 6) ∨ (zf_iN i (zf_n M 14 a) = true ∧ zf_k M b = 7) then zf_st pc ls r (zf_sP M a i.toNatClampNeg (some b)) else none
  | _ => none
def zf_len (X : zf_X) (pc : Nat) (ls : List Slot) (st : List Value) (M : zf_M) : zf_A := match st with
  | .ref a :: r => if 10 ≤ zf_k M a ∧ zf_k M a < 15 then zf_st pc ls (.int (Int32.ofNat (M.1.getD a (99, 0)).2) :: r) M else match zf_fx X a with
    | some q => if M.1.length ≤ a then zf_st pc ls (.int (Int32.ofNat q.1) :: r) M else none
    | none => none
  | _ => none
def zf_cell (pc : Nat) (kn : Nat × Nat) (ls : List Slot) (st : List Value) (M : zf_M) : zf_A := if M.1.length < 1000000 then zf_st pc ls (.ref M.1.length :: st) (zf_new M kn) else none
def zf_nw (own pc idx : Nat) (ls : List Slot) (st : List Value) (M : zf_M) : zf_A := match zf_at zf_cl own idx with
  | some c => zf_cell pc (c, 0) ls st M
  | none => none
def zf_nk (t : ArrayType) : Nat := match t with
  | .int => 10
  | .long => 11
  | _ => 99
def zf_na (pc : Nat) (k : Nat) (ls : List Slot) (st : List Value) (M : zf_M) : zf_A := match st with
  | .int n :: r => if ¬ n < 0 ∧ n.toNatClampNeg ≤ 10000 ∧ (k = 10 ∨ k = 11 ∨ k = 12 ∨ k = 13 ∨ k = 14) then zf_cell pc (k, n.toNatClampNeg) ls r M else none
  | _ => none
def zf_nq (own pc idx : Nat) (ls : List Slot) (st : List Value) (M : zf_M) : zf_A := match zf_at zf_cl own idx with
  | some c => if c = 6 then zf_na pc 13 ls st M else if c = 7 then zf_na pc 14 ls st M else none
  | none => none
def zf_room (mi k : Nat) : Bool := decide ((zf_g k).2.2.2.2.2.2.2.1 + 1 ≤ (zf_g mi).2.2.2.2.2.2.2.1 ∧ 8 + ((zf_g k).2.2.1 + 11) + (zf_g k).2.2.2.2.2.2.2.2 ≤ (zf_g mi).2.2.2.2.2.2.2.2)
def zf_low (st : List Value) : Bool := decide ((st.map fun v => v.category).sum ≤ 8)
def zf_call (k pc : Nat) (as rest : List Value) : zf_A := if (lg_sl as).length ≤ (zf_g k).2.2.1 then some (.inr (.inr (k, as, pc, rest))) else none
def zf_iv (mi pc idx : Nat) (st : List Value) (M : zf_M) : zf_A := match zf_at zf_ml (zf_g mi).2.2.2.2.1 idx with
  | some (0, k) => match st.drop (zf_g k).2.2.2.2.2.1 with
    | .ref b :: r => if (zf_k M b = (zf_g k).2.2.2.2.1 ∧ zf_k M b < 10) ∧ (st.take (zf_g k).2.2.2.2.2.1).length = (zf_g k).2.2.2.2.2.1 ∧ zf_room mi k = true ∧ zf_low r = true then zf_call k pc (.ref b :: (st.take (zf_g k).2.2.2.2.2.1).reverse) r else none
    | _ => none
  | _ => none
def zf_cpy (M : zf_M) (a b i j n : Nat) : zf_M := (M.1, zf_r M.2.1 b (va_cpy (M.2.1 a) (M.2.1 b) i j n), M.2.2.1, M.2.2.2)
def zf_iz (mi pc idx : Nat) (ls : List Slot) (st : List Value) (M : zf_M) : zf_A := match zf_at zf_ml (zf_g mi).2.2.2.2.1 idx with
  | some (1, k) => if (st.take (zf_g k).2.2.2.2.2.1).length = (zf_g k).2.2.2.2.2.1 ∧ zf_room mi k = true ∧ zf_low (st.drop (zf_g k).2.2.2.2.2.1) = true then zf_call k pc (st.take (zf_g k).2.2.2.2.2.1).reverse (st.drop (zf_g k).2.2.2.2.2.1) else none
  | some (8, k) => if (st.take (zf_g k).2.2.2.2.2.1).length = (zf_g k).2.2.2.2.2.1 ∧ zf_room mi k = true ∧ zf_low (st.drop (zf_g k).2.2.2.2.2.1) = true then zf_call k pc (st.take (zf_g k).2.2.2.2.2.1).reverse (st.drop (zf_g k).2.2.2.2.2.1) else none
  | some (4, _) => match st with
    | .int y :: .int x :: r => if zf_low r = true ∧ 1 ≤ (zf_g mi).2.2.2.2.2.2.2.1 ∧ 21 ≤ (zf_g mi).2.2.2.2.2.2.2.2 then zf_st pc ls (.int (if x < y then y else x) :: r) M else none
    | _ => none
  | some (5, _) => match st with
    | .int y :: .int x :: r => if zf_low r = true ∧ 1 ≤ (zf_g mi).2.2.2.2.2.2.2.1 ∧ 21 ≤ (zf_g mi).2.2.2.2.2.2.2.2 then zf_st pc ls (.int (if y < x then y else x) :: r) M else none
    | _ => none
  | some (6, _) => match st with
    | .int n :: .int j :: .ref b :: .int i :: .ref a :: r => if zf_low r = true ∧ 1 ≤ (zf_g mi).2.2.2.2.2.2.2.1 ∧ 26 ≤ (zf_g mi).2.2.2.2.2.2.2.2 ∧ ¬ i < 0 ∧ ¬ j < 0 ∧ ¬ n < 0 ∧ i.toNatClampNeg + n.toNatClampNeg ≤ zf_n M 10 a ∧ j.toNatClampNeg + n.toNatClampNeg ≤ zf_n M 10 b ∧ zf_k M a = 10 ∧ zf_k M b = 10 then zf_st pc ls r (zf_cpy M a b i.toNatClampNeg j.toNatClampNeg n.toNatClampNeg) else none
    | _ => none
  | _ => none
def zf_ix (mi pc idx : Nat) (ls : List Slot) (st : List Value) (M : zf_M) : zf_A := match zf_at zf_ml (zf_g mi).2.2.2.2.1 idx with
  | some (3, _) => match st with
    | .ref b :: r => if zf_low r = true ∧ 1 ≤ (zf_g mi).2.2.2.2.2.2.2.1 ∧ 20 ≤ (zf_g mi).2.2.2.2.2.2.2.2 then zf_st pc ls r M else none
    | _ => none
  | some (2, k) => match st.drop (zf_g k).2.2.2.2.2.1 with
    | .ref b :: r => if (st.take (zf_g k).2.2.2.2.2.1).length = (zf_g k).2.2.2.2.2.1 ∧ zf_room mi k = true ∧ zf_low r = true then zf_call k pc (.ref b :: (st.take (zf_g k).2.2.2.2.2.1).reverse) r else none
    | _ => none
  | some (7, k) => match st.drop (zf_g k).2.2.2.2.2.1 with
    | .ref b :: r => if (st.take (zf_g k).2.2.2.2.2.1).length = (zf_g k).2.2.2.2.2.1 ∧ zf_room mi k = true ∧ zf_low r = true then zf_call k pc (.ref b :: (st.take (zf_g k).2.2.2.2.2.1).reverse) r else none
    | _ => none
  | _ => none
def zf_iret (mi : Nat) (st : List Value) : zf_A := match st with
  | [.int v] => if (zf_g mi).2.2.2.1 = some .int ∨ ((zf_g mi).2.2.2.1 = some .boolean ∧ vp_nar .boolean v = v) then some (.inr (.inl (some (.int v)))) else none
  | _ => none
def zf_jret (mi : Nat) (st : List Value) : zf_A := match st with
  | [.long v] => if (zf_g mi).2.2.2.1 = some .long then some (.inr (.inl (some (.long v)))) else none
  | _ => none
def zf_vret (mi : Nat) (st : List Value) : zf_A := match st with
  | [] => if (zf_g mi).2.2.2.1 = none then some (.inr (.inl none)) else none
  | _ => none
def zf_dup (pc : Nat) (ls : List Slot) (st : List Value) (M : zf_M) : zf_A := match st with
  | v :: r => if v.category = 1 then zf_st pc ls (v :: v :: r) M else none
  | _ => none
def zf_pop (pc : Nat) (ls : List Slot) (st : List Value) (M : zf_M) : zf_A := match st with
  | v :: r => if v.category = 1 then zf_st pc ls r M else none
  | _ => none
def zf_dp2 (pc : Nat) (ls : List Slot) (st : List Value) (M : zf_M) : zf_A := match st with
  | v :: w :: r => if v.category = 1 ∧ w.category = 1 then zf_st pc ls (v :: w :: v :: w :: r) M else if v.category = 2 then zf_st pc ls (v :: v :: w :: r) M else none
  | [v] => if v.category = 2 then zf_st pc ls [v, v] M else none
  | _ => none
/-- what an instruction of n bytes does -/
def zf_do (X : zf_X) (mi pc : Nat) (i : Instr) (n : Nat) (ls : List Slot) (st : List Value) (M : zf_M) : zf_A := match i, n with
  | .iconst v, 1 => zf_st (pc + 1) ls (.int (Int32.ofInt v) :: st) M
  | .bipush v, 2 => zf_st (pc + 2) ls (.int (Int8.ofInt v).toInt32 :: st) M
  | .sipush v, 3 => zf_st (pc + 3) ls (.int (Int16.ofInt v).toInt32 :: st) M
  | .lconst v, 1 => zf_st (pc + 1) ls (.long (Int64.ofNat (v : Nat)) :: st) M
  | .ldc idx, 2 => match zf_at zf_k4 (zf_g mi).2.2.2.2.1 idx with
    | some v => zf_st (pc + 2) ls (.int v :: st) M
    | none => none
  | .ldc_w idx, 3 => match zf_at zf_k4 (zf_g mi).2.2.2.2.1 idx with
    | some v => zf_st (pc + 3) ls (.int v :: st) M
    | none => none
  | .ldc2_w idx, 3 => match zf_at zf_k8 (zf_g mi).2.2.2.2.1 idx with
    | some v => zf_st (pc + 3) ls (.long v :: st) M
    | none => none
  | .iload_n k, 1 => zf_il (pc + 1) ls (k : Nat) st M
  | .iload k, 2 => zf_il (pc + 2) ls k st M
  | .aload_n k, 1 => zf_al (pc + 1) ls (k : Nat) st M
  | .aload k, 2 => zf_al (pc + 2) ls k st M
  | .lload_n k, 1 => zf_ll (pc + 1) ls (k : Nat) st M
  | .lload k, 2 => zf_ll (pc + 2) ls k st M
  | .istore_n k, 1 => zf_is (pc + 1) ls (k : Nat) st M
  | .istore k, 2 => zf_is (pc + 2) ls k st M
  | .astore_n k, 1 => zf_as (pc + 1) ls (k : Nat) st M
  | .astore k, 2 => zf_as (pc + 2) ls k st M
  | .lstore_n k, 1 => zf_ls (pc + 1) ls (k : Nat) st M
  | .lstore k, 2 => zf_ls (pc + 2) ls k st M
  | .iinc k v, 3 => zf_ic (pc + 3) ls k v st M
  | .iadd, 1 => zf_ii (pc + 1) (fun x y => .int (x + y)) ls st M
  | .isub, 1 => zf_ii (pc + 1) (fun x y => .int (x - y)) ls st M
  | .imul, 1 => zf_ii (pc + 1) (fun x y => .int (x * y)) ls st M
  | .iand, 1 => zf_ii (pc + 1) (fun x y => .int (x &&& y)) ls st M
  | .idiv, 1 => zf_id (pc + 1) (fun x y => .int (x / y)) ls st M
  | .irem, 1 => zf_id (pc + 1) (fun x y => .int (x - x / y * y)) ls st M
  | .ishl, 1 => zf_ii (pc + 1) (fun x y => .int (x <<< (y &&& 31))) ls st M
  | .ishr, 1 => zf_ii (pc + 1) (fun x y => .int (x >>> (y &&& 31))) ls st M
  | .iushr, 1 => zf_ii (pc + 1) (fun x y => .int (x.toUInt32 >>> (y.toUInt32 &&& Int32.toUInt32 31)).toInt32) ls st M
  | .ladd, 1 => zf_jj (pc + 1) (fun x y => .long (x + y)) ls st M
  | .lsub, 1 => zf_jj (pc + 1) (fun x y => .long (x - y)) ls st M
  | .lmul, 1 => zf_jj (pc + 1) (fun x y => .long (x * y)) ls st M
  | .land, 1 => zf_jj (pc + 1) (fun x y => .long (x &&& y)) ls st M
  | .lor, 1 => zf_jj (pc + 1) (fun x y => .long (x ||| y)) ls st M
  | .lxor, 1 => zf_jj (pc + 1) (fun x y => .long (x ^^^ y)) ls st M
  | .ldiv, 1 => zf_jd (pc + 1) (fun x y => .long (x / y)) ls st M
  | .lrem, 1 => zf_jd (pc + 1) (fun x y => .long (x - x / y * y)) ls st M
  | .lshl, 1 => zf_ji (pc + 1) (fun x y => .long (x <<< (y.toInt64 &&& 63))) ls st M
  | .lshr, 1 => zf_ji (pc + 1) (fun x y => .long (x >>> (y.toInt64 &&& 63))) ls st M
  | .lushr, 1 => zf_ji (pc + 1) (fun x y => .long (x.toUInt64 >>> (y.toInt64.toUInt64 &&& Int64.toUInt64 63)).toInt64) ls st M
  | .lcmp, 1 => zf_jj (pc + 1) (fun x y => .int (lg_cmp x y)) ls st M
  | .i2l, 1 => zf_i1 (pc + 1) (fun x => .long x.toInt64) ls st M
  | .l2i, 1 => zf_j1 (pc + 1) (fun x => .int x.toInt32) ls st M
  | .i2b, 1 => zf_i1 (pc + 1) (fun x => .int x.toInt8.toInt32) ls st M
  | .i2s, 1 => zf_i1 (pc + 1) (fun x => .int x.toInt16.toInt32) ls st M
  | .dup, 1 => zf_dup (pc + 1) ls st M
  | .pop, 1 => zf_pop (pc + 1) ls st M
  | .dup2, 1 => zf_dp2 (pc + 1) ls st M
  | .ifCond c off, 3 => zf_if c pc off ls st M
  | .if_icmp c off, 3 => zf_ip c pc off ls st M
  | .goto off, 3 => zf_go pc off ls st M
  | .tableswitch d lo hi offs, _ => zf_tb pc d lo hi offs ls st M
  | .lookupswitch d ps, _ => zf_lk pc d ps ls st M
  | .getfield idx, 3 => zf_get (zf_g mi).2.2.2.2.1 (pc + 3) idx ls st M
  | .putfield idx, 3 => zf_put (decide ((zf_g mi).2.2.2.2.2.2.1 = 2)) (zf_g mi).2.2.2.2.1 (pc + 3) idx ls st M
  | .getstatic idx, 3 => match zf_at zf_sl (zf_g mi).2.2.2.2.1 idx with
    | some a => zf_st (pc + 3) ls (.ref a :: st) M
    | none => none
  | .iaload, 1 => zf_ia X (pc + 1) ls st M
  | .laload, 1 => zf_ja (pc + 1) ls st M
  | .aaload, 1 => zf_qa (pc + 1) ls st M
  | .iastore, 1 => zf_sia (pc + 1) ls st M
  | .lastore, 1 => zf_sja (pc + 1) ls st M
  | .aastore, 1 => zf_sqa (pc + 1) ls st M
  | .arraylength, 1 => zf_len X (pc + 1) ls st M
  | .new idx, 3 => zf_nw (zf_g mi).2.2.2.2.1 (pc + 3) idx ls st M
  | .newarray t, 2 => zf_na (pc + 2) (zf_nk t) ls st M
  | .anewarray idx, 3 => zf_nq (zf_g mi).2.2.2.2.1 (pc + 3) idx ls st M
  | .invokevirtual idx, 3 => zf_iv mi (pc + 3) idx st M
  | .invokestatic idx, 3 => zf_iz mi (pc + 3) idx ls st M
  | .invokespecial idx, 3 => zf_ix mi (pc + 3) idx ls st M
  | .ireturn, 1 => zf_iret mi st
  | .lreturn, 1 => zf_jret mi st
  | .return_, 1 => zf_vret mi st
  | _, _ => none
def zf_act (X : zf_X) (mi pc : Nat) (ls : List Slot) (st : List Value) (M : zf_M) : zf_A := match decode (zf_g mi).2.1 pc with
  | .ok (i, n) => zf_do X mi pc i n ls st M
  | _ => none
/-- the locals with which a method begins -/
def zf_en (k : Nat) (as : List Value) : List Slot := lg_sl as ++ List.replicate ((zf_g k).2.2.1 - (lg_sl as).length) Slot.unset
def zf_ev : Nat → zf_X → Nat → Nat → List Slot → List Value → zf_M → Option (Option Value × zf_M)
  | 0, _, _, _, _, _, _ => none
  | n + 1, X, mi, pc, ls, st, M => match zf_act X mi pc ls st M with
    | some (.inl s) => zf_ev n X mi s.1 s.2.1 s.2.2.1 s.2.2.2
    | some (.inr (.inl r)) => some (r, M)
    | some (.inr (.inr q)) => match zf_ev n X q.1 0 (zf_en q.1 q.2.1) [] M with
      | some r => zf_ev n X mi q.2.2.1 ls (r.1.toList ++ q.2.2.2) r.2
      | none => none
    | none => none
/-- from here the method comes to its end, with an answer and a memory of which Q holds -/
def zW (X : zf_X) (mi pc : Nat) (ls : List Slot) (st : List Value) (M : zf_M) (Q : Option Value → zf_M → Prop) : Prop := ∃ n r, zf_ev n X mi pc ls st M = some r ∧ Q r.1 r.2
/-- a method called with these arguments -/
def zC (X : zf_X) (k : Nat) (as : List Value) (M : zf_M) (Q : Option Value → zf_M → Prop) : Prop := zW X k 0 (zf_en k as) [] M Q
theorem zf_mono : ∀ (n : Nat) (X : zf_X) (mi pc : Nat) (ls : List Slot) (st : List Value) (M : zf_M) (r : Option Value × zf_M), zf_ev n X mi pc ls st M = some r → zf_ev (n + 1) X mi pc ls st M = some r
  | 0, _, _, _, _, _, _, _, h => by cases h
  | n + 1, X, mi, pc, ls, st, M, r, h => by
    rw [zf_ev] at h ⊢
    cases ha : zf_act X mi pc ls st M with
    | none => rw [ha] at h; cases h
    | some q =>
      rw [ha] at h
      rcases q with s | a | q
      · exact zf_mono n _ _ _ _ _ _ _ h
      · exact h
      · dsimp only at h ⊢
        cases hc : zf_ev n X q.1 0 (zf_en q.1 q.2.1) [] M with
        | none => rw [hc] at h; cases h
        | some r1 =>
          rw [hc] at h
          rw [zf_mono n _ _ _ _ _ _ _ hc]
          exact zf_mono n _ _ _ _ _ _ _ h
theorem zf_mono2 {n k : Nat} {X : zf_X} {mi pc : Nat} {ls : List Slot} {st : List Value} {M : zf_M} {r : Option Value × zf_M} (h : zf_ev n X mi pc ls st M = some r) (hk : n ≤ k) : zf_ev k X mi pc ls st M = some r := by
  induction k with
  | zero => rw [show n = 0 by omega] at h; exact h
  | succ k ih =>
    by_cases h1 : n = k + 1
    · subst h1; exact h
    · exact zf_mono _ _ _ _ _ _ _ _ (ih (by omega))
theorem zW_step {X : zf_X} {mi pc pc' : Nat} {ls ls' : List Slot} {st st' : List Value} {M M' : zf_M} {Q : Option Value → zf_M → Prop} (h : zf_act X mi pc ls st M = some (.inl (pc', ls', st', M'))) : zW X mi pc ls st M Q ↔ zW X mi pc' ls' st' M' Q := by
  constructor
  · rintro ⟨n, r, h1, h2⟩
    cases n with
    | zero => cases h1
    | succ n =>
      rw [zf_ev, h] at h1
      exact ⟨n, r, h1, h2⟩
  · rintro ⟨n, r, h1, h2⟩
    exact ⟨n + 1, r, by rw [zf_ev, h]; exact h1, h2⟩
theorem zW_ret {X : zf_X} {mi pc : Nat} {ls : List Slot} {st : List Value} {M : zf_M} {Q : Option Value → zf_M → Prop} {v : Option Value} (h : zf_act X mi pc ls st M = some (.inr (.inl v))) : zW X mi pc ls st M Q ↔ Q v M := by
  constructor
  · rintro ⟨n, r, h1, h2⟩
    cases n with
    | zero => cases h1
    | succ n =>
      rw [zf_ev, h] at h1
      cases h1
      exact h2
  · intro h2
    exact ⟨1, (v, M), by rw [zf_ev, h], h2⟩
theorem zW_call {X : zf_X} {mi pc : Nat} {ls : List Slot} {st : List Value} {M : zf_M} {Q : Option Value → zf_M → Prop} {k pc' : Nat} {as rest : List Value} (h : zf_act X mi pc ls st M = some (.inr (.inr (k, as, pc', rest)))) : zW X mi pc ls st M Q ↔ zC X k as M (fun v M' => zW X mi pc' ls (v.toList ++ rest) M' Q) := by
  constructor
  · rintro ⟨n, r, h1, h2⟩
    cases n with
    | zero => cases h1
    | succ n =>
      rw [zf_ev, h] at h1
      dsimp only at h1
      cases hc : zf_ev n X k 0 (zf_en k as) [] M with
      | none => rw [hc] at h1; cases h1
      | some r1 =>
        rw [hc] at h1
        exact ⟨n, r1, hc, n, r, h1, h2⟩
  · rintro ⟨n, r1, h1, n2, r, h2, h3⟩
    refine ⟨max n n2 + 1, r, ?_, h3⟩
    rw [zf_ev, h]
    dsimp only
    rw [zf_mono2 h1 (Nat.le_max_left n n2)]
    exact zf_mono2 h2 (Nat.le_max_right n n2)
/-- a weaker end is an end -/
theorem zW_imp {X : zf_X} {mi pc : Nat} {ls : List Slot} {st : List Value} {M : zf_M} {Q Q' : Option Value → zf_M → Prop} (h : zW X mi pc ls st M Q) (hq : ∀ v M', Q v M' → Q' v M') : zW X mi pc ls st M Q' := by
  obtain ⟨n, r, h1, h2⟩ := h
  exact ⟨n, r, h1, hq _ _ h2⟩
theorem zC_imp {X : zf_X} {k : Nat} {as : List Value} {M : zf_M} {Q Q' : Option Value → zf_M → Prop} (h : zC X k as M Q) (hq : ∀ v M', Q v M' → Q' v M') : zC X k as M Q' := zW_imp h hq
