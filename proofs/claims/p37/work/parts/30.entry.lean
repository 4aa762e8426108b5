/-! ===== printed by wip/whole/gen_c.py: entries of methods, switches, the shape of the memory ===== -/
theorem zf_enE {k : Nat} {E : zf_E} {as : List Value} {l : List Slot} (hg : zf_g k = E) (h : lg_sl as ++ List.replicate (E.2.2.1 - (lg_sl as).length) Slot.unset = l) : zf_en k as = l := by subst hg; exact h
theorem zC_en {X : zf_X} {k : Nat} {E : zf_E} {as : List Value} {l : List Slot} {M : zf_M} {Q : Option Value → zf_M → Prop} (hg : zf_g k = E) (h : lg_sl as ++ List.replicate (E.2.2.1 - (lg_sl as).length) Slot.unset = l) : zC X k as M Q ↔ zW X k 0 l [] M Q := by unfold zC; rw [zf_enE hg h]
theorem c0 {X : zf_X} {M : zf_M} {Q : Option Value → zf_M → Prop} {a0 : Nat} : zC X 0 [.ref a0] M Q ↔ zW X 0 0 [.val (.ref a0)] [] M Q := zC_en zf_g0 rfl
theorem c1 {X : zf_X} {M : zf_M} {Q : Option Value → zf_M → Prop} {a0 : Nat} {a1 : Nat} {a2 : Nat} : zC X 1 [.ref a0, .ref a1, .ref a2] M Q ↔ zW X 1 0 [.val (.ref a0), .val (.ref a1), .val (.ref a2), .unset, .unset, .unset, .unset, .unset, .unset, .unset, .unset, .unset] [] M Q := zC_en zf_g1 rfl
theorem c2 {X : zf_X} {M : zf_M} {Q : Option Value → zf_M → Prop} {a0 : Nat} {a1 : Nat} {a2 : Int64} : zC X 2 [.ref a0, .ref a1, .long a2] M Q ↔ zW X 2 0 [.val (.ref a0), .val (.ref a1), .val (.long a2), .second, .unset, .unset] [] M Q := zC_en zf_g2 rfl
theorem c3 {X : zf_X} {M : zf_M} {Q : Option Value → zf_M → Prop} {a0 : Nat} : zC X 3 [.ref a0] M Q ↔ zW X 3 0 [.val (.ref a0), .unset] [] M Q := zC_en zf_g3 rfl
theorem c6 {X : zf_X} {M : zf_M} {Q : Option Value → zf_M → Prop} {a0 : Nat} : zC X 6 [.ref a0] M Q ↔ zW X 6 0 [.val (.ref a0)] [] M Q := zC_en zf_g6 rfl
theorem c7 {X : zf_X} {M : zf_M} {Q : Option Value → zf_M → Prop} {a0 : Nat} {a1 : Int32} {a2 : Int32} {a3 : Int32} : zC X 7 [.ref a0, .int a1, .int a2, .int a3] M Q ↔ zW X 7 0 [.val (.ref a0), .val (.int a1), .val (.int a2), .val (.int a3)] [] M Q := zC_en zf_g7 rfl
theorem c8 {X : zf_X} {M : zf_M} {Q : Option Value → zf_M → Prop} {a0 : Nat} {a1 : Int32} {a2 : Nat} {a3 : Int32} {a4 : Int32} : zC X 8 [.ref a0, .int a1, .ref a2, .int a3, .int a4] M Q ↔ zW X 8 0 [.val (.ref a0), .val (.int a1), .val (.ref a2), .val (.int a3), .val (.int a4), .unset] [] M Q := zC_en zf_g8 rfl
theorem c9 {X : zf_X} {M : zf_M} {Q : Option Value → zf_M → Prop} {a0 : Nat} : zC X 9 [.ref a0] M Q ↔ zW X 9 0 [.val (.ref a0), .unset, .unset, .unset, .unset] [] M Q := zC_en zf_g9 rfl
theorem c10 {X : zf_X} {M : zf_M} {Q : Option Value → zf_M → Prop} {a0 : Int64} : zC X 10 [.long a0] M Q ↔ zW X 10 0 [.val (.long a0), .second] [] M Q := zC_en zf_g10 rfl
theorem c11 {X : zf_X} {M : zf_M} {Q : Option Value → zf_M → Prop} {a0 : Int64} {a1 : Int32} : zC X 11 [.long a0, .int a1] M Q ↔ zW X 11 0 [.val (.long a0), .second, .val (.int a1)] [] M Q := zC_en zf_g11 rfl
theorem c12 {X : zf_X} {M : zf_M} {Q : Option Value → zf_M → Prop} {a0 : Int32} : zC X 12 [.int a0] M Q ↔ zW X 12 0 [.val (.int a0)] [] M Q := zC_en zf_g12 rfl
theorem c13 {X : zf_X} {M : zf_M} {Q : Option Value → zf_M → Prop} {a0 : Nat} {a1 : Int64} {a2 : Int32} {a3 : Int32} : zC X 13 [.ref a0, .long a1, .int a2, .int a3] M Q ↔ zW X 13 0 [.val (.ref a0), .val (.long a1), .second, .val (.int a2), .val (.int a3), .unset] [] M Q := zC_en zf_g13 rfl
theorem c14 {X : zf_X} {M : zf_M} {Q : Option Value → zf_M → Prop} {a0 : Nat} {a1 : Int64} {a2 : Int32} : zC X 14 [.ref a0, .long a1, .int a2] M Q ↔ zW X 14 0 [.val (.ref a0), .val (.long a1), .second, .val (.int a2)] [] M Q := zC_en zf_g14 rfl
theorem c15 {X : zf_X} {M : zf_M} {Q : Option Value → zf_M → Prop} {a0 : Nat} {a1 : Int64} {a2 : Int32} : zC X 15 [.ref a0, .long a1, .int a2] M Q ↔ zW X 15 0 [.val (.ref a0), .val (.long a1), .second, .val (.int a2)] [] M Q := zC_en zf_g15 rfl
theorem c16 {X : zf_X} {M : zf_M} {Q : Option Value → zf_M → Prop} {a0 : Nat} {a1 : Int32} : zC X 16 [.ref a0, .int a1] M Q ↔ zW X 16 0 [.val (.ref a0), .val (.int a1)] [] M Q := zC_en zf_g16 rfl
theorem c17 {X : zf_X} {M : zf_M} {Q : Option Value → zf_M → Prop} {a0 : Nat} {a1 : Int64} {a2 : Int32} : zC X 17 [.ref a0, .long a1, .int a2] M Q ↔ zW X 17 0 [.val (.ref a0), .val (.long a1), .second, .val (.int a2), .unset] [] M Q := zC_en zf_g17 rfl
theorem c18 {X : zf_X} {M : zf_M} {Q : Option Value → zf_M → Prop} {a0 : Nat} {a1 : Int64} {a2 : Int32} {a3 : Int32} : zC X 18 [.ref a0, .long a1, .int a2, .int a3] M Q ↔ zW X 18 0 [.val (.ref a0), .val (.long a1), .second, .val (.int a2), .val (.int a3), .unset, .unset, .unset, .unset] [] M Q := zC_en zf_g18 rfl
theorem c19 {X : zf_X} {M : zf_M} {Q : Option Value → zf_M → Prop} {a0 : Nat} {a1 : Int64} {a2 : Int32} {a3 : Int32} : zC X 19 [.ref a0, .long a1, .int a2, .int a3] M Q ↔ zW X 19 0 [.val (.ref a0), .val (.long a1), .second, .val (.int a2), .val (.int a3), .unset, .unset, .unset] [] M Q := zC_en zf_g19 rfl
theorem c20 {X : zf_X} {M : zf_M} {Q : Option Value → zf_M → Prop} {a0 : Int64} {a1 : Int32} {a2 : Int32} : zC X 20 [.long a0, .int a1, .int a2] M Q ↔ zW X 20 0 [.val (.long a0), .second, .val (.int a1), .val (.int a2), .unset, .unset] [] M Q := zC_en zf_g20 rfl
theorem c21 {X : zf_X} {M : zf_M} {Q : Option Value → zf_M → Prop} {a0 : Nat} {a1 : Int64} {a2 : Int32} {a3 : Int32} : zC X 21 [.ref a0, .long a1, .int a2, .int a3] M Q ↔ zW X 21 0 [.val (.ref a0), .val (.long a1), .second, .val (.int a2), .val (.int a3), .unset] [] M Q := zC_en zf_g21 rfl
theorem c22 {X : zf_X} {M : zf_M} {Q : Option Value → zf_M → Prop} {a0 : Nat} : zC X 22 [.ref a0] M Q ↔ zW X 22 0 [.val (.ref a0)] [] M Q := zC_en zf_g22 rfl
theorem c23 {X : zf_X} {M : zf_M} {Q : Option Value → zf_M → Prop} {a0 : Nat} : zC X 23 [.ref a0] M Q ↔ zW X 23 0 [.val (.ref a0), .unset] [] M Q := zC_en zf_g23 rfl
theorem c24 {X : zf_X} {M : zf_M} {Q : Option Value → zf_M → Prop} {a0 : Nat} {a1 : Int64} {a2 : Int64} : zC X 24 [.ref a0, .long a1, .long a2] M Q ↔ zW X 24 0 [.val (.ref a0), .val (.long a1), .second, .val (.long a2), .second, .unset, .unset, .unset] [] M Q := zC_en zf_g24 rfl
theorem c25 {X : zf_X} {M : zf_M} {Q : Option Value → zf_M → Prop} {a0 : Nat} {a1 : Int32} {a2 : Int64} {a3 : Int64} : zC X 25 [.ref a0, .int a1, .long a2, .long a3] M Q ↔ zW X 25 0 [.val (.ref a0), .val (.int a1), .val (.long a2), .second, .val (.long a3), .second] [] M Q := zC_en zf_g25 rfl
theorem c26 {X : zf_X} {M : zf_M} {Q : Option Value → zf_M → Prop} {a0 : Nat} : zC X 26 [.ref a0] M Q ↔ zW X 26 0 [.val (.ref a0)] [] M Q := zC_en zf_g26 rfl
theorem c27 {X : zf_X} {M : zf_M} {Q : Option Value → zf_M → Prop} {a0 : Nat} {a1 : Nat} : zC X 27 [.ref a0, .ref a1] M Q ↔ zW X 27 0 [.val (.ref a0), .val (.ref a1), .unset, .unset, .unset, .unset, .unset, .unset, .unset] [] M Q := zC_en zf_g27 rfl
theorem c28 {X : zf_X} {M : zf_M} {Q : Option Value → zf_M → Prop} {a0 : Nat} {a1 : Int32} {a2 : Int32} {a3 : Int32} : zC X 28 [.ref a0, .int a1, .int a2, .int a3] M Q ↔ zW X 28 0 [.val (.ref a0), .val (.int a1), .val (.int a2), .val (.int a3), .unset] [] M Q := zC_en zf_g28 rfl
theorem c30 {X : zf_X} {M : zf_M} {Q : Option Value → zf_M → Prop} {a0 : Nat} : zC X 30 [.ref a0] M Q ↔ zW X 30 0 [.val (.ref a0), .unset] [] M Q := zC_en zf_g30 rfl
theorem c31 {X : zf_X} {M : zf_M} {Q : Option Value → zf_M → Prop} {a0 : Int32} : zC X 31 [.int a0] M Q ↔ zW X 31 0 [.val (.int a0), .unset, .unset, .unset] [] M Q := zC_en zf_g31 rfl
theorem c32 {X : zf_X} {M : zf_M} {Q : Option Value → zf_M → Prop} {a0 : Nat} {a1 : Nat} {a2 : Int32} {a3 : Int32} {a4 : Int32} : zC X 32 [.ref a0, .ref a1, .int a2, .int a3, .int a4] M Q ↔ zW X 32 0 [.val (.ref a0), .val (.ref a1), .val (.int a2), .val (.int a3), .val (.int a4), .unset, .unset, .unset, .unset, .unset, .unset, .unset] [] M Q := zC_en zf_g32 rfl
theorem c33 {X : zf_X} {M : zf_M} {Q : Option Value → zf_M → Prop} {a0 : Nat} {a1 : Nat} {a2 : Int64} {a3 : Int64} {a4 : Int32} {a5 : Int32} : zC X 33 [.ref a0, .ref a1, .long a2, .long a3, .int a4, .int a5] M Q ↔ zW X 33 0 [.val (.ref a0), .val (.ref a1), .val (.long a2), .second, .val (.long a3), .second, .val (.int a4), .val (.int a5), .unset] [] M Q := zC_en zf_g33 rfl
theorem c34 {X : zf_X} {M : zf_M} {Q : Option Value → zf_M → Prop} {a0 : Nat} {a1 : Nat} {a2 : Int64} {a3 : Int64} {a4 : Int32} {a5 : Int32} : zC X 34 [.ref a0, .ref a1, .long a2, .long a3, .int a4, .int a5] M Q ↔ zW X 34 0 [.val (.ref a0), .val (.ref a1), .val (.long a2), .second, .val (.long a3), .second, .val (.int a4), .val (.int a5), .unset, .unset, .unset, .unset] [] M Q := zC_en zf_g34 rfl
theorem c35 {X : zf_X} {M : zf_M} {Q : Option Value → zf_M → Prop} {a0 : Nat} : zC X 35 [.ref a0] M Q ↔ zW X 35 0 [.val (.ref a0)] [] M Q := zC_en zf_g35 rfl
theorem c36 {X : zf_X} {M : zf_M} {Q : Option Value → zf_M → Prop} {a0 : Int32} {a1 : Int32} : zC X 36 [.int a0, .int a1] M Q ↔ zW X 36 0 [.val (.int a0), .val (.int a1)] [] M Q := zC_en zf_g36 rfl
theorem c37 {X : zf_X} {M : zf_M} {Q : Option Value → zf_M → Prop} {a0 : Nat} {a1 : Int32} : zC X 37 [.ref a0, .int a1] M Q ↔ zW X 37 0 [.val (.ref a0), .val (.int a1)] [] M Q := zC_en zf_g37 rfl
theorem c38 {X : zf_X} {M : zf_M} {Q : Option Value → zf_M → Prop} {a0 : Nat} {a1 : Int32} {a2 : Int32} : zC X 38 [.ref a0, .int a1, .int a2] M Q ↔ zW X 38 0 [.val (.ref a0), .val (.int a1), .val (.int a2)] [] M Q := zC_en zf_g38 rfl
theorem c39 {X : zf_X} {M : zf_M} {Q : Option Value → zf_M → Prop} {a0 : Nat} {a1 : Int32} {a2 : Int32} {a3 : Int32} : zC X 39 [.ref a0, .int a1, .int a2, .int a3] M Q ↔ zW X 39 0 [.val (.ref a0), .val (.int a1), .val (.int a2), .val (.int a3)] [] M Q := zC_en zf_g39 rfl
theorem c40 {X : zf_X} {M : zf_M} {Q : Option Value → zf_M → Prop} {a0 : Nat} : zC X 40 [.ref a0] M Q ↔ zW X 40 0 [.val (.ref a0)] [] M Q := zC_en zf_g40 rfl
theorem c41 {X : zf_X} {M : zf_M} {Q : Option Value → zf_M → Prop} {a0 : Nat} {a1 : Int32} {a2 : Int32} {a3 : Int32} {a4 : Int32} : zC X 41 [.ref a0, .int a1, .int a2, .int a3, .int a4] M Q ↔ zW X 41 0 [.val (.ref a0), .val (.int a1), .val (.int a2), .val (.int a3), .val (.int a4)] [] M Q := zC_en zf_g41 rfl
theorem c42 {X : zf_X} {M : zf_M} {Q : Option Value → zf_M → Prop} {a0 : Nat} {a1 : Int32} : zC X 42 [.ref a0, .int a1] M Q ↔ zW X 42 0 [.val (.ref a0), .val (.int a1)] [] M Q := zC_en zf_g42 rfl
theorem c43 {X : zf_X} {M : zf_M} {Q : Option Value → zf_M → Prop} {a0 : Nat} : zC X 43 [.ref a0] M Q ↔ zW X 43 0 [.val (.ref a0)] [] M Q := zC_en zf_g43 rfl
theorem c44 {X : zf_X} {M : zf_M} {Q : Option Value → zf_M → Prop} {a0 : Nat} {a1 : Int32} {a2 : Int32} : zC X 44 [.ref a0, .int a1, .int a2] M Q ↔ zW X 44 0 [.val (.ref a0), .val (.int a1), .val (.int a2), .unset] [] M Q := zC_en zf_g44 rfl
theorem c45 {X : zf_X} {M : zf_M} {Q : Option Value → zf_M → Prop} {a0 : Nat} {a1 : Int32} : zC X 45 [.ref a0, .int a1] M Q ↔ zW X 45 0 [.val (.ref a0), .val (.int a1)] [] M Q := zC_en zf_g45 rfl
theorem c47 {X : zf_X} {M : zf_M} {Q : Option Value → zf_M → Prop} {a0 : Nat} {a1 : Int32} : zC X 47 [.ref a0, .int a1] M Q ↔ zW X 47 0 [.val (.ref a0), .val (.int a1)] [] M Q := zC_en zf_g47 rfl
theorem c48 {X : zf_X} {M : zf_M} {Q : Option Value → zf_M → Prop} {a0 : Nat} {a1 : Int32} {a2 : Int32} : zC X 48 [.ref a0, .int a1, .int a2] M Q ↔ zW X 48 0 [.val (.ref a0), .val (.int a1), .val (.int a2)] [] M Q := zC_en zf_g48 rfl
theorem c49 {X : zf_X} {M : zf_M} {Q : Option Value → zf_M → Prop} {a0 : Nat} : zC X 49 [.ref a0] M Q ↔ zW X 49 0 [.val (.ref a0), .unset] [] M Q := zC_en zf_g49 rfl
theorem c50 {X : zf_X} {M : zf_M} {Q : Option Value → zf_M → Prop} {a0 : Nat} {a1 : Int32} {a2 : Int32} {a3 : Int32} {a4 : Int32} {a5 : Int32} {a6 : Int32} : zC X 50 [.ref a0, .int a1, .int a2, .int a3, .int a4, .int a5, .int a6] M Q ↔ zW X 50 0 [.val (.ref a0), .val (.int a1), .val (.int a2), .val (.int a3), .val (.int a4), .val (.int a5), .val (.int a6), .unset, .unset] [] M Q := zC_en zf_g50 rfl
theorem c53 {X : zf_X} {M : zf_M} {Q : Option Value → zf_M → Prop} {a0 : Nat} {a1 : Int32} {a2 : Int32} {a3 : Int32} {a4 : Int32} : zC X 53 [.ref a0, .int a1, .int a2, .int a3, .int a4] M Q ↔ zW X 53 0 [.val (.ref a0), .val (.int a1), .val (.int a2), .val (.int a3), .val (.int a4), .unset] [] M Q := zC_en zf_g53 rfl
theorem c55 {X : zf_X} {M : zf_M} {Q : Option Value → zf_M → Prop} {a0 : Nat} {a1 : Int32} {a2 : Int32} {a3 : Int32} : zC X 55 [.ref a0, .int a1, .int a2, .int a3] M Q ↔ zW X 55 0 [.val (.ref a0), .val (.int a1), .val (.int a2), .val (.int a3), .unset] [] M Q := zC_en zf_g55 rfl
theorem c56 {X : zf_X} {M : zf_M} {Q : Option Value → zf_M → Prop} {a0 : Nat} : zC X 56 [.ref a0] M Q ↔ zW X 56 0 [.val (.ref a0)] [] M Q := zC_en zf_g56 rfl
theorem c57 {X : zf_X} {M : zf_M} {Q : Option Value → zf_M → Prop} {a0 : Nat} : zC X 57 [.ref a0] M Q ↔ zW X 57 0 [.val (.ref a0)] [] M Q := zC_en zf_g57 rfl
theorem c58 {X : zf_X} {M : zf_M} {Q : Option Value → zf_M → Prop} {a0 : Nat} {a1 : Int32} : zC X 58 [.ref a0, .int a1] M Q ↔ zW X 58 0 [.val (.ref a0), .val (.int a1)] [] M Q := zC_en zf_g58 rfl
theorem c60 {X : zf_X} {M : zf_M} {Q : Option Value → zf_M → Prop} {a0 : Nat} {a1 : Int32} {a2 : Int32} {a3 : Int32} {a4 : Int32} : zC X 60 [.ref a0, .int a1, .int a2, .int a3, .int a4] M Q ↔ zW X 60 0 [.val (.ref a0), .val (.int a1), .val (.int a2), .val (.int a3), .val (.int a4), .unset] [] M Q := zC_en zf_g60 rfl
theorem c61 {X : zf_X} {M : zf_M} {Q : Option Value → zf_M → Prop} {a0 : Nat} : zC X 61 [.ref a0] M Q ↔ zW X 61 0 [.val (.ref a0)] [] M Q := zC_en zf_g61 rfl
theorem c62 {X : zf_X} {M : zf_M} {Q : Option Value → zf_M → Prop} {a0 : Nat} {a1 : Int32} : zC X 62 [.ref a0, .int a1] M Q ↔ zW X 62 0 [.val (.ref a0), .val (.int a1)] [] M Q := zC_en zf_g62 rfl
theorem c74 {X : zf_X} {M : zf_M} {Q : Option Value → zf_M → Prop} {a0 : Nat} {a1 : Int32} : zC X 74 [.ref a0, .int a1] M Q ↔ zW X 74 0 [.val (.ref a0), .val (.int a1)] [] M Q := zC_en zf_g74 rfl
theorem c75 {X : zf_X} {M : zf_M} {Q : Option Value → zf_M → Prop} {a0 : Nat} {a1 : Int32} : zC X 75 [.ref a0, .int a1] M Q ↔ zW X 75 0 [.val (.ref a0), .val (.int a1)] [] M Q := zC_en zf_g75 rfl
theorem c76 {X : zf_X} {M : zf_M} {Q : Option Value → zf_M → Prop} {a0 : Nat} {a1 : Int32} {a2 : Int32} {a3 : Int32} : zC X 76 [.ref a0, .int a1, .int a2, .int a3] M Q ↔ zW X 76 0 [.val (.ref a0), .val (.int a1), .val (.int a2), .val (.int a3)] [] M Q := zC_en zf_g76 rfl
theorem c78 {X : zf_X} {M : zf_M} {Q : Option Value → zf_M → Prop} {a0 : Nat} {a1 : Int32} {a2 : Int32} {a3 : Int32} {a4 : Int32} : zC X 78 [.ref a0, .int a1, .int a2, .int a3, .int a4] M Q ↔ zW X 78 0 [.val (.ref a0), .val (.int a1), .val (.int a2), .val (.int a3), .val (.int a4), .unset] [] M Q := zC_en zf_g78 rfl
theorem c81 {X : zf_X} {M : zf_M} {Q : Option Value → zf_M → Prop} {a0 : Nat} {a1 : Int32} {a2 : Int32} : zC X 81 [.ref a0, .int a1, .int a2] M Q ↔ zW X 81 0 [.val (.ref a0), .val (.int a1), .val (.int a2), .unset, .unset, .unset] [] M Q := zC_en zf_g81 rfl
theorem c84 {X : zf_X} {M : zf_M} {Q : Option Value → zf_M → Prop} {a0 : Int32} : zC X 84 [.int a0] M Q ↔ zW X 84 0 [.val (.int a0)] [] M Q := zC_en zf_g84 rfl
theorem c85 {X : zf_X} {M : zf_M} {Q : Option Value → zf_M → Prop} {a0 : Int32} : zC X 85 [.int a0] M Q ↔ zW X 85 0 [.val (.int a0)] [] M Q := zC_en zf_g85 rfl
theorem c86 {X : zf_X} {M : zf_M} {Q : Option Value → zf_M → Prop} {a0 : Int32} : zC X 86 [.int a0] M Q ↔ zW X 86 0 [.val (.int a0)] [] M Q := zC_en zf_g86 rfl
theorem c87 {X : zf_X} {M : zf_M} {Q : Option Value → zf_M → Prop} {a0 : Int32} : zC X 87 [.int a0] M Q ↔ zW X 87 0 [.val (.int a0)] [] M Q := zC_en zf_g87 rfl
theorem c88 {X : zf_X} {M : zf_M} {Q : Option Value → zf_M → Prop} {a0 : Int32} : zC X 88 [.int a0] M Q ↔ zW X 88 0 [.val (.int a0)] [] M Q := zC_en zf_g88 rfl
theorem c89 {X : zf_X} {M : zf_M} {Q : Option Value → zf_M → Prop} {a0 : Int32} {a1 : Int32} : zC X 89 [.int a0, .int a1] M Q ↔ zW X 89 0 [.val (.int a0), .val (.int a1)] [] M Q := zC_en zf_g89 rfl
theorem c90 {X : zf_X} {M : zf_M} {Q : Option Value → zf_M → Prop} {a0 : Nat} {a1 : Int32} {a2 : Int32} {a3 : Int32} : zC X 90 [.ref a0, .int a1, .int a2, .int a3] M Q ↔ zW X 90 0 [.val (.ref a0), .val (.int a1), .val (.int a2), .val (.int a3)] [] M Q := zC_en zf_g90 rfl
theorem c91 {X : zf_X} {M : zf_M} {Q : Option Value → zf_M → Prop} {a0 : Nat} {a1 : Int32} : zC X 91 [.ref a0, .int a1] M Q ↔ zW X 91 0 [.val (.ref a0), .val (.int a1)] [] M Q := zC_en zf_g91 rfl
theorem c92 {X : zf_X} {M : zf_M} {Q : Option Value → zf_M → Prop} {a0 : Int32} : zC X 92 [.int a0] M Q ↔ zW X 92 0 [.val (.int a0)] [] M Q := zC_en zf_g92 rfl
theorem c93 {X : zf_X} {M : zf_M} {Q : Option Value → zf_M → Prop} {a0 : Nat} {a1 : Int32} : zC X 93 [.ref a0, .int a1] M Q ↔ zW X 93 0 [.val (.ref a0), .val (.int a1)] [] M Q := zC_en zf_g93 rfl
theorem c94 {X : zf_X} {M : zf_M} {Q : Option Value → zf_M → Prop} {a0 : Nat} {a1 : Int32} {a2 : Int32} : zC X 94 [.ref a0, .int a1, .int a2] M Q ↔ zW X 94 0 [.val (.ref a0), .val (.int a1), .val (.int a2)] [] M Q := zC_en zf_g94 rfl
theorem c95 {X : zf_X} {M : zf_M} {Q : Option Value → zf_M → Prop} {a0 : Nat} : zC X 95 [.ref a0] M Q ↔ zW X 95 0 [.val (.ref a0)] [] M Q := zC_en zf_g95 rfl
theorem c96 {X : zf_X} {M : zf_M} {Q : Option Value → zf_M → Prop} {a0 : Nat} {a1 : Int32} {a2 : Int32} : zC X 96 [.ref a0, .int a1, .int a2] M Q ↔ zW X 96 0 [.val (.ref a0), .val (.int a1), .val (.int a2), .unset, .unset] [] M Q := zC_en zf_g96 rfl
theorem c97 {X : zf_X} {M : zf_M} {Q : Option Value → zf_M → Prop} {a0 : Nat} {a1 : Nat} : zC X 97 [.ref a0, .ref a1] M Q ↔ zW X 97 0 [.val (.ref a0), .val (.ref a1), .unset] [] M Q := zC_en zf_g97 rfl
theorem c98 {X : zf_X} {M : zf_M} {Q : Option Value → zf_M → Prop} {a0 : Nat} : zC X 98 [.ref a0] M Q ↔ zW X 98 0 [.val (.ref a0)] [] M Q := zC_en zf_g98 rfl
theorem c166 {X : zf_X} {M : zf_M} {Q : Option Value → zf_M → Prop} {a0 : Nat} {a1 : Int32} : zC X 166 [.ref a0, .int a1] M Q ↔ zW X 166 0 [.val (.ref a0), .val (.int a1)] [] M Q := zC_en zf_g166 rfl
theorem c167 {X : zf_X} {M : zf_M} {Q : Option Value → zf_M → Prop} {a0 : Int32} {a1 : Int32} : zC X 167 [.int a0, .int a1] M Q ↔ zW X 167 0 [.val (.int a0), .val (.int a1)] [] M Q := zC_en zf_g167 rfl
theorem c168 {X : zf_X} {M : zf_M} {Q : Option Value → zf_M → Prop} {a0 : Nat} {a1 : Nat} {a2 : Nat} {a3 : Int32} {a4 : Int32} : zC X 168 [.ref a0, .ref a1, .ref a2, .int a3, .int a4] M Q ↔ zW X 168 0 [.val (.ref a0), .val (.ref a1), .val (.ref a2), .val (.int a3), .val (.int a4), .unset, .unset, .unset, .unset, .unset, .unset, .unset, .unset] [] M Q := zC_en zf_g168 rfl
theorem zs_tabIn {X : zf_X} {mi pc tgt : Nat} {ls : List Slot} {st : List Value} {M : zf_M} {Q : Option Value → zf_M → Prop} {E : zf_E} {d lo hi off : Int} {offs : Array Int} {n : Nat} {x : Int32} (hg : zf_g mi = E) (hd : decode E.2.1 pc = .ok (.tableswitch d lo hi offs, n)) (h1 : ¬ (x.toInt < lo ∨ hi < x.toInt)) (ho : offs[(x.toInt - lo).toNat]? = some off) (ht : (pc : Int) + off = (tgt : Int)) : zW X mi pc ls (.int x :: st) M Q ↔ zW X mi tgt ls st M Q := by
  subst hg
  refine zr_ofAct hd ?_
  simp only [zf_do, zf_tb, if_neg h1, ho]
  unfold zf_go
  rw [ht, if_pos (by omega)]
  rfl
theorem zs_tabOut {X : zf_X} {mi pc tgt : Nat} {ls : List Slot} {st : List Value} {M : zf_M} {Q : Option Value → zf_M → Prop} {E : zf_E} {d lo hi : Int} {offs : Array Int} {n : Nat} {x : Int32} (hg : zf_g mi = E) (hd : decode E.2.1 pc = .ok (.tableswitch d lo hi offs, n)) (h1 : x.toInt < lo ∨ hi < x.toInt) (ht : (pc : Int) + d = (tgt : Int)) : zW X mi pc ls (.int x :: st) M Q ↔ zW X mi tgt ls st M Q := by
  subst hg
  refine zr_ofAct hd ?_
  simp only [zf_do, zf_tb, if_pos h1]
  unfold zf_go
  rw [ht, if_pos (by omega)]
  rfl
theorem zs_look {X : zf_X} {mi pc tgt : Nat} {ls : List Slot} {st : List Value} {M : zf_M} {Q : Option Value → zf_M → Prop} {E : zf_E} {d : Int} {ps : Array (Int × Int)} {n : Nat} {x : Int32} (hg : zf_g mi = E) (hd : decode E.2.1 pc = .ok (.lookupswitch d ps, n)) (hs : (ps.toList.zip (ps.toList.drop 1)).all (fun (a, next) => a.1 < next.1) = true) (ht : (pc : Int) + Op.lookupswitch.offset ps.toList d x.toInt = (tgt : Int)) : zW X mi pc ls (.int x :: st) M Q ↔ zW X mi tgt ls st M Q := by
  subst hg
  refine zr_ofAct hd ?_
  simp only [zf_do, zf_lk, if_pos hs]
  unfold zf_go
  rw [ht, if_pos (by omega)]
  rfl
theorem w17_11_0 {X : zf_X} {M : zf_M} {Q : Option Value → zf_M → Prop} {ls : List Slot} {st : List Value} : zW X 17 11 ls (.int 0 :: st) M Q ↔ zW X 17 36 ls st M Q := zs_look zf_g17 dX2_afterHit_11 (by decide +kernel) (by decide +kernel)
theorem w17_11_1 {X : zf_X} {M : zf_M} {Q : Option Value → zf_M → Prop} {ls : List Slot} {st : List Value} : zW X 17 11 ls (.int 1 :: st) M Q ↔ zW X 17 69 ls st M Q := zs_look zf_g17 dX2_afterHit_11 (by decide +kernel) (by decide +kernel)
theorem w17_11_e {X : zf_X} {M : zf_M} {Q : Option Value → zf_M → Prop} {ls : List Slot} {st : List Value} {x : Int32} (h : x.toInt ≠ 0 ∧ x.toInt ≠ 1) : zW X 17 11 ls (.int x :: st) M Q ↔ zW X 17 85 ls st M Q := zs_look zf_g17 dX2_afterHit_11 (by decide +kernel) (by simp only [Op.lookupswitch.offset, List.foldr]; rw [if_neg (fun z => h.1 z.symm), if_neg (fun z => h.2 z.symm)]; rfl)
theorem w75_1_0 {X : zf_X} {M : zf_M} {Q : Option Value → zf_M → Prop} {ls : List Slot} {st : List Value} : zW X 75 1 ls (.int 0 :: st) M Q ↔ zW X 75 28 ls st M Q := zs_tabIn (off := 27) zf_g75 dX8_played_1 (by decide) (by decide +kernel) (by decide)
theorem w75_1_1 {X : zf_X} {M : zf_M} {Q : Option Value → zf_M → Prop} {ls : List Slot} {st : List Value} : zW X 75 1 ls (.int 1 :: st) M Q ↔ zW X 75 36 ls st M Q := zs_tabIn (off := 35) zf_g75 dX8_played_1 (by decide) (by decide +kernel) (by decide)
theorem w75_1_2 {X : zf_X} {M : zf_M} {Q : Option Value → zf_M → Prop} {ls : List Slot} {st : List Value} : zW X 75 1 ls (.int 2 :: st) M Q ↔ zW X 75 44 ls st M Q := zs_tabIn (off := 43) zf_g75 dX8_played_1 (by decide) (by decide +kernel) (by decide)
theorem w75_1_e {X : zf_X} {M : zf_M} {Q : Option Value → zf_M → Prop} {ls : List Slot} {st : List Value} {x : Int32} (h : x.toInt < 0 ∨ 2 < x.toInt) : zW X 75 1 ls (.int x :: st) M Q ↔ zW X 75 52 ls st M Q := zs_tabOut zf_g75 dX8_played_1 h (by decide)
/-- the cells behind both constructors -/
def zSH : List (Nat × Nat) := [(8, 0), (5, 0), (10, 96), (13, 2), (2, 0), (10, 6), (10, 6), (10, 6), (10, 6), (10, 6), (10, 6), (10, 6), (4, 0), (11, 3), (11, 7), (11, 384), (3, 0), (11, 400), (11, 400), (10, 400), (10, 1024), (3, 0), (11, 400), (11, 400), (10, 400), (10, 1024), (1, 0), (13, 6), (10, 6), (10, 6), (6, 0), (10, 3), (6, 0), (10, 3), (6, 0), (10, 3), (6, 0), (10, 3), (6, 0), (10, 3), (6, 0), (10, 3), (10, 27), (0, 0), (10, 6), (14, 4), (6, 0), (10, 3), (6, 0), (10, 3), (7, 0), (10, 60), (7, 0), (10, 60), (7, 0), (10, 60), (7, 0), (10, 60), (10, 24)]
def zkd (a : Nat) : Nat := (zSH.getD a (99, 0)).1
def znd (k a : Nat) : Nat := if (zSH.getD a (99, 0)).1 = k then (zSH.getD a (99, 0)).2 else 0
theorem zk_of {M : zf_M} (h : M.1 = zSH) (a : Nat) : zf_k M a = zkd a := by unfold zf_k zkd; rw [h]
theorem zn_of {M : zf_M} (h : M.1 = zSH) (k a : Nat) : zf_n M k a = znd k a := by unfold zf_n znd; rw [h]
theorem zkd0 : zkd 0 = 8 := rfl
theorem zkd1 : zkd 1 = 5 := rfl
theorem zkd2 : zkd 2 = 10 := rfl
theorem znd2 : znd 10 2 = 96 := rfl
theorem zkd3 : zkd 3 = 13 := rfl
theorem znd3 : znd 13 3 = 2 := rfl
theorem zkd4 : zkd 4 = 2 := rfl
theorem zkd5 : zkd 5 = 10 := rfl
theorem znd5 : znd 10 5 = 6 := rfl
theorem zkd6 : zkd 6 = 10 := rfl
theorem znd6 : znd 10 6 = 6 := rfl
theorem zkd7 : zkd 7 = 10 := rfl
theorem znd7 : znd 10 7 = 6 := rfl
theorem zkd8 : zkd 8 = 10 := rfl
theorem znd8 : znd 10 8 = 6 := rfl
theorem zkd9 : zkd 9 = 10 := rfl
theorem znd9 : znd 10 9 = 6 := rfl
theorem zkd10 : zkd 10 = 10 := rfl
theorem znd10 : znd 10 10 = 6 := rfl
theorem zkd11 : zkd 11 = 10 := rfl
theorem znd11 : znd 10 11 = 6 := rfl
theorem zkd12 : zkd 12 = 4 := rfl
theorem zkd13 : zkd 13 = 11 := rfl
theorem znd13 : znd 11 13 = 3 := rfl
theorem zkd14 : zkd 14 = 11 := rfl
theorem znd14 : znd 11 14 = 7 := rfl
theorem zkd15 : zkd 15 = 11 := rfl
theorem znd15 : znd 11 15 = 384 := rfl
theorem zkd16 : zkd 16 = 3 := rfl
theorem zkd17 : zkd 17 = 11 := rfl
theorem znd17 : znd 11 17 = 400 := rfl
theorem zkd18 : zkd 18 = 11 := rfl
theorem znd18 : znd 11 18 = 400 := rfl
theorem zkd19 : zkd 19 = 10 := rfl
theorem znd19 : znd 10 19 = 400 := rfl
theorem zkd20 : zkd 20 = 10 := rfl
theorem znd20 : znd 10 20 = 1024 := rfl
theorem zkd21 : zkd 21 = 3 := rfl
theorem zkd22 : zkd 22 = 11 := rfl
theorem znd22 : znd 11 22 = 400 := rfl
theorem zkd23 : zkd 23 = 11 := rfl
theorem znd23 : znd 11 23 = 400 := rfl
theorem zkd24 : zkd 24 = 10 := rfl
theorem znd24 : znd 10 24 = 400 := rfl
theorem zkd25 : zkd 25 = 10 := rfl
theorem znd25 : znd 10 25 = 1024 := rfl
theorem zkd26 : zkd 26 = 1 := rfl
theorem zkd27 : zkd 27 = 13 := rfl
theorem znd27 : znd 13 27 = 6 := rfl
theorem zkd28 : zkd 28 = 10 := rfl
theorem znd28 : znd 10 28 = 6 := rfl
theorem zkd29 : zkd 29 = 10 := rfl
theorem znd29 : znd 10 29 = 6 := rfl
theorem zkd30 : zkd 30 = 6 := rfl
theorem zkd31 : zkd 31 = 10 := rfl
theorem znd31 : znd 10 31 = 3 := rfl
theorem zkd32 : zkd 32 = 6 := rfl
theorem zkd33 : zkd 33 = 10 := rfl
theorem znd33 : znd 10 33 = 3 := rfl
theorem zkd34 : zkd 34 = 6 := rfl
theorem zkd35 : zkd 35 = 10 := rfl
theorem znd35 : znd 10 35 = 3 := rfl
theorem zkd36 : zkd 36 = 6 := rfl
theorem zkd37 : zkd 37 = 10 := rfl
theorem znd37 : znd 10 37 = 3 := rfl
theorem zkd38 : zkd 38 = 6 := rfl
theorem zkd39 : zkd 39 = 10 := rfl
theorem znd39 : znd 10 39 = 3 := rfl
theorem zkd40 : zkd 40 = 6 := rfl
theorem zkd41 : zkd 41 = 10 := rfl
theorem znd41 : znd 10 41 = 3 := rfl
theorem zkd42 : zkd 42 = 10 := rfl
theorem znd42 : znd 10 42 = 27 := rfl
theorem zkd43 : zkd 43 = 0 := rfl
theorem zkd44 : zkd 44 = 10 := rfl
theorem znd44 : znd 10 44 = 6 := rfl
theorem zkd45 : zkd 45 = 14 := rfl
theorem znd45 : znd 14 45 = 4 := rfl
theorem zkd46 : zkd 46 = 6 := rfl
theorem zkd47 : zkd 47 = 10 := rfl
theorem znd47 : znd 10 47 = 3 := rfl
theorem zkd48 : zkd 48 = 6 := rfl
theorem zkd49 : zkd 49 = 10 := rfl
theorem znd49 : znd 10 49 = 3 := rfl
theorem zkd50 : zkd 50 = 7 := rfl
theorem zkd51 : zkd 51 = 10 := rfl
theorem znd51 : znd 10 51 = 60 := rfl
theorem zkd52 : zkd 52 = 7 := rfl
theorem zkd53 : zkd 53 = 10 := rfl
theorem znd53 : znd 10 53 = 60 := rfl
theorem zkd54 : zkd 54 = 7 := rfl
theorem zkd55 : zkd 55 = 10 := rfl
theorem znd55 : znd 10 55 = 60 := rfl
theorem zkd56 : zkd 56 = 7 := rfl
theorem zkd57 : zkd 57 = 10 := rfl
theorem znd57 : znd 10 57 = 60 := rfl
theorem zkd58 : zkd 58 = 10 := rfl
theorem znd58 : znd 10 58 = 24 := rfl
