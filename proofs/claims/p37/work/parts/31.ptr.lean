/-! ===== printed by wip/whole/gen_q.py: where the cells lie behind both constructors ===== -/
def zPL : List (Nat × Nat × Nat) := [(0, 0, 1), (0, 1, 3), (0, 2, 4), (0, 3, 12), (0, 4, 26), (0, 5, 42), (0, 6, 43), (0, 7, 45), (1, 0, 2), (3, 0, 46), (3, 1, 48), (4, 0, 5), (4, 1, 6), (4, 2, 7), (4, 3, 8), (4, 4, 9), (4, 5, 10), (4, 6, 11), (12, 2, 13), (12, 3, 14), (12, 4, 15), (16, 0, 17), (16, 1, 18), (16, 3, 19), (16, 4, 20), (21, 0, 22), (21, 1, 23), (21, 3, 24), (21, 4, 25), (26, 0, 27), (26, 1, 28), (26, 2, 29), (27, 0, 30), (27, 1, 32), (27, 2, 34), (27, 3, 36), (27, 4, 38), (27, 5, 40), (30, 0, 31), (32, 0, 33), (34, 0, 35), (36, 0, 37), (38, 0, 39), (40, 0, 41), (43, 3, 44), (45, 0, 50), (45, 1, 52), (45, 2, 54), (45, 3, 56), (46, 0, 47), (48, 0, 49), (50, 0, 51), (52, 0, 53), (54, 0, 55), (56, 0, 57)]
/-- the shape of the memory behind both constructors, and all references but the two layers of Odds, which change places -/
def zPk (M : zf_M) : Prop := M.1 = zSH ∧ ∀ e ∈ zPL, zf_P M e.1 e.2.1 = some e.2.2
theorem zp_0_0 {M : zf_M} (h : zPk M) : zf_P M 0 0 = some 1 := h.2 (0, 0, 1) (List.mem_of_getElem? (i := 0) rfl)
theorem zp_0_1 {M : zf_M} (h : zPk M) : zf_P M 0 1 = some 3 := h.2 (0, 1, 3) (List.mem_of_getElem? (i := 1) rfl)
theorem zp_0_2 {M : zf_M} (h : zPk M) : zf_P M 0 2 = some 4 := h.2 (0, 2, 4) (List.mem_of_getElem? (i := 2) rfl)
theorem zp_0_3 {M : zf_M} (h : zPk M) : zf_P M 0 3 = some 12 := h.2 (0, 3, 12) (List.mem_of_getElem? (i := 3) rfl)
theorem zp_0_4 {M : zf_M} (h : zPk M) : zf_P M 0 4 = some 26 := h.2 (0, 4, 26) (List.mem_of_getElem? (i := 4) rfl)
theorem zp_0_5 {M : zf_M} (h : zPk M) : zf_P M 0 5 = some 42 := h.2 (0, 5, 42) (List.mem_of_getElem? (i := 5) rfl)
theorem zp_0_6 {M : zf_M} (h : zPk M) : zf_P M 0 6 = some 43 := h.2 (0, 6, 43) (List.mem_of_getElem? (i := 6) rfl)
theorem zp_0_7 {M : zf_M} (h : zPk M) : zf_P M 0 7 = some 45 := h.2 (0, 7, 45) (List.mem_of_getElem? (i := 7) rfl)
theorem zp_1_0 {M : zf_M} (h : zPk M) : zf_P M 1 0 = some 2 := h.2 (1, 0, 2) (List.mem_of_getElem? (i := 8) rfl)
theorem zp_3_0 {M : zf_M} (h : zPk M) : zf_P M 3 0 = some 46 := h.2 (3, 0, 46) (List.mem_of_getElem? (i := 9) rfl)
theorem zp_3_1 {M : zf_M} (h : zPk M) : zf_P M 3 1 = some 48 := h.2 (3, 1, 48) (List.mem_of_getElem? (i := 10) rfl)
theorem zp_4_0 {M : zf_M} (h : zPk M) : zf_P M 4 0 = some 5 := h.2 (4, 0, 5) (List.mem_of_getElem? (i := 11) rfl)
theorem zp_4_1 {M : zf_M} (h : zPk M) : zf_P M 4 1 = some 6 := h.2 (4, 1, 6) (List.mem_of_getElem? (i := 12) rfl)
theorem zp_4_2 {M : zf_M} (h : zPk M) : zf_P M 4 2 = some 7 := h.2 (4, 2, 7) (List.mem_of_getElem? (i := 13) rfl)
theorem zp_4_3 {M : zf_M} (h : zPk M) : zf_P M 4 3 = some 8 := h.2 (4, 3, 8) (List.mem_of_getElem? (i := 14) rfl)
theorem zp_4_4 {M : zf_M} (h : zPk M) : zf_P M 4 4 = some 9 := h.2 (4, 4, 9) (List.mem_of_getElem? (i := 15) rfl)
theorem zp_4_5 {M : zf_M} (h : zPk M) : zf_P M 4 5 = some 10 := h.2 (4, 5, 10) (List.mem_of_getElem? (i := 16) rfl)
theorem zp_4_6 {M : zf_M} (h : zPk M) : zf_P M 4 6 = some 11 := h.2 (4, 6, 11) (List.mem_of_getElem? (i := 17) rfl)
theorem zp_12_2 {M : zf_M} (h : zPk M) : zf_P M 12 2 = some 13 := h.2 (12, 2, 13) (List.mem_of_getElem? (i := 18) rfl)
theorem zp_12_3 {M : zf_M} (h : zPk M) : zf_P M 12 3 = some 14 := h.2 (12, 3, 14) (List.mem_of_getElem? (i := 19) rfl)
theorem zp_12_4 {M : zf_M} (h : zPk M) : zf_P M 12 4 = some 15 := h.2 (12, 4, 15) (List.mem_of_getElem? (i := 20) rfl)
theorem zp_16_0 {M : zf_M} (h : zPk M) : zf_P M 16 0 = some 17 := h.2 (16, 0, 17) (List.mem_of_getElem? (i := 21) rfl)
theorem zp_16_1 {M : zf_M} (h : zPk M) : zf_P M 16 1 = some 18 := h.2 (16, 1, 18) (List.mem_of_getElem? (i := 22) rfl)
theorem zp_16_3 {M : zf_M} (h : zPk M) : zf_P M 16 3 = some 19 := h.2 (16, 3, 19) (List.mem_of_getElem? (i := 23) rfl)
theorem zp_16_4 {M : zf_M} (h : zPk M) : zf_P M 16 4 = some 20 := h.2 (16, 4, 20) (List.mem_of_getElem? (i := 24) rfl)
theorem zp_21_0 {M : zf_M} (h : zPk M) : zf_P M 21 0 = some 22 := h.2 (21, 0, 22) (List.mem_of_getElem? (i := 25) rfl)
theorem zp_21_1 {M : zf_M} (h : zPk M) : zf_P M 21 1 = some 23 := h.2 (21, 1, 23) (List.mem_of_getElem? (i := 26) rfl)
theorem zp_21_3 {M : zf_M} (h : zPk M) : zf_P M 21 3 = some 24 := h.2 (21, 3, 24) (List.mem_of_getElem? (i := 27) rfl)
theorem zp_21_4 {M : zf_M} (h : zPk M) : zf_P M 21 4 = some 25 := h.2 (21, 4, 25) (List.mem_of_getElem? (i := 28) rfl)
theorem zp_26_0 {M : zf_M} (h : zPk M) : zf_P M 26 0 = some 27 := h.2 (26, 0, 27) (List.mem_of_getElem? (i := 29) rfl)
theorem zp_26_1 {M : zf_M} (h : zPk M) : zf_P M 26 1 = some 28 := h.2 (26, 1, 28) (List.mem_of_getElem? (i := 30) rfl)
theorem zp_26_2 {M : zf_M} (h : zPk M) : zf_P M 26 2 = some 29 := h.2 (26, 2, 29) (List.mem_of_getElem? (i := 31) rfl)
theorem zp_27_0 {M : zf_M} (h : zPk M) : zf_P M 27 0 = some 30 := h.2 (27, 0, 30) (List.mem_of_getElem? (i := 32) rfl)
theorem zp_27_1 {M : zf_M} (h : zPk M) : zf_P M 27 1 = some 32 := h.2 (27, 1, 32) (List.mem_of_getElem? (i := 33) rfl)
theorem zp_27_2 {M : zf_M} (h : zPk M) : zf_P M 27 2 = some 34 := h.2 (27, 2, 34) (List.mem_of_getElem? (i := 34) rfl)
theorem zp_27_3 {M : zf_M} (h : zPk M) : zf_P M 27 3 = some 36 := h.2 (27, 3, 36) (List.mem_of_getElem? (i := 35) rfl)
theorem zp_27_4 {M : zf_M} (h : zPk M) : zf_P M 27 4 = some 38 := h.2 (27, 4, 38) (List.mem_of_getElem? (i := 36) rfl)
theorem zp_27_5 {M : zf_M} (h : zPk M) : zf_P M 27 5 = some 40 := h.2 (27, 5, 40) (List.mem_of_getElem? (i := 37) rfl)
theorem zp_30_0 {M : zf_M} (h : zPk M) : zf_P M 30 0 = some 31 := h.2 (30, 0, 31) (List.mem_of_getElem? (i := 38) rfl)
theorem zp_32_0 {M : zf_M} (h : zPk M) : zf_P M 32 0 = some 33 := h.2 (32, 0, 33) (List.mem_of_getElem? (i := 39) rfl)
theorem zp_34_0 {M : zf_M} (h : zPk M) : zf_P M 34 0 = some 35 := h.2 (34, 0, 35) (List.mem_of_getElem? (i := 40) rfl)
theorem zp_36_0 {M : zf_M} (h : zPk M) : zf_P M 36 0 = some 37 := h.2 (36, 0, 37) (List.mem_of_getElem? (i := 41) rfl)
theorem zp_38_0 {M : zf_M} (h : zPk M) : zf_P M 38 0 = some 39 := h.2 (38, 0, 39) (List.mem_of_getElem? (i := 42) rfl)
theorem zp_40_0 {M : zf_M} (h : zPk M) : zf_P M 40 0 = some 41 := h.2 (40, 0, 41) (List.mem_of_getElem? (i := 43) rfl)
theorem zp_43_3 {M : zf_M} (h : zPk M) : zf_P M 43 3 = some 44 := h.2 (43, 3, 44) (List.mem_of_getElem? (i := 44) rfl)
theorem zp_45_0 {M : zf_M} (h : zPk M) : zf_P M 45 0 = some 50 := h.2 (45, 0, 50) (List.mem_of_getElem? (i := 45) rfl)
theorem zp_45_1 {M : zf_M} (h : zPk M) : zf_P M 45 1 = some 52 := h.2 (45, 1, 52) (List.mem_of_getElem? (i := 46) rfl)
theorem zp_45_2 {M : zf_M} (h : zPk M) : zf_P M 45 2 = some 54 := h.2 (45, 2, 54) (List.mem_of_getElem? (i := 47) rfl)
theorem zp_45_3 {M : zf_M} (h : zPk M) : zf_P M 45 3 = some 56 := h.2 (45, 3, 56) (List.mem_of_getElem? (i := 48) rfl)
theorem zp_46_0 {M : zf_M} (h : zPk M) : zf_P M 46 0 = some 47 := h.2 (46, 0, 47) (List.mem_of_getElem? (i := 49) rfl)
theorem zp_48_0 {M : zf_M} (h : zPk M) : zf_P M 48 0 = some 49 := h.2 (48, 0, 49) (List.mem_of_getElem? (i := 50) rfl)
theorem zp_50_0 {M : zf_M} (h : zPk M) : zf_P M 50 0 = some 51 := h.2 (50, 0, 51) (List.mem_of_getElem? (i := 51) rfl)
theorem zp_52_0 {M : zf_M} (h : zPk M) : zf_P M 52 0 = some 53 := h.2 (52, 0, 53) (List.mem_of_getElem? (i := 52) rfl)
theorem zp_54_0 {M : zf_M} (h : zPk M) : zf_P M 54 0 = some 55 := h.2 (54, 0, 55) (List.mem_of_getElem? (i := 53) rfl)
theorem zp_56_0 {M : zf_M} (h : zPk M) : zf_P M 56 0 = some 57 := h.2 (56, 0, 57) (List.mem_of_getElem? (i := 54) rfl)
theorem zfx2 {X : zf_X} : zf_fx X 2 = none := by simp [zf_fx]
theorem zfx3 {X : zf_X} : zf_fx X 3 = none := by simp [zf_fx]
theorem zfx5 {X : zf_X} : zf_fx X 5 = none := by simp [zf_fx]
theorem zfx6 {X : zf_X} : zf_fx X 6 = none := by simp [zf_fx]
theorem zfx7 {X : zf_X} : zf_fx X 7 = none := by simp [zf_fx]
theorem zfx8 {X : zf_X} : zf_fx X 8 = none := by simp [zf_fx]
theorem zfx9 {X : zf_X} : zf_fx X 9 = none := by simp [zf_fx]
theorem zfx10 {X : zf_X} : zf_fx X 10 = none := by simp [zf_fx]
theorem zfx11 {X : zf_X} : zf_fx X 11 = none := by simp [zf_fx]
theorem zfx13 {X : zf_X} : zf_fx X 13 = none := by simp [zf_fx]
theorem zfx14 {X : zf_X} : zf_fx X 14 = none := by simp [zf_fx]
theorem zfx15 {X : zf_X} : zf_fx X 15 = none := by simp [zf_fx]
theorem zfx17 {X : zf_X} : zf_fx X 17 = none := by simp [zf_fx]
theorem zfx18 {X : zf_X} : zf_fx X 18 = none := by simp [zf_fx]
theorem zfx19 {X : zf_X} : zf_fx X 19 = none := by simp [zf_fx]
theorem zfx20 {X : zf_X} : zf_fx X 20 = none := by simp [zf_fx]
theorem zfx22 {X : zf_X} : zf_fx X 22 = none := by simp [zf_fx]
theorem zfx23 {X : zf_X} : zf_fx X 23 = none := by simp [zf_fx]
theorem zfx24 {X : zf_X} : zf_fx X 24 = none := by simp [zf_fx]
theorem zfx25 {X : zf_X} : zf_fx X 25 = none := by simp [zf_fx]
theorem zfx27 {X : zf_X} : zf_fx X 27 = none := by simp [zf_fx]
theorem zfx28 {X : zf_X} : zf_fx X 28 = none := by simp [zf_fx]
theorem zfx29 {X : zf_X} : zf_fx X 29 = none := by simp [zf_fx]
theorem zfx31 {X : zf_X} : zf_fx X 31 = none := by simp [zf_fx]
theorem zfx33 {X : zf_X} : zf_fx X 33 = none := by simp [zf_fx]
theorem zfx35 {X : zf_X} : zf_fx X 35 = none := by simp [zf_fx]
theorem zfx37 {X : zf_X} : zf_fx X 37 = none := by simp [zf_fx]
theorem zfx39 {X : zf_X} : zf_fx X 39 = none := by simp [zf_fx]
theorem zfx41 {X : zf_X} : zf_fx X 41 = none := by simp [zf_fx]
theorem zfx42 {X : zf_X} : zf_fx X 42 = none := by simp [zf_fx]
theorem zfx44 {X : zf_X} : zf_fx X 44 = none := by simp [zf_fx]
theorem zfx45 {X : zf_X} : zf_fx X 45 = none := by simp [zf_fx]
theorem zfx47 {X : zf_X} : zf_fx X 47 = none := by simp [zf_fx]
theorem zfx49 {X : zf_X} : zf_fx X 49 = none := by simp [zf_fx]
theorem zfx51 {X : zf_X} : zf_fx X 51 = none := by simp [zf_fx]
theorem zfx53 {X : zf_X} : zf_fx X 53 = none := by simp [zf_fx]
theorem zfx55 {X : zf_X} : zf_fx X 55 = none := by simp [zf_fx]
theorem zfx57 {X : zf_X} : zf_fx X 57 = none := by simp [zf_fx]
theorem zfx58 {X : zf_X} : zf_fx X 58 = none := by simp [zf_fx]
theorem zix {M : zf_M} {k a : Nat} {i : Int32} : zf_ix1 M k a i = vp_in i (zf_n M k a) := propext ⟨zf_iN_e, zf_iN_i⟩
theorem ziN {i : Int32} {n : Nat} : (zf_iN i n = true) = vp_in i n := propext ⟨zf_iN_e, zf_iN_i⟩
theorem zPk_of {M M2 : zf_M} (h : zPk M) (h1 : M2.1 = M.1) (h2 : ∀ a f, zf_P M2 a f = zf_P M a f) : zPk M2 := ⟨h1.trans h.1, fun e he => (h2 _ _).trans (h.2 e he)⟩
theorem zPk_sI {M : zf_M} {a j : Nat} {v : Int32} (h : zPk M) : zPk (zf_sI M a j v) := zPk_of h rfl (fun _ _ => rfl)
theorem zPk_sJ {M : zf_M} {a j : Nat} {v : Int64} (h : zPk M) : zPk (zf_sJ M a j v) := zPk_of h rfl (fun _ _ => rfl)
