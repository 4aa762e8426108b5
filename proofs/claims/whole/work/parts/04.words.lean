/-! ===== printed by wip/whole/gen_tabs.py out of the names: the words of the law, the methods, the links ===== -/
/-- the words of the tables that every method may take along -/
def zf_T : List Cond := lw_tbl.filter goodWord
theorem zf_ti {w : Cond} (h : w ∈ lw_tbl) (hg : goodWord w = true) : w ∈ zf_T := List.mem_filter.mpr ⟨h, hg⟩
theorem zf_it1 {w : Cond} (h : w ∈ tables_1_1) : w ∈ lw_tbl := List.mem_append_right _ (show w ∈ tables_1_1 ++ (tables_1_2 ++ (tables_1_3 ++ (tables_1_4 ++ tables_1_5))) from List.mem_append_left _ h)
theorem zf_it2 {w : Cond} (h : w ∈ tables_1_2) : w ∈ lw_tbl := List.mem_append_right _ (show w ∈ tables_1_1 ++ (tables_1_2 ++ (tables_1_3 ++ (tables_1_4 ++ tables_1_5))) from List.mem_append_right _ (List.mem_append_left _ h))
theorem zf_it3 {w : Cond} (h : w ∈ tables_1_3) : w ∈ lw_tbl := List.mem_append_right _ (show w ∈ tables_1_1 ++ (tables_1_2 ++ (tables_1_3 ++ (tables_1_4 ++ tables_1_5))) from List.mem_append_right _ (List.mem_append_right _ (List.mem_append_left _ h)))
theorem zf_it4 {w : Cond} (h : w ∈ tables_1_4) : w ∈ lw_tbl := List.mem_append_right _ (show w ∈ tables_1_1 ++ (tables_1_2 ++ (tables_1_3 ++ (tables_1_4 ++ tables_1_5))) from List.mem_append_right _ (List.mem_append_right _ (List.mem_append_right _ (List.mem_append_left _ h))))
theorem zf_it5 {w : Cond} (h : w ∈ tables_1_5) : w ∈ lw_tbl := List.mem_append_right _ (show w ∈ tables_1_1 ++ (tables_1_2 ++ (tables_1_3 ++ (tables_1_4 ++ tables_1_5))) from List.mem_append_right _ (List.mem_append_right _ (List.mem_append_right _ (List.mem_append_right _ (h)))))
theorem zf_wS {w : Cond} (h : w ∈ k2_sels lw_privs) : w ∈ lw_tbl := List.mem_append_left _ h
theorem zf_m0 : Cond.classLink RL 7 RX8 ∈ zf_T := zf_ti (zf_it1 (List.mem_of_getElem? (i := 14) rfl)) rfl
theorem zf_m1 : Cond.instantiable RX8 13 ∈ zf_T := zf_ti (zf_it1 (List.mem_of_getElem? (i := 15) rfl)) rfl
theorem zf_m2 : Cond.initialized RX8 ∈ zf_T := zf_ti (zf_it1 (List.mem_of_getElem? (i := 1) rfl)) rfl
theorem zf_m3 : Cond.classLink RL 10 RX9 ∈ zf_T := zf_ti (zf_it3 (List.mem_of_getElem? (i := 215) rfl)) rfl
theorem zf_m4 : Cond.instantiable RX9 41 ∈ zf_T := zf_ti (zf_it3 (List.mem_of_getElem? (i := 216) rfl)) rfl
theorem zf_m5 : Cond.initialized RX9 ∈ zf_T := zf_ti (zf_it1 (List.mem_of_getElem? (i := 10) rfl)) rfl
theorem zf_m6 : Cond.methodLink RL 9 yX8_init ∈ zf_T := zf_ti (zf_it1 (List.mem_of_getElem? (i := 16) rfl)) rfl
theorem zf_m7 : Cond.instanceMethod yX8_init ∈ zf_T := zf_ti (zf_it1 (List.mem_of_getElem? (i := 17) rfl)) rfl
theorem zf_m8 : Cond.code yX8_init cX8_init 2 none ∈ zf_T := zf_ti (zf_it1 (List.mem_of_getElem? (i := 18) rfl)) rfl
theorem zf_m9 : Cond.methodLink RX8 1 objectInit ∈ zf_T := zf_ti (zf_it1 (List.mem_of_getElem? (i := 19) rfl)) rfl
theorem zf_m10 : Cond.instanceMethod objectInit ∈ zf_T := zf_ti (zf_it1 (List.mem_of_getElem? (i := 20) rfl)) rfl
theorem zf_m11 : Cond.code objectInit ⟨#[0xb1]⟩ 1 none ∈ zf_T := zf_ti (zf_it1 (List.mem_of_getElem? (i := 21) rfl)) rfl
theorem zf_m12 : Cond.classLink RX8 7 RX5 ∈ zf_T := zf_ti (zf_it1 (List.mem_of_getElem? (i := 22) rfl)) rfl
theorem zf_m13 : Cond.instantiable RX5 2 ∈ zf_T := zf_ti (zf_it1 (List.mem_of_getElem? (i := 23) rfl)) rfl
theorem zf_m14 : Cond.initialized RX5 ∈ zf_T := zf_ti (zf_it1 (List.mem_of_getElem? (i := 2) rfl)) rfl
theorem zf_m15 : Cond.fieldLink RX8 10 "FairFight" "roster" "LFairFight$Roster;" ∈ zf_T := zf_ti (zf_it1 (List.mem_of_getElem? (i := 239) rfl)) rfl
theorem zf_m16 : Cond.classLink RX8 16 RX6 ∈ zf_T := zf_ti (zf_it1 (List.mem_of_getElem? (i := 37) rfl)) rfl
theorem zf_m17 : Cond.fieldLink RX8 18 "FairFight" "sides" "[LFairFight$Row;" ∈ zf_T := zf_ti (zf_it2 (List.mem_of_getElem? (i := 0) rfl)) rfl
theorem zf_m18 : Cond.classLink RX8 22 RX2 ∈ zf_T := zf_ti (zf_it1 (List.mem_of_getElem? (i := 39) rfl)) rfl
theorem zf_m19 : Cond.instantiable RX2 11 ∈ zf_T := zf_ti (zf_it1 (List.mem_of_getElem? (i := 40) rfl)) rfl
theorem zf_m20 : Cond.initialized RX2 ∈ zf_T := zf_ti (zf_it1 (List.mem_of_getElem? (i := 3) rfl)) rfl
theorem zf_m21 : Cond.fieldLink RX8 25 "FairFight" "fray" "LFairFight$Fray;" ∈ zf_T := zf_ti (zf_it2 (List.mem_of_getElem? (i := 1) rfl)) rfl
theorem zf_m22 : Cond.classLink RX8 29 RX4 ∈ zf_T := zf_ti (zf_it1 (List.mem_of_getElem? (i := 85) rfl)) rfl
theorem zf_m23 : Cond.instantiable RX4 8 ∈ zf_T := zf_ti (zf_it1 (List.mem_of_getElem? (i := 86) rfl)) rfl
theorem zf_m24 : Cond.initialized RX4 ∈ zf_T := zf_ti (zf_it1 (List.mem_of_getElem? (i := 4) rfl)) rfl
theorem zf_m25 : Cond.fieldLink RX8 32 "FairFight" "odds" "LFairFight$Odds;" ∈ zf_T := zf_ti (zf_it2 (List.mem_of_getElem? (i := 2) rfl)) rfl
theorem zf_m26 : Cond.classLink RX8 36 RX1 ∈ zf_T := zf_ti (zf_it1 (List.mem_of_getElem? (i := 146) rfl)) rfl
theorem zf_m27 : Cond.instantiable RX1 6 ∈ zf_T := zf_ti (zf_it1 (List.mem_of_getElem? (i := 147) rfl)) rfl
theorem zf_m28 : Cond.initialized RX1 ∈ zf_T := zf_ti (zf_it1 (List.mem_of_getElem? (i := 6) rfl)) rfl
theorem zf_m29 : Cond.fieldLink RX8 39 "FairFight" "today" "LFairFight$Day;" ∈ zf_T := zf_ti (zf_it2 (List.mem_of_getElem? (i := 3) rfl)) rfl
theorem zf_m30 : Cond.arrayClass .int ∈ zf_T := zf_ti (zf_it1 (List.mem_of_getElem? (i := 36) rfl)) rfl
theorem zf_m31 : Cond.fieldLink RX8 43 "FairFight" "bands" "[I" ∈ zf_T := zf_ti (zf_it2 (List.mem_of_getElem? (i := 4) rfl)) rfl
theorem zf_m32 : Cond.classLink RX8 47 RX0 ∈ zf_T := zf_ti (zf_it1 (List.mem_of_getElem? (i := 191) rfl)) rfl
theorem zf_m33 : Cond.instantiable RX0 4 ∈ zf_T := zf_ti (zf_it1 (List.mem_of_getElem? (i := 192) rfl)) rfl
theorem zf_m34 : Cond.initialized RX0 ∈ zf_T := zf_ti (zf_it1 (List.mem_of_getElem? (i := 8) rfl)) rfl
theorem zf_m35 : Cond.fieldLink RX8 50 "FairFight" "bout" "LFairFight$Bout;" ∈ zf_T := zf_ti (zf_it2 (List.mem_of_getElem? (i := 5) rfl)) rfl
theorem zf_m36 : Cond.classLink RX8 54 RX7 ∈ zf_T := zf_ti (zf_it1 (List.mem_of_getElem? (i := 214) rfl)) rfl
theorem zf_m37 : Cond.fieldLink RX8 56 "FairFight" "sheets" "[LFairFight$Sheet;" ∈ zf_T := zf_ti (zf_it2 (List.mem_of_getElem? (i := 6) rfl)) rfl
theorem zf_m38 : Cond.fieldLink RX8 60 "FairFight" "rounds" "I" ∈ zf_T := zf_ti (zf_it2 (List.mem_of_getElem? (i := 7) rfl)) rfl
theorem zf_m39 : Cond.fieldLink RX8 64 "FairFight" "aim" "I" ∈ zf_T := zf_ti (zf_it2 (List.mem_of_getElem? (i := 8) rfl)) rfl
theorem zf_m40 : Cond.fieldLink RX8 67 "FairFight" "surprise" "I" ∈ zf_T := zf_ti (zf_it2 (List.mem_of_getElem? (i := 9) rfl)) rfl
theorem zf_m41 : Cond.fieldLink RX8 70 "FairFight" "bandCount" "I" ∈ zf_T := zf_ti (zf_it2 (List.mem_of_getElem? (i := 10) rfl)) rfl
theorem zf_m42 : Cond.fieldLink RX8 73 "FairFight" "finding" "I" ∈ zf_T := zf_ti (zf_it2 (List.mem_of_getElem? (i := 11) rfl)) rfl
theorem zf_m43 : Cond.instantiable RX6 2 ∈ zf_T := zf_ti (zf_it1 (List.mem_of_getElem? (i := 153) rfl)) rfl
theorem zf_m44 : Cond.initialized RX6 ∈ zf_T := zf_ti (zf_it1 (List.mem_of_getElem? (i := 7) rfl)) rfl
theorem zf_m45 : Cond.instantiable RX7 4 ∈ zf_T := zf_ti (zf_it1 (List.mem_of_getElem? (i := 217) rfl)) rfl
theorem zf_m46 : Cond.initialized RX7 ∈ zf_T := zf_ti (zf_it1 (List.mem_of_getElem? (i := 9) rfl)) rfl
theorem zf_m47 : Cond.instanceMethod yX5_init ∈ zf_T := zf_ti (zf_it1 (List.mem_of_getElem? (i := 25) rfl)) rfl
theorem zf_m48 : Cond.code yX5_init cX5_init 1 none ∈ zf_T := zf_ti (zf_it1 (List.mem_of_getElem? (i := 26) rfl)) rfl
theorem zf_m49 : Cond.methodLink RX5 3 objectInit ∈ zf_T := zf_ti (zf_it1 (List.mem_of_getElem? (i := 27) rfl)) rfl
theorem zf_m50 : Cond.fieldLink RX5 11 "FairFight$Roster" "numbers" "[I" ∈ zf_T := zf_ti (zf_it1 (List.mem_of_getElem? (i := 28) rfl)) rfl
theorem zf_m51 : Cond.fieldLink RX5 15 "FairFight$Roster" "size" "I" ∈ zf_T := zf_ti (zf_it1 (List.mem_of_getElem? (i := 29) rfl)) rfl
theorem zf_m52 : Cond.instanceMethod yX2_init ∈ zf_T := zf_ti (zf_it1 (List.mem_of_getElem? (i := 42) rfl)) rfl
theorem zf_m53 : Cond.code yX2_init cX2_init 1 none ∈ zf_T := zf_ti (zf_it1 (List.mem_of_getElem? (i := 43) rfl)) rfl
theorem zf_m54 : Cond.methodLink RX2 3 objectInit ∈ zf_T := zf_ti (zf_it1 (List.mem_of_getElem? (i := 44) rfl)) rfl
theorem zf_m55 : Cond.fieldLink RX2 9 "FairFight$Fray" "kind" "[I" ∈ zf_T := zf_ti (zf_it1 (List.mem_of_getElem? (i := 45) rfl)) rfl
theorem zf_m56 : Cond.fieldLink RX2 15 "FairFight$Fray" "life" "[I" ∈ zf_T := zf_ti (zf_it1 (List.mem_of_getElem? (i := 46) rfl)) rfl
theorem zf_m57 : Cond.fieldLink RX2 18 "FairFight$Fray" "hit" "[I" ∈ zf_T := zf_ti (zf_it1 (List.mem_of_getElem? (i := 47) rfl)) rfl
theorem zf_m58 : Cond.fieldLink RX2 21 "FairFight$Fray" "force" "[I" ∈ zf_T := zf_ti (zf_it1 (List.mem_of_getElem? (i := 48) rfl)) rfl
theorem zf_m59 : Cond.fieldLink RX2 24 "FairFight$Fray" "flee" "[I" ∈ zf_T := zf_ti (zf_it1 (List.mem_of_getElem? (i := 49) rfl)) rfl
theorem zf_m60 : Cond.fieldLink RX2 27 "FairFight$Fray" "speed" "[I" ∈ zf_T := zf_ti (zf_it1 (List.mem_of_getElem? (i := 50) rfl)) rfl
theorem zf_m61 : Cond.fieldLink RX2 30 "FairFight$Fray" "order" "[I" ∈ zf_T := zf_ti (zf_it1 (List.mem_of_getElem? (i := 51) rfl)) rfl
theorem zf_m62 : Cond.fieldLink RX2 33 "FairFight$Fray" "size" "I" ∈ zf_T := zf_ti (zf_it1 (List.mem_of_getElem? (i := 54) rfl)) rfl
theorem zf_m63 : Cond.fieldLink RX2 37 "FairFight$Fray" "rounds" "I" ∈ zf_T := zf_ti (zf_it1 (List.mem_of_getElem? (i := 57) rfl)) rfl
theorem zf_m64 : Cond.fieldLink RX2 40 "FairFight$Fray" "aim" "I" ∈ zf_T := zf_ti (zf_it1 (List.mem_of_getElem? (i := 60) rfl)) rfl
theorem zf_m65 : Cond.fieldLink RX2 43 "FairFight$Fray" "surprise" "I" ∈ zf_T := zf_ti (zf_it1 (List.mem_of_getElem? (i := 61) rfl)) rfl
theorem zf_m66 : Cond.instanceMethod yX4_init ∈ zf_T := zf_ti (zf_it1 (List.mem_of_getElem? (i := 88) rfl)) rfl
theorem zf_m67 : Cond.code yX4_init cX4_init 1 none ∈ zf_T := zf_ti (zf_it1 (List.mem_of_getElem? (i := 89) rfl)) rfl
theorem zf_m68 : Cond.methodLink RX4 3 objectInit ∈ zf_T := zf_ti (zf_it1 (List.mem_of_getElem? (i := 90) rfl)) rfl
theorem zf_m69 : Cond.fieldLink RX4 9 "FairFight$Odds" "total" "J" ∈ zf_T := zf_ti (zf_it1 (List.mem_of_getElem? (i := 117) rfl)) rfl
theorem zf_m70 : Cond.fieldLink RX4 15 "FairFight$Odds" "widest" "I" ∈ zf_T := zf_ti (zf_it1 (List.mem_of_getElem? (i := 119) rfl)) rfl
theorem zf_m71 : Cond.arrayClass .long ∈ zf_T := zf_ti (zf_it1 (List.mem_of_getElem? (i := 116) rfl)) rfl
theorem zf_m72 : Cond.fieldLink RX4 19 "FairFight$Odds" "byEnd" "[J" ∈ zf_T := zf_ti (zf_it1 (List.mem_of_getElem? (i := 121) rfl)) rfl
theorem zf_m73 : Cond.fieldLink RX4 23 "FairFight$Odds" "byRound" "[J" ∈ zf_T := zf_ti (zf_it1 (List.mem_of_getElem? (i := 123) rfl)) rfl
theorem zf_m74 : Cond.fieldLink RX4 26 "FairFight$Odds" "byPart" "[J" ∈ zf_T := zf_ti (zf_it1 (List.mem_of_getElem? (i := 125) rfl)) rfl
theorem zf_m75 : Cond.classLink RX4 29 RX3 ∈ zf_T := zf_ti (zf_it1 (List.mem_of_getElem? (i := 91) rfl)) rfl
theorem zf_m76 : Cond.instantiable RX3 5 ∈ zf_T := zf_ti (zf_it1 (List.mem_of_getElem? (i := 92) rfl)) rfl
theorem zf_m77 : Cond.initialized RX3 ∈ zf_T := zf_ti (zf_it1 (List.mem_of_getElem? (i := 5) rfl)) rfl
theorem zf_m78 : Cond.fieldLink RX4 32 "FairFight$Odds" "now" "LFairFight$Layer;" ∈ zf_T := zf_ti (zf_it1 (List.mem_of_getElem? (i := 126) rfl)) rfl
theorem zf_m79 : Cond.fieldLink RX4 36 "FairFight$Odds" "next" "LFairFight$Layer;" ∈ zf_T := zf_ti (zf_it1 (List.mem_of_getElem? (i := 127) rfl)) rfl
theorem zf_m80 : Cond.fieldLink RX4 39 "FairFight$Odds" "behind" "J" ∈ zf_T := zf_ti (zf_it1 (List.mem_of_getElem? (i := 128) rfl)) rfl
theorem zf_m81 : Cond.instanceMethod yX3_init ∈ zf_T := zf_ti (zf_it1 (List.mem_of_getElem? (i := 94) rfl)) rfl
theorem zf_m82 : Cond.code yX3_init cX3_init 1 none ∈ zf_T := zf_ti (zf_it1 (List.mem_of_getElem? (i := 95) rfl)) rfl
theorem zf_m83 : Cond.methodLink RX3 3 objectInit ∈ zf_T := zf_ti (zf_it1 (List.mem_of_getElem? (i := 96) rfl)) rfl
theorem zf_m84 : Cond.fieldLink RX3 9 "FairFight$Layer" "states" "[J" ∈ zf_T := zf_ti (zf_it1 (List.mem_of_getElem? (i := 97) rfl)) rfl
theorem zf_m85 : Cond.fieldLink RX3 15 "FairFight$Layer" "ways" "[J" ∈ zf_T := zf_ti (zf_it1 (List.mem_of_getElem? (i := 99) rfl)) rfl
theorem zf_m86 : Cond.fieldLink RX3 18 "FairFight$Layer" "size" "I" ∈ zf_T := zf_ti (zf_it1 (List.mem_of_getElem? (i := 101) rfl)) rfl
theorem zf_m87 : Cond.fieldLink RX3 22 "FairFight$Layer" "spots" "[I" ∈ zf_T := zf_ti (zf_it1 (List.mem_of_getElem? (i := 103) rfl)) rfl
theorem zf_m88 : Cond.fieldLink RX3 26 "FairFight$Layer" "table" "[I" ∈ zf_T := zf_ti (zf_it1 (List.mem_of_getElem? (i := 104) rfl)) rfl
theorem zf_m89 : Cond.methodLink RX8 38 yX1_init ∈ zf_T := zf_ti (zf_it1 (List.mem_of_getElem? (i := 148) rfl)) rfl
theorem zf_m90 : Cond.instanceMethod yX1_init ∈ zf_T := zf_ti (zf_it1 (List.mem_of_getElem? (i := 149) rfl)) rfl
theorem zf_m91 : Cond.code yX1_init cX1_init 2 none ∈ zf_T := zf_ti (zf_it1 (List.mem_of_getElem? (i := 150) rfl)) rfl
theorem zf_m92 : Cond.methodLink RX1 3 objectInit ∈ zf_T := zf_ti (zf_it1 (List.mem_of_getElem? (i := 151) rfl)) rfl
theorem zf_m93 : Cond.classLink RX1 9 RX6 ∈ zf_T := zf_ti (zf_it1 (List.mem_of_getElem? (i := 152) rfl)) rfl
theorem zf_m94 : Cond.fieldLink RX1 11 "FairFight$Day" "foes" "[LFairFight$Row;" ∈ zf_T := zf_ti (zf_it1 (List.mem_of_getElem? (i := 166) rfl)) rfl
theorem zf_m95 : Cond.fieldLink RX1 17 "FairFight$Day" "plain" "[I" ∈ zf_T := zf_ti (zf_it1 (List.mem_of_getElem? (i := 168) rfl)) rfl
theorem zf_m96 : Cond.fieldLink RX1 21 "FairFight$Day" "aided" "[I" ∈ zf_T := zf_ti (zf_it1 (List.mem_of_getElem? (i := 170) rfl)) rfl
theorem zf_m97 : Cond.fieldLink RX1 24 "FairFight$Day" "size" "I" ∈ zf_T := zf_ti (zf_it1 (List.mem_of_getElem? (i := 172) rfl)) rfl
theorem zf_m98 : Cond.fieldLink RX1 28 "FairFight$Day" "purse" "I" ∈ zf_T := zf_ti (zf_it1 (List.mem_of_getElem? (i := 174) rfl)) rfl
theorem zf_m99 : Cond.fieldLink RX1 31 "FairFight$Day" "bonus" "I" ∈ zf_T := zf_ti (zf_it1 (List.mem_of_getElem? (i := 176) rfl)) rfl
theorem zf_m100 : Cond.instanceMethod yX6_init ∈ zf_T := zf_ti (zf_it1 (List.mem_of_getElem? (i := 155) rfl)) rfl
theorem zf_m101 : Cond.code yX6_init cX6_init 1 none ∈ zf_T := zf_ti (zf_it1 (List.mem_of_getElem? (i := 156) rfl)) rfl
theorem zf_m102 : Cond.methodLink RX6 3 objectInit ∈ zf_T := zf_ti (zf_it1 (List.mem_of_getElem? (i := 157) rfl)) rfl
theorem zf_m103 : Cond.fieldLink RX6 9 "FairFight$Row" "fighters" "[I" ∈ zf_T := zf_ti (zf_it1 (List.mem_of_getElem? (i := 158) rfl)) rfl
theorem zf_m104 : Cond.fieldLink RX6 15 "FairFight$Row" "size" "I" ∈ zf_T := zf_ti (zf_it1 (List.mem_of_getElem? (i := 159) rfl)) rfl
theorem zf_m105 : Cond.instanceMethod yX0_init ∈ zf_T := zf_ti (zf_it1 (List.mem_of_getElem? (i := 194) rfl)) rfl
theorem zf_m106 : Cond.code yX0_init cX0_init 1 none ∈ zf_T := zf_ti (zf_it1 (List.mem_of_getElem? (i := 195) rfl)) rfl
theorem zf_m107 : Cond.methodLink RX0 3 objectInit ∈ zf_T := zf_ti (zf_it1 (List.mem_of_getElem? (i := 196) rfl)) rfl
theorem zf_m108 : Cond.fieldLink RX0 9 "FairFight$Bout" "end" "I" ∈ zf_T := zf_ti (zf_it1 (List.mem_of_getElem? (i := 197) rfl)) rfl
theorem zf_m109 : Cond.fieldLink RX0 15 "FairFight$Bout" "rolls" "I" ∈ zf_T := zf_ti (zf_it1 (List.mem_of_getElem? (i := 199) rfl)) rfl
theorem zf_m110 : Cond.fieldLink RX0 18 "FairFight$Bout" "round" "I" ∈ zf_T := zf_ti (zf_it1 (List.mem_of_getElem? (i := 201) rfl)) rfl
theorem zf_m111 : Cond.fieldLink RX0 21 "FairFight$Bout" "lives" "[I" ∈ zf_T := zf_ti (zf_it1 (List.mem_of_getElem? (i := 203) rfl)) rfl
theorem zf_m112 : Cond.instanceMethod yX7_init ∈ zf_T := zf_ti (zf_it1 (List.mem_of_getElem? (i := 219) rfl)) rfl
theorem zf_m113 : Cond.code yX7_init cX7_init 1 none ∈ zf_T := zf_ti (zf_it1 (List.mem_of_getElem? (i := 220) rfl)) rfl
theorem zf_m114 : Cond.methodLink RX7 3 objectInit ∈ zf_T := zf_ti (zf_it1 (List.mem_of_getElem? (i := 221) rfl)) rfl
theorem zf_m115 : Cond.fieldLink RX7 9 "FairFight$Sheet" "items" "[I" ∈ zf_T := zf_ti (zf_it1 (List.mem_of_getElem? (i := 222) rfl)) rfl
theorem zf_m116 : Cond.fieldLink RX7 15 "FairFight$Sheet" "form" "I" ∈ zf_T := zf_ti (zf_it1 (List.mem_of_getElem? (i := 224) rfl)) rfl
theorem zf_m117 : Cond.fieldLink RX7 19 "FairFight$Sheet" "size" "I" ∈ zf_T := zf_ti (zf_it1 (List.mem_of_getElem? (i := 226) rfl)) rfl
theorem zf_m118 : Cond.fieldLink RX7 22 "FairFight$Sheet" "lost" "Z" ∈ zf_T := zf_ti (zf_it1 (List.mem_of_getElem? (i := 228) rfl)) rfl
theorem zf_m119 : Cond.methodLink RL 12 yX9_init ∈ zf_T := zf_ti (zf_it3 (List.mem_of_getElem? (i := 217) rfl)) rfl
theorem zf_m120 : Cond.instanceMethod yX9_init ∈ zf_T := zf_ti (zf_it3 (List.mem_of_getElem? (i := 218) rfl)) rfl
theorem zf_m121 : Cond.code yX9_init cX9_init 2 none ∈ zf_T := zf_ti (zf_it3 (List.mem_of_getElem? (i := 219) rfl)) rfl
theorem zf_m122 : Cond.methodLink RX9 1 objectInit ∈ zf_T := zf_ti (zf_it3 (List.mem_of_getElem? (i := 220) rfl)) rfl
theorem zf_m123 : Cond.fieldLink RX9 7 "FairFightModel" "number" "[I" ∈ zf_T := zf_ti (zf_it3 (List.mem_of_getElem? (i := 222) rfl)) rfl
theorem zf_m124 : Cond.fieldLink RX9 13 "FairFightModel" "side" "[I" ∈ zf_T := zf_ti (zf_it3 (List.mem_of_getElem? (i := 223) rfl)) rfl
theorem zf_m125 : Cond.fieldLink RX9 16 "FairFightModel" "rounds" "I" ∈ zf_T := zf_ti (zf_it3 (List.mem_of_getElem? (i := 224) rfl)) rfl
theorem zf_m126 : Cond.fieldLink RX9 20 "FairFightModel" "surprise" "I" ∈ zf_T := zf_ti (zf_it3 (List.mem_of_getElem? (i := 226) rfl)) rfl
theorem zf_m127 : Cond.fieldLink RX9 23 "FairFightModel" "who" "[I" ∈ zf_T := zf_ti (zf_it3 (List.mem_of_getElem? (i := 227) rfl)) rfl
theorem zf_m128 : Cond.fieldLink RX9 26 "FairFightModel" "force" "[I" ∈ zf_T := zf_ti (zf_it3 (List.mem_of_getElem? (i := 228) rfl)) rfl
theorem zf_m129 : Cond.fieldLink RX9 29 "FairFightModel" "order" "[I" ∈ zf_T := zf_ti (zf_it3 (List.mem_of_getElem? (i := 231) rfl)) rfl
theorem zf_m130 : Cond.fieldLink RX9 32 "FairFightModel" "life" "[I" ∈ zf_T := zf_ti (zf_it3 (List.mem_of_getElem? (i := 232) rfl)) rfl
theorem zf_m131 : Cond.arrayClass .boolean ∈ zf_T := zf_ti (zf_it4 (List.mem_of_getElem? (i := 105) rfl)) rfl
theorem zf_m132 : Cond.fieldLink RX9 35 "FairFightModel" "up" "[Z" ∈ zf_T := zf_ti (zf_it3 (List.mem_of_getElem? (i := 233) rfl)) rfl
theorem zf_m133 : Cond.fieldLink RX9 39 "FairFightModel" "states" "[J" ∈ zf_T := zf_ti (zf_it3 (List.mem_of_getElem? (i := 235) rfl)) rfl
theorem zf_m134 : Cond.fieldLink RX9 43 "FairFightModel" "ways" "[J" ∈ zf_T := zf_ti (zf_it3 (List.mem_of_getElem? (i := 236) rfl)) rfl
theorem zf_m135 : Cond.fieldLink RX9 46 "FairFightModel" "nextStates" "[J" ∈ zf_T := zf_ti (zf_it3 (List.mem_of_getElem? (i := 238) rfl)) rfl
theorem zf_m136 : Cond.fieldLink RX9 49 "FairFightModel" "nextWays" "[J" ∈ zf_T := zf_ti (zf_it3 (List.mem_of_getElem? (i := 239) rfl)) rfl
theorem zf_m137 : Cond.fieldLink RX9 52 "FairFightModel" "table" "[I" ∈ zf_T := zf_ti (zf_it4 (List.mem_of_getElem? (i := 0) rfl)) rfl
theorem zf_m138 : Cond.fieldLink RX9 55 "FairFightModel" "ended" "[J" ∈ zf_T := zf_ti (zf_it4 (List.mem_of_getElem? (i := 1) rfl)) rfl
theorem zf_m139 : Cond.fieldLink RX9 58 "FairFightModel" "endedIn" "[J" ∈ zf_T := zf_ti (zf_it4 (List.mem_of_getElem? (i := 2) rfl)) rfl
theorem zf_m140 : Cond.fieldLink RX9 61 "FairFightModel" "lefts" "[J" ∈ zf_T := zf_ti (zf_it4 (List.mem_of_getElem? (i := 3) rfl)) rfl
theorem zf_m141 : Cond.fieldLink RX9 64 "FairFightModel" "powers" "[J" ∈ zf_T := zf_ti (zf_it4 (List.mem_of_getElem? (i := 5) rfl)) rfl
theorem zf_m142 : Cond.fieldLink RX9 67 "FairFightModel" "foes" "[I" ∈ zf_T := zf_ti (zf_it4 (List.mem_of_getElem? (i := 7) rfl)) rfl
theorem zf_m143 : Cond.fieldLink RX9 70 "FairFightModel" "purse" "I" ∈ zf_T := zf_ti (zf_it4 (List.mem_of_getElem? (i := 8) rfl)) rfl
theorem zf_m144 : Cond.fieldLink RX9 73 "FairFightModel" "bonus" "I" ∈ zf_T := zf_ti (zf_it4 (List.mem_of_getElem? (i := 9) rfl)) rfl
theorem zf_m145 : Cond.fieldLink RX9 76 "FairFightModel" "chances" "[I" ∈ zf_T := zf_ti (zf_it4 (List.mem_of_getElem? (i := 10) rfl)) rfl
theorem zf_m146 : Cond.fieldLink RX9 79 "FairFightModel" "band" "[I" ∈ zf_T := zf_ti (zf_it4 (List.mem_of_getElem? (i := 13) rfl)) rfl
theorem zf_m147 : Cond.fieldLink RX9 82 "FairFightModel" "played" "[I" ∈ zf_T := zf_ti (zf_it4 (List.mem_of_getElem? (i := 14) rfl)) rfl
theorem zf_m148 : Cond.fieldLink RX9 85 "FairFightModel" "playedWho" "[I" ∈ zf_T := zf_ti (zf_it4 (List.mem_of_getElem? (i := 15) rfl)) rfl
theorem zf_m149 : Cond.fieldLink RX9 88 "FairFightModel" "playedLife" "[I" ∈ zf_T := zf_ti (zf_it4 (List.mem_of_getElem? (i := 16) rfl)) rfl
theorem zf_m150 : Cond.fieldLink RX9 91 "FairFightModel" "forms" "[I" ∈ zf_T := zf_ti (zf_it4 (List.mem_of_getElem? (i := 17) rfl)) rfl
theorem zf_m151 : Cond.fieldLink RX9 94 "FairFightModel" "sizes" "[I" ∈ zf_T := zf_ti (zf_it4 (List.mem_of_getElem? (i := 18) rfl)) rfl
theorem zf_m152 : Cond.fieldLink RX9 97 "FairFightModel" "items" "[I" ∈ zf_T := zf_ti (zf_it4 (List.mem_of_getElem? (i := 19) rfl)) rfl
theorem zf_m153 : Cond.fieldLink RX9 100 "FairFightModel" "moved" "[I" ∈ zf_T := zf_ti (zf_it4 (List.mem_of_getElem? (i := 20) rfl)) rfl
theorem zf_m154 : Cond.methodLink RL 13 yX8_fighter ∈ zf_T := zf_ti (zf_it2 (List.mem_of_getElem? (i := 39) rfl)) rfl
theorem zf_m155 : Cond.instanceMethod yX8_fighter ∈ zf_T := zf_ti (zf_it2 (List.mem_of_getElem? (i := 40) rfl)) rfl
theorem zf_m156 : Cond.selects RX8 yX8_fighter yX8_fighter ∈ zf_T := zf_ti (zf_it2 (List.mem_of_getElem? (i := 41) rfl)) rfl
theorem zf_m157 : Cond.code yX8_fighter cX8_fighter 9 (some .int) ∈ zf_T := zf_ti (zf_it2 (List.mem_of_getElem? (i := 42) rfl)) rfl
theorem zf_m158 : Cond.fieldLink RX8 82 "FairFight$Roster" "size" "I" ∈ zf_T := zf_ti (zf_it1 (List.mem_of_getElem? (i := 30) rfl)) rfl
theorem zf_m159 : Cond.methodLink RX8 78 yX5_fits ∈ zf_T := zf_ti (zf_it2 (List.mem_of_getElem? (i := 43) rfl)) rfl
theorem zf_m160 : Cond.static yX5_fits ∈ zf_T := zf_ti (zf_it2 (List.mem_of_getElem? (i := 44) rfl)) rfl
theorem zf_m161 : Cond.code yX5_fits cX5_fits 2 (some .boolean) ∈ zf_T := zf_ti (zf_it2 (List.mem_of_getElem? (i := 45) rfl)) rfl
theorem zf_m162 : Cond.fieldLink RX5 19 "FairFight$Roster" "LOWEST" "[I" ∈ zf_T := zf_ti (zf_it2 (List.mem_of_getElem? (i := 46) rfl)) rfl
theorem zf_m163 : Cond.fieldLink RX5 22 "FairFight$Roster" "HIGHEST" "[I" ∈ zf_T := zf_ti (zf_it2 (List.mem_of_getElem? (i := 48) rfl)) rfl
theorem zf_m164 : Cond.methodLink RX8 85 yX5_change ∈ zf_T := zf_ti (zf_it2 (List.mem_of_getElem? (i := 50) rfl)) rfl
theorem zf_m165 : Cond.instanceMethod yX5_change ∈ zf_T := zf_ti (zf_it2 (List.mem_of_getElem? (i := 51) rfl)) rfl
theorem zf_m166 : Cond.selects RX5 yX5_change yX5_change ∈ zf_T := zf_ti (zf_it2 (List.mem_of_getElem? (i := 52) rfl)) rfl
theorem zf_m167 : Cond.code yX5_change cX5_change 4 none ∈ zf_T := zf_ti (zf_it2 (List.mem_of_getElem? (i := 53) rfl)) rfl
theorem zf_m168 : Cond.methodLink RX5 25 yX5_has ∈ zf_T := zf_ti (zf_it2 (List.mem_of_getElem? (i := 54) rfl)) rfl
theorem zf_m169 : Cond.instanceMethod yX5_has ∈ zf_T := zf_ti (zf_it2 (List.mem_of_getElem? (i := 55) rfl)) rfl
theorem zf_m170 : Cond.selects RX5 yX5_has yX5_has ∈ zf_T := zf_ti (zf_it2 (List.mem_of_getElem? (i := 56) rfl)) rfl
theorem zf_m171 : Cond.code yX5_has cX5_has 2 (some .boolean) ∈ zf_T := zf_ti (zf_it2 (List.mem_of_getElem? (i := 57) rfl)) rfl
theorem zf_m172 : Cond.methodLink RL 17 yX9_fighter ∈ zf_T := zf_ti (zf_it4 (List.mem_of_getElem? (i := 106) rfl)) rfl
theorem zf_m173 : Cond.instanceMethod yX9_fighter ∈ zf_T := zf_ti (zf_it4 (List.mem_of_getElem? (i := 107) rfl)) rfl
theorem zf_m174 : Cond.selects RX9 yX9_fighter yX9_fighter ∈ zf_T := zf_ti (zf_it4 (List.mem_of_getElem? (i := 108) rfl)) rfl
theorem zf_m175 : Cond.code yX9_fighter cX9_fighter 8 (some .int) ∈ zf_T := zf_ti (zf_it4 (List.mem_of_getElem? (i := 109) rfl)) rfl
theorem zf_m176 : Cond.fieldLink RX9 119 "FairFightModel" "fighters" "I" ∈ zf_T := zf_ti (zf_it3 (List.mem_of_getElem? (i := 221) rfl)) rfl
theorem zf_m177 : Cond.methodLink RX9 122 yX9_isNumber ∈ zf_T := zf_ti (zf_it4 (List.mem_of_getElem? (i := 110) rfl)) rfl
theorem zf_m178 : Cond.static yX9_isNumber ∈ zf_T := zf_ti (zf_it4 (List.mem_of_getElem? (i := 111) rfl)) rfl
theorem zf_m179 : Cond.code yX9_isNumber cX9_isNumber 2 (some .boolean) ∈ zf_T := zf_ti (zf_it4 (List.mem_of_getElem? (i := 112) rfl)) rfl
theorem zf_m180 : Cond.constantLong RX9 105 (2) ∈ zf_T := zf_ti (zf_it4 (List.mem_of_getElem? (i := 113) rfl)) rfl
theorem zf_m181 : Cond.constantLong RX9 111 (20) ∈ zf_T := zf_ti (zf_it4 (List.mem_of_getElem? (i := 117) rfl)) rfl
theorem zf_m182 : Cond.constantLong RX9 113 (6) ∈ zf_T := zf_ti (zf_it4 (List.mem_of_getElem? (i := 118) rfl)) rfl
theorem zf_m183 : Cond.constantLong RX9 115 (9) ∈ zf_T := zf_ti (zf_it4 (List.mem_of_getElem? (i := 119) rfl)) rfl
theorem zf_m184 : Cond.constantLong RX9 117 (19) ∈ zf_T := zf_ti (zf_it4 (List.mem_of_getElem? (i := 120) rfl)) rfl
theorem zf_m185 : Cond.methodLink RX9 107 yX9_in ∈ zf_T := zf_ti (zf_it4 (List.mem_of_getElem? (i := 114) rfl)) rfl
theorem zf_m186 : Cond.static yX9_in ∈ zf_T := zf_ti (zf_it4 (List.mem_of_getElem? (i := 115) rfl)) rfl
theorem zf_m187 : Cond.code yX9_in cX9_in 6 (some .boolean) ∈ zf_T := zf_ti (zf_it4 (List.mem_of_getElem? (i := 116) rfl)) rfl
theorem zf_m188 : Cond.methodLink RL 18 yX8_about ∈ zf_T := zf_ti (zf_it2 (List.mem_of_getElem? (i := 58) rfl)) rfl
theorem zf_m189 : Cond.instanceMethod yX8_about ∈ zf_T := zf_ti (zf_it2 (List.mem_of_getElem? (i := 59) rfl)) rfl
theorem zf_m190 : Cond.selects RX8 yX8_about yX8_about ∈ zf_T := zf_ti (zf_it2 (List.mem_of_getElem? (i := 60) rfl)) rfl
theorem zf_m191 : Cond.code yX8_about cX8_about 3 (some .int) ∈ zf_T := zf_ti (zf_it2 (List.mem_of_getElem? (i := 61) rfl)) rfl
theorem zf_m192 : Cond.methodLink RX8 89 yX5_has ∈ zf_T := zf_ti (zf_it2 (List.mem_of_getElem? (i := 62) rfl)) rfl
theorem zf_m193 : Cond.methodLink RX8 93 yX5_number ∈ zf_T := zf_ti (zf_it2 (List.mem_of_getElem? (i := 63) rfl)) rfl
theorem zf_m194 : Cond.instanceMethod yX5_number ∈ zf_T := zf_ti (zf_it2 (List.mem_of_getElem? (i := 64) rfl)) rfl
theorem zf_m195 : Cond.selects RX5 yX5_number yX5_number ∈ zf_T := zf_ti (zf_it2 (List.mem_of_getElem? (i := 65) rfl)) rfl
theorem zf_m196 : Cond.code yX5_number cX5_number 3 (some .int) ∈ zf_T := zf_ti (zf_it2 (List.mem_of_getElem? (i := 66) rfl)) rfl
theorem zf_m197 : Cond.methodLink RL 22 yX9_about ∈ zf_T := zf_ti (zf_it4 (List.mem_of_getElem? (i := 121) rfl)) rfl
theorem zf_m198 : Cond.instanceMethod yX9_about ∈ zf_T := zf_ti (zf_it4 (List.mem_of_getElem? (i := 122) rfl)) rfl
theorem zf_m199 : Cond.selects RX9 yX9_about yX9_about ∈ zf_T := zf_ti (zf_it4 (List.mem_of_getElem? (i := 123) rfl)) rfl
theorem zf_m200 : Cond.code yX9_about cX9_about 3 (some .int) ∈ zf_T := zf_ti (zf_it4 (List.mem_of_getElem? (i := 124) rfl)) rfl
theorem zf_m201 : Cond.constantLong RX9 130 (5) ∈ zf_T := zf_ti (zf_it4 (List.mem_of_getElem? (i := 129) rfl)) rfl
theorem zf_m202 : Cond.methodLink RX9 126 yX9_isFighter ∈ zf_T := zf_ti (zf_it4 (List.mem_of_getElem? (i := 125) rfl)) rfl
theorem zf_m203 : Cond.instanceMethod yX9_isFighter ∈ zf_T := zf_ti (zf_it4 (List.mem_of_getElem? (i := 127) rfl)) rfl
theorem zf_m204 : Cond.selects RX9 yX9_isFighter yX9_isFighter ∈ zf_T := zf_ti (zf_wS (List.mem_of_getElem? (i := 19) rfl)) rfl
theorem zf_m205 : Cond.code yX9_isFighter cX9_isFighter 2 (some .boolean) ∈ zf_T := zf_ti (zf_it4 (List.mem_of_getElem? (i := 128) rfl)) rfl
theorem zf_m206 : Cond.methodLink RL 23 yX8_tune ∈ zf_T := zf_ti (zf_it2 (List.mem_of_getElem? (i := 67) rfl)) rfl
theorem zf_m207 : Cond.instanceMethod yX8_tune ∈ zf_T := zf_ti (zf_it2 (List.mem_of_getElem? (i := 68) rfl)) rfl
theorem zf_m208 : Cond.selects RX8 yX8_tune yX8_tune ∈ zf_T := zf_ti (zf_it2 (List.mem_of_getElem? (i := 69) rfl)) rfl
theorem zf_m209 : Cond.code yX8_tune cX8_tune 5 (some .int) ∈ zf_T := zf_ti (zf_it2 (List.mem_of_getElem? (i := 70) rfl)) rfl
theorem zf_m210 : Cond.methodLink RL 27 yX9_tune ∈ zf_T := zf_ti (zf_it4 (List.mem_of_getElem? (i := 130) rfl)) rfl
theorem zf_m211 : Cond.instanceMethod yX9_tune ∈ zf_T := zf_ti (zf_it4 (List.mem_of_getElem? (i := 131) rfl)) rfl
theorem zf_m212 : Cond.selects RX9 yX9_tune yX9_tune ∈ zf_T := zf_ti (zf_it4 (List.mem_of_getElem? (i := 132) rfl)) rfl
theorem zf_m213 : Cond.code yX9_tune cX9_tune 5 (some .int) ∈ zf_T := zf_ti (zf_it4 (List.mem_of_getElem? (i := 133) rfl)) rfl
theorem zf_m214 : Cond.methodLink RL 28 yX8_side ∈ zf_T := zf_ti (zf_it2 (List.mem_of_getElem? (i := 71) rfl)) rfl
theorem zf_m215 : Cond.instanceMethod yX8_side ∈ zf_T := zf_ti (zf_it2 (List.mem_of_getElem? (i := 72) rfl)) rfl
theorem zf_m216 : Cond.selects RX8 yX8_side yX8_side ∈ zf_T := zf_ti (zf_it2 (List.mem_of_getElem? (i := 73) rfl)) rfl
theorem zf_m217 : Cond.code yX8_side cX8_side 6 (some .int) ∈ zf_T := zf_ti (zf_it2 (List.mem_of_getElem? (i := 74) rfl)) rfl
theorem zf_m218 : Cond.methodLink RX8 97 yX8_rowSize ∈ zf_T := zf_ti (zf_it2 (List.mem_of_getElem? (i := 75) rfl)) rfl
theorem zf_m219 : Cond.instanceMethod yX8_rowSize ∈ zf_T := zf_ti (zf_it2 (List.mem_of_getElem? (i := 77) rfl)) rfl
theorem zf_m220 : Cond.selects RX8 yX8_rowSize yX8_rowSize ∈ zf_T := zf_ti (zf_wS (List.mem_of_getElem? (i := 0) rfl)) rfl
theorem zf_m221 : Cond.code yX8_rowSize cX8_rowSize 4 (some .int) ∈ zf_T := zf_ti (zf_it2 (List.mem_of_getElem? (i := 78) rfl)) rfl
theorem zf_m222 : Cond.methodLink RX8 282 yX8_isFighterOrNone ∈ zf_T := zf_ti (zf_it2 (List.mem_of_getElem? (i := 79) rfl)) rfl
theorem zf_m223 : Cond.instanceMethod yX8_isFighterOrNone ∈ zf_T := zf_ti (zf_it2 (List.mem_of_getElem? (i := 81) rfl)) rfl
theorem zf_m224 : Cond.selects RX8 yX8_isFighterOrNone yX8_isFighterOrNone ∈ zf_T := zf_ti (zf_wS (List.mem_of_getElem? (i := 1) rfl)) rfl
theorem zf_m225 : Cond.code yX8_isFighterOrNone cX8_isFighterOrNone 2 (some .boolean) ∈ zf_T := zf_ti (zf_it2 (List.mem_of_getElem? (i := 82) rfl)) rfl
theorem zf_m226 : Cond.methodLink RX8 101 yX8_isSide ∈ zf_T := zf_ti (zf_it2 (List.mem_of_getElem? (i := 83) rfl)) rfl
theorem zf_m227 : Cond.static yX8_isSide ∈ zf_T := zf_ti (zf_it2 (List.mem_of_getElem? (i := 84) rfl)) rfl
theorem zf_m228 : Cond.code yX8_isSide cX8_isSide 1 (some .boolean) ∈ zf_T := zf_ti (zf_it2 (List.mem_of_getElem? (i := 85) rfl)) rfl
theorem zf_m229 : Cond.methodLink RX8 104 yX6_become ∈ zf_T := zf_ti (zf_it2 (List.mem_of_getElem? (i := 86) rfl)) rfl
theorem zf_m230 : Cond.instanceMethod yX6_become ∈ zf_T := zf_ti (zf_it2 (List.mem_of_getElem? (i := 87) rfl)) rfl
theorem zf_m231 : Cond.selects RX6 yX6_become yX6_become ∈ zf_T := zf_ti (zf_it2 (List.mem_of_getElem? (i := 88) rfl)) rfl
theorem zf_m232 : Cond.code yX6_become cX6_become 5 none ∈ zf_T := zf_ti (zf_it2 (List.mem_of_getElem? (i := 89) rfl)) rfl
theorem zf_m233 : Cond.methodLink RL 32 yX9_side ∈ zf_T := zf_ti (zf_it4 (List.mem_of_getElem? (i := 134) rfl)) rfl
theorem zf_m234 : Cond.instanceMethod yX9_side ∈ zf_T := zf_ti (zf_it4 (List.mem_of_getElem? (i := 135) rfl)) rfl
theorem zf_m235 : Cond.selects RX9 yX9_side yX9_side ∈ zf_T := zf_ti (zf_it4 (List.mem_of_getElem? (i := 136) rfl)) rfl
theorem zf_m236 : Cond.code yX9_side cX9_side 5 (some .int) ∈ zf_T := zf_ti (zf_it4 (List.mem_of_getElem? (i := 137) rfl)) rfl
theorem zf_m237 : Cond.methodLink RX9 134 yX9_isRow ∈ zf_T := zf_ti (zf_it4 (List.mem_of_getElem? (i := 138) rfl)) rfl
theorem zf_m238 : Cond.instanceMethod yX9_isRow ∈ zf_T := zf_ti (zf_it4 (List.mem_of_getElem? (i := 140) rfl)) rfl
theorem zf_m239 : Cond.selects RX9 yX9_isRow yX9_isRow ∈ zf_T := zf_ti (zf_wS (List.mem_of_getElem? (i := 20) rfl)) rfl
theorem zf_m240 : Cond.code yX9_isRow cX9_isRow 5 (some .boolean) ∈ zf_T := zf_ti (zf_it4 (List.mem_of_getElem? (i := 141) rfl)) rfl
theorem zf_m241 : Cond.constantLong RX9 132 (-1) ∈ zf_T := zf_ti (zf_it4 (List.mem_of_getElem? (i := 142) rfl)) rfl
theorem zf_m242 : Cond.methodLink RX9 138 yX9_manyOf ∈ zf_T := zf_ti (zf_it4 (List.mem_of_getElem? (i := 143) rfl)) rfl
theorem zf_m243 : Cond.static yX9_manyOf ∈ zf_T := zf_ti (zf_it4 (List.mem_of_getElem? (i := 144) rfl)) rfl
theorem zf_m244 : Cond.code yX9_manyOf cX9_manyOf 3 (some .int) ∈ zf_T := zf_ti (zf_it4 (List.mem_of_getElem? (i := 145) rfl)) rfl
theorem zf_m245 : Cond.methodLink RL 33 yX8_at ∈ zf_T := zf_ti (zf_it2 (List.mem_of_getElem? (i := 90) rfl)) rfl
theorem zf_m246 : Cond.instanceMethod yX8_at ∈ zf_T := zf_ti (zf_it2 (List.mem_of_getElem? (i := 91) rfl)) rfl
theorem zf_m247 : Cond.selects RX8 yX8_at yX8_at ∈ zf_T := zf_ti (zf_it2 (List.mem_of_getElem? (i := 92) rfl)) rfl
theorem zf_m248 : Cond.code yX8_at cX8_at 3 (some .int) ∈ zf_T := zf_ti (zf_it2 (List.mem_of_getElem? (i := 93) rfl)) rfl
theorem zf_m249 : Cond.methodLink RX8 108 yX8_isPlace ∈ zf_T := zf_ti (zf_it2 (List.mem_of_getElem? (i := 94) rfl)) rfl
theorem zf_m250 : Cond.static yX8_isPlace ∈ zf_T := zf_ti (zf_it2 (List.mem_of_getElem? (i := 95) rfl)) rfl
theorem zf_m251 : Cond.code yX8_isPlace cX8_isPlace 1 (some .boolean) ∈ zf_T := zf_ti (zf_it2 (List.mem_of_getElem? (i := 96) rfl)) rfl
theorem zf_m252 : Cond.methodLink RX8 111 yX6_who ∈ zf_T := zf_ti (zf_it2 (List.mem_of_getElem? (i := 97) rfl)) rfl
theorem zf_m253 : Cond.instanceMethod yX6_who ∈ zf_T := zf_ti (zf_it2 (List.mem_of_getElem? (i := 98) rfl)) rfl
theorem zf_m254 : Cond.selects RX6 yX6_who yX6_who ∈ zf_T := zf_ti (zf_it2 (List.mem_of_getElem? (i := 99) rfl)) rfl
theorem zf_m255 : Cond.code yX6_who cX6_who 2 (some .int) ∈ zf_T := zf_ti (zf_it2 (List.mem_of_getElem? (i := 100) rfl)) rfl
theorem zf_m256 : Cond.methodLink RL 36 yX9_at ∈ zf_T := zf_ti (zf_it4 (List.mem_of_getElem? (i := 146) rfl)) rfl
theorem zf_m257 : Cond.instanceMethod yX9_at ∈ zf_T := zf_ti (zf_it4 (List.mem_of_getElem? (i := 147) rfl)) rfl
theorem zf_m258 : Cond.selects RX9 yX9_at yX9_at ∈ zf_T := zf_ti (zf_it4 (List.mem_of_getElem? (i := 148) rfl)) rfl
theorem zf_m259 : Cond.code yX9_at cX9_at 3 (some .int) ∈ zf_T := zf_ti (zf_it4 (List.mem_of_getElem? (i := 149) rfl)) rfl
theorem zf_m260 : Cond.methodLink RL 37 yX8_laws ∈ zf_T := zf_ti (zf_it2 (List.mem_of_getElem? (i := 102) rfl)) rfl
theorem zf_m261 : Cond.instanceMethod yX8_laws ∈ zf_T := zf_ti (zf_it2 (List.mem_of_getElem? (i := 103) rfl)) rfl
theorem zf_m262 : Cond.selects RX8 yX8_laws yX8_laws ∈ zf_T := zf_ti (zf_it2 (List.mem_of_getElem? (i := 104) rfl)) rfl
theorem zf_m263 : Cond.code yX8_laws cX8_laws 5 (some .int) ∈ zf_T := zf_ti (zf_it2 (List.mem_of_getElem? (i := 105) rfl)) rfl
theorem zf_m264 : Cond.methodLink RX8 115 yX8_isSideOrNone ∈ zf_T := zf_ti (zf_it2 (List.mem_of_getElem? (i := 106) rfl)) rfl
theorem zf_m265 : Cond.static yX8_isSideOrNone ∈ zf_T := zf_ti (zf_it2 (List.mem_of_getElem? (i := 107) rfl)) rfl
theorem zf_m266 : Cond.code yX8_isSideOrNone cX8_isSideOrNone 1 (some .boolean) ∈ zf_T := zf_ti (zf_it2 (List.mem_of_getElem? (i := 108) rfl)) rfl
theorem zf_m267 : Cond.methodLink RL 40 yX9_laws ∈ zf_T := zf_ti (zf_it4 (List.mem_of_getElem? (i := 150) rfl)) rfl
theorem zf_m268 : Cond.instanceMethod yX9_laws ∈ zf_T := zf_ti (zf_it4 (List.mem_of_getElem? (i := 151) rfl)) rfl
theorem zf_m269 : Cond.selects RX9 yX9_laws yX9_laws ∈ zf_T := zf_ti (zf_it4 (List.mem_of_getElem? (i := 152) rfl)) rfl
theorem zf_m270 : Cond.code yX9_laws cX9_laws 4 (some .int) ∈ zf_T := zf_ti (zf_it4 (List.mem_of_getElem? (i := 153) rfl)) rfl
theorem zf_m271 : Cond.fieldLink RX9 142 "FairFightModel" "aim" "I" ∈ zf_T := zf_ti (zf_it3 (List.mem_of_getElem? (i := 225) rfl)) rfl
theorem zf_m272 : Cond.methodLink RL 41 yX8_slots ∈ zf_T := zf_ti (zf_it2 (List.mem_of_getElem? (i := 109) rfl)) rfl
theorem zf_m273 : Cond.instanceMethod yX8_slots ∈ zf_T := zf_ti (zf_it2 (List.mem_of_getElem? (i := 110) rfl)) rfl
theorem zf_m274 : Cond.selects RX8 yX8_slots yX8_slots ∈ zf_T := zf_ti (zf_it2 (List.mem_of_getElem? (i := 111) rfl)) rfl
theorem zf_m275 : Cond.code yX8_slots cX8_slots 1 (some .int) ∈ zf_T := zf_ti (zf_it2 (List.mem_of_getElem? (i := 112) rfl)) rfl
theorem zf_m276 : Cond.fieldLink RX8 118 "FairFight$Row" "size" "I" ∈ zf_T := zf_ti (zf_it1 (List.mem_of_getElem? (i := 160) rfl)) rfl
theorem zf_m277 : Cond.methodLink RL 45 yX9_slots ∈ zf_T := zf_ti (zf_it4 (List.mem_of_getElem? (i := 154) rfl)) rfl
theorem zf_m278 : Cond.instanceMethod yX9_slots ∈ zf_T := zf_ti (zf_it4 (List.mem_of_getElem? (i := 155) rfl)) rfl
theorem zf_m279 : Cond.selects RX9 yX9_slots yX9_slots ∈ zf_T := zf_ti (zf_it4 (List.mem_of_getElem? (i := 156) rfl)) rfl
theorem zf_m280 : Cond.code yX9_slots cX9_slots 1 (some .int) ∈ zf_T := zf_ti (zf_it4 (List.mem_of_getElem? (i := 157) rfl)) rfl
theorem zf_m281 : Cond.methodLink RX9 213 yX9_sets ∈ zf_T := zf_ti (zf_it4 (List.mem_of_getElem? (i := 158) rfl)) rfl
theorem zf_m282 : Cond.instanceMethod yX9_sets ∈ zf_T := zf_ti (zf_it4 (List.mem_of_getElem? (i := 160) rfl)) rfl
theorem zf_m283 : Cond.selects RX9 yX9_sets yX9_sets ∈ zf_T := zf_ti (zf_wS (List.mem_of_getElem? (i := 21) rfl)) rfl
theorem zf_m284 : Cond.code yX9_sets cX9_sets 3 none ∈ zf_T := zf_ti (zf_it4 (List.mem_of_getElem? (i := 161) rfl)) rfl
theorem zf_m285 : Cond.fieldLink RX9 145 "FairFightModel" "startled" "I" ∈ zf_T := zf_ti (zf_it3 (List.mem_of_getElem? (i := 229) rfl)) rfl
theorem zf_m286 : Cond.methodLink RX9 184 yX9_begins ∈ zf_T := zf_ti (zf_it4 (List.mem_of_getElem? (i := 162) rfl)) rfl
theorem zf_m287 : Cond.instanceMethod yX9_begins ∈ zf_T := zf_ti (zf_it4 (List.mem_of_getElem? (i := 164) rfl)) rfl
theorem zf_m288 : Cond.selects RX9 yX9_begins yX9_begins ∈ zf_T := zf_ti (zf_wS (List.mem_of_getElem? (i := 22) rfl)) rfl
theorem zf_m289 : Cond.code yX9_begins cX9_begins 3 none ∈ zf_T := zf_ti (zf_it4 (List.mem_of_getElem? (i := 165) rfl)) rfl
theorem zf_m290 : Cond.fieldLink RX9 148 "FairFightModel" "many" "I" ∈ zf_T := zf_ti (zf_it3 (List.mem_of_getElem? (i := 230) rfl)) rfl
theorem zf_m291 : Cond.methodLink RX9 190 yX9_slotsNow ∈ zf_T := zf_ti (zf_it4 (List.mem_of_getElem? (i := 166) rfl)) rfl
theorem zf_m292 : Cond.instanceMethod yX9_slotsNow ∈ zf_T := zf_ti (zf_it4 (List.mem_of_getElem? (i := 168) rfl)) rfl
theorem zf_m293 : Cond.selects RX9 yX9_slotsNow yX9_slotsNow ∈ zf_T := zf_ti (zf_wS (List.mem_of_getElem? (i := 23) rfl)) rfl
theorem zf_m294 : Cond.code yX9_slotsNow cX9_slotsNow 1 (some .int) ∈ zf_T := zf_ti (zf_it4 (List.mem_of_getElem? (i := 169) rfl)) rfl
theorem zf_m295 : Cond.methodLink RL 46 yX8_all ∈ zf_T := zf_ti (zf_it2 (List.mem_of_getElem? (i := 113) rfl)) rfl
theorem zf_m296 : Cond.instanceMethod yX8_all ∈ zf_T := zf_ti (zf_it2 (List.mem_of_getElem? (i := 114) rfl)) rfl
theorem zf_m297 : Cond.selects RX8 yX8_all yX8_all ∈ zf_T := zf_ti (zf_it2 (List.mem_of_getElem? (i := 115) rfl)) rfl
theorem zf_m298 : Cond.code yX8_all cX8_all 1 (some .long) ∈ zf_T := zf_ti (zf_it2 (List.mem_of_getElem? (i := 116) rfl)) rfl
theorem zf_m299 : Cond.fieldLink RX8 123 "FairFight$Odds" "total" "J" ∈ zf_T := zf_ti (zf_it1 (List.mem_of_getElem? (i := 118) rfl)) rfl
theorem zf_m300 : Cond.methodLink RX8 119 yX8_reckonFight ∈ zf_T := zf_ti (zf_it2 (List.mem_of_getElem? (i := 117) rfl)) rfl
theorem zf_m301 : Cond.instanceMethod yX8_reckonFight ∈ zf_T := zf_ti (zf_it2 (List.mem_of_getElem? (i := 119) rfl)) rfl
theorem zf_m302 : Cond.selects RX8 yX8_reckonFight yX8_reckonFight ∈ zf_T := zf_ti (zf_wS (List.mem_of_getElem? (i := 2) rfl)) rfl
theorem zf_m303 : Cond.code yX8_reckonFight cX8_reckonFight 1 (some .boolean) ∈ zf_T := zf_ti (zf_it2 (List.mem_of_getElem? (i := 120) rfl)) rfl
theorem zf_m304 : Cond.methodLink RX8 214 yX8_seatFight ∈ zf_T := zf_ti (zf_it2 (List.mem_of_getElem? (i := 121) rfl)) rfl
theorem zf_m305 : Cond.instanceMethod yX8_seatFight ∈ zf_T := zf_ti (zf_it2 (List.mem_of_getElem? (i := 123) rfl)) rfl
theorem zf_m306 : Cond.selects RX8 yX8_seatFight yX8_seatFight ∈ zf_T := zf_ti (zf_wS (List.mem_of_getElem? (i := 3) rfl)) rfl
theorem zf_m307 : Cond.code yX8_seatFight cX8_seatFight 1 none ∈ zf_T := zf_ti (zf_it2 (List.mem_of_getElem? (i := 124) rfl)) rfl
theorem zf_m308 : Cond.methodLink RX8 157 yX2_open ∈ zf_T := zf_ti (zf_it2 (List.mem_of_getElem? (i := 125) rfl)) rfl
theorem zf_m309 : Cond.instanceMethod yX2_open ∈ zf_T := zf_ti (zf_it2 (List.mem_of_getElem? (i := 126) rfl)) rfl
theorem zf_m310 : Cond.selects RX2 yX2_open yX2_open ∈ zf_T := zf_ti (zf_it2 (List.mem_of_getElem? (i := 127) rfl)) rfl
theorem zf_m311 : Cond.code yX2_open cX2_open 4 none ∈ zf_T := zf_ti (zf_it2 (List.mem_of_getElem? (i := 128) rfl)) rfl
theorem zf_m312 : Cond.methodLink RX8 160 yX8_seatHeroes ∈ zf_T := zf_ti (zf_it2 (List.mem_of_getElem? (i := 129) rfl)) rfl
theorem zf_m313 : Cond.instanceMethod yX8_seatHeroes ∈ zf_T := zf_ti (zf_it2 (List.mem_of_getElem? (i := 131) rfl)) rfl
theorem zf_m314 : Cond.selects RX8 yX8_seatHeroes yX8_seatHeroes ∈ zf_T := zf_ti (zf_wS (List.mem_of_getElem? (i := 4) rfl)) rfl
theorem zf_m315 : Cond.code yX8_seatHeroes cX8_seatHeroes 5 none ∈ zf_T := zf_ti (zf_it2 (List.mem_of_getElem? (i := 132) rfl)) rfl
theorem zf_m316 : Cond.methodLink RX8 139 yX8_seatOf ∈ zf_T := zf_ti (zf_it2 (List.mem_of_getElem? (i := 133) rfl)) rfl
theorem zf_m317 : Cond.static yX8_seatOf ∈ zf_T := zf_ti (zf_it2 (List.mem_of_getElem? (i := 134) rfl)) rfl
theorem zf_m318 : Cond.code yX8_seatOf cX8_seatOf 2 (some .int) ∈ zf_T := zf_ti (zf_it2 (List.mem_of_getElem? (i := 135) rfl)) rfl
theorem zf_m319 : Cond.methodLink RX8 288 yX2_seat ∈ zf_T := zf_ti (zf_it2 (List.mem_of_getElem? (i := 136) rfl)) rfl
theorem zf_m320 : Cond.instanceMethod yX2_seat ∈ zf_T := zf_ti (zf_it2 (List.mem_of_getElem? (i := 137) rfl)) rfl
theorem zf_m321 : Cond.selects RX2 yX2_seat yX2_seat ∈ zf_T := zf_ti (zf_it2 (List.mem_of_getElem? (i := 138) rfl)) rfl
theorem zf_m322 : Cond.code yX2_seat cX2_seat 6 none ∈ zf_T := zf_ti (zf_it2 (List.mem_of_getElem? (i := 139) rfl)) rfl
theorem zf_m323 : Cond.methodLink RX2 46 yX5_number ∈ zf_T := zf_ti (zf_it2 (List.mem_of_getElem? (i := 140) rfl)) rfl
theorem zf_m324 : Cond.methodLink RX8 164 yX8_seatFoes ∈ zf_T := zf_ti (zf_it2 (List.mem_of_getElem? (i := 141) rfl)) rfl
theorem zf_m325 : Cond.instanceMethod yX8_seatFoes ∈ zf_T := zf_ti (zf_it2 (List.mem_of_getElem? (i := 143) rfl)) rfl
theorem zf_m326 : Cond.selects RX8 yX8_seatFoes yX8_seatFoes ∈ zf_T := zf_ti (zf_wS (List.mem_of_getElem? (i := 5) rfl)) rfl
theorem zf_m327 : Cond.code yX8_seatFoes cX8_seatFoes 3 none ∈ zf_T := zf_ti (zf_it2 (List.mem_of_getElem? (i := 144) rfl)) rfl
theorem zf_m328 : Cond.methodLink RX8 168 yX4_reckon ∈ zf_T := zf_ti (zf_it2 (List.mem_of_getElem? (i := 145) rfl)) rfl
theorem zf_m329 : Cond.instanceMethod yX4_reckon ∈ zf_T := zf_ti (zf_it2 (List.mem_of_getElem? (i := 146) rfl)) rfl
theorem zf_m330 : Cond.selects RX4 yX4_reckon yX4_reckon ∈ zf_T := zf_ti (zf_it2 (List.mem_of_getElem? (i := 147) rfl)) rfl
theorem zf_m331 : Cond.code yX4_reckon cX4_reckon 9 (some .boolean) ∈ zf_T := zf_ti (zf_it2 (List.mem_of_getElem? (i := 148) rfl)) rfl
theorem zf_m332 : Cond.fieldLink RX4 42 "FairFight$Fray" "rounds" "I" ∈ zf_T := zf_ti (zf_it1 (List.mem_of_getElem? (i := 58) rfl)) rfl
theorem zf_m333 : Cond.fieldLink RX4 47 "FairFight$Fray" "size" "I" ∈ zf_T := zf_ti (zf_it1 (List.mem_of_getElem? (i := 55) rfl)) rfl
theorem zf_m334 : Cond.fieldLink RX4 73 "FairFight$Layer" "size" "I" ∈ zf_T := zf_ti (zf_it1 (List.mem_of_getElem? (i := 102) rfl)) rfl
theorem zf_m335 : Cond.methodLink RX4 74 Lib.Math.max.name ∈ zf_T := zf_ti (zf_it2 (List.mem_of_getElem? (i := 186) rfl)) rfl
theorem zf_m336 : Cond.static Lib.Math.max.name ∈ zf_T := zf_ti (zf_it2 (List.mem_of_getElem? (i := 187) rfl)) rfl
theorem zf_m337 : Cond.initialized "java/lang/Math" ∈ zf_T := zf_ti (zf_it1 (List.mem_of_getElem? (i := 11) rfl)) rfl
theorem zf_m338 : Cond.code Lib.Math.max.name Lib.Math.max.code 2 (some .int) ∈ zf_T := zf_ti (zf_it2 (List.mem_of_getElem? (i := 188) rfl)) rfl
theorem zf_m339 : Cond.constantLong RX4 80 (6) ∈ zf_T := zf_ti (zf_it2 (List.mem_of_getElem? (i := 160) rfl)) rfl
theorem zf_m340 : Cond.fieldLink RX4 82 "FairFight$Fray" "order" "[I" ∈ zf_T := zf_ti (zf_it1 (List.mem_of_getElem? (i := 53) rfl)) rfl
theorem zf_m341 : Cond.methodLink RX4 50 yX4_clear ∈ zf_T := zf_ti (zf_it2 (List.mem_of_getElem? (i := 149) rfl)) rfl
theorem zf_m342 : Cond.instanceMethod yX4_clear ∈ zf_T := zf_ti (zf_it2 (List.mem_of_getElem? (i := 151) rfl)) rfl
theorem zf_m343 : Cond.selects RX4 yX4_clear yX4_clear ∈ zf_T := zf_ti (zf_wS (List.mem_of_getElem? (i := 6) rfl)) rfl
theorem zf_m344 : Cond.code yX4_clear cX4_clear 2 none ∈ zf_T := zf_ti (zf_it2 (List.mem_of_getElem? (i := 152) rfl)) rfl
theorem zf_m345 : Cond.methodLink RX4 92 yX3_empty ∈ zf_T := zf_ti (zf_it2 (List.mem_of_getElem? (i := 153) rfl)) rfl
theorem zf_m346 : Cond.instanceMethod yX3_empty ∈ zf_T := zf_ti (zf_it2 (List.mem_of_getElem? (i := 154) rfl)) rfl
theorem zf_m347 : Cond.selects RX3 yX3_empty yX3_empty ∈ zf_T := zf_ti (zf_it2 (List.mem_of_getElem? (i := 155) rfl)) rfl
theorem zf_m348 : Cond.code yX3_empty cX3_empty 2 none ∈ zf_T := zf_ti (zf_it2 (List.mem_of_getElem? (i := 156) rfl)) rfl
theorem zf_m349 : Cond.methodLink RX4 53 yX4_powerOfSix ∈ zf_T := zf_ti (zf_it2 (List.mem_of_getElem? (i := 157) rfl)) rfl
theorem zf_m350 : Cond.static yX4_powerOfSix ∈ zf_T := zf_ti (zf_it2 (List.mem_of_getElem? (i := 158) rfl)) rfl
theorem zf_m351 : Cond.code yX4_powerOfSix cX4_powerOfSix 4 (some .long) ∈ zf_T := zf_ti (zf_it2 (List.mem_of_getElem? (i := 159) rfl)) rfl
theorem zf_m352 : Cond.methodLink RX4 57 yX2_beginning ∈ zf_T := zf_ti (zf_it2 (List.mem_of_getElem? (i := 161) rfl)) rfl
theorem zf_m353 : Cond.instanceMethod yX2_beginning ∈ zf_T := zf_ti (zf_it2 (List.mem_of_getElem? (i := 162) rfl)) rfl
theorem zf_m354 : Cond.selects RX2 yX2_beginning yX2_beginning ∈ zf_T := zf_ti (zf_it2 (List.mem_of_getElem? (i := 163) rfl)) rfl
theorem zf_m355 : Cond.code yX2_beginning cX2_beginning 5 (some .long) ∈ zf_T := zf_ti (zf_it2 (List.mem_of_getElem? (i := 164) rfl)) rfl
theorem zf_m356 : Cond.methodLink RX4 61 yX2_winner ∈ zf_T := zf_ti (zf_it2 (List.mem_of_getElem? (i := 165) rfl)) rfl
theorem zf_m357 : Cond.static yX2_winner ∈ zf_T := zf_ti (zf_it2 (List.mem_of_getElem? (i := 166) rfl)) rfl
theorem zf_m358 : Cond.code yX2_winner cX2_winner 2 (some .int) ∈ zf_T := zf_ti (zf_it2 (List.mem_of_getElem? (i := 167) rfl)) rfl
theorem zf_m359 : Cond.constantLong RX2 52 (133152) ∈ zf_T := zf_ti (zf_it2 (List.mem_of_getElem? (i := 168) rfl)) rfl
theorem zf_m360 : Cond.constantLong RX2 54 (34904997888) ∈ zf_T := zf_ti (zf_it2 (List.mem_of_getElem? (i := 169) rfl)) rfl
theorem zf_m361 : Cond.methodLink RX4 65 yX4_tally ∈ zf_T := zf_ti (zf_it2 (List.mem_of_getElem? (i := 170) rfl)) rfl
theorem zf_m362 : Cond.instanceMethod yX4_tally ∈ zf_T := zf_ti (zf_it2 (List.mem_of_getElem? (i := 172) rfl)) rfl
theorem zf_m363 : Cond.selects RX4 yX4_tally yX4_tally ∈ zf_T := zf_ti (zf_wS (List.mem_of_getElem? (i := 7) rfl)) rfl
theorem zf_m364 : Cond.code yX4_tally cX4_tally 12 none ∈ zf_T := zf_ti (zf_it2 (List.mem_of_getElem? (i := 173) rfl)) rfl
theorem zf_m365 : Cond.methodLink RX4 124 yX2_part ∈ zf_T := zf_ti (zf_it2 (List.mem_of_getElem? (i := 174) rfl)) rfl
theorem zf_m366 : Cond.static yX2_part ∈ zf_T := zf_ti (zf_it2 (List.mem_of_getElem? (i := 175) rfl)) rfl
theorem zf_m367 : Cond.code yX2_part cX2_part 3 (some .int) ∈ zf_T := zf_ti (zf_it2 (List.mem_of_getElem? (i := 176) rfl)) rfl
theorem zf_m368 : Cond.methodLink RX4 69 yX3_join ∈ zf_T := zf_ti (zf_it2 (List.mem_of_getElem? (i := 177) rfl)) rfl
theorem zf_m369 : Cond.instanceMethod yX3_join ∈ zf_T := zf_ti (zf_it2 (List.mem_of_getElem? (i := 178) rfl)) rfl
theorem zf_m370 : Cond.selects RX3 yX3_join yX3_join ∈ zf_T := zf_ti (zf_it2 (List.mem_of_getElem? (i := 179) rfl)) rfl
theorem zf_m371 : Cond.code yX3_join cX3_join 8 (some .boolean) ∈ zf_T := zf_ti (zf_it2 (List.mem_of_getElem? (i := 180) rfl)) rfl
theorem zf_m372 : Cond.constantLong RX3 29 (-7046029254386353131) ∈ zf_T := zf_ti (zf_it2 (List.mem_of_getElem? (i := 181) rfl)) rfl
theorem zf_m373 : Cond.methodLink RX3 31 yX3_joinNew ∈ zf_T := zf_ti (zf_it2 (List.mem_of_getElem? (i := 182) rfl)) rfl
theorem zf_m374 : Cond.instanceMethod yX3_joinNew ∈ zf_T := zf_ti (zf_it2 (List.mem_of_getElem? (i := 184) rfl)) rfl
theorem zf_m375 : Cond.selects RX3 yX3_joinNew yX3_joinNew ∈ zf_T := zf_ti (zf_wS (List.mem_of_getElem? (i := 8) rfl)) rfl
theorem zf_m376 : Cond.code yX3_joinNew cX3_joinNew 6 (some .boolean) ∈ zf_T := zf_ti (zf_it2 (List.mem_of_getElem? (i := 185) rfl)) rfl
theorem zf_m377 : Cond.methodLink RX4 86 yX4_reckonSlot ∈ zf_T := zf_ti (zf_it2 (List.mem_of_getElem? (i := 189) rfl)) rfl
theorem zf_m378 : Cond.instanceMethod yX4_reckonSlot ∈ zf_T := zf_ti (zf_it2 (List.mem_of_getElem? (i := 191) rfl)) rfl
theorem zf_m379 : Cond.selects RX4 yX4_reckonSlot yX4_reckonSlot ∈ zf_T := zf_ti (zf_wS (List.mem_of_getElem? (i := 9) rfl)) rfl
theorem zf_m380 : Cond.code yX4_reckonSlot cX4_reckonSlot 12 (some .boolean) ∈ zf_T := zf_ti (zf_it2 (List.mem_of_getElem? (i := 192) rfl)) rfl
theorem zf_m381 : Cond.fieldLink RX4 95 "FairFight$Layer" "states" "[J" ∈ zf_T := zf_ti (zf_it1 (List.mem_of_getElem? (i := 98) rfl)) rfl
theorem zf_m382 : Cond.fieldLink RX4 98 "FairFight$Layer" "ways" "[J" ∈ zf_T := zf_ti (zf_it1 (List.mem_of_getElem? (i := 100) rfl)) rfl
theorem zf_m383 : Cond.methodLink RX4 101 yX2_hasTurn ∈ zf_T := zf_ti (zf_it2 (List.mem_of_getElem? (i := 193) rfl)) rfl
theorem zf_m384 : Cond.instanceMethod yX2_hasTurn ∈ zf_T := zf_ti (zf_it2 (List.mem_of_getElem? (i := 194) rfl)) rfl
theorem zf_m385 : Cond.selects RX2 yX2_hasTurn yX2_hasTurn ∈ zf_T := zf_ti (zf_it2 (List.mem_of_getElem? (i := 195) rfl)) rfl
theorem zf_m386 : Cond.code yX2_hasTurn cX2_hasTurn 6 (some .boolean) ∈ zf_T := zf_ti (zf_it2 (List.mem_of_getElem? (i := 196) rfl)) rfl
theorem zf_m387 : Cond.methodLink RX2 56 yX2_part ∈ zf_T := zf_ti (zf_it2 (List.mem_of_getElem? (i := 197) rfl)) rfl
theorem zf_m388 : Cond.methodLink RX4 105 yX4_pass ∈ zf_T := zf_ti (zf_it2 (List.mem_of_getElem? (i := 198) rfl)) rfl
theorem zf_m389 : Cond.instanceMethod yX4_pass ∈ zf_T := zf_ti (zf_it2 (List.mem_of_getElem? (i := 200) rfl)) rfl
theorem zf_m390 : Cond.selects RX4 yX4_pass yX4_pass ∈ zf_T := zf_ti (zf_wS (List.mem_of_getElem? (i := 10) rfl)) rfl
theorem zf_m391 : Cond.code yX4_pass cX4_pass 9 (some .boolean) ∈ zf_T := zf_ti (zf_it2 (List.mem_of_getElem? (i := 201) rfl)) rfl
theorem zf_m392 : Cond.methodLink RX4 109 yX2_flees ∈ zf_T := zf_ti (zf_it2 (List.mem_of_getElem? (i := 202) rfl)) rfl
theorem zf_m393 : Cond.instanceMethod yX2_flees ∈ zf_T := zf_ti (zf_it2 (List.mem_of_getElem? (i := 203) rfl)) rfl
theorem zf_m394 : Cond.selects RX2 yX2_flees yX2_flees ∈ zf_T := zf_ti (zf_it2 (List.mem_of_getElem? (i := 204) rfl)) rfl
theorem zf_m395 : Cond.code yX2_flees cX2_flees 4 (some .boolean) ∈ zf_T := zf_ti (zf_it2 (List.mem_of_getElem? (i := 205) rfl)) rfl
theorem zf_m396 : Cond.methodLink RX2 60 yX2_lifeOf ∈ zf_T := zf_ti (zf_it2 (List.mem_of_getElem? (i := 206) rfl)) rfl
theorem zf_m397 : Cond.static yX2_lifeOf ∈ zf_T := zf_ti (zf_it2 (List.mem_of_getElem? (i := 207) rfl)) rfl
theorem zf_m398 : Cond.code yX2_lifeOf cX2_lifeOf 1 (some .int) ∈ zf_T := zf_ti (zf_it2 (List.mem_of_getElem? (i := 208) rfl)) rfl
theorem zf_m399 : Cond.methodLink RX4 113 yX2_afterFlight ∈ zf_T := zf_ti (zf_it2 (List.mem_of_getElem? (i := 209) rfl)) rfl
theorem zf_m400 : Cond.instanceMethod yX2_afterFlight ∈ zf_T := zf_ti (zf_it2 (List.mem_of_getElem? (i := 210) rfl)) rfl
theorem zf_m401 : Cond.selects RX2 yX2_afterFlight yX2_afterFlight ∈ zf_T := zf_ti (zf_it2 (List.mem_of_getElem? (i := 211) rfl)) rfl
theorem zf_m402 : Cond.code yX2_afterFlight cX2_afterFlight 4 (some .long) ∈ zf_T := zf_ti (zf_it2 (List.mem_of_getElem? (i := 212) rfl)) rfl
theorem zf_m403 : Cond.constantLong RX2 64 (32) ∈ zf_T := zf_ti (zf_it2 (List.mem_of_getElem? (i := 213) rfl)) rfl
theorem zf_m404 : Cond.constantLong RX2 66 (-1) ∈ zf_T := zf_ti (zf_it2 (List.mem_of_getElem? (i := 214) rfl)) rfl
theorem zf_m405 : Cond.methodLink RX4 117 yX2_hits ∈ zf_T := zf_ti (zf_it2 (List.mem_of_getElem? (i := 215) rfl)) rfl
theorem zf_m406 : Cond.instanceMethod yX2_hits ∈ zf_T := zf_ti (zf_it2 (List.mem_of_getElem? (i := 216) rfl)) rfl
theorem zf_m407 : Cond.selects RX2 yX2_hits yX2_hits ∈ zf_T := zf_ti (zf_it2 (List.mem_of_getElem? (i := 217) rfl)) rfl
theorem zf_m408 : Cond.code yX2_hits cX2_hits 2 (some .int) ∈ zf_T := zf_ti (zf_it2 (List.mem_of_getElem? (i := 218) rfl)) rfl
theorem zf_m409 : Cond.methodLink RX4 121 yX2_afterHit ∈ zf_T := zf_ti (zf_it2 (List.mem_of_getElem? (i := 219) rfl)) rfl
theorem zf_m410 : Cond.instanceMethod yX2_afterHit ∈ zf_T := zf_ti (zf_it2 (List.mem_of_getElem? (i := 220) rfl)) rfl
theorem zf_m411 : Cond.selects RX2 yX2_afterHit yX2_afterHit ∈ zf_T := zf_ti (zf_it2 (List.mem_of_getElem? (i := 221) rfl)) rfl
theorem zf_m412 : Cond.code yX2_afterHit cX2_afterHit 5 (some .long) ∈ zf_T := zf_ti (zf_it2 (List.mem_of_getElem? (i := 222) rfl)) rfl
theorem zf_m413 : Cond.methodLink RX2 68 yX2_chosen ∈ zf_T := zf_ti (zf_it2 (List.mem_of_getElem? (i := 223) rfl)) rfl
theorem zf_m414 : Cond.instanceMethod yX2_chosen ∈ zf_T := zf_ti (zf_it2 (List.mem_of_getElem? (i := 225) rfl)) rfl
theorem zf_m415 : Cond.selects RX2 yX2_chosen yX2_chosen ∈ zf_T := zf_ti (zf_wS (List.mem_of_getElem? (i := 11) rfl)) rfl
theorem zf_m416 : Cond.code yX2_chosen cX2_chosen 9 (some .int) ∈ zf_T := zf_ti (zf_it2 (List.mem_of_getElem? (i := 226) rfl)) rfl
theorem zf_m417 : Cond.methodLink RX2 72 yX2_struck ∈ zf_T := zf_ti (zf_it2 (List.mem_of_getElem? (i := 227) rfl)) rfl
theorem zf_m418 : Cond.static yX2_struck ∈ zf_T := zf_ti (zf_it2 (List.mem_of_getElem? (i := 228) rfl)) rfl
theorem zf_m419 : Cond.code yX2_struck cX2_struck 6 (some .long) ∈ zf_T := zf_ti (zf_it2 (List.mem_of_getElem? (i := 229) rfl)) rfl
theorem zf_m420 : Cond.constantLong RX2 82 (31) ∈ zf_T := zf_ti (zf_it2 (List.mem_of_getElem? (i := 230) rfl)) rfl
theorem zf_m421 : Cond.constantLong RX2 84 (63) ∈ zf_T := zf_ti (zf_it2 (List.mem_of_getElem? (i := 231) rfl)) rfl
theorem zf_m422 : Cond.methodLink RX2 76 yX2_allStruck ∈ zf_T := zf_ti (zf_it2 (List.mem_of_getElem? (i := 232) rfl)) rfl
theorem zf_m423 : Cond.instanceMethod yX2_allStruck ∈ zf_T := zf_ti (zf_it2 (List.mem_of_getElem? (i := 234) rfl)) rfl
theorem zf_m424 : Cond.selects RX2 yX2_allStruck yX2_allStruck ∈ zf_T := zf_ti (zf_wS (List.mem_of_getElem? (i := 12) rfl)) rfl
theorem zf_m425 : Cond.code yX2_allStruck cX2_allStruck 8 (some .long) ∈ zf_T := zf_ti (zf_it2 (List.mem_of_getElem? (i := 235) rfl)) rfl
theorem zf_m426 : Cond.methodLink RX2 79 yX2_healed ∈ zf_T := zf_ti (zf_it2 (List.mem_of_getElem? (i := 236) rfl)) rfl
theorem zf_m427 : Cond.instanceMethod yX2_healed ∈ zf_T := zf_ti (zf_it2 (List.mem_of_getElem? (i := 238) rfl)) rfl
theorem zf_m428 : Cond.selects RX2 yX2_healed yX2_healed ∈ zf_T := zf_ti (zf_wS (List.mem_of_getElem? (i := 13) rfl)) rfl
theorem zf_m429 : Cond.code yX2_healed cX2_healed 6 (some .long) ∈ zf_T := zf_ti (zf_it2 (List.mem_of_getElem? (i := 239) rfl)) rfl
theorem zf_m430 : Cond.methodLink RX2 86 Lib.Math.min.name ∈ zf_T := zf_ti (zf_it3 (List.mem_of_getElem? (i := 0) rfl)) rfl
theorem zf_m431 : Cond.static Lib.Math.min.name ∈ zf_T := zf_ti (zf_it3 (List.mem_of_getElem? (i := 1) rfl)) rfl
theorem zf_m432 : Cond.code Lib.Math.min.name Lib.Math.min.code 2 (some .int) ∈ zf_T := zf_ti (zf_it3 (List.mem_of_getElem? (i := 2) rfl)) rfl
theorem zf_m433 : Cond.methodLink RX8 127 yX8_refusal ∈ zf_T := zf_ti (zf_it3 (List.mem_of_getElem? (i := 3) rfl)) rfl
theorem zf_m434 : Cond.static yX8_refusal ∈ zf_T := zf_ti (zf_it3 (List.mem_of_getElem? (i := 4) rfl)) rfl
theorem zf_m435 : Cond.code yX8_refusal cX8_refusal 1 (some .long) ∈ zf_T := zf_ti (zf_it3 (List.mem_of_getElem? (i := 5) rfl)) rfl
theorem zf_m436 : Cond.constantLong RX8 285 (-9223372036854775808) ∈ zf_T := zf_ti (zf_it3 (List.mem_of_getElem? (i := 6) rfl)) rfl
theorem zf_m437 : Cond.methodLink RL 50 yX9_all ∈ zf_T := zf_ti (zf_it4 (List.mem_of_getElem? (i := 170) rfl)) rfl
theorem zf_m438 : Cond.instanceMethod yX9_all ∈ zf_T := zf_ti (zf_it4 (List.mem_of_getElem? (i := 171) rfl)) rfl
theorem zf_m439 : Cond.selects RX9 yX9_all yX9_all ∈ zf_T := zf_ti (zf_it4 (List.mem_of_getElem? (i := 172) rfl)) rfl
theorem zf_m440 : Cond.code yX9_all cX9_all 1 (some .long) ∈ zf_T := zf_ti (zf_it4 (List.mem_of_getElem? (i := 173) rfl)) rfl
theorem zf_m441 : Cond.methodLink RX9 221 yX9_worksAsItIs ∈ zf_T := zf_ti (zf_it4 (List.mem_of_getElem? (i := 174) rfl)) rfl
theorem zf_m442 : Cond.instanceMethod yX9_worksAsItIs ∈ zf_T := zf_ti (zf_it4 (List.mem_of_getElem? (i := 176) rfl)) rfl
theorem zf_m443 : Cond.selects RX9 yX9_worksAsItIs yX9_worksAsItIs ∈ zf_T := zf_ti (zf_wS (List.mem_of_getElem? (i := 24) rfl)) rfl
theorem zf_m444 : Cond.code yX9_worksAsItIs cX9_worksAsItIs 1 (some .int) ∈ zf_T := zf_ti (zf_it4 (List.mem_of_getElem? (i := 177) rfl)) rfl
theorem zf_m445 : Cond.methodLink RX9 216 yX9_works ∈ zf_T := zf_ti (zf_it4 (List.mem_of_getElem? (i := 178) rfl)) rfl
theorem zf_m446 : Cond.instanceMethod yX9_works ∈ zf_T := zf_ti (zf_it4 (List.mem_of_getElem? (i := 180) rfl)) rfl
theorem zf_m447 : Cond.selects RX9 yX9_works yX9_works ∈ zf_T := zf_ti (zf_wS (List.mem_of_getElem? (i := 25) rfl)) rfl
theorem zf_m448 : Cond.code yX9_works cX9_works 9 (some .int) ∈ zf_T := zf_ti (zf_it4 (List.mem_of_getElem? (i := 181) rfl)) rfl
theorem zf_m449 : Cond.fieldLink RX9 187 "FairFightModel" "widest" "I" ∈ zf_T := zf_ti (zf_it4 (List.mem_of_getElem? (i := 4) rfl)) rfl
theorem zf_m450 : Cond.fieldLink RX9 193 "FairFightModel" "ahead" "I" ∈ zf_T := zf_ti (zf_it3 (List.mem_of_getElem? (i := 234) rfl)) rfl
theorem zf_m451 : Cond.fieldLink RX9 169 "FairFightModel" "behind" "I" ∈ zf_T := zf_ti (zf_it3 (List.mem_of_getElem? (i := 237) rfl)) rfl
theorem zf_m452 : Cond.methodLink RX9 172 yX9_winner ∈ zf_T := zf_ti (zf_it4 (List.mem_of_getElem? (i := 182) rfl)) rfl
theorem zf_m453 : Cond.instanceMethod yX9_winner ∈ zf_T := zf_ti (zf_it4 (List.mem_of_getElem? (i := 184) rfl)) rfl
theorem zf_m454 : Cond.selects RX9 yX9_winner yX9_winner ∈ zf_T := zf_ti (zf_wS (List.mem_of_getElem? (i := 26) rfl)) rfl
theorem zf_m455 : Cond.code yX9_winner cX9_winner 1 (some .int) ∈ zf_T := zf_ti (zf_it4 (List.mem_of_getElem? (i := 185) rfl)) rfl
theorem zf_m456 : Cond.methodLink RX9 176 yX9_counts ∈ zf_T := zf_ti (zf_it4 (List.mem_of_getElem? (i := 186) rfl)) rfl
theorem zf_m457 : Cond.instanceMethod yX9_counts ∈ zf_T := zf_ti (zf_it4 (List.mem_of_getElem? (i := 188) rfl)) rfl
theorem zf_m458 : Cond.selects RX9 yX9_counts yX9_counts ∈ zf_T := zf_ti (zf_wS (List.mem_of_getElem? (i := 27) rfl)) rfl
theorem zf_m459 : Cond.code yX9_counts cX9_counts 6 none ∈ zf_T := zf_ti (zf_it4 (List.mem_of_getElem? (i := 189) rfl)) rfl
theorem zf_m460 : Cond.methodLink RX9 161 yX9_pack ∈ zf_T := zf_ti (zf_it4 (List.mem_of_getElem? (i := 190) rfl)) rfl
theorem zf_m461 : Cond.instanceMethod yX9_pack ∈ zf_T := zf_ti (zf_it4 (List.mem_of_getElem? (i := 192) rfl)) rfl
theorem zf_m462 : Cond.selects RX9 yX9_pack yX9_pack ∈ zf_T := zf_ti (zf_wS (List.mem_of_getElem? (i := 28) rfl)) rfl
theorem zf_m463 : Cond.code yX9_pack cX9_pack 4 (some .long) ∈ zf_T := zf_ti (zf_it4 (List.mem_of_getElem? (i := 193) rfl)) rfl
theorem zf_m464 : Cond.methodLink RX9 196 yX9_unpack ∈ zf_T := zf_ti (zf_it4 (List.mem_of_getElem? (i := 194) rfl)) rfl
theorem zf_m465 : Cond.instanceMethod yX9_unpack ∈ zf_T := zf_ti (zf_it4 (List.mem_of_getElem? (i := 196) rfl)) rfl
theorem zf_m466 : Cond.selects RX9 yX9_unpack yX9_unpack ∈ zf_T := zf_ti (zf_wS (List.mem_of_getElem? (i := 29) rfl)) rfl
theorem zf_m467 : Cond.code yX9_unpack cX9_unpack 6 none ∈ zf_T := zf_ti (zf_it4 (List.mem_of_getElem? (i := 197) rfl)) rfl
theorem zf_m468 : Cond.constantLong RX9 159 (31) ∈ zf_T := zf_ti (zf_it4 (List.mem_of_getElem? (i := 198) rfl)) rfl
theorem zf_m469 : Cond.methodLink RX9 199 yX9_hasTurn ∈ zf_T := zf_ti (zf_it4 (List.mem_of_getElem? (i := 199) rfl)) rfl
theorem zf_m470 : Cond.instanceMethod yX9_hasTurn ∈ zf_T := zf_ti (zf_it4 (List.mem_of_getElem? (i := 201) rfl)) rfl
theorem zf_m471 : Cond.selects RX9 yX9_hasTurn yX9_hasTurn ∈ zf_T := zf_ti (zf_wS (List.mem_of_getElem? (i := 30) rfl)) rfl
theorem zf_m472 : Cond.code yX9_hasTurn cX9_hasTurn 3 (some .boolean) ∈ zf_T := zf_ti (zf_it4 (List.mem_of_getElem? (i := 202) rfl)) rfl
theorem zf_m473 : Cond.methodLink RX9 180 yX9_comes ∈ zf_T := zf_ti (zf_it4 (List.mem_of_getElem? (i := 203) rfl)) rfl
theorem zf_m474 : Cond.instanceMethod yX9_comes ∈ zf_T := zf_ti (zf_it4 (List.mem_of_getElem? (i := 205) rfl)) rfl
theorem zf_m475 : Cond.selects RX9 yX9_comes yX9_comes ∈ zf_T := zf_ti (zf_wS (List.mem_of_getElem? (i := 31) rfl)) rfl
theorem zf_m476 : Cond.code yX9_comes cX9_comes 6 none ∈ zf_T := zf_ti (zf_it4 (List.mem_of_getElem? (i := 206) rfl)) rfl
theorem zf_m477 : Cond.constantLong RX9 165 (2654435761) ∈ zf_T := zf_ti (zf_it4 (List.mem_of_getElem? (i := 207) rfl)) rfl
theorem zf_m478 : Cond.constantLong RX9 167 (2047) ∈ zf_T := zf_ti (zf_it4 (List.mem_of_getElem? (i := 208) rfl)) rfl
theorem zf_m479 : Cond.methodLink RX9 202 yX9_flees ∈ zf_T := zf_ti (zf_it4 (List.mem_of_getElem? (i := 209) rfl)) rfl
theorem zf_m480 : Cond.instanceMethod yX9_flees ∈ zf_T := zf_ti (zf_it4 (List.mem_of_getElem? (i := 211) rfl)) rfl
theorem zf_m481 : Cond.selects RX9 yX9_flees yX9_flees ∈ zf_T := zf_ti (zf_wS (List.mem_of_getElem? (i := 32) rfl)) rfl
theorem zf_m482 : Cond.code yX9_flees cX9_flees 2 (some .boolean) ∈ zf_T := zf_ti (zf_it4 (List.mem_of_getElem? (i := 212) rfl)) rfl
theorem zf_m483 : Cond.methodLink RX9 205 yX9_goesOn ∈ zf_T := zf_ti (zf_it4 (List.mem_of_getElem? (i := 213) rfl)) rfl
theorem zf_m484 : Cond.instanceMethod yX9_goesOn ∈ zf_T := zf_ti (zf_it4 (List.mem_of_getElem? (i := 215) rfl)) rfl
theorem zf_m485 : Cond.selects RX9 yX9_goesOn yX9_goesOn ∈ zf_T := zf_ti (zf_wS (List.mem_of_getElem? (i := 33) rfl)) rfl
theorem zf_m486 : Cond.code yX9_goesOn cX9_goesOn 7 none ∈ zf_T := zf_ti (zf_it4 (List.mem_of_getElem? (i := 216) rfl)) rfl
theorem zf_m487 : Cond.methodLink RX9 209 yX9_hits ∈ zf_T := zf_ti (zf_it4 (List.mem_of_getElem? (i := 217) rfl)) rfl
theorem zf_m488 : Cond.instanceMethod yX9_hits ∈ zf_T := zf_ti (zf_it4 (List.mem_of_getElem? (i := 219) rfl)) rfl
theorem zf_m489 : Cond.selects RX9 yX9_hits yX9_hits ∈ zf_T := zf_ti (zf_wS (List.mem_of_getElem? (i := 34) rfl)) rfl
theorem zf_m490 : Cond.code yX9_hits cX9_hits 7 none ∈ zf_T := zf_ti (zf_it4 (List.mem_of_getElem? (i := 220) rfl)) rfl
theorem zf_m491 : Cond.methodLink RX9 151 yX9_target ∈ zf_T := zf_ti (zf_it4 (List.mem_of_getElem? (i := 221) rfl)) rfl
theorem zf_m492 : Cond.instanceMethod yX9_target ∈ zf_T := zf_ti (zf_it4 (List.mem_of_getElem? (i := 223) rfl)) rfl
theorem zf_m493 : Cond.selects RX9 yX9_target yX9_target ∈ zf_T := zf_ti (zf_wS (List.mem_of_getElem? (i := 35) rfl)) rfl
theorem zf_m494 : Cond.code yX9_target cX9_target 5 (some .int) ∈ zf_T := zf_ti (zf_it4 (List.mem_of_getElem? (i := 224) rfl)) rfl
theorem zf_m495 : Cond.methodLink RX9 155 yX9_hurts ∈ zf_T := zf_ti (zf_it4 (List.mem_of_getElem? (i := 225) rfl)) rfl
theorem zf_m496 : Cond.instanceMethod yX9_hurts ∈ zf_T := zf_ti (zf_it4 (List.mem_of_getElem? (i := 227) rfl)) rfl
theorem zf_m497 : Cond.selects RX9 yX9_hurts yX9_hurts ∈ zf_T := zf_ti (zf_wS (List.mem_of_getElem? (i := 36) rfl)) rfl
theorem zf_m498 : Cond.code yX9_hurts cX9_hurts 3 none ∈ zf_T := zf_ti (zf_it4 (List.mem_of_getElem? (i := 228) rfl)) rfl
theorem zf_m499 : Cond.methodLink RX9 224 yX9_no ∈ zf_T := zf_ti (zf_it4 (List.mem_of_getElem? (i := 229) rfl)) rfl
theorem zf_m500 : Cond.static yX9_no ∈ zf_T := zf_ti (zf_it4 (List.mem_of_getElem? (i := 230) rfl)) rfl
theorem zf_m501 : Cond.code yX9_no cX9_no 1 (some .long) ∈ zf_T := zf_ti (zf_it4 (List.mem_of_getElem? (i := 231) rfl)) rfl
theorem zf_m502 : Cond.constantLong RX9 103 (-9223372036854775808) ∈ zf_T := zf_ti (zf_it4 (List.mem_of_getElem? (i := 232) rfl)) rfl
theorem zf_m503 : Cond.methodLink RL 51 yX8_ways ∈ zf_T := zf_ti (zf_it3 (List.mem_of_getElem? (i := 7) rfl)) rfl
theorem zf_m504 : Cond.instanceMethod yX8_ways ∈ zf_T := zf_ti (zf_it3 (List.mem_of_getElem? (i := 8) rfl)) rfl
theorem zf_m505 : Cond.selects RX8 yX8_ways yX8_ways ∈ zf_T := zf_ti (zf_it3 (List.mem_of_getElem? (i := 9) rfl)) rfl
theorem zf_m506 : Cond.code yX8_ways cX8_ways 2 (some .long) ∈ zf_T := zf_ti (zf_it3 (List.mem_of_getElem? (i := 10) rfl)) rfl
theorem zf_m507 : Cond.fieldLink RX8 131 "FairFight$Odds" "byEnd" "[J" ∈ zf_T := zf_ti (zf_it1 (List.mem_of_getElem? (i := 122) rfl)) rfl
theorem zf_m508 : Cond.methodLink RL 55 yX9_ways ∈ zf_T := zf_ti (zf_it4 (List.mem_of_getElem? (i := 233) rfl)) rfl
theorem zf_m509 : Cond.instanceMethod yX9_ways ∈ zf_T := zf_ti (zf_it4 (List.mem_of_getElem? (i := 234) rfl)) rfl
theorem zf_m510 : Cond.selects RX9 yX9_ways yX9_ways ∈ zf_T := zf_ti (zf_it4 (List.mem_of_getElem? (i := 235) rfl)) rfl
theorem zf_m511 : Cond.code yX9_ways cX9_ways 2 (some .long) ∈ zf_T := zf_ti (zf_it4 (List.mem_of_getElem? (i := 236) rfl)) rfl
theorem zf_m512 : Cond.methodLink RL 56 yX8_chance ∈ zf_T := zf_ti (zf_it3 (List.mem_of_getElem? (i := 11) rfl)) rfl
theorem zf_m513 : Cond.instanceMethod yX8_chance ∈ zf_T := zf_ti (zf_it3 (List.mem_of_getElem? (i := 12) rfl)) rfl
theorem zf_m514 : Cond.selects RX8 yX8_chance yX8_chance ∈ zf_T := zf_ti (zf_it3 (List.mem_of_getElem? (i := 13) rfl)) rfl
theorem zf_m515 : Cond.code yX8_chance cX8_chance 1 (some .int) ∈ zf_T := zf_ti (zf_it3 (List.mem_of_getElem? (i := 14) rfl)) rfl
theorem zf_m516 : Cond.methodLink RX8 135 yX4_perMillion ∈ zf_T := zf_ti (zf_it3 (List.mem_of_getElem? (i := 15) rfl)) rfl
theorem zf_m517 : Cond.instanceMethod yX4_perMillion ∈ zf_T := zf_ti (zf_it3 (List.mem_of_getElem? (i := 16) rfl)) rfl
theorem zf_m518 : Cond.selects RX4 yX4_perMillion yX4_perMillion ∈ zf_T := zf_ti (zf_it3 (List.mem_of_getElem? (i := 17) rfl)) rfl
theorem zf_m519 : Cond.code yX4_perMillion cX4_perMillion 6 (some .int) ∈ zf_T := zf_ti (zf_it3 (List.mem_of_getElem? (i := 18) rfl)) rfl
theorem zf_m520 : Cond.constantLong RX4 90 (10) ∈ zf_T := zf_ti (zf_it3 (List.mem_of_getElem? (i := 19) rfl)) rfl
theorem zf_m521 : Cond.methodLink RL 59 yX9_chance ∈ zf_T := zf_ti (zf_it4 (List.mem_of_getElem? (i := 237) rfl)) rfl
theorem zf_m522 : Cond.instanceMethod yX9_chance ∈ zf_T := zf_ti (zf_it4 (List.mem_of_getElem? (i := 238) rfl)) rfl
theorem zf_m523 : Cond.selects RX9 yX9_chance yX9_chance ∈ zf_T := zf_ti (zf_it4 (List.mem_of_getElem? (i := 239) rfl)) rfl
theorem zf_m524 : Cond.code yX9_chance cX9_chance 1 (some .int) ∈ zf_T := zf_ti (zf_it5 (List.mem_of_getElem? (i := 0) rfl)) rfl
theorem zf_m525 : Cond.methodLink RX9 228 yX9_chanceOf ∈ zf_T := zf_ti (zf_it5 (List.mem_of_getElem? (i := 1) rfl)) rfl
theorem zf_m526 : Cond.instanceMethod yX9_chanceOf ∈ zf_T := zf_ti (zf_it5 (List.mem_of_getElem? (i := 3) rfl)) rfl
theorem zf_m527 : Cond.selects RX9 yX9_chanceOf yX9_chanceOf ∈ zf_T := zf_ti (zf_wS (List.mem_of_getElem? (i := 37) rfl)) rfl
theorem zf_m528 : Cond.code yX9_chanceOf cX9_chanceOf 8 (some .int) ∈ zf_T := zf_ti (zf_it5 (List.mem_of_getElem? (i := 4) rfl)) rfl
theorem zf_m529 : Cond.constantLong RX9 219 (10) ∈ zf_T := zf_ti (zf_it5 (List.mem_of_getElem? (i := 5) rfl)) rfl
theorem zf_m530 : Cond.methodLink RL 60 yX8_left ∈ zf_T := zf_ti (zf_it3 (List.mem_of_getElem? (i := 20) rfl)) rfl
theorem zf_m531 : Cond.instanceMethod yX8_left ∈ zf_T := zf_ti (zf_it3 (List.mem_of_getElem? (i := 21) rfl)) rfl
theorem zf_m532 : Cond.selects RX8 yX8_left yX8_left ∈ zf_T := zf_ti (zf_it3 (List.mem_of_getElem? (i := 22) rfl)) rfl
theorem zf_m533 : Cond.code yX8_left cX8_left 6 (some .long) ∈ zf_T := zf_ti (zf_it3 (List.mem_of_getElem? (i := 23) rfl)) rfl
theorem zf_m534 : Cond.methodLink RX8 142 yX4_waysLeft ∈ zf_T := zf_ti (zf_it3 (List.mem_of_getElem? (i := 24) rfl)) rfl
theorem zf_m535 : Cond.instanceMethod yX4_waysLeft ∈ zf_T := zf_ti (zf_it3 (List.mem_of_getElem? (i := 25) rfl)) rfl
theorem zf_m536 : Cond.selects RX4 yX4_waysLeft yX4_waysLeft ∈ zf_T := zf_ti (zf_it3 (List.mem_of_getElem? (i := 26) rfl)) rfl
theorem zf_m537 : Cond.code yX4_waysLeft cX4_waysLeft 5 (some .long) ∈ zf_T := zf_ti (zf_it3 (List.mem_of_getElem? (i := 27) rfl)) rfl
theorem zf_m538 : Cond.methodLink RL 64 yX9_left ∈ zf_T := zf_ti (zf_it5 (List.mem_of_getElem? (i := 6) rfl)) rfl
theorem zf_m539 : Cond.instanceMethod yX9_left ∈ zf_T := zf_ti (zf_it5 (List.mem_of_getElem? (i := 7) rfl)) rfl
theorem zf_m540 : Cond.selects RX9 yX9_left yX9_left ∈ zf_T := zf_ti (zf_it5 (List.mem_of_getElem? (i := 8) rfl)) rfl
theorem zf_m541 : Cond.code yX9_left cX9_left 5 (some .long) ∈ zf_T := zf_ti (zf_it5 (List.mem_of_getElem? (i := 9) rfl)) rfl
theorem zf_m542 : Cond.methodLink RL 65 yX8_states ∈ zf_T := zf_ti (zf_it3 (List.mem_of_getElem? (i := 28) rfl)) rfl
theorem zf_m543 : Cond.instanceMethod yX8_states ∈ zf_T := zf_ti (zf_it3 (List.mem_of_getElem? (i := 29) rfl)) rfl
theorem zf_m544 : Cond.selects RX8 yX8_states yX8_states ∈ zf_T := zf_ti (zf_it3 (List.mem_of_getElem? (i := 30) rfl)) rfl
theorem zf_m545 : Cond.code yX8_states cX8_states 1 (some .int) ∈ zf_T := zf_ti (zf_it3 (List.mem_of_getElem? (i := 31) rfl)) rfl
theorem zf_m546 : Cond.fieldLink RX8 146 "FairFight$Odds" "widest" "I" ∈ zf_T := zf_ti (zf_it1 (List.mem_of_getElem? (i := 120) rfl)) rfl
theorem zf_m547 : Cond.methodLink RL 68 yX9_states ∈ zf_T := zf_ti (zf_it5 (List.mem_of_getElem? (i := 10) rfl)) rfl
theorem zf_m548 : Cond.instanceMethod yX9_states ∈ zf_T := zf_ti (zf_it5 (List.mem_of_getElem? (i := 11) rfl)) rfl
theorem zf_m549 : Cond.selects RX9 yX9_states yX9_states ∈ zf_T := zf_ti (zf_it5 (List.mem_of_getElem? (i := 12) rfl)) rfl
theorem zf_m550 : Cond.code yX9_states cX9_states 1 (some .int) ∈ zf_T := zf_ti (zf_it5 (List.mem_of_getElem? (i := 13) rfl)) rfl
theorem zf_m551 : Cond.methodLink RL 69 yX8_ends ∈ zf_T := zf_ti (zf_it3 (List.mem_of_getElem? (i := 32) rfl)) rfl
theorem zf_m552 : Cond.instanceMethod yX8_ends ∈ zf_T := zf_ti (zf_it3 (List.mem_of_getElem? (i := 33) rfl)) rfl
theorem zf_m553 : Cond.selects RX8 yX8_ends yX8_ends ∈ zf_T := zf_ti (zf_it3 (List.mem_of_getElem? (i := 34) rfl)) rfl
theorem zf_m554 : Cond.code yX8_ends cX8_ends 2 (some .long) ∈ zf_T := zf_ti (zf_it3 (List.mem_of_getElem? (i := 35) rfl)) rfl
theorem zf_m555 : Cond.fieldLink RX8 149 "FairFight$Odds" "byRound" "[J" ∈ zf_T := zf_ti (zf_it1 (List.mem_of_getElem? (i := 124) rfl)) rfl
theorem zf_m556 : Cond.methodLink RL 72 yX9_ends ∈ zf_T := zf_ti (zf_it5 (List.mem_of_getElem? (i := 14) rfl)) rfl
theorem zf_m557 : Cond.instanceMethod yX9_ends ∈ zf_T := zf_ti (zf_it5 (List.mem_of_getElem? (i := 15) rfl)) rfl
theorem zf_m558 : Cond.selects RX9 yX9_ends yX9_ends ∈ zf_T := zf_ti (zf_it5 (List.mem_of_getElem? (i := 16) rfl)) rfl
theorem zf_m559 : Cond.code yX9_ends cX9_ends 2 (some .long) ∈ zf_T := zf_ti (zf_it5 (List.mem_of_getElem? (i := 17) rfl)) rfl
theorem zf_m560 : Cond.methodLink RL 73 yX8_better ∈ zf_T := zf_ti (zf_it3 (List.mem_of_getElem? (i := 36) rfl)) rfl
theorem zf_m561 : Cond.instanceMethod yX8_better ∈ zf_T := zf_ti (zf_it3 (List.mem_of_getElem? (i := 37) rfl)) rfl
theorem zf_m562 : Cond.selects RX8 yX8_better yX8_better ∈ zf_T := zf_ti (zf_it3 (List.mem_of_getElem? (i := 38) rfl)) rfl
theorem zf_m563 : Cond.code yX8_better cX8_better 6 (some .int) ∈ zf_T := zf_ti (zf_it3 (List.mem_of_getElem? (i := 39) rfl)) rfl
theorem zf_m564 : Cond.constant RX8 152 (-2147483648) ∈ zf_T := zf_ti (zf_it3 (List.mem_of_getElem? (i := 40) rfl)) rfl
theorem zf_m565 : Cond.constant RX8 156 (-2147483647) ∈ zf_T := zf_ti (zf_it3 (List.mem_of_getElem? (i := 42) rfl)) rfl
theorem zf_m566 : Cond.methodLink RX8 153 yX8_chance ∈ zf_T := zf_ti (zf_it3 (List.mem_of_getElem? (i := 41) rfl)) rfl
theorem zf_m567 : Cond.methodLink RL 76 yX9_better ∈ zf_T := zf_ti (zf_it5 (List.mem_of_getElem? (i := 18) rfl)) rfl
theorem zf_m568 : Cond.instanceMethod yX9_better ∈ zf_T := zf_ti (zf_it5 (List.mem_of_getElem? (i := 19) rfl)) rfl
theorem zf_m569 : Cond.selects RX9 yX9_better yX9_better ∈ zf_T := zf_ti (zf_it5 (List.mem_of_getElem? (i := 20) rfl)) rfl
theorem zf_m570 : Cond.code yX9_better cX9_better 5 (some .int) ∈ zf_T := zf_ti (zf_it5 (List.mem_of_getElem? (i := 21) rfl)) rfl
theorem zf_m571 : Cond.constant RX9 231 (-2147483648) ∈ zf_T := zf_ti (zf_it5 (List.mem_of_getElem? (i := 22) rfl)) rfl
theorem zf_m572 : Cond.constant RX9 235 (-2147483647) ∈ zf_T := zf_ti (zf_it5 (List.mem_of_getElem? (i := 24) rfl)) rfl
theorem zf_m573 : Cond.methodLink RX9 232 yX9_chance ∈ zf_T := zf_ti (zf_it5 (List.mem_of_getElem? (i := 23) rfl)) rfl
theorem zf_m574 : Cond.methodLink RL 77 yX8_without ∈ zf_T := zf_ti (zf_it3 (List.mem_of_getElem? (i := 43) rfl)) rfl
theorem zf_m575 : Cond.instanceMethod yX8_without ∈ zf_T := zf_ti (zf_it3 (List.mem_of_getElem? (i := 44) rfl)) rfl
theorem zf_m576 : Cond.selects RX8 yX8_without yX8_without ∈ zf_T := zf_ti (zf_it3 (List.mem_of_getElem? (i := 45) rfl)) rfl
theorem zf_m577 : Cond.code yX8_without cX8_without 2 (some .int) ∈ zf_T := zf_ti (zf_it3 (List.mem_of_getElem? (i := 46) rfl)) rfl
theorem zf_m578 : Cond.methodLink RL 81 yX9_without ∈ zf_T := zf_ti (zf_it5 (List.mem_of_getElem? (i := 25) rfl)) rfl
theorem zf_m579 : Cond.instanceMethod yX9_without ∈ zf_T := zf_ti (zf_it5 (List.mem_of_getElem? (i := 26) rfl)) rfl
theorem zf_m580 : Cond.selects RX9 yX9_without yX9_without ∈ zf_T := zf_ti (zf_it5 (List.mem_of_getElem? (i := 27) rfl)) rfl
theorem zf_m581 : Cond.code yX9_without cX9_without 3 (some .int) ∈ zf_T := zf_ti (zf_it5 (List.mem_of_getElem? (i := 28) rfl)) rfl
theorem zf_m582 : Cond.methodLink RL 82 yX8_surprised ∈ zf_T := zf_ti (zf_it3 (List.mem_of_getElem? (i := 47) rfl)) rfl
theorem zf_m583 : Cond.instanceMethod yX8_surprised ∈ zf_T := zf_ti (zf_it3 (List.mem_of_getElem? (i := 48) rfl)) rfl
theorem zf_m584 : Cond.selects RX8 yX8_surprised yX8_surprised ∈ zf_T := zf_ti (zf_it3 (List.mem_of_getElem? (i := 49) rfl)) rfl
theorem zf_m585 : Cond.code yX8_surprised cX8_surprised 2 (some .int) ∈ zf_T := zf_ti (zf_it3 (List.mem_of_getElem? (i := 50) rfl)) rfl
theorem zf_m586 : Cond.methodLink RL 85 yX9_surprised ∈ zf_T := zf_ti (zf_it5 (List.mem_of_getElem? (i := 29) rfl)) rfl
theorem zf_m587 : Cond.instanceMethod yX9_surprised ∈ zf_T := zf_ti (zf_it5 (List.mem_of_getElem? (i := 30) rfl)) rfl
theorem zf_m588 : Cond.selects RX9 yX9_surprised yX9_surprised ∈ zf_T := zf_ti (zf_it5 (List.mem_of_getElem? (i := 31) rfl)) rfl
theorem zf_m589 : Cond.code yX9_surprised cX9_surprised 2 (some .int) ∈ zf_T := zf_ti (zf_it5 (List.mem_of_getElem? (i := 32) rfl)) rfl
theorem zf_m590 : Cond.methodLink RL 86 yX8_fight ∈ zf_T := zf_ti (zf_it3 (List.mem_of_getElem? (i := 51) rfl)) rfl
theorem zf_m591 : Cond.instanceMethod yX8_fight ∈ zf_T := zf_ti (zf_it3 (List.mem_of_getElem? (i := 52) rfl)) rfl
theorem zf_m592 : Cond.selects RX8 yX8_fight yX8_fight ∈ zf_T := zf_ti (zf_it3 (List.mem_of_getElem? (i := 53) rfl)) rfl
theorem zf_m593 : Cond.code yX8_fight cX8_fight 5 (some .int) ∈ zf_T := zf_ti (zf_it3 (List.mem_of_getElem? (i := 54) rfl)) rfl
theorem zf_m594 : Cond.fieldLink RX8 172 "FairFight$Day" "size" "I" ∈ zf_T := zf_ti (zf_it1 (List.mem_of_getElem? (i := 173) rfl)) rfl
theorem zf_m595 : Cond.fieldLink RX8 173 "FairFight$Day" "foes" "[LFairFight$Row;" ∈ zf_T := zf_ti (zf_it1 (List.mem_of_getElem? (i := 167) rfl)) rfl
theorem zf_m596 : Cond.methodLink RL 89 yX9_fight ∈ zf_T := zf_ti (zf_it5 (List.mem_of_getElem? (i := 33) rfl)) rfl
theorem zf_m597 : Cond.instanceMethod yX9_fight ∈ zf_T := zf_ti (zf_it5 (List.mem_of_getElem? (i := 34) rfl)) rfl
theorem zf_m598 : Cond.selects RX9 yX9_fight yX9_fight ∈ zf_T := zf_ti (zf_it5 (List.mem_of_getElem? (i := 35) rfl)) rfl
theorem zf_m599 : Cond.code yX9_fight cX9_fight 4 (some .int) ∈ zf_T := zf_ti (zf_it5 (List.mem_of_getElem? (i := 36) rfl)) rfl
theorem zf_m600 : Cond.fieldLink RX9 236 "FairFightModel" "fights" "I" ∈ zf_T := zf_ti (zf_it4 (List.mem_of_getElem? (i := 6) rfl)) rfl
theorem zf_m601 : Cond.methodLink RL 90 yX8_rest ∈ zf_T := zf_ti (zf_it3 (List.mem_of_getElem? (i := 55) rfl)) rfl
theorem zf_m602 : Cond.instanceMethod yX8_rest ∈ zf_T := zf_ti (zf_it3 (List.mem_of_getElem? (i := 56) rfl)) rfl
theorem zf_m603 : Cond.selects RX8 yX8_rest yX8_rest ∈ zf_T := zf_ti (zf_it3 (List.mem_of_getElem? (i := 57) rfl)) rfl
theorem zf_m604 : Cond.code yX8_rest cX8_rest 2 (some .int) ∈ zf_T := zf_ti (zf_it3 (List.mem_of_getElem? (i := 58) rfl)) rfl
theorem zf_m605 : Cond.methodLink RL 93 yX9_rest ∈ zf_T := zf_ti (zf_it5 (List.mem_of_getElem? (i := 37) rfl)) rfl
theorem zf_m606 : Cond.instanceMethod yX9_rest ∈ zf_T := zf_ti (zf_it5 (List.mem_of_getElem? (i := 38) rfl)) rfl
theorem zf_m607 : Cond.selects RX9 yX9_rest yX9_rest ∈ zf_T := zf_ti (zf_it5 (List.mem_of_getElem? (i := 39) rfl)) rfl
theorem zf_m608 : Cond.code yX9_rest cX9_rest 2 (some .int) ∈ zf_T := zf_ti (zf_it5 (List.mem_of_getElem? (i := 40) rfl)) rfl
theorem zf_m609 : Cond.methodLink RL 94 yX8_purse ∈ zf_T := zf_ti (zf_it3 (List.mem_of_getElem? (i := 59) rfl)) rfl
theorem zf_m610 : Cond.instanceMethod yX8_purse ∈ zf_T := zf_ti (zf_it3 (List.mem_of_getElem? (i := 60) rfl)) rfl
theorem zf_m611 : Cond.selects RX8 yX8_purse yX8_purse ∈ zf_T := zf_ti (zf_it3 (List.mem_of_getElem? (i := 61) rfl)) rfl
theorem zf_m612 : Cond.code yX8_purse cX8_purse 3 (some .int) ∈ zf_T := zf_ti (zf_it3 (List.mem_of_getElem? (i := 62) rfl)) rfl
theorem zf_m613 : Cond.fieldLink RX8 176 "FairFight$Day" "purse" "I" ∈ zf_T := zf_ti (zf_it1 (List.mem_of_getElem? (i := 175) rfl)) rfl
theorem zf_m614 : Cond.fieldLink RX8 179 "FairFight$Day" "bonus" "I" ∈ zf_T := zf_ti (zf_it1 (List.mem_of_getElem? (i := 177) rfl)) rfl
theorem zf_m615 : Cond.methodLink RL 97 yX9_purse ∈ zf_T := zf_ti (zf_it5 (List.mem_of_getElem? (i := 41) rfl)) rfl
theorem zf_m616 : Cond.instanceMethod yX9_purse ∈ zf_T := zf_ti (zf_it5 (List.mem_of_getElem? (i := 42) rfl)) rfl
theorem zf_m617 : Cond.selects RX9 yX9_purse yX9_purse ∈ zf_T := zf_ti (zf_it5 (List.mem_of_getElem? (i := 43) rfl)) rfl
theorem zf_m618 : Cond.code yX9_purse cX9_purse 3 (some .int) ∈ zf_T := zf_ti (zf_it5 (List.mem_of_getElem? (i := 44) rfl)) rfl
theorem zf_m619 : Cond.methodLink RL 98 yX8_day ∈ zf_T := zf_ti (zf_it3 (List.mem_of_getElem? (i := 63) rfl)) rfl
theorem zf_m620 : Cond.instanceMethod yX8_day ∈ zf_T := zf_ti (zf_it3 (List.mem_of_getElem? (i := 64) rfl)) rfl
theorem zf_m621 : Cond.selects RX8 yX8_day yX8_day ∈ zf_T := zf_ti (zf_it3 (List.mem_of_getElem? (i := 65) rfl)) rfl
theorem zf_m622 : Cond.code yX8_day cX8_day 2 (some .int) ∈ zf_T := zf_ti (zf_it3 (List.mem_of_getElem? (i := 66) rfl)) rfl
theorem zf_m623 : Cond.methodLink RX8 182 yX8_reckonDay ∈ zf_T := zf_ti (zf_it3 (List.mem_of_getElem? (i := 67) rfl)) rfl
theorem zf_m624 : Cond.instanceMethod yX8_reckonDay ∈ zf_T := zf_ti (zf_it3 (List.mem_of_getElem? (i := 69) rfl)) rfl
theorem zf_m625 : Cond.selects RX8 yX8_reckonDay yX8_reckonDay ∈ zf_T := zf_ti (zf_wS (List.mem_of_getElem? (i := 14) rfl)) rfl
theorem zf_m626 : Cond.code yX8_reckonDay cX8_reckonDay 2 (some .int) ∈ zf_T := zf_ti (zf_it3 (List.mem_of_getElem? (i := 70) rfl)) rfl
theorem zf_m627 : Cond.fieldLink RX8 292 "FairFight$Day" "plain" "[I" ∈ zf_T := zf_ti (zf_it1 (List.mem_of_getElem? (i := 169) rfl)) rfl
theorem zf_m628 : Cond.fieldLink RX8 295 "FairFight$Day" "aided" "[I" ∈ zf_T := zf_ti (zf_it1 (List.mem_of_getElem? (i := 171) rfl)) rfl
theorem zf_m629 : Cond.methodLink RX8 191 yX8_chanceAgainst ∈ zf_T := zf_ti (zf_it3 (List.mem_of_getElem? (i := 71) rfl)) rfl
theorem zf_m630 : Cond.instanceMethod yX8_chanceAgainst ∈ zf_T := zf_ti (zf_it3 (List.mem_of_getElem? (i := 73) rfl)) rfl
theorem zf_m631 : Cond.selects RX8 yX8_chanceAgainst yX8_chanceAgainst ∈ zf_T := zf_ti (zf_wS (List.mem_of_getElem? (i := 15) rfl)) rfl
theorem zf_m632 : Cond.code yX8_chanceAgainst cX8_chanceAgainst 3 (some .int) ∈ zf_T := zf_ti (zf_it3 (List.mem_of_getElem? (i := 74) rfl)) rfl
theorem zf_m633 : Cond.methodLink RX8 185 yX1_bestUse ∈ zf_T := zf_ti (zf_it3 (List.mem_of_getElem? (i := 75) rfl)) rfl
theorem zf_m634 : Cond.instanceMethod yX1_bestUse ∈ zf_T := zf_ti (zf_it3 (List.mem_of_getElem? (i := 76) rfl)) rfl
theorem zf_m635 : Cond.selects RX1 yX1_bestUse yX1_bestUse ∈ zf_T := zf_ti (zf_it3 (List.mem_of_getElem? (i := 77) rfl)) rfl
theorem zf_m636 : Cond.code yX1_bestUse cX1_bestUse 6 (some .int) ∈ zf_T := zf_ti (zf_it3 (List.mem_of_getElem? (i := 78) rfl)) rfl
theorem zf_m637 : Cond.methodLink RX1 35 yX1_sumOf ∈ zf_T := zf_ti (zf_it3 (List.mem_of_getElem? (i := 79) rfl)) rfl
theorem zf_m638 : Cond.instanceMethod yX1_sumOf ∈ zf_T := zf_ti (zf_it3 (List.mem_of_getElem? (i := 80) rfl)) rfl
theorem zf_m639 : Cond.selects RX1 yX1_sumOf yX1_sumOf ∈ zf_T := zf_ti (zf_it3 (List.mem_of_getElem? (i := 81) rfl)) rfl
theorem zf_m640 : Cond.code yX1_sumOf cX1_sumOf 4 (some .int) ∈ zf_T := zf_ti (zf_it3 (List.mem_of_getElem? (i := 82) rfl)) rfl
theorem zf_m641 : Cond.methodLink RX1 39 yJ6_bitCount_0f7a4 ∈ zf_T := zf_ti (zf_it3 (List.mem_of_getElem? (i := 83) rfl)) rfl
theorem zf_m642 : Cond.static yJ6_bitCount_0f7a4 ∈ zf_T := zf_ti (zf_it3 (List.mem_of_getElem? (i := 84) rfl)) rfl
theorem zf_m643 : Cond.initialized RJ6 ∈ zf_T := zf_ti (zf_it1 (List.mem_of_getElem? (i := 12) rfl)) rfl
theorem zf_m644 : Cond.code yJ6_bitCount_0f7a4 cJ6_bitCount_0f7a4 1 (some .int) ∈ zf_T := zf_ti (zf_it3 (List.mem_of_getElem? (i := 85) rfl)) rfl
theorem zf_m645 : Cond.constant RJ6 265 (1431655765) ∈ zf_T := zf_ti (zf_it3 (List.mem_of_getElem? (i := 86) rfl)) rfl
theorem zf_m646 : Cond.constant RJ6 266 (858993459) ∈ zf_T := zf_ti (zf_it3 (List.mem_of_getElem? (i := 87) rfl)) rfl
theorem zf_m647 : Cond.constant RJ6 267 (252645135) ∈ zf_T := zf_ti (zf_it3 (List.mem_of_getElem? (i := 88) rfl)) rfl
theorem zf_m648 : Cond.methodLink RX8 188 yX1_sumOf ∈ zf_T := zf_ti (zf_it3 (List.mem_of_getElem? (i := 89) rfl)) rfl
theorem zf_m649 : Cond.methodLink RL 101 yX9_day ∈ zf_T := zf_ti (zf_it5 (List.mem_of_getElem? (i := 45) rfl)) rfl
theorem zf_m650 : Cond.instanceMethod yX9_day ∈ zf_T := zf_ti (zf_it5 (List.mem_of_getElem? (i := 46) rfl)) rfl
theorem zf_m651 : Cond.selects RX9 yX9_day yX9_day ∈ zf_T := zf_ti (zf_it5 (List.mem_of_getElem? (i := 47) rfl)) rfl
theorem zf_m652 : Cond.code yX9_day cX9_day 1 (some .int) ∈ zf_T := zf_ti (zf_it5 (List.mem_of_getElem? (i := 48) rfl)) rfl
theorem zf_m653 : Cond.methodLink RX9 245 yX9_findUse ∈ zf_T := zf_ti (zf_it5 (List.mem_of_getElem? (i := 49) rfl)) rfl
theorem zf_m654 : Cond.instanceMethod yX9_findUse ∈ zf_T := zf_ti (zf_it5 (List.mem_of_getElem? (i := 51) rfl)) rfl
theorem zf_m655 : Cond.selects RX9 yX9_findUse yX9_findUse ∈ zf_T := zf_ti (zf_wS (List.mem_of_getElem? (i := 38) rfl)) rfl
theorem zf_m656 : Cond.code yX9_findUse cX9_findUse 8 (some .int) ∈ zf_T := zf_ti (zf_it5 (List.mem_of_getElem? (i := 52) rfl)) rfl
theorem zf_m657 : Cond.fieldLink RX9 242 "FairFightModel" "bestUse" "I" ∈ zf_T := zf_ti (zf_it4 (List.mem_of_getElem? (i := 11) rfl)) rfl
theorem zf_m658 : Cond.methodLink RX9 239 yX9_oddsOf ∈ zf_T := zf_ti (zf_it5 (List.mem_of_getElem? (i := 53) rfl)) rfl
theorem zf_m659 : Cond.instanceMethod yX9_oddsOf ∈ zf_T := zf_ti (zf_it5 (List.mem_of_getElem? (i := 55) rfl)) rfl
theorem zf_m660 : Cond.selects RX9 yX9_oddsOf yX9_oddsOf ∈ zf_T := zf_ti (zf_wS (List.mem_of_getElem? (i := 39) rfl)) rfl
theorem zf_m661 : Cond.code yX9_oddsOf cX9_oddsOf 4 (some .int) ∈ zf_T := zf_ti (zf_it5 (List.mem_of_getElem? (i := 56) rfl)) rfl
theorem zf_m662 : Cond.methodLink RL 102 yX8_use ∈ zf_T := zf_ti (zf_it3 (List.mem_of_getElem? (i := 90) rfl)) rfl
theorem zf_m663 : Cond.instanceMethod yX8_use ∈ zf_T := zf_ti (zf_it3 (List.mem_of_getElem? (i := 91) rfl)) rfl
theorem zf_m664 : Cond.selects RX8 yX8_use yX8_use ∈ zf_T := zf_ti (zf_it3 (List.mem_of_getElem? (i := 92) rfl)) rfl
theorem zf_m665 : Cond.code yX8_use cX8_use 2 (some .int) ∈ zf_T := zf_ti (zf_it3 (List.mem_of_getElem? (i := 93) rfl)) rfl
theorem zf_m666 : Cond.methodLink RL 105 yX9_use ∈ zf_T := zf_ti (zf_it5 (List.mem_of_getElem? (i := 57) rfl)) rfl
theorem zf_m667 : Cond.instanceMethod yX9_use ∈ zf_T := zf_ti (zf_it5 (List.mem_of_getElem? (i := 58) rfl)) rfl
theorem zf_m668 : Cond.selects RX9 yX9_use yX9_use ∈ zf_T := zf_ti (zf_it5 (List.mem_of_getElem? (i := 59) rfl)) rfl
theorem zf_m669 : Cond.code yX9_use cX9_use 2 (some .int) ∈ zf_T := zf_ti (zf_it5 (List.mem_of_getElem? (i := 60) rfl)) rfl
theorem zf_m670 : Cond.methodLink RL 106 yX8_odds ∈ zf_T := zf_ti (zf_it3 (List.mem_of_getElem? (i := 94) rfl)) rfl
theorem zf_m671 : Cond.instanceMethod yX8_odds ∈ zf_T := zf_ti (zf_it3 (List.mem_of_getElem? (i := 95) rfl)) rfl
theorem zf_m672 : Cond.selects RX8 yX8_odds yX8_odds ∈ zf_T := zf_ti (zf_it3 (List.mem_of_getElem? (i := 96) rfl)) rfl
theorem zf_m673 : Cond.code yX8_odds cX8_odds 3 (some .int) ∈ zf_T := zf_ti (zf_it3 (List.mem_of_getElem? (i := 97) rfl)) rfl
theorem zf_m674 : Cond.methodLink RL 109 yX9_odds ∈ zf_T := zf_ti (zf_it5 (List.mem_of_getElem? (i := 61) rfl)) rfl
theorem zf_m675 : Cond.instanceMethod yX9_odds ∈ zf_T := zf_ti (zf_it5 (List.mem_of_getElem? (i := 62) rfl)) rfl
theorem zf_m676 : Cond.selects RX9 yX9_odds yX9_odds ∈ zf_T := zf_ti (zf_it5 (List.mem_of_getElem? (i := 63) rfl)) rfl
theorem zf_m677 : Cond.code yX9_odds cX9_odds 3 (some .int) ∈ zf_T := zf_ti (zf_it5 (List.mem_of_getElem? (i := 64) rfl)) rfl
theorem zf_m678 : Cond.methodLink RL 110 yX8_wish ∈ zf_T := zf_ti (zf_it3 (List.mem_of_getElem? (i := 98) rfl)) rfl
theorem zf_m679 : Cond.instanceMethod yX8_wish ∈ zf_T := zf_ti (zf_it3 (List.mem_of_getElem? (i := 99) rfl)) rfl
theorem zf_m680 : Cond.selects RX8 yX8_wish yX8_wish ∈ zf_T := zf_ti (zf_it3 (List.mem_of_getElem? (i := 100) rfl)) rfl
theorem zf_m681 : Cond.code yX8_wish cX8_wish 6 (some .int) ∈ zf_T := zf_ti (zf_it3 (List.mem_of_getElem? (i := 101) rfl)) rfl
theorem zf_m682 : Cond.constant RX8 195 (1000000) ∈ zf_T := zf_ti (zf_it3 (List.mem_of_getElem? (i := 102) rfl)) rfl
theorem zf_m683 : Cond.methodLink RX8 196 Lib.Math.min.name ∈ zf_T := zf_ti (zf_it3 (List.mem_of_getElem? (i := 103) rfl)) rfl
theorem zf_m684 : Cond.methodLink RX8 201 yX8_tryBand ∈ zf_T := zf_ti (zf_it3 (List.mem_of_getElem? (i := 104) rfl)) rfl
theorem zf_m685 : Cond.instanceMethod yX8_tryBand ∈ zf_T := zf_ti (zf_it3 (List.mem_of_getElem? (i := 106) rfl)) rfl
theorem zf_m686 : Cond.selects RX8 yX8_tryBand yX8_tryBand ∈ zf_T := zf_ti (zf_wS (List.mem_of_getElem? (i := 16) rfl)) rfl
theorem zf_m687 : Cond.code yX8_tryBand cX8_tryBand 6 none ∈ zf_T := zf_ti (zf_it3 (List.mem_of_getElem? (i := 107) rfl)) rfl
theorem zf_m688 : Cond.methodLink RL 113 yX9_wish ∈ zf_T := zf_ti (zf_it5 (List.mem_of_getElem? (i := 65) rfl)) rfl
theorem zf_m689 : Cond.instanceMethod yX9_wish ∈ zf_T := zf_ti (zf_it5 (List.mem_of_getElem? (i := 66) rfl)) rfl
theorem zf_m690 : Cond.selects RX9 yX9_wish yX9_wish ∈ zf_T := zf_ti (zf_it5 (List.mem_of_getElem? (i := 67) rfl)) rfl
theorem zf_m691 : Cond.code yX9_wish cX9_wish 6 (some .int) ∈ zf_T := zf_ti (zf_it5 (List.mem_of_getElem? (i := 68) rfl)) rfl
theorem zf_m692 : Cond.constantLong RX9 248 (1000000) ∈ zf_T := zf_ti (zf_it5 (List.mem_of_getElem? (i := 69) rfl)) rfl
theorem zf_m693 : Cond.fieldLink RX9 250 "FairFightModel" "bands" "I" ∈ zf_T := zf_ti (zf_it4 (List.mem_of_getElem? (i := 12) rfl)) rfl
theorem zf_m694 : Cond.methodLink RL 114 yX8_band ∈ zf_T := zf_ti (zf_it3 (List.mem_of_getElem? (i := 108) rfl)) rfl
theorem zf_m695 : Cond.instanceMethod yX8_band ∈ zf_T := zf_ti (zf_it3 (List.mem_of_getElem? (i := 109) rfl)) rfl
theorem zf_m696 : Cond.selects RX8 yX8_band yX8_band ∈ zf_T := zf_ti (zf_it3 (List.mem_of_getElem? (i := 110) rfl)) rfl
theorem zf_m697 : Cond.code yX8_band cX8_band 2 (some .int) ∈ zf_T := zf_ti (zf_it3 (List.mem_of_getElem? (i := 111) rfl)) rfl
theorem zf_m698 : Cond.methodLink RL 117 yX9_band ∈ zf_T := zf_ti (zf_it5 (List.mem_of_getElem? (i := 70) rfl)) rfl
theorem zf_m699 : Cond.instanceMethod yX9_band ∈ zf_T := zf_ti (zf_it5 (List.mem_of_getElem? (i := 71) rfl)) rfl
theorem zf_m700 : Cond.selects RX9 yX9_band yX9_band ∈ zf_T := zf_ti (zf_it5 (List.mem_of_getElem? (i := 72) rfl)) rfl
theorem zf_m701 : Cond.code yX9_band cX9_band 2 (some .int) ∈ zf_T := zf_ti (zf_it5 (List.mem_of_getElem? (i := 73) rfl)) rfl
theorem zf_m702 : Cond.methodLink RL 118 yX8_play ∈ zf_T := zf_ti (zf_it3 (List.mem_of_getElem? (i := 112) rfl)) rfl
theorem zf_m703 : Cond.instanceMethod yX8_play ∈ zf_T := zf_ti (zf_it3 (List.mem_of_getElem? (i := 113) rfl)) rfl
theorem zf_m704 : Cond.selects RX8 yX8_play yX8_play ∈ zf_T := zf_ti (zf_it3 (List.mem_of_getElem? (i := 114) rfl)) rfl
theorem zf_m705 : Cond.code yX8_play cX8_play 2 (some .int) ∈ zf_T := zf_ti (zf_it3 (List.mem_of_getElem? (i := 115) rfl)) rfl
theorem zf_m706 : Cond.fieldLink RX8 207 "FairFight$Sheet" "lost" "Z" ∈ zf_T := zf_ti (zf_it1 (List.mem_of_getElem? (i := 229) rfl)) rfl
theorem zf_m707 : Cond.fieldLink RX8 221 "FairFight$Bout" "end" "I" ∈ zf_T := zf_ti (zf_it1 (List.mem_of_getElem? (i := 198) rfl)) rfl
theorem zf_m708 : Cond.methodLink RX8 204 yX8_isSheet ∈ zf_T := zf_ti (zf_it3 (List.mem_of_getElem? (i := 116) rfl)) rfl
theorem zf_m709 : Cond.static yX8_isSheet ∈ zf_T := zf_ti (zf_it3 (List.mem_of_getElem? (i := 117) rfl)) rfl
theorem zf_m710 : Cond.code yX8_isSheet cX8_isSheet 1 (some .boolean) ∈ zf_T := zf_ti (zf_it3 (List.mem_of_getElem? (i := 118) rfl)) rfl
theorem zf_m711 : Cond.methodLink RX8 211 yX8_found ∈ zf_T := zf_ti (zf_it3 (List.mem_of_getElem? (i := 119) rfl)) rfl
theorem zf_m712 : Cond.instanceMethod yX8_found ∈ zf_T := zf_ti (zf_it3 (List.mem_of_getElem? (i := 121) rfl)) rfl
theorem zf_m713 : Cond.selects RX8 yX8_found yX8_found ∈ zf_T := zf_ti (zf_wS (List.mem_of_getElem? (i := 17) rfl)) rfl
theorem zf_m714 : Cond.code yX8_found cX8_found 2 (some .int) ∈ zf_T := zf_ti (zf_it3 (List.mem_of_getElem? (i := 122) rfl)) rfl
theorem zf_m715 : Cond.methodLink RX8 217 yX0_run ∈ zf_T := zf_ti (zf_it3 (List.mem_of_getElem? (i := 123) rfl)) rfl
theorem zf_m716 : Cond.instanceMethod yX0_run ∈ zf_T := zf_ti (zf_it3 (List.mem_of_getElem? (i := 124) rfl)) rfl
theorem zf_m717 : Cond.selects RX0 yX0_run yX0_run ∈ zf_T := zf_ti (zf_it3 (List.mem_of_getElem? (i := 125) rfl)) rfl
theorem zf_m718 : Cond.code yX0_run cX0_run 12 (some .boolean) ∈ zf_T := zf_ti (zf_it3 (List.mem_of_getElem? (i := 126) rfl)) rfl
theorem zf_m719 : Cond.fieldLink RX0 35 "FairFight$Fray" "rounds" "I" ∈ zf_T := zf_ti (zf_it1 (List.mem_of_getElem? (i := 59) rfl)) rfl
theorem zf_m720 : Cond.fieldLink RX0 38 "FairFight$Fray" "size" "I" ∈ zf_T := zf_ti (zf_it1 (List.mem_of_getElem? (i := 56) rfl)) rfl
theorem zf_m721 : Cond.fieldLink RX0 41 "FairFight$Fray" "order" "[I" ∈ zf_T := zf_ti (zf_it1 (List.mem_of_getElem? (i := 52) rfl)) rfl
theorem zf_m722 : Cond.methodLink RX0 25 yX2_beginning ∈ zf_T := zf_ti (zf_it3 (List.mem_of_getElem? (i := 127) rfl)) rfl
theorem zf_m723 : Cond.methodLink RX0 31 yX2_winner ∈ zf_T := zf_ti (zf_it3 (List.mem_of_getElem? (i := 128) rfl)) rfl
theorem zf_m724 : Cond.methodLink RX0 44 yX2_hasTurn ∈ zf_T := zf_ti (zf_it3 (List.mem_of_getElem? (i := 129) rfl)) rfl
theorem zf_m725 : Cond.methodLink RX0 48 yX2_flees ∈ zf_T := zf_ti (zf_it3 (List.mem_of_getElem? (i := 130) rfl)) rfl
theorem zf_m726 : Cond.methodLink RX0 52 yX2_afterFlight ∈ zf_T := zf_ti (zf_it3 (List.mem_of_getElem? (i := 131) rfl)) rfl
theorem zf_m727 : Cond.methodLink RX0 56 yX7_has ∈ zf_T := zf_ti (zf_it3 (List.mem_of_getElem? (i := 132) rfl)) rfl
theorem zf_m728 : Cond.instanceMethod yX7_has ∈ zf_T := zf_ti (zf_it3 (List.mem_of_getElem? (i := 133) rfl)) rfl
theorem zf_m729 : Cond.selects RX7 yX7_has yX7_has ∈ zf_T := zf_ti (zf_it3 (List.mem_of_getElem? (i := 134) rfl)) rfl
theorem zf_m730 : Cond.code yX7_has cX7_has 2 (some .boolean) ∈ zf_T := zf_ti (zf_it3 (List.mem_of_getElem? (i := 135) rfl)) rfl
theorem zf_m731 : Cond.methodLink RX0 62 yX7_item ∈ zf_T := zf_ti (zf_it3 (List.mem_of_getElem? (i := 136) rfl)) rfl
theorem zf_m732 : Cond.instanceMethod yX7_item ∈ zf_T := zf_ti (zf_it3 (List.mem_of_getElem? (i := 137) rfl)) rfl
theorem zf_m733 : Cond.selects RX7 yX7_item yX7_item ∈ zf_T := zf_ti (zf_it3 (List.mem_of_getElem? (i := 138) rfl)) rfl
theorem zf_m734 : Cond.code yX7_item cX7_item 2 (some .int) ∈ zf_T := zf_ti (zf_it3 (List.mem_of_getElem? (i := 139) rfl)) rfl
theorem zf_m735 : Cond.methodLink RX7 26 yX7_has ∈ zf_T := zf_ti (zf_it3 (List.mem_of_getElem? (i := 140) rfl)) rfl
theorem zf_m736 : Cond.methodLink RX0 66 yX2_hits ∈ zf_T := zf_ti (zf_it3 (List.mem_of_getElem? (i := 141) rfl)) rfl
theorem zf_m737 : Cond.methodLink RX0 69 yX2_afterHit ∈ zf_T := zf_ti (zf_it3 (List.mem_of_getElem? (i := 142) rfl)) rfl
theorem zf_m738 : Cond.methodLink RX0 72 yX0_keepLives ∈ zf_T := zf_ti (zf_it3 (List.mem_of_getElem? (i := 143) rfl)) rfl
theorem zf_m739 : Cond.instanceMethod yX0_keepLives ∈ zf_T := zf_ti (zf_it3 (List.mem_of_getElem? (i := 145) rfl)) rfl
theorem zf_m740 : Cond.selects RX0 yX0_keepLives yX0_keepLives ∈ zf_T := zf_ti (zf_wS (List.mem_of_getElem? (i := 18) rfl)) rfl
theorem zf_m741 : Cond.code yX0_keepLives cX0_keepLives 6 none ∈ zf_T := zf_ti (zf_it3 (List.mem_of_getElem? (i := 146) rfl)) rfl
theorem zf_m742 : Cond.methodLink RX0 76 yX2_part ∈ zf_T := zf_ti (zf_it3 (List.mem_of_getElem? (i := 147) rfl)) rfl
theorem zf_m743 : Cond.methodLink RX0 80 yX2_lifeOf ∈ zf_T := zf_ti (zf_it3 (List.mem_of_getElem? (i := 148) rfl)) rfl
theorem zf_m744 : Cond.methodLink RL 121 yX9_play ∈ zf_T := zf_ti (zf_it5 (List.mem_of_getElem? (i := 74) rfl)) rfl
theorem zf_m745 : Cond.instanceMethod yX9_play ∈ zf_T := zf_ti (zf_it5 (List.mem_of_getElem? (i := 75) rfl)) rfl
theorem zf_m746 : Cond.selects RX9 yX9_play yX9_play ∈ zf_T := zf_ti (zf_it5 (List.mem_of_getElem? (i := 76) rfl)) rfl
theorem zf_m747 : Cond.code yX9_play cX9_play 9 (some .int) ∈ zf_T := zf_ti (zf_it5 (List.mem_of_getElem? (i := 77) rfl)) rfl
theorem zf_m748 : Cond.methodLink RX9 253 yX9_isSheet ∈ zf_T := zf_ti (zf_it5 (List.mem_of_getElem? (i := 78) rfl)) rfl
theorem zf_m749 : Cond.static yX9_isSheet ∈ zf_T := zf_ti (zf_it5 (List.mem_of_getElem? (i := 79) rfl)) rfl
theorem zf_m750 : Cond.code yX9_isSheet cX9_isSheet 1 (some .boolean) ∈ zf_T := zf_ti (zf_it5 (List.mem_of_getElem? (i := 80) rfl)) rfl
theorem zf_m751 : Cond.constantLong RX9 265 (3) ∈ zf_T := zf_ti (zf_it5 (List.mem_of_getElem? (i := 81) rfl)) rfl
theorem zf_m752 : Cond.methodLink RX9 256 yX9_met ∈ zf_T := zf_ti (zf_it5 (List.mem_of_getElem? (i := 82) rfl)) rfl
theorem zf_m753 : Cond.instanceMethod yX9_met ∈ zf_T := zf_ti (zf_it5 (List.mem_of_getElem? (i := 84) rfl)) rfl
theorem zf_m754 : Cond.selects RX9 yX9_met yX9_met ∈ zf_T := zf_ti (zf_wS (List.mem_of_getElem? (i := 40) rfl)) rfl
theorem zf_m755 : Cond.code yX9_met cX9_met 2 (some .int) ∈ zf_T := zf_ti (zf_it5 (List.mem_of_getElem? (i := 85) rfl)) rfl
theorem zf_m756 : Cond.fieldLink RX9 262 "FairFightModel" "latest" "I" ∈ zf_T := zf_ti (zf_it4 (List.mem_of_getElem? (i := 21) rfl)) rfl
theorem zf_m757 : Cond.methodLink RL 122 yX8_played ∈ zf_T := zf_ti (zf_it3 (List.mem_of_getElem? (i := 149) rfl)) rfl
theorem zf_m758 : Cond.instanceMethod yX8_played ∈ zf_T := zf_ti (zf_it3 (List.mem_of_getElem? (i := 150) rfl)) rfl
theorem zf_m759 : Cond.selects RX8 yX8_played yX8_played ∈ zf_T := zf_ti (zf_it3 (List.mem_of_getElem? (i := 151) rfl)) rfl
theorem zf_m760 : Cond.code yX8_played cX8_played 2 (some .int) ∈ zf_T := zf_ti (zf_it3 (List.mem_of_getElem? (i := 152) rfl)) rfl
theorem zf_m761 : Cond.fieldLink RX8 224 "FairFight$Bout" "rolls" "I" ∈ zf_T := zf_ti (zf_it1 (List.mem_of_getElem? (i := 200) rfl)) rfl
theorem zf_m762 : Cond.fieldLink RX8 227 "FairFight$Bout" "round" "I" ∈ zf_T := zf_ti (zf_it1 (List.mem_of_getElem? (i := 202) rfl)) rfl
theorem zf_m763 : Cond.fieldLink RX8 230 "FairFight$Bout" "lives" "[I" ∈ zf_T := zf_ti (zf_it1 (List.mem_of_getElem? (i := 204) rfl)) rfl
theorem zf_m764 : Cond.methodLink RL 125 yX9_played ∈ zf_T := zf_ti (zf_it5 (List.mem_of_getElem? (i := 86) rfl)) rfl
theorem zf_m765 : Cond.instanceMethod yX9_played ∈ zf_T := zf_ti (zf_it5 (List.mem_of_getElem? (i := 87) rfl)) rfl
theorem zf_m766 : Cond.selects RX9 yX9_played yX9_played ∈ zf_T := zf_ti (zf_it5 (List.mem_of_getElem? (i := 88) rfl)) rfl
theorem zf_m767 : Cond.code yX9_played cX9_played 2 (some .int) ∈ zf_T := zf_ti (zf_it5 (List.mem_of_getElem? (i := 89) rfl)) rfl
theorem zf_m768 : Cond.constantLong RX9 260 (15) ∈ zf_T := zf_ti (zf_it5 (List.mem_of_getElem? (i := 90) rfl)) rfl
theorem zf_m769 : Cond.methodLink RL 126 yX8_sheet ∈ zf_T := zf_ti (zf_it3 (List.mem_of_getElem? (i := 153) rfl)) rfl
theorem zf_m770 : Cond.instanceMethod yX8_sheet ∈ zf_T := zf_ti (zf_it3 (List.mem_of_getElem? (i := 154) rfl)) rfl
theorem zf_m771 : Cond.selects RX8 yX8_sheet yX8_sheet ∈ zf_T := zf_ti (zf_it3 (List.mem_of_getElem? (i := 155) rfl)) rfl
theorem zf_m772 : Cond.code yX8_sheet cX8_sheet 4 (some .int) ∈ zf_T := zf_ti (zf_it3 (List.mem_of_getElem? (i := 156) rfl)) rfl
theorem zf_m773 : Cond.methodLink RX8 233 yX8_isForm ∈ zf_T := zf_ti (zf_it3 (List.mem_of_getElem? (i := 157) rfl)) rfl
theorem zf_m774 : Cond.static yX8_isForm ∈ zf_T := zf_ti (zf_it3 (List.mem_of_getElem? (i := 158) rfl)) rfl
theorem zf_m775 : Cond.code yX8_isForm cX8_isForm 1 (some .boolean) ∈ zf_T := zf_ti (zf_it3 (List.mem_of_getElem? (i := 159) rfl)) rfl
theorem zf_m776 : Cond.methodLink RX8 236 yX7_renew ∈ zf_T := zf_ti (zf_it3 (List.mem_of_getElem? (i := 160) rfl)) rfl
theorem zf_m777 : Cond.instanceMethod yX7_renew ∈ zf_T := zf_ti (zf_it3 (List.mem_of_getElem? (i := 161) rfl)) rfl
theorem zf_m778 : Cond.selects RX7 yX7_renew yX7_renew ∈ zf_T := zf_ti (zf_it3 (List.mem_of_getElem? (i := 162) rfl)) rfl
theorem zf_m779 : Cond.code yX7_renew cX7_renew 4 none ∈ zf_T := zf_ti (zf_it3 (List.mem_of_getElem? (i := 163) rfl)) rfl
theorem zf_m780 : Cond.methodLink RL 129 yX9_sheet ∈ zf_T := zf_ti (zf_it5 (List.mem_of_getElem? (i := 91) rfl)) rfl
theorem zf_m781 : Cond.instanceMethod yX9_sheet ∈ zf_T := zf_ti (zf_it5 (List.mem_of_getElem? (i := 92) rfl)) rfl
theorem zf_m782 : Cond.selects RX9 yX9_sheet yX9_sheet ∈ zf_T := zf_ti (zf_it5 (List.mem_of_getElem? (i := 93) rfl)) rfl
theorem zf_m783 : Cond.code yX9_sheet cX9_sheet 5 (some .int) ∈ zf_T := zf_ti (zf_it5 (List.mem_of_getElem? (i := 94) rfl)) rfl
theorem zf_m784 : Cond.methodLink RL 130 yX8_lose ∈ zf_T := zf_ti (zf_it3 (List.mem_of_getElem? (i := 164) rfl)) rfl
theorem zf_m785 : Cond.instanceMethod yX8_lose ∈ zf_T := zf_ti (zf_it3 (List.mem_of_getElem? (i := 165) rfl)) rfl
theorem zf_m786 : Cond.selects RX8 yX8_lose yX8_lose ∈ zf_T := zf_ti (zf_it3 (List.mem_of_getElem? (i := 166) rfl)) rfl
theorem zf_m787 : Cond.code yX8_lose cX8_lose 2 (some .int) ∈ zf_T := zf_ti (zf_it3 (List.mem_of_getElem? (i := 167) rfl)) rfl
theorem zf_m788 : Cond.fieldLink RX8 239 "FairFight$Sheet" "size" "I" ∈ zf_T := zf_ti (zf_it1 (List.mem_of_getElem? (i := 227) rfl)) rfl
theorem zf_m789 : Cond.methodLink RL 133 yX9_lose ∈ zf_T := zf_ti (zf_it5 (List.mem_of_getElem? (i := 95) rfl)) rfl
theorem zf_m790 : Cond.instanceMethod yX9_lose ∈ zf_T := zf_ti (zf_it5 (List.mem_of_getElem? (i := 96) rfl)) rfl
theorem zf_m791 : Cond.selects RX9 yX9_lose yX9_lose ∈ zf_T := zf_ti (zf_it5 (List.mem_of_getElem? (i := 97) rfl)) rfl
theorem zf_m792 : Cond.code yX9_lose cX9_lose 2 (some .int) ∈ zf_T := zf_ti (zf_it5 (List.mem_of_getElem? (i := 98) rfl)) rfl
theorem zf_m793 : Cond.methodLink RL 134 yX8_put ∈ zf_T := zf_ti (zf_it3 (List.mem_of_getElem? (i := 168) rfl)) rfl
theorem zf_m794 : Cond.instanceMethod yX8_put ∈ zf_T := zf_ti (zf_it3 (List.mem_of_getElem? (i := 169) rfl)) rfl
theorem zf_m795 : Cond.selects RX8 yX8_put yX8_put ∈ zf_T := zf_ti (zf_it3 (List.mem_of_getElem? (i := 170) rfl)) rfl
theorem zf_m796 : Cond.code yX8_put cX8_put 6 (some .int) ∈ zf_T := zf_ti (zf_it3 (List.mem_of_getElem? (i := 171) rfl)) rfl
theorem zf_m797 : Cond.methodLink RX8 240 yX8_itemFault ∈ zf_T := zf_ti (zf_it3 (List.mem_of_getElem? (i := 172) rfl)) rfl
theorem zf_m798 : Cond.static yX8_itemFault ∈ zf_T := zf_ti (zf_it3 (List.mem_of_getElem? (i := 173) rfl)) rfl
theorem zf_m799 : Cond.code yX8_itemFault cX8_itemFault 3 (some .int) ∈ zf_T := zf_ti (zf_it3 (List.mem_of_getElem? (i := 174) rfl)) rfl
theorem zf_m800 : Cond.fieldLink RX8 250 "FairFight$Sheet" "form" "I" ∈ zf_T := zf_ti (zf_it1 (List.mem_of_getElem? (i := 225) rfl)) rfl
theorem zf_m801 : Cond.methodLink RX8 287 yX7_has ∈ zf_T := zf_ti (zf_it3 (List.mem_of_getElem? (i := 175) rfl)) rfl
theorem zf_m802 : Cond.methodLink RX8 244 yX7_store ∈ zf_T := zf_ti (zf_it3 (List.mem_of_getElem? (i := 176) rfl)) rfl
theorem zf_m803 : Cond.instanceMethod yX7_store ∈ zf_T := zf_ti (zf_it3 (List.mem_of_getElem? (i := 177) rfl)) rfl
theorem zf_m804 : Cond.selects RX7 yX7_store yX7_store ∈ zf_T := zf_ti (zf_it3 (List.mem_of_getElem? (i := 178) rfl)) rfl
theorem zf_m805 : Cond.code yX7_store cX7_store 3 none ∈ zf_T := zf_ti (zf_it3 (List.mem_of_getElem? (i := 179) rfl)) rfl
theorem zf_m806 : Cond.methodLink RL 137 yX9_put ∈ zf_T := zf_ti (zf_it5 (List.mem_of_getElem? (i := 99) rfl)) rfl
theorem zf_m807 : Cond.instanceMethod yX9_put ∈ zf_T := zf_ti (zf_it5 (List.mem_of_getElem? (i := 100) rfl)) rfl
theorem zf_m808 : Cond.selects RX9 yX9_put yX9_put ∈ zf_T := zf_ti (zf_it5 (List.mem_of_getElem? (i := 101) rfl)) rfl
theorem zf_m809 : Cond.code yX9_put cX9_put 6 (some .int) ∈ zf_T := zf_ti (zf_it5 (List.mem_of_getElem? (i := 102) rfl)) rfl
theorem zf_m810 : Cond.methodLink RX9 267 yX9_lacks ∈ zf_T := zf_ti (zf_it5 (List.mem_of_getElem? (i := 103) rfl)) rfl
theorem zf_m811 : Cond.instanceMethod yX9_lacks ∈ zf_T := zf_ti (zf_it5 (List.mem_of_getElem? (i := 105) rfl)) rfl
theorem zf_m812 : Cond.selects RX9 yX9_lacks yX9_lacks ∈ zf_T := zf_ti (zf_wS (List.mem_of_getElem? (i := 41) rfl)) rfl
theorem zf_m813 : Cond.code yX9_lacks cX9_lacks 4 (some .int) ∈ zf_T := zf_ti (zf_it5 (List.mem_of_getElem? (i := 106) rfl)) rfl
theorem zf_m814 : Cond.methodLink RL 138 yX8_get ∈ zf_T := zf_ti (zf_it3 (List.mem_of_getElem? (i := 180) rfl)) rfl
theorem zf_m815 : Cond.instanceMethod yX8_get ∈ zf_T := zf_ti (zf_it3 (List.mem_of_getElem? (i := 181) rfl)) rfl
theorem zf_m816 : Cond.selects RX8 yX8_get yX8_get ∈ zf_T := zf_ti (zf_it3 (List.mem_of_getElem? (i := 182) rfl)) rfl
theorem zf_m817 : Cond.code yX8_get cX8_get 5 (some .int) ∈ zf_T := zf_ti (zf_it3 (List.mem_of_getElem? (i := 183) rfl)) rfl
theorem zf_m818 : Cond.methodLink RX8 247 yX7_item ∈ zf_T := zf_ti (zf_it3 (List.mem_of_getElem? (i := 184) rfl)) rfl
theorem zf_m819 : Cond.methodLink RL 141 yX9_get ∈ zf_T := zf_ti (zf_it5 (List.mem_of_getElem? (i := 107) rfl)) rfl
theorem zf_m820 : Cond.instanceMethod yX9_get ∈ zf_T := zf_ti (zf_it5 (List.mem_of_getElem? (i := 108) rfl)) rfl
theorem zf_m821 : Cond.selects RX9 yX9_get yX9_get ∈ zf_T := zf_ti (zf_it5 (List.mem_of_getElem? (i := 109) rfl)) rfl
theorem zf_m822 : Cond.code yX9_get cX9_get 4 (some .int) ∈ zf_T := zf_ti (zf_it5 (List.mem_of_getElem? (i := 110) rfl)) rfl
theorem zf_m823 : Cond.methodLink RL 142 yX8_copy ∈ zf_T := zf_ti (zf_it3 (List.mem_of_getElem? (i := 185) rfl)) rfl
theorem zf_m824 : Cond.instanceMethod yX8_copy ∈ zf_T := zf_ti (zf_it3 (List.mem_of_getElem? (i := 186) rfl)) rfl
theorem zf_m825 : Cond.selects RX8 yX8_copy yX8_copy ∈ zf_T := zf_ti (zf_it3 (List.mem_of_getElem? (i := 187) rfl)) rfl
theorem zf_m826 : Cond.code yX8_copy cX8_copy 8 (some .int) ∈ zf_T := zf_ti (zf_it3 (List.mem_of_getElem? (i := 188) rfl)) rfl
theorem zf_m827 : Cond.fieldLink RX8 256 "FairFight$Sheet" "items" "[I" ∈ zf_T := zf_ti (zf_it1 (List.mem_of_getElem? (i := 223) rfl)) rfl
theorem zf_m828 : Cond.methodLink RX8 259 arraycopyName ∈ zf_T := zf_ti (zf_it3 (List.mem_of_getElem? (i := 193) rfl)) rfl
theorem zf_m829 : Cond.native arraycopyName ∈ zf_T := zf_ti (zf_it3 (List.mem_of_getElem? (i := 195) rfl)) rfl
theorem zf_m830 : Cond.static arraycopyName ∈ zf_T := zf_ti (zf_it3 (List.mem_of_getElem? (i := 194) rfl)) rfl
theorem zf_m831 : Cond.initialized "java/lang/System" ∈ zf_T := zf_ti (zf_it1 (List.mem_of_getElem? (i := 13) rfl)) rfl
theorem zf_m832 : Cond.methodLink RX8 253 yX7_hasRun ∈ zf_T := zf_ti (zf_it3 (List.mem_of_getElem? (i := 189) rfl)) rfl
theorem zf_m833 : Cond.instanceMethod yX7_hasRun ∈ zf_T := zf_ti (zf_it3 (List.mem_of_getElem? (i := 190) rfl)) rfl
theorem zf_m834 : Cond.selects RX7 yX7_hasRun yX7_hasRun ∈ zf_T := zf_ti (zf_it3 (List.mem_of_getElem? (i := 191) rfl)) rfl
theorem zf_m835 : Cond.code yX7_hasRun cX7_hasRun 3 (some .boolean) ∈ zf_T := zf_ti (zf_it3 (List.mem_of_getElem? (i := 192) rfl)) rfl
theorem zf_m836 : Cond.methodLink RL 146 yX9_copy ∈ zf_T := zf_ti (zf_it5 (List.mem_of_getElem? (i := 111) rfl)) rfl
theorem zf_m837 : Cond.instanceMethod yX9_copy ∈ zf_T := zf_ti (zf_it5 (List.mem_of_getElem? (i := 112) rfl)) rfl
theorem zf_m838 : Cond.selects RX9 yX9_copy yX9_copy ∈ zf_T := zf_ti (zf_it5 (List.mem_of_getElem? (i := 113) rfl)) rfl
theorem zf_m839 : Cond.code yX9_copy cX9_copy 7 (some .int) ∈ zf_T := zf_ti (zf_it5 (List.mem_of_getElem? (i := 114) rfl)) rfl
theorem zf_m840 : Cond.methodLink RL 147 yX8_shake ∈ zf_T := zf_ti (zf_it3 (List.mem_of_getElem? (i := 196) rfl)) rfl
theorem zf_m841 : Cond.instanceMethod yX8_shake ∈ zf_T := zf_ti (zf_it3 (List.mem_of_getElem? (i := 197) rfl)) rfl
theorem zf_m842 : Cond.selects RX8 yX8_shake yX8_shake ∈ zf_T := zf_ti (zf_it3 (List.mem_of_getElem? (i := 198) rfl)) rfl
theorem zf_m843 : Cond.code yX8_shake cX8_shake 6 (some .int) ∈ zf_T := zf_ti (zf_it3 (List.mem_of_getElem? (i := 199) rfl)) rfl
theorem zf_m844 : Cond.constant RX8 265 (1103515245) ∈ zf_T := zf_ti (zf_it3 (List.mem_of_getElem? (i := 200) rfl)) rfl
theorem zf_m845 : Cond.methodLink RL 150 yX9_shake ∈ zf_T := zf_ti (zf_it5 (List.mem_of_getElem? (i := 115) rfl)) rfl
theorem zf_m846 : Cond.instanceMethod yX9_shake ∈ zf_T := zf_ti (zf_it5 (List.mem_of_getElem? (i := 116) rfl)) rfl
theorem zf_m847 : Cond.selects RX9 yX9_shake yX9_shake ∈ zf_T := zf_ti (zf_it5 (List.mem_of_getElem? (i := 117) rfl)) rfl
theorem zf_m848 : Cond.code yX9_shake cX9_shake 5 (some .int) ∈ zf_T := zf_ti (zf_it5 (List.mem_of_getElem? (i := 118) rfl)) rfl
theorem zf_m849 : Cond.constant RX9 270 (1103515245) ∈ zf_T := zf_ti (zf_it5 (List.mem_of_getElem? (i := 119) rfl)) rfl
theorem zf_m850 : Cond.methodLink RL 151 yX8_count ∈ zf_T := zf_ti (zf_it3 (List.mem_of_getElem? (i := 201) rfl)) rfl
theorem zf_m851 : Cond.instanceMethod yX8_count ∈ zf_T := zf_ti (zf_it3 (List.mem_of_getElem? (i := 202) rfl)) rfl
theorem zf_m852 : Cond.selects RX8 yX8_count yX8_count ∈ zf_T := zf_ti (zf_it3 (List.mem_of_getElem? (i := 203) rfl)) rfl
theorem zf_m853 : Cond.code yX8_count cX8_count 2 (some .int) ∈ zf_T := zf_ti (zf_it3 (List.mem_of_getElem? (i := 204) rfl)) rfl
theorem zf_m854 : Cond.methodLink RL 154 yX9_count ∈ zf_T := zf_ti (zf_it5 (List.mem_of_getElem? (i := 120) rfl)) rfl
theorem zf_m855 : Cond.instanceMethod yX9_count ∈ zf_T := zf_ti (zf_it5 (List.mem_of_getElem? (i := 121) rfl)) rfl
theorem zf_m856 : Cond.selects RX9 yX9_count yX9_count ∈ zf_T := zf_ti (zf_it5 (List.mem_of_getElem? (i := 122) rfl)) rfl
theorem zf_m857 : Cond.code yX9_count cX9_count 2 (some .int) ∈ zf_T := zf_ti (zf_it5 (List.mem_of_getElem? (i := 123) rfl)) rfl
theorem zf_m858 : Cond.methodLink RL 155 yX8_digest ∈ zf_T := zf_ti (zf_it3 (List.mem_of_getElem? (i := 205) rfl)) rfl
theorem zf_m859 : Cond.instanceMethod yX8_digest ∈ zf_T := zf_ti (zf_it3 (List.mem_of_getElem? (i := 206) rfl)) rfl
theorem zf_m860 : Cond.selects RX8 yX8_digest yX8_digest ∈ zf_T := zf_ti (zf_it3 (List.mem_of_getElem? (i := 207) rfl)) rfl
theorem zf_m861 : Cond.code yX8_digest cX8_digest 5 (some .long) ∈ zf_T := zf_ti (zf_it3 (List.mem_of_getElem? (i := 208) rfl)) rfl
theorem zf_m862 : Cond.constantLong RX8 266 (17) ∈ zf_T := zf_ti (zf_it3 (List.mem_of_getElem? (i := 209) rfl)) rfl
theorem zf_m863 : Cond.constantLong RX8 268 (31) ∈ zf_T := zf_ti (zf_it3 (List.mem_of_getElem? (i := 210) rfl)) rfl
theorem zf_m864 : Cond.methodLink RX8 270 yX8_count ∈ zf_T := zf_ti (zf_it3 (List.mem_of_getElem? (i := 211) rfl)) rfl
theorem zf_m865 : Cond.methodLink RX8 273 yX8_about ∈ zf_T := zf_ti (zf_it3 (List.mem_of_getElem? (i := 212) rfl)) rfl
theorem zf_m866 : Cond.methodLink RX8 276 yX8_at ∈ zf_T := zf_ti (zf_it3 (List.mem_of_getElem? (i := 213) rfl)) rfl
theorem zf_m867 : Cond.methodLink RX8 279 yX8_played ∈ zf_T := zf_ti (zf_it3 (List.mem_of_getElem? (i := 214) rfl)) rfl
theorem zf_m868 : Cond.methodLink RL 158 yX9_digest ∈ zf_T := zf_ti (zf_it5 (List.mem_of_getElem? (i := 124) rfl)) rfl
theorem zf_m869 : Cond.instanceMethod yX9_digest ∈ zf_T := zf_ti (zf_it5 (List.mem_of_getElem? (i := 125) rfl)) rfl
theorem zf_m870 : Cond.selects RX9 yX9_digest yX9_digest ∈ zf_T := zf_ti (zf_it5 (List.mem_of_getElem? (i := 126) rfl)) rfl
theorem zf_m871 : Cond.code yX9_digest cX9_digest 4 (some .long) ∈ zf_T := zf_ti (zf_it5 (List.mem_of_getElem? (i := 127) rfl)) rfl
theorem zf_m872 : Cond.constantLong RX9 271 (17) ∈ zf_T := zf_ti (zf_it5 (List.mem_of_getElem? (i := 128) rfl)) rfl
theorem zf_m873 : Cond.methodLink RX9 273 yX9_count ∈ zf_T := zf_ti (zf_it5 (List.mem_of_getElem? (i := 129) rfl)) rfl
theorem zf_uw0 : ∀ w ∈ u_ws RX0 TX0 4, w ∈ zf_T := by
  intro w h
  obtain ⟨k, hk, rfl⟩ := List.mem_map.mp h
  have hk := List.mem_range.mp hk
  rcases (show k = 0 ∨ k = 1 ∨ k = 2 ∨ k = 3 by omega) with rfl | rfl | rfl | rfl
  · exact zf_ti (zf_it1 (List.mem_of_getElem? (i := 205) rfl)) rfl
  · exact zf_ti (zf_it1 (List.mem_of_getElem? (i := 207) rfl)) rfl
  · exact zf_ti (zf_it1 (List.mem_of_getElem? (i := 209) rfl)) rfl
  · exact zf_ti (zf_it1 (List.mem_of_getElem? (i := 211) rfl)) rfl
theorem zf_uw1 : ∀ w ∈ u_ws RX1 TX1 6, w ∈ zf_T := by
  intro w h
  obtain ⟨k, hk, rfl⟩ := List.mem_map.mp h
  have hk := List.mem_range.mp hk
  rcases (show k = 0 ∨ k = 1 ∨ k = 2 ∨ k = 3 ∨ k = 4 ∨ k = 5 by omega) with rfl | rfl | rfl | rfl | rfl | rfl
  · exact zf_ti (zf_it1 (List.mem_of_getElem? (i := 178) rfl)) rfl
  · exact zf_ti (zf_it1 (List.mem_of_getElem? (i := 180) rfl)) rfl
  · exact zf_ti (zf_it1 (List.mem_of_getElem? (i := 182) rfl)) rfl
  · exact zf_ti (zf_it1 (List.mem_of_getElem? (i := 184) rfl)) rfl
  · exact zf_ti (zf_it1 (List.mem_of_getElem? (i := 186) rfl)) rfl
  · exact zf_ti (zf_it1 (List.mem_of_getElem? (i := 188) rfl)) rfl
theorem zf_uw2 : ∀ w ∈ u_ws RX2 TX2 11, w ∈ zf_T := by
  intro w h
  obtain ⟨k, hk, rfl⟩ := List.mem_map.mp h
  have hk := List.mem_range.mp hk
  rcases (show k = 0 ∨ k = 1 ∨ k = 2 ∨ k = 3 ∨ k = 4 ∨ k = 5 ∨ k = 6 ∨ k = 7 ∨ k = 8 ∨ k = 9 ∨ k = 10 by omega) with rfl | rfl | rfl | rfl | rfl | rfl | rfl | rfl | rfl | rfl | rfl
  · exact zf_ti (zf_it1 (List.mem_of_getElem? (i := 62) rfl)) rfl
  · exact zf_ti (zf_it1 (List.mem_of_getElem? (i := 64) rfl)) rfl
  · exact zf_ti (zf_it1 (List.mem_of_getElem? (i := 66) rfl)) rfl
  · exact zf_ti (zf_it1 (List.mem_of_getElem? (i := 68) rfl)) rfl
  · exact zf_ti (zf_it1 (List.mem_of_getElem? (i := 70) rfl)) rfl
  · exact zf_ti (zf_it1 (List.mem_of_getElem? (i := 72) rfl)) rfl
  · exact zf_ti (zf_it1 (List.mem_of_getElem? (i := 74) rfl)) rfl
  · exact zf_ti (zf_it1 (List.mem_of_getElem? (i := 76) rfl)) rfl
  · exact zf_ti (zf_it1 (List.mem_of_getElem? (i := 78) rfl)) rfl
  · exact zf_ti (zf_it1 (List.mem_of_getElem? (i := 80) rfl)) rfl
  · exact zf_ti (zf_it1 (List.mem_of_getElem? (i := 82) rfl)) rfl
theorem zf_uw3 : ∀ w ∈ u_ws RX3 TX3 5, w ∈ zf_T := by
  intro w h
  obtain ⟨k, hk, rfl⟩ := List.mem_map.mp h
  have hk := List.mem_range.mp hk
  rcases (show k = 0 ∨ k = 1 ∨ k = 2 ∨ k = 3 ∨ k = 4 by omega) with rfl | rfl | rfl | rfl | rfl
  · exact zf_ti (zf_it1 (List.mem_of_getElem? (i := 105) rfl)) rfl
  · exact zf_ti (zf_it1 (List.mem_of_getElem? (i := 107) rfl)) rfl
  · exact zf_ti (zf_it1 (List.mem_of_getElem? (i := 109) rfl)) rfl
  · exact zf_ti (zf_it1 (List.mem_of_getElem? (i := 111) rfl)) rfl
  · exact zf_ti (zf_it1 (List.mem_of_getElem? (i := 113) rfl)) rfl
theorem zf_uw4 : ∀ w ∈ u_ws RX4 TX4 8, w ∈ zf_T := by
  intro w h
  obtain ⟨k, hk, rfl⟩ := List.mem_map.mp h
  have hk := List.mem_range.mp hk
  rcases (show k = 0 ∨ k = 1 ∨ k = 2 ∨ k = 3 ∨ k = 4 ∨ k = 5 ∨ k = 6 ∨ k = 7 by omega) with rfl | rfl | rfl | rfl | rfl | rfl | rfl | rfl
  · exact zf_ti (zf_it1 (List.mem_of_getElem? (i := 129) rfl)) rfl
  · exact zf_ti (zf_it1 (List.mem_of_getElem? (i := 131) rfl)) rfl
  · exact zf_ti (zf_it1 (List.mem_of_getElem? (i := 133) rfl)) rfl
  · exact zf_ti (zf_it1 (List.mem_of_getElem? (i := 135) rfl)) rfl
  · exact zf_ti (zf_it1 (List.mem_of_getElem? (i := 137) rfl)) rfl
  · exact zf_ti (zf_it1 (List.mem_of_getElem? (i := 139) rfl)) rfl
  · exact zf_ti (zf_it1 (List.mem_of_getElem? (i := 141) rfl)) rfl
  · exact zf_ti (zf_it1 (List.mem_of_getElem? (i := 143) rfl)) rfl
theorem zf_uw5 : ∀ w ∈ u_ws RX5 TX5 2, w ∈ zf_T := by
  intro w h
  obtain ⟨k, hk, rfl⟩ := List.mem_map.mp h
  have hk := List.mem_range.mp hk
  rcases (show k = 0 ∨ k = 1 by omega) with rfl | rfl
  · exact zf_ti (zf_it1 (List.mem_of_getElem? (i := 31) rfl)) rfl
  · exact zf_ti (zf_it1 (List.mem_of_getElem? (i := 33) rfl)) rfl
theorem zf_uw6 : ∀ w ∈ u_ws RX6 TX6 2, w ∈ zf_T := by
  intro w h
  obtain ⟨k, hk, rfl⟩ := List.mem_map.mp h
  have hk := List.mem_range.mp hk
  rcases (show k = 0 ∨ k = 1 by omega) with rfl | rfl
  · exact zf_ti (zf_it1 (List.mem_of_getElem? (i := 161) rfl)) rfl
  · exact zf_ti (zf_it1 (List.mem_of_getElem? (i := 163) rfl)) rfl
theorem zf_uw7 : ∀ w ∈ u_ws RX7 TX7 4, w ∈ zf_T := by
  intro w h
  obtain ⟨k, hk, rfl⟩ := List.mem_map.mp h
  have hk := List.mem_range.mp hk
  rcases (show k = 0 ∨ k = 1 ∨ k = 2 ∨ k = 3 by omega) with rfl | rfl | rfl | rfl
  · exact zf_ti (zf_it1 (List.mem_of_getElem? (i := 230) rfl)) rfl
  · exact zf_ti (zf_it1 (List.mem_of_getElem? (i := 232) rfl)) rfl
  · exact zf_ti (zf_it1 (List.mem_of_getElem? (i := 234) rfl)) rfl
  · exact zf_ti (zf_it1 (List.mem_of_getElem? (i := 236) rfl)) rfl
theorem zf_uw8 : ∀ w ∈ u_ws RX8 TX8 13, w ∈ zf_T := by
  intro w h
  obtain ⟨k, hk, rfl⟩ := List.mem_map.mp h
  have hk := List.mem_range.mp hk
  rcases (show k = 0 ∨ k = 1 ∨ k = 2 ∨ k = 3 ∨ k = 4 ∨ k = 5 ∨ k = 6 ∨ k = 7 ∨ k = 8 ∨ k = 9 ∨ k = 10 ∨ k = 11 ∨ k = 12 by omega) with rfl | rfl | rfl | rfl | rfl | rfl | rfl | rfl | rfl | rfl | rfl | rfl | rfl
  · exact zf_ti (zf_it2 (List.mem_of_getElem? (i := 12) rfl)) rfl
  · exact zf_ti (zf_it2 (List.mem_of_getElem? (i := 14) rfl)) rfl
  · exact zf_ti (zf_it2 (List.mem_of_getElem? (i := 16) rfl)) rfl
  · exact zf_ti (zf_it2 (List.mem_of_getElem? (i := 18) rfl)) rfl
  · exact zf_ti (zf_it2 (List.mem_of_getElem? (i := 20) rfl)) rfl
  · exact zf_ti (zf_it2 (List.mem_of_getElem? (i := 22) rfl)) rfl
  · exact zf_ti (zf_it2 (List.mem_of_getElem? (i := 24) rfl)) rfl
  · exact zf_ti (zf_it2 (List.mem_of_getElem? (i := 26) rfl)) rfl
  · exact zf_ti (zf_it2 (List.mem_of_getElem? (i := 28) rfl)) rfl
  · exact zf_ti (zf_it2 (List.mem_of_getElem? (i := 30) rfl)) rfl
  · exact zf_ti (zf_it2 (List.mem_of_getElem? (i := 32) rfl)) rfl
  · exact zf_ti (zf_it2 (List.mem_of_getElem? (i := 34) rfl)) rfl
  · exact zf_ti (zf_it2 (List.mem_of_getElem? (i := 36) rfl)) rfl
theorem zf_uw9 : ∀ w ∈ u_ws RX9 TX9 41, w ∈ zf_T := by
  intro w h
  obtain ⟨k, hk, rfl⟩ := List.mem_map.mp h
  have hk := List.mem_range.mp hk
  rcases (show k = 0 ∨ k = 1 ∨ k = 2 ∨ k = 3 ∨ k = 4 ∨ k = 5 ∨ k = 6 ∨ k = 7 ∨ k = 8 ∨ k = 9 ∨ k = 10 ∨ k = 11 ∨ k = 12 ∨ k = 13 ∨ k = 14 ∨ k = 15 ∨ k = 16 ∨ k = 17 ∨ k = 18 ∨ k = 19 ∨ k = 20 ∨ k = 21 ∨ k = 22 ∨ k = 23 ∨ k = 24 ∨ k = 25 ∨ k = 26 ∨ k = 27 ∨ k = 28 ∨ k = 29 ∨ k = 30 ∨ k = 31 ∨ k = 32 ∨ k = 33 ∨ k = 34 ∨ k = 35 ∨ k = 36 ∨ k = 37 ∨ k = 38 ∨ k = 39 ∨ k = 40 by omega) with rfl | rfl | rfl | rfl | rfl | rfl | rfl | rfl | rfl | rfl | rfl | rfl | rfl | rfl | rfl | rfl | rfl | rfl | rfl | rfl | rfl | rfl | rfl | rfl | rfl | rfl | rfl | rfl | rfl | rfl | rfl | rfl | rfl | rfl | rfl | rfl | rfl | rfl | rfl | rfl | rfl
  · exact zf_ti (zf_it4 (List.mem_of_getElem? (i := 22) rfl)) rfl
  · exact zf_ti (zf_it4 (List.mem_of_getElem? (i := 24) rfl)) rfl
  · exact zf_ti (zf_it4 (List.mem_of_getElem? (i := 26) rfl)) rfl
  · exact zf_ti (zf_it4 (List.mem_of_getElem? (i := 28) rfl)) rfl
  · exact zf_ti (zf_it4 (List.mem_of_getElem? (i := 30) rfl)) rfl
  · exact zf_ti (zf_it4 (List.mem_of_getElem? (i := 32) rfl)) rfl
  · exact zf_ti (zf_it4 (List.mem_of_getElem? (i := 34) rfl)) rfl
  · exact zf_ti (zf_it4 (List.mem_of_getElem? (i := 36) rfl)) rfl
  · exact zf_ti (zf_it4 (List.mem_of_getElem? (i := 38) rfl)) rfl
  · exact zf_ti (zf_it4 (List.mem_of_getElem? (i := 40) rfl)) rfl
  · exact zf_ti (zf_it4 (List.mem_of_getElem? (i := 42) rfl)) rfl
  · exact zf_ti (zf_it4 (List.mem_of_getElem? (i := 44) rfl)) rfl
  · exact zf_ti (zf_it4 (List.mem_of_getElem? (i := 46) rfl)) rfl
  · exact zf_ti (zf_it4 (List.mem_of_getElem? (i := 48) rfl)) rfl
  · exact zf_ti (zf_it4 (List.mem_of_getElem? (i := 50) rfl)) rfl
  · exact zf_ti (zf_it4 (List.mem_of_getElem? (i := 52) rfl)) rfl
  · exact zf_ti (zf_it4 (List.mem_of_getElem? (i := 54) rfl)) rfl
  · exact zf_ti (zf_it4 (List.mem_of_getElem? (i := 56) rfl)) rfl
  · exact zf_ti (zf_it4 (List.mem_of_getElem? (i := 58) rfl)) rfl
  · exact zf_ti (zf_it4 (List.mem_of_getElem? (i := 60) rfl)) rfl
  · exact zf_ti (zf_it4 (List.mem_of_getElem? (i := 62) rfl)) rfl
  · exact zf_ti (zf_it4 (List.mem_of_getElem? (i := 64) rfl)) rfl
  · exact zf_ti (zf_it4 (List.mem_of_getElem? (i := 66) rfl)) rfl
  · exact zf_ti (zf_it4 (List.mem_of_getElem? (i := 68) rfl)) rfl
  · exact zf_ti (zf_it4 (List.mem_of_getElem? (i := 70) rfl)) rfl
  · exact zf_ti (zf_it4 (List.mem_of_getElem? (i := 72) rfl)) rfl
  · exact zf_ti (zf_it4 (List.mem_of_getElem? (i := 74) rfl)) rfl
  · exact zf_ti (zf_it4 (List.mem_of_getElem? (i := 76) rfl)) rfl
  · exact zf_ti (zf_it4 (List.mem_of_getElem? (i := 78) rfl)) rfl
  · exact zf_ti (zf_it4 (List.mem_of_getElem? (i := 80) rfl)) rfl
  · exact zf_ti (zf_it4 (List.mem_of_getElem? (i := 82) rfl)) rfl
  · exact zf_ti (zf_it4 (List.mem_of_getElem? (i := 84) rfl)) rfl
  · exact zf_ti (zf_it4 (List.mem_of_getElem? (i := 86) rfl)) rfl
  · exact zf_ti (zf_it4 (List.mem_of_getElem? (i := 88) rfl)) rfl
  · exact zf_ti (zf_it4 (List.mem_of_getElem? (i := 90) rfl)) rfl
  · exact zf_ti (zf_it4 (List.mem_of_getElem? (i := 92) rfl)) rfl
  · exact zf_ti (zf_it4 (List.mem_of_getElem? (i := 94) rfl)) rfl
  · exact zf_ti (zf_it4 (List.mem_of_getElem? (i := 96) rfl)) rfl
  · exact zf_ti (zf_it4 (List.mem_of_getElem? (i := 98) rfl)) rfl
  · exact zf_ti (zf_it4 (List.mem_of_getElem? (i := 100) rfl)) rfl
  · exact zf_ti (zf_it4 (List.mem_of_getElem? (i := 102) rfl)) rfl
theorem zf_acI : Cond.arrayClass .int ∈ zf_T := zf_m30
theorem zf_acJ : Cond.arrayClass .long ∈ zf_T := zf_m71
theorem zf_acZ : Cond.arrayClass .boolean ∈ zf_T := zf_m131
theorem zf_mxS : Cond.static Lib.Math.max.name ∈ zf_T := zf_m336
theorem zf_mxC : Cond.code Lib.Math.max.name Lib.Math.max.code 2 (some .int) ∈ zf_T := zf_m338
theorem zf_mnS : Cond.static Lib.Math.min.name ∈ zf_T := zf_m431
theorem zf_mnC : Cond.code Lib.Math.min.name Lib.Math.min.code 2 (some .int) ∈ zf_T := zf_m432
theorem zf_mtI : Cond.initialized "java/lang/Math" ∈ zf_T := zf_m337
theorem zf_cpN : Cond.native arraycopyName ∈ zf_T := zf_m829
theorem zf_cpS : Cond.static arraycopyName ∈ zf_T := zf_m830
theorem zf_cpI : Cond.initialized "java/lang/System" ∈ zf_T := zf_m831
theorem zf_obI : Cond.instanceMethod objectInit ∈ zf_T := zf_m10
theorem zf_obC : Cond.code objectInit ⟨#[0xb1]⟩ 1 none ∈ zf_T := zf_m11
theorem zf_aoRow : Cond.arrayOver (.object "FairFight$Row") ∈ lw_tbl := zf_it1 (List.mem_of_getElem? (i := 38) rfl)
theorem zf_aoSheet : Cond.arrayOver (.object "FairFight$Sheet") ∈ lw_tbl := zf_it1 (List.mem_of_getElem? (i := 215) rfl)
theorem zf_lsLOWEST : Cond.laysStatic "FairFight$Roster" "LOWEST" "[I" ∈ lw_tbl := zf_it2 (List.mem_of_getElem? (i := 47) rfl)
theorem zf_lsHIGHEST : Cond.laysStatic "FairFight$Roster" "HIGHEST" "[I" ∈ lw_tbl := zf_it2 (List.mem_of_getElem? (i := 49) rfl)
