/-! ===== printed by wip/whole/gen_tabs.py out of the names: the words of the law, the methods, the links ===== -/
/-- the words of the tables that every method may take along -/
def zf_T : List Cond := lw_tbl.filter goodWord
theorem zf_ti {w : Cond} (h : w ∈ lw_tbl) (hg : goodWord w = true) : w ∈ zf_T := List.mem_filter.mpr ⟨h, hg⟩
theorem zf_it1 {w : Cond} (h : w ∈ tables_1_1) : w ∈ lw_tbl := List.mem_append_right _ (show w ∈ tables_1_1 ++ (tables_1_2 ++ tables_1_3) from List.mem_append_left _ h)
theorem zf_it2 {w : Cond} (h : w ∈ tables_1_2) : w ∈ lw_tbl := List.mem_append_right _ (show w ∈ tables_1_1 ++ (tables_1_2 ++ tables_1_3) from List.mem_append_right _ (List.mem_append_left _ h))
theorem zf_it3 {w : Cond} (h : w ∈ tables_1_3) : w ∈ lw_tbl := List.mem_append_right _ (show w ∈ tables_1_1 ++ (tables_1_2 ++ tables_1_3) from List.mem_append_right _ (List.mem_append_right _ (h)))
theorem zf_wS {w : Cond} (h : w ∈ k2_sels lw_privs) : w ∈ lw_tbl := List.mem_append_left _ h
theorem zf_m0 : Cond.classLink RL 20 RX8 ∈ zf_T := zf_ti (zf_it1 (List.mem_of_getElem? (i := 11) rfl)) rfl
theorem zf_m1 : Cond.instantiable RX8 13 ∈ zf_T := zf_ti (zf_it1 (List.mem_of_getElem? (i := 12) rfl)) rfl
theorem zf_m2 : Cond.initialized RX8 ∈ zf_T := zf_ti (zf_it1 (List.mem_of_getElem? (i := 1) rfl)) rfl
theorem zf_m3 : Cond.arrayClass .int ∈ zf_T := zf_ti (zf_it1 (List.mem_of_getElem? (i := 33) rfl)) rfl
theorem zf_m4 : Cond.constantLong RL 52 (-9223372036854775803) ∈ zf_T := zf_ti (zf_it3 (List.mem_of_getElem? (i := 84) rfl)) rfl
theorem zf_m5 : Cond.methodLink RL 25 yX8_init ∈ zf_T := zf_ti (zf_it1 (List.mem_of_getElem? (i := 13) rfl)) rfl
theorem zf_m6 : Cond.instanceMethod yX8_init ∈ zf_T := zf_ti (zf_it1 (List.mem_of_getElem? (i := 14) rfl)) rfl
theorem zf_m7 : Cond.code yX8_init cX8_init 2 none ∈ zf_T := zf_ti (zf_it1 (List.mem_of_getElem? (i := 15) rfl)) rfl
theorem zf_m8 : Cond.methodLink RX8 1 objectInit ∈ zf_T := zf_ti (zf_it1 (List.mem_of_getElem? (i := 16) rfl)) rfl
theorem zf_m9 : Cond.instanceMethod objectInit ∈ zf_T := zf_ti (zf_it1 (List.mem_of_getElem? (i := 17) rfl)) rfl
theorem zf_m10 : Cond.code objectInit ⟨#[0xb1]⟩ 1 none ∈ zf_T := zf_ti (zf_it1 (List.mem_of_getElem? (i := 18) rfl)) rfl
theorem zf_m11 : Cond.classLink RX8 7 RX5 ∈ zf_T := zf_ti (zf_it1 (List.mem_of_getElem? (i := 19) rfl)) rfl
theorem zf_m12 : Cond.instantiable RX5 2 ∈ zf_T := zf_ti (zf_it1 (List.mem_of_getElem? (i := 20) rfl)) rfl
theorem zf_m13 : Cond.initialized RX5 ∈ zf_T := zf_ti (zf_it1 (List.mem_of_getElem? (i := 2) rfl)) rfl
theorem zf_m14 : Cond.fieldLink RX8 10 "FairFight" "roster" "LFairFight$Roster;" ∈ zf_T := zf_ti (zf_it1 (List.mem_of_getElem? (i := 229) rfl)) rfl
theorem zf_m15 : Cond.classLink RX8 16 RX6 ∈ zf_T := zf_ti (zf_it1 (List.mem_of_getElem? (i := 34) rfl)) rfl
theorem zf_m16 : Cond.fieldLink RX8 18 "FairFight" "sides" "[LFairFight$Row;" ∈ zf_T := zf_ti (zf_it1 (List.mem_of_getElem? (i := 230) rfl)) rfl
theorem zf_m17 : Cond.classLink RX8 22 RX2 ∈ zf_T := zf_ti (zf_it1 (List.mem_of_getElem? (i := 36) rfl)) rfl
theorem zf_m18 : Cond.instantiable RX2 11 ∈ zf_T := zf_ti (zf_it1 (List.mem_of_getElem? (i := 37) rfl)) rfl
theorem zf_m19 : Cond.initialized RX2 ∈ zf_T := zf_ti (zf_it1 (List.mem_of_getElem? (i := 3) rfl)) rfl
theorem zf_m20 : Cond.fieldLink RX8 25 "FairFight" "fray" "LFairFight$Fray;" ∈ zf_T := zf_ti (zf_it1 (List.mem_of_getElem? (i := 231) rfl)) rfl
theorem zf_m21 : Cond.classLink RX8 29 RX4 ∈ zf_T := zf_ti (zf_it1 (List.mem_of_getElem? (i := 82) rfl)) rfl
theorem zf_m22 : Cond.instantiable RX4 8 ∈ zf_T := zf_ti (zf_it1 (List.mem_of_getElem? (i := 83) rfl)) rfl
theorem zf_m23 : Cond.initialized RX4 ∈ zf_T := zf_ti (zf_it1 (List.mem_of_getElem? (i := 4) rfl)) rfl
theorem zf_m24 : Cond.fieldLink RX8 32 "FairFight" "odds" "LFairFight$Odds;" ∈ zf_T := zf_ti (zf_it1 (List.mem_of_getElem? (i := 232) rfl)) rfl
theorem zf_m25 : Cond.classLink RX8 36 RX1 ∈ zf_T := zf_ti (zf_it1 (List.mem_of_getElem? (i := 143) rfl)) rfl
theorem zf_m26 : Cond.instantiable RX1 6 ∈ zf_T := zf_ti (zf_it1 (List.mem_of_getElem? (i := 144) rfl)) rfl
theorem zf_m27 : Cond.initialized RX1 ∈ zf_T := zf_ti (zf_it1 (List.mem_of_getElem? (i := 6) rfl)) rfl
theorem zf_m28 : Cond.fieldLink RX8 39 "FairFight" "today" "LFairFight$Day;" ∈ zf_T := zf_ti (zf_it1 (List.mem_of_getElem? (i := 233) rfl)) rfl
theorem zf_m29 : Cond.fieldLink RX8 43 "FairFight" "bands" "[I" ∈ zf_T := zf_ti (zf_it1 (List.mem_of_getElem? (i := 234) rfl)) rfl
theorem zf_m30 : Cond.classLink RX8 47 RX0 ∈ zf_T := zf_ti (zf_it1 (List.mem_of_getElem? (i := 182) rfl)) rfl
theorem zf_m31 : Cond.instantiable RX0 4 ∈ zf_T := zf_ti (zf_it1 (List.mem_of_getElem? (i := 183) rfl)) rfl
theorem zf_m32 : Cond.initialized RX0 ∈ zf_T := zf_ti (zf_it1 (List.mem_of_getElem? (i := 8) rfl)) rfl
theorem zf_m33 : Cond.fieldLink RX8 50 "FairFight" "bout" "LFairFight$Bout;" ∈ zf_T := zf_ti (zf_it1 (List.mem_of_getElem? (i := 235) rfl)) rfl
theorem zf_m34 : Cond.classLink RX8 54 RX7 ∈ zf_T := zf_ti (zf_it1 (List.mem_of_getElem? (i := 205) rfl)) rfl
theorem zf_m35 : Cond.fieldLink RX8 56 "FairFight" "sheets" "[LFairFight$Sheet;" ∈ zf_T := zf_ti (zf_it1 (List.mem_of_getElem? (i := 236) rfl)) rfl
theorem zf_m36 : Cond.fieldLink RX8 60 "FairFight" "rounds" "I" ∈ zf_T := zf_ti (zf_it1 (List.mem_of_getElem? (i := 237) rfl)) rfl
theorem zf_m37 : Cond.fieldLink RX8 64 "FairFight" "aim" "I" ∈ zf_T := zf_ti (zf_it1 (List.mem_of_getElem? (i := 238) rfl)) rfl
theorem zf_m38 : Cond.fieldLink RX8 67 "FairFight" "surprise" "I" ∈ zf_T := zf_ti (zf_it1 (List.mem_of_getElem? (i := 239) rfl)) rfl
theorem zf_m39 : Cond.fieldLink RX8 70 "FairFight" "bandCount" "I" ∈ zf_T := zf_ti (zf_it2 (List.mem_of_getElem? (i := 0) rfl)) rfl
theorem zf_m40 : Cond.fieldLink RX8 73 "FairFight" "finding" "I" ∈ zf_T := zf_ti (zf_it2 (List.mem_of_getElem? (i := 1) rfl)) rfl
theorem zf_m41 : Cond.instantiable RX6 2 ∈ zf_T := zf_ti (zf_it1 (List.mem_of_getElem? (i := 150) rfl)) rfl
theorem zf_m42 : Cond.initialized RX6 ∈ zf_T := zf_ti (zf_it1 (List.mem_of_getElem? (i := 7) rfl)) rfl
theorem zf_m43 : Cond.instantiable RX7 4 ∈ zf_T := zf_ti (zf_it1 (List.mem_of_getElem? (i := 208) rfl)) rfl
theorem zf_m44 : Cond.initialized RX7 ∈ zf_T := zf_ti (zf_it1 (List.mem_of_getElem? (i := 9) rfl)) rfl
theorem zf_m45 : Cond.instanceMethod yX5_init ∈ zf_T := zf_ti (zf_it1 (List.mem_of_getElem? (i := 22) rfl)) rfl
theorem zf_m46 : Cond.code yX5_init cX5_init 1 none ∈ zf_T := zf_ti (zf_it1 (List.mem_of_getElem? (i := 23) rfl)) rfl
theorem zf_m47 : Cond.methodLink RX5 3 objectInit ∈ zf_T := zf_ti (zf_it1 (List.mem_of_getElem? (i := 24) rfl)) rfl
theorem zf_m48 : Cond.fieldLink RX5 11 "FairFight$Roster" "numbers" "[I" ∈ zf_T := zf_ti (zf_it1 (List.mem_of_getElem? (i := 25) rfl)) rfl
theorem zf_m49 : Cond.fieldLink RX5 15 "FairFight$Roster" "size" "I" ∈ zf_T := zf_ti (zf_it1 (List.mem_of_getElem? (i := 26) rfl)) rfl
theorem zf_m50 : Cond.instanceMethod yX2_init ∈ zf_T := zf_ti (zf_it1 (List.mem_of_getElem? (i := 39) rfl)) rfl
theorem zf_m51 : Cond.code yX2_init cX2_init 1 none ∈ zf_T := zf_ti (zf_it1 (List.mem_of_getElem? (i := 40) rfl)) rfl
theorem zf_m52 : Cond.methodLink RX2 3 objectInit ∈ zf_T := zf_ti (zf_it1 (List.mem_of_getElem? (i := 41) rfl)) rfl
theorem zf_m53 : Cond.fieldLink RX2 9 "FairFight$Fray" "kind" "[I" ∈ zf_T := zf_ti (zf_it1 (List.mem_of_getElem? (i := 42) rfl)) rfl
theorem zf_m54 : Cond.fieldLink RX2 15 "FairFight$Fray" "life" "[I" ∈ zf_T := zf_ti (zf_it1 (List.mem_of_getElem? (i := 43) rfl)) rfl
theorem zf_m55 : Cond.fieldLink RX2 18 "FairFight$Fray" "hit" "[I" ∈ zf_T := zf_ti (zf_it1 (List.mem_of_getElem? (i := 44) rfl)) rfl
theorem zf_m56 : Cond.fieldLink RX2 21 "FairFight$Fray" "force" "[I" ∈ zf_T := zf_ti (zf_it1 (List.mem_of_getElem? (i := 45) rfl)) rfl
theorem zf_m57 : Cond.fieldLink RX2 24 "FairFight$Fray" "flee" "[I" ∈ zf_T := zf_ti (zf_it1 (List.mem_of_getElem? (i := 46) rfl)) rfl
theorem zf_m58 : Cond.fieldLink RX2 27 "FairFight$Fray" "speed" "[I" ∈ zf_T := zf_ti (zf_it1 (List.mem_of_getElem? (i := 47) rfl)) rfl
theorem zf_m59 : Cond.fieldLink RX2 30 "FairFight$Fray" "order" "[I" ∈ zf_T := zf_ti (zf_it1 (List.mem_of_getElem? (i := 48) rfl)) rfl
theorem zf_m60 : Cond.fieldLink RX2 33 "FairFight$Fray" "size" "I" ∈ zf_T := zf_ti (zf_it1 (List.mem_of_getElem? (i := 51) rfl)) rfl
theorem zf_m61 : Cond.fieldLink RX2 37 "FairFight$Fray" "rounds" "I" ∈ zf_T := zf_ti (zf_it1 (List.mem_of_getElem? (i := 54) rfl)) rfl
theorem zf_m62 : Cond.fieldLink RX2 40 "FairFight$Fray" "aim" "I" ∈ zf_T := zf_ti (zf_it1 (List.mem_of_getElem? (i := 57) rfl)) rfl
theorem zf_m63 : Cond.fieldLink RX2 43 "FairFight$Fray" "surprise" "I" ∈ zf_T := zf_ti (zf_it1 (List.mem_of_getElem? (i := 58) rfl)) rfl
theorem zf_m64 : Cond.instanceMethod yX4_init ∈ zf_T := zf_ti (zf_it1 (List.mem_of_getElem? (i := 85) rfl)) rfl
theorem zf_m65 : Cond.code yX4_init cX4_init 1 none ∈ zf_T := zf_ti (zf_it1 (List.mem_of_getElem? (i := 86) rfl)) rfl
theorem zf_m66 : Cond.methodLink RX4 3 objectInit ∈ zf_T := zf_ti (zf_it1 (List.mem_of_getElem? (i := 87) rfl)) rfl
theorem zf_m67 : Cond.fieldLink RX4 9 "FairFight$Odds" "total" "J" ∈ zf_T := zf_ti (zf_it1 (List.mem_of_getElem? (i := 114) rfl)) rfl
theorem zf_m68 : Cond.fieldLink RX4 15 "FairFight$Odds" "widest" "I" ∈ zf_T := zf_ti (zf_it1 (List.mem_of_getElem? (i := 116) rfl)) rfl
theorem zf_m69 : Cond.arrayClass .long ∈ zf_T := zf_ti (zf_it1 (List.mem_of_getElem? (i := 113) rfl)) rfl
theorem zf_m70 : Cond.fieldLink RX4 19 "FairFight$Odds" "byEnd" "[J" ∈ zf_T := zf_ti (zf_it1 (List.mem_of_getElem? (i := 118) rfl)) rfl
theorem zf_m71 : Cond.fieldLink RX4 23 "FairFight$Odds" "byRound" "[J" ∈ zf_T := zf_ti (zf_it1 (List.mem_of_getElem? (i := 120) rfl)) rfl
theorem zf_m72 : Cond.fieldLink RX4 26 "FairFight$Odds" "byPart" "[J" ∈ zf_T := zf_ti (zf_it1 (List.mem_of_getElem? (i := 122) rfl)) rfl
theorem zf_m73 : Cond.classLink RX4 29 RX3 ∈ zf_T := zf_ti (zf_it1 (List.mem_of_getElem? (i := 88) rfl)) rfl
theorem zf_m74 : Cond.instantiable RX3 5 ∈ zf_T := zf_ti (zf_it1 (List.mem_of_getElem? (i := 89) rfl)) rfl
theorem zf_m75 : Cond.initialized RX3 ∈ zf_T := zf_ti (zf_it1 (List.mem_of_getElem? (i := 5) rfl)) rfl
theorem zf_m76 : Cond.fieldLink RX4 32 "FairFight$Odds" "now" "LFairFight$Layer;" ∈ zf_T := zf_ti (zf_it1 (List.mem_of_getElem? (i := 123) rfl)) rfl
theorem zf_m77 : Cond.fieldLink RX4 36 "FairFight$Odds" "next" "LFairFight$Layer;" ∈ zf_T := zf_ti (zf_it1 (List.mem_of_getElem? (i := 124) rfl)) rfl
theorem zf_m78 : Cond.fieldLink RX4 39 "FairFight$Odds" "behind" "J" ∈ zf_T := zf_ti (zf_it1 (List.mem_of_getElem? (i := 125) rfl)) rfl
theorem zf_m79 : Cond.instanceMethod yX3_init ∈ zf_T := zf_ti (zf_it1 (List.mem_of_getElem? (i := 91) rfl)) rfl
theorem zf_m80 : Cond.code yX3_init cX3_init 1 none ∈ zf_T := zf_ti (zf_it1 (List.mem_of_getElem? (i := 92) rfl)) rfl
theorem zf_m81 : Cond.methodLink RX3 3 objectInit ∈ zf_T := zf_ti (zf_it1 (List.mem_of_getElem? (i := 93) rfl)) rfl
theorem zf_m82 : Cond.fieldLink RX3 9 "FairFight$Layer" "states" "[J" ∈ zf_T := zf_ti (zf_it1 (List.mem_of_getElem? (i := 94) rfl)) rfl
theorem zf_m83 : Cond.fieldLink RX3 15 "FairFight$Layer" "ways" "[J" ∈ zf_T := zf_ti (zf_it1 (List.mem_of_getElem? (i := 96) rfl)) rfl
theorem zf_m84 : Cond.fieldLink RX3 18 "FairFight$Layer" "size" "I" ∈ zf_T := zf_ti (zf_it1 (List.mem_of_getElem? (i := 98) rfl)) rfl
theorem zf_m85 : Cond.fieldLink RX3 22 "FairFight$Layer" "spots" "[I" ∈ zf_T := zf_ti (zf_it1 (List.mem_of_getElem? (i := 100) rfl)) rfl
theorem zf_m86 : Cond.fieldLink RX3 26 "FairFight$Layer" "table" "[I" ∈ zf_T := zf_ti (zf_it1 (List.mem_of_getElem? (i := 101) rfl)) rfl
theorem zf_m87 : Cond.methodLink RX8 38 yX1_init ∈ zf_T := zf_ti (zf_it1 (List.mem_of_getElem? (i := 145) rfl)) rfl
theorem zf_m88 : Cond.instanceMethod yX1_init ∈ zf_T := zf_ti (zf_it1 (List.mem_of_getElem? (i := 146) rfl)) rfl
theorem zf_m89 : Cond.code yX1_init cX1_init 2 none ∈ zf_T := zf_ti (zf_it1 (List.mem_of_getElem? (i := 147) rfl)) rfl
theorem zf_m90 : Cond.methodLink RX1 3 objectInit ∈ zf_T := zf_ti (zf_it1 (List.mem_of_getElem? (i := 148) rfl)) rfl
theorem zf_m91 : Cond.classLink RX1 9 RX6 ∈ zf_T := zf_ti (zf_it1 (List.mem_of_getElem? (i := 149) rfl)) rfl
theorem zf_m92 : Cond.fieldLink RX1 11 "FairFight$Day" "foes" "[LFairFight$Row;" ∈ zf_T := zf_ti (zf_it1 (List.mem_of_getElem? (i := 163) rfl)) rfl
theorem zf_m93 : Cond.fieldLink RX1 17 "FairFight$Day" "plain" "[I" ∈ zf_T := zf_ti (zf_it1 (List.mem_of_getElem? (i := 164) rfl)) rfl
theorem zf_m94 : Cond.fieldLink RX1 21 "FairFight$Day" "aided" "[I" ∈ zf_T := zf_ti (zf_it1 (List.mem_of_getElem? (i := 165) rfl)) rfl
theorem zf_m95 : Cond.fieldLink RX1 24 "FairFight$Day" "size" "I" ∈ zf_T := zf_ti (zf_it1 (List.mem_of_getElem? (i := 166) rfl)) rfl
theorem zf_m96 : Cond.fieldLink RX1 28 "FairFight$Day" "purse" "I" ∈ zf_T := zf_ti (zf_it1 (List.mem_of_getElem? (i := 167) rfl)) rfl
theorem zf_m97 : Cond.fieldLink RX1 31 "FairFight$Day" "bonus" "I" ∈ zf_T := zf_ti (zf_it1 (List.mem_of_getElem? (i := 168) rfl)) rfl
theorem zf_m98 : Cond.instanceMethod yX6_init ∈ zf_T := zf_ti (zf_it1 (List.mem_of_getElem? (i := 152) rfl)) rfl
theorem zf_m99 : Cond.code yX6_init cX6_init 1 none ∈ zf_T := zf_ti (zf_it1 (List.mem_of_getElem? (i := 153) rfl)) rfl
theorem zf_m100 : Cond.methodLink RX6 3 objectInit ∈ zf_T := zf_ti (zf_it1 (List.mem_of_getElem? (i := 154) rfl)) rfl
theorem zf_m101 : Cond.fieldLink RX6 9 "FairFight$Row" "fighters" "[I" ∈ zf_T := zf_ti (zf_it1 (List.mem_of_getElem? (i := 155) rfl)) rfl
theorem zf_m102 : Cond.fieldLink RX6 15 "FairFight$Row" "size" "I" ∈ zf_T := zf_ti (zf_it1 (List.mem_of_getElem? (i := 156) rfl)) rfl
theorem zf_m103 : Cond.instanceMethod yX0_init ∈ zf_T := zf_ti (zf_it1 (List.mem_of_getElem? (i := 185) rfl)) rfl
theorem zf_m104 : Cond.code yX0_init cX0_init 1 none ∈ zf_T := zf_ti (zf_it1 (List.mem_of_getElem? (i := 186) rfl)) rfl
theorem zf_m105 : Cond.methodLink RX0 3 objectInit ∈ zf_T := zf_ti (zf_it1 (List.mem_of_getElem? (i := 187) rfl)) rfl
theorem zf_m106 : Cond.fieldLink RX0 9 "FairFight$Bout" "end" "I" ∈ zf_T := zf_ti (zf_it1 (List.mem_of_getElem? (i := 188) rfl)) rfl
theorem zf_m107 : Cond.fieldLink RX0 15 "FairFight$Bout" "rolls" "I" ∈ zf_T := zf_ti (zf_it1 (List.mem_of_getElem? (i := 190) rfl)) rfl
theorem zf_m108 : Cond.fieldLink RX0 18 "FairFight$Bout" "round" "I" ∈ zf_T := zf_ti (zf_it1 (List.mem_of_getElem? (i := 192) rfl)) rfl
theorem zf_m109 : Cond.fieldLink RX0 21 "FairFight$Bout" "lives" "[I" ∈ zf_T := zf_ti (zf_it1 (List.mem_of_getElem? (i := 194) rfl)) rfl
theorem zf_m110 : Cond.instanceMethod yX7_init ∈ zf_T := zf_ti (zf_it1 (List.mem_of_getElem? (i := 210) rfl)) rfl
theorem zf_m111 : Cond.code yX7_init cX7_init 1 none ∈ zf_T := zf_ti (zf_it1 (List.mem_of_getElem? (i := 211) rfl)) rfl
theorem zf_m112 : Cond.methodLink RX7 3 objectInit ∈ zf_T := zf_ti (zf_it1 (List.mem_of_getElem? (i := 212) rfl)) rfl
theorem zf_m113 : Cond.fieldLink RX7 9 "FairFight$Sheet" "items" "[I" ∈ zf_T := zf_ti (zf_it1 (List.mem_of_getElem? (i := 213) rfl)) rfl
theorem zf_m114 : Cond.fieldLink RX7 15 "FairFight$Sheet" "form" "I" ∈ zf_T := zf_ti (zf_it1 (List.mem_of_getElem? (i := 214) rfl)) rfl
theorem zf_m115 : Cond.fieldLink RX7 19 "FairFight$Sheet" "size" "I" ∈ zf_T := zf_ti (zf_it1 (List.mem_of_getElem? (i := 216) rfl)) rfl
theorem zf_m116 : Cond.fieldLink RX7 22 "FairFight$Sheet" "lost" "Z" ∈ zf_T := zf_ti (zf_it1 (List.mem_of_getElem? (i := 218) rfl)) rfl
theorem zf_m117 : Cond.methodLink RL 26 yL_build ∈ zf_T := zf_ti (zf_it3 (List.mem_of_getElem? (i := 66) rfl)) rfl
theorem zf_m118 : Cond.static yL_build ∈ zf_T := zf_ti (zf_it3 (List.mem_of_getElem? (i := 67) rfl)) rfl
theorem zf_m119 : Cond.initialized RL ∈ zf_T := zf_ti (zf_it1 (List.mem_of_getElem? (i := 0) rfl)) rfl
theorem zf_m120 : Cond.code yL_build cL_build 13 (some .boolean) ∈ zf_T := zf_ti (zf_it3 (List.mem_of_getElem? (i := 68) rfl)) rfl
theorem zf_m121 : Cond.methodLink RL 9 yL_cell ∈ zf_T := zf_ti (zf_it3 (List.mem_of_getElem? (i := 58) rfl)) rfl
theorem zf_m122 : Cond.static yL_cell ∈ zf_T := zf_ti (zf_it3 (List.mem_of_getElem? (i := 59) rfl)) rfl
theorem zf_m123 : Cond.code yL_cell cL_cell 2 (some .int) ∈ zf_T := zf_ti (zf_it3 (List.mem_of_getElem? (i := 60) rfl)) rfl
theorem zf_m124 : Cond.constant RL 7 (763049417) ∈ zf_T := zf_ti (zf_it3 (List.mem_of_getElem? (i := 61) rfl)) rfl
theorem zf_m125 : Cond.methodLink RL 15 yL_up ∈ zf_T := zf_ti (zf_it3 (List.mem_of_getElem? (i := 62) rfl)) rfl
theorem zf_m126 : Cond.static yL_up ∈ zf_T := zf_ti (zf_it3 (List.mem_of_getElem? (i := 63) rfl)) rfl
theorem zf_m127 : Cond.code yL_up cL_up 2 (some .int) ∈ zf_T := zf_ti (zf_it3 (List.mem_of_getElem? (i := 64) rfl)) rfl
theorem zf_m128 : Cond.constant RL 8 (2147483647) ∈ zf_T := zf_ti (zf_it3 (List.mem_of_getElem? (i := 65) rfl)) rfl
theorem zf_m129 : Cond.methodLink RL 19 yX8_fighter ∈ zf_T := zf_ti (zf_it3 (List.mem_of_getElem? (i := 69) rfl)) rfl
theorem zf_m130 : Cond.instanceMethod yX8_fighter ∈ zf_T := zf_ti (zf_it3 (List.mem_of_getElem? (i := 70) rfl)) rfl
theorem zf_m131 : Cond.selects RX8 yX8_fighter yX8_fighter ∈ zf_T := zf_ti (zf_it3 (List.mem_of_getElem? (i := 71) rfl)) rfl
theorem zf_m132 : Cond.code yX8_fighter cX8_fighter 9 (some .int) ∈ zf_T := zf_ti (zf_it3 (List.mem_of_getElem? (i := 72) rfl)) rfl
theorem zf_m133 : Cond.fieldLink RX8 82 "FairFight$Roster" "size" "I" ∈ zf_T := zf_ti (zf_it1 (List.mem_of_getElem? (i := 27) rfl)) rfl
theorem zf_m134 : Cond.methodLink RX8 78 yX5_fits ∈ zf_T := zf_ti (zf_it3 (List.mem_of_getElem? (i := 73) rfl)) rfl
theorem zf_m135 : Cond.static yX5_fits ∈ zf_T := zf_ti (zf_it3 (List.mem_of_getElem? (i := 74) rfl)) rfl
theorem zf_m136 : Cond.code yX5_fits cX5_fits 2 (some .boolean) ∈ zf_T := zf_ti (zf_it3 (List.mem_of_getElem? (i := 75) rfl)) rfl
theorem zf_m137 : Cond.fieldLink RX5 19 "FairFight$Roster" "LOWEST" "[I" ∈ zf_T := zf_ti (zf_it3 (List.mem_of_getElem? (i := 76) rfl)) rfl
theorem zf_m138 : Cond.fieldLink RX5 22 "FairFight$Roster" "HIGHEST" "[I" ∈ zf_T := zf_ti (zf_it3 (List.mem_of_getElem? (i := 78) rfl)) rfl
theorem zf_m139 : Cond.methodLink RX8 85 yX5_change ∈ zf_T := zf_ti (zf_it3 (List.mem_of_getElem? (i := 80) rfl)) rfl
theorem zf_m140 : Cond.instanceMethod yX5_change ∈ zf_T := zf_ti (zf_it3 (List.mem_of_getElem? (i := 81) rfl)) rfl
theorem zf_m141 : Cond.selects RX5 yX5_change yX5_change ∈ zf_T := zf_ti (zf_it3 (List.mem_of_getElem? (i := 82) rfl)) rfl
theorem zf_m142 : Cond.code yX5_change cX5_change 4 none ∈ zf_T := zf_ti (zf_it3 (List.mem_of_getElem? (i := 83) rfl)) rfl
theorem zf_m143 : Cond.methodLink RX5 25 yX5_has ∈ zf_T := zf_ti (zf_it2 (List.mem_of_getElem? (i := 101) rfl)) rfl
theorem zf_m144 : Cond.instanceMethod yX5_has ∈ zf_T := zf_ti (zf_it2 (List.mem_of_getElem? (i := 42) rfl)) rfl
theorem zf_m145 : Cond.selects RX5 yX5_has yX5_has ∈ zf_T := zf_ti (zf_it2 (List.mem_of_getElem? (i := 43) rfl)) rfl
theorem zf_m146 : Cond.code yX5_has cX5_has 2 (some .boolean) ∈ zf_T := zf_ti (zf_it2 (List.mem_of_getElem? (i := 44) rfl)) rfl
theorem zf_m147 : Cond.methodLink RL 30 yX8_side ∈ zf_T := zf_ti (zf_it2 (List.mem_of_getElem? (i := 29) rfl)) rfl
theorem zf_m148 : Cond.instanceMethod yX8_side ∈ zf_T := zf_ti (zf_it2 (List.mem_of_getElem? (i := 30) rfl)) rfl
theorem zf_m149 : Cond.selects RX8 yX8_side yX8_side ∈ zf_T := zf_ti (zf_it2 (List.mem_of_getElem? (i := 31) rfl)) rfl
theorem zf_m150 : Cond.code yX8_side cX8_side 6 (some .int) ∈ zf_T := zf_ti (zf_it2 (List.mem_of_getElem? (i := 32) rfl)) rfl
theorem zf_m151 : Cond.methodLink RX8 97 yX8_rowSize ∈ zf_T := zf_ti (zf_it2 (List.mem_of_getElem? (i := 33) rfl)) rfl
theorem zf_m152 : Cond.instanceMethod yX8_rowSize ∈ zf_T := zf_ti (zf_it2 (List.mem_of_getElem? (i := 35) rfl)) rfl
theorem zf_m153 : Cond.selects RX8 yX8_rowSize yX8_rowSize ∈ zf_T := zf_ti (zf_wS (List.mem_of_getElem? (i := 0) rfl)) rfl
theorem zf_m154 : Cond.code yX8_rowSize cX8_rowSize 4 (some .int) ∈ zf_T := zf_ti (zf_it2 (List.mem_of_getElem? (i := 36) rfl)) rfl
theorem zf_m155 : Cond.methodLink RX8 282 yX8_isFighterOrNone ∈ zf_T := zf_ti (zf_it2 (List.mem_of_getElem? (i := 37) rfl)) rfl
theorem zf_m156 : Cond.instanceMethod yX8_isFighterOrNone ∈ zf_T := zf_ti (zf_it2 (List.mem_of_getElem? (i := 39) rfl)) rfl
theorem zf_m157 : Cond.selects RX8 yX8_isFighterOrNone yX8_isFighterOrNone ∈ zf_T := zf_ti (zf_wS (List.mem_of_getElem? (i := 1) rfl)) rfl
theorem zf_m158 : Cond.code yX8_isFighterOrNone cX8_isFighterOrNone 2 (some .boolean) ∈ zf_T := zf_ti (zf_it2 (List.mem_of_getElem? (i := 40) rfl)) rfl
theorem zf_m159 : Cond.methodLink RX8 89 yX5_has ∈ zf_T := zf_ti (zf_it2 (List.mem_of_getElem? (i := 41) rfl)) rfl
theorem zf_m160 : Cond.methodLink RX8 101 yX8_isSide ∈ zf_T := zf_ti (zf_it2 (List.mem_of_getElem? (i := 45) rfl)) rfl
theorem zf_m161 : Cond.static yX8_isSide ∈ zf_T := zf_ti (zf_it2 (List.mem_of_getElem? (i := 46) rfl)) rfl
theorem zf_m162 : Cond.code yX8_isSide cX8_isSide 1 (some .boolean) ∈ zf_T := zf_ti (zf_it2 (List.mem_of_getElem? (i := 47) rfl)) rfl
theorem zf_m163 : Cond.methodLink RX8 104 yX6_become ∈ zf_T := zf_ti (zf_it2 (List.mem_of_getElem? (i := 48) rfl)) rfl
theorem zf_m164 : Cond.instanceMethod yX6_become ∈ zf_T := zf_ti (zf_it2 (List.mem_of_getElem? (i := 49) rfl)) rfl
theorem zf_m165 : Cond.selects RX6 yX6_become yX6_become ∈ zf_T := zf_ti (zf_it2 (List.mem_of_getElem? (i := 50) rfl)) rfl
theorem zf_m166 : Cond.code yX6_become cX6_become 5 none ∈ zf_T := zf_ti (zf_it2 (List.mem_of_getElem? (i := 51) rfl)) rfl
theorem zf_m167 : Cond.methodLink RL 34 yX8_laws ∈ zf_T := zf_ti (zf_it2 (List.mem_of_getElem? (i := 52) rfl)) rfl
theorem zf_m168 : Cond.instanceMethod yX8_laws ∈ zf_T := zf_ti (zf_it2 (List.mem_of_getElem? (i := 53) rfl)) rfl
theorem zf_m169 : Cond.selects RX8 yX8_laws yX8_laws ∈ zf_T := zf_ti (zf_it2 (List.mem_of_getElem? (i := 54) rfl)) rfl
theorem zf_m170 : Cond.code yX8_laws cX8_laws 5 (some .int) ∈ zf_T := zf_ti (zf_it2 (List.mem_of_getElem? (i := 55) rfl)) rfl
theorem zf_m171 : Cond.methodLink RX8 115 yX8_isSideOrNone ∈ zf_T := zf_ti (zf_it2 (List.mem_of_getElem? (i := 56) rfl)) rfl
theorem zf_m172 : Cond.static yX8_isSideOrNone ∈ zf_T := zf_ti (zf_it2 (List.mem_of_getElem? (i := 57) rfl)) rfl
theorem zf_m173 : Cond.code yX8_isSideOrNone cX8_isSideOrNone 1 (some .boolean) ∈ zf_T := zf_ti (zf_it2 (List.mem_of_getElem? (i := 58) rfl)) rfl
theorem zf_m174 : Cond.methodLink RL 38 yX8_sheet ∈ zf_T := zf_ti (zf_it3 (List.mem_of_getElem? (i := 30) rfl)) rfl
theorem zf_m175 : Cond.instanceMethod yX8_sheet ∈ zf_T := zf_ti (zf_it3 (List.mem_of_getElem? (i := 31) rfl)) rfl
theorem zf_m176 : Cond.selects RX8 yX8_sheet yX8_sheet ∈ zf_T := zf_ti (zf_it3 (List.mem_of_getElem? (i := 32) rfl)) rfl
theorem zf_m177 : Cond.code yX8_sheet cX8_sheet 4 (some .int) ∈ zf_T := zf_ti (zf_it3 (List.mem_of_getElem? (i := 33) rfl)) rfl
theorem zf_m178 : Cond.methodLink RX8 204 yX8_isSheet ∈ zf_T := zf_ti (zf_it2 (List.mem_of_getElem? (i := 233) rfl)) rfl
theorem zf_m179 : Cond.static yX8_isSheet ∈ zf_T := zf_ti (zf_it2 (List.mem_of_getElem? (i := 234) rfl)) rfl
theorem zf_m180 : Cond.code yX8_isSheet cX8_isSheet 1 (some .boolean) ∈ zf_T := zf_ti (zf_it2 (List.mem_of_getElem? (i := 235) rfl)) rfl
theorem zf_m181 : Cond.methodLink RX8 233 yX8_isForm ∈ zf_T := zf_ti (zf_it3 (List.mem_of_getElem? (i := 34) rfl)) rfl
theorem zf_m182 : Cond.static yX8_isForm ∈ zf_T := zf_ti (zf_it3 (List.mem_of_getElem? (i := 35) rfl)) rfl
theorem zf_m183 : Cond.code yX8_isForm cX8_isForm 1 (some .boolean) ∈ zf_T := zf_ti (zf_it3 (List.mem_of_getElem? (i := 36) rfl)) rfl
theorem zf_m184 : Cond.methodLink RX8 211 yX8_found ∈ zf_T := zf_ti (zf_it2 (List.mem_of_getElem? (i := 236) rfl)) rfl
theorem zf_m185 : Cond.instanceMethod yX8_found ∈ zf_T := zf_ti (zf_it2 (List.mem_of_getElem? (i := 238) rfl)) rfl
theorem zf_m186 : Cond.selects RX8 yX8_found yX8_found ∈ zf_T := zf_ti (zf_wS (List.mem_of_getElem? (i := 14) rfl)) rfl
theorem zf_m187 : Cond.code yX8_found cX8_found 2 (some .int) ∈ zf_T := zf_ti (zf_it2 (List.mem_of_getElem? (i := 239) rfl)) rfl
theorem zf_m188 : Cond.methodLink RX8 236 yX7_renew ∈ zf_T := zf_ti (zf_it3 (List.mem_of_getElem? (i := 37) rfl)) rfl
theorem zf_m189 : Cond.instanceMethod yX7_renew ∈ zf_T := zf_ti (zf_it3 (List.mem_of_getElem? (i := 38) rfl)) rfl
theorem zf_m190 : Cond.selects RX7 yX7_renew yX7_renew ∈ zf_T := zf_ti (zf_it3 (List.mem_of_getElem? (i := 39) rfl)) rfl
theorem zf_m191 : Cond.code yX7_renew cX7_renew 4 none ∈ zf_T := zf_ti (zf_it3 (List.mem_of_getElem? (i := 40) rfl)) rfl
theorem zf_m192 : Cond.methodLink RL 41 yX8_states ∈ zf_T := zf_ti (zf_it2 (List.mem_of_getElem? (i := 221) rfl)) rfl
theorem zf_m193 : Cond.instanceMethod yX8_states ∈ zf_T := zf_ti (zf_it2 (List.mem_of_getElem? (i := 222) rfl)) rfl
theorem zf_m194 : Cond.selects RX8 yX8_states yX8_states ∈ zf_T := zf_ti (zf_it2 (List.mem_of_getElem? (i := 223) rfl)) rfl
theorem zf_m195 : Cond.code yX8_states cX8_states 1 (some .int) ∈ zf_T := zf_ti (zf_it2 (List.mem_of_getElem? (i := 224) rfl)) rfl
theorem zf_m196 : Cond.fieldLink RX8 146 "FairFight$Odds" "widest" "I" ∈ zf_T := zf_ti (zf_it1 (List.mem_of_getElem? (i := 117) rfl)) rfl
theorem zf_m197 : Cond.methodLink RX8 119 yX8_reckonFight ∈ zf_T := zf_ti (zf_it2 (List.mem_of_getElem? (i := 67) rfl)) rfl
theorem zf_m198 : Cond.instanceMethod yX8_reckonFight ∈ zf_T := zf_ti (zf_it2 (List.mem_of_getElem? (i := 69) rfl)) rfl
theorem zf_m199 : Cond.selects RX8 yX8_reckonFight yX8_reckonFight ∈ zf_T := zf_ti (zf_wS (List.mem_of_getElem? (i := 2) rfl)) rfl
theorem zf_m200 : Cond.code yX8_reckonFight cX8_reckonFight 1 (some .boolean) ∈ zf_T := zf_ti (zf_it2 (List.mem_of_getElem? (i := 70) rfl)) rfl
theorem zf_m201 : Cond.methodLink RX8 214 yX8_seatFight ∈ zf_T := zf_ti (zf_it2 (List.mem_of_getElem? (i := 71) rfl)) rfl
theorem zf_m202 : Cond.instanceMethod yX8_seatFight ∈ zf_T := zf_ti (zf_it2 (List.mem_of_getElem? (i := 73) rfl)) rfl
theorem zf_m203 : Cond.selects RX8 yX8_seatFight yX8_seatFight ∈ zf_T := zf_ti (zf_wS (List.mem_of_getElem? (i := 3) rfl)) rfl
theorem zf_m204 : Cond.code yX8_seatFight cX8_seatFight 1 none ∈ zf_T := zf_ti (zf_it2 (List.mem_of_getElem? (i := 74) rfl)) rfl
theorem zf_m205 : Cond.methodLink RX8 157 yX2_open ∈ zf_T := zf_ti (zf_it2 (List.mem_of_getElem? (i := 75) rfl)) rfl
theorem zf_m206 : Cond.instanceMethod yX2_open ∈ zf_T := zf_ti (zf_it2 (List.mem_of_getElem? (i := 76) rfl)) rfl
theorem zf_m207 : Cond.selects RX2 yX2_open yX2_open ∈ zf_T := zf_ti (zf_it2 (List.mem_of_getElem? (i := 77) rfl)) rfl
theorem zf_m208 : Cond.code yX2_open cX2_open 4 none ∈ zf_T := zf_ti (zf_it2 (List.mem_of_getElem? (i := 78) rfl)) rfl
theorem zf_m209 : Cond.methodLink RX8 160 yX8_seatHeroes ∈ zf_T := zf_ti (zf_it2 (List.mem_of_getElem? (i := 79) rfl)) rfl
theorem zf_m210 : Cond.instanceMethod yX8_seatHeroes ∈ zf_T := zf_ti (zf_it2 (List.mem_of_getElem? (i := 81) rfl)) rfl
theorem zf_m211 : Cond.selects RX8 yX8_seatHeroes yX8_seatHeroes ∈ zf_T := zf_ti (zf_wS (List.mem_of_getElem? (i := 4) rfl)) rfl
theorem zf_m212 : Cond.code yX8_seatHeroes cX8_seatHeroes 5 none ∈ zf_T := zf_ti (zf_it2 (List.mem_of_getElem? (i := 82) rfl)) rfl
theorem zf_m213 : Cond.fieldLink RX8 118 "FairFight$Row" "size" "I" ∈ zf_T := zf_ti (zf_it1 (List.mem_of_getElem? (i := 157) rfl)) rfl
theorem zf_m214 : Cond.methodLink RX8 139 yX8_seatOf ∈ zf_T := zf_ti (zf_it2 (List.mem_of_getElem? (i := 83) rfl)) rfl
theorem zf_m215 : Cond.static yX8_seatOf ∈ zf_T := zf_ti (zf_it2 (List.mem_of_getElem? (i := 84) rfl)) rfl
theorem zf_m216 : Cond.code yX8_seatOf cX8_seatOf 2 (some .int) ∈ zf_T := zf_ti (zf_it2 (List.mem_of_getElem? (i := 85) rfl)) rfl
theorem zf_m217 : Cond.methodLink RX8 111 yX6_who ∈ zf_T := zf_ti (zf_it2 (List.mem_of_getElem? (i := 86) rfl)) rfl
theorem zf_m218 : Cond.instanceMethod yX6_who ∈ zf_T := zf_ti (zf_it2 (List.mem_of_getElem? (i := 87) rfl)) rfl
theorem zf_m219 : Cond.selects RX6 yX6_who yX6_who ∈ zf_T := zf_ti (zf_it2 (List.mem_of_getElem? (i := 88) rfl)) rfl
theorem zf_m220 : Cond.code yX6_who cX6_who 2 (some .int) ∈ zf_T := zf_ti (zf_it2 (List.mem_of_getElem? (i := 89) rfl)) rfl
theorem zf_m221 : Cond.static yX8_isPlace ∈ zf_T := zf_ti (zf_it2 (List.mem_of_getElem? (i := 91) rfl)) rfl
theorem zf_m222 : Cond.code yX8_isPlace cX8_isPlace 1 (some .boolean) ∈ zf_T := zf_ti (zf_it2 (List.mem_of_getElem? (i := 92) rfl)) rfl
theorem zf_m223 : Cond.methodLink RX8 288 yX2_seat ∈ zf_T := zf_ti (zf_it2 (List.mem_of_getElem? (i := 93) rfl)) rfl
theorem zf_m224 : Cond.instanceMethod yX2_seat ∈ zf_T := zf_ti (zf_it2 (List.mem_of_getElem? (i := 94) rfl)) rfl
theorem zf_m225 : Cond.selects RX2 yX2_seat yX2_seat ∈ zf_T := zf_ti (zf_it2 (List.mem_of_getElem? (i := 95) rfl)) rfl
theorem zf_m226 : Cond.code yX2_seat cX2_seat 6 none ∈ zf_T := zf_ti (zf_it2 (List.mem_of_getElem? (i := 96) rfl)) rfl
theorem zf_m227 : Cond.methodLink RX2 46 yX5_number ∈ zf_T := zf_ti (zf_it2 (List.mem_of_getElem? (i := 97) rfl)) rfl
theorem zf_m228 : Cond.instanceMethod yX5_number ∈ zf_T := zf_ti (zf_it2 (List.mem_of_getElem? (i := 98) rfl)) rfl
theorem zf_m229 : Cond.selects RX5 yX5_number yX5_number ∈ zf_T := zf_ti (zf_it2 (List.mem_of_getElem? (i := 99) rfl)) rfl
theorem zf_m230 : Cond.code yX5_number cX5_number 3 (some .int) ∈ zf_T := zf_ti (zf_it2 (List.mem_of_getElem? (i := 100) rfl)) rfl
theorem zf_m231 : Cond.methodLink RX8 164 yX8_seatFoes ∈ zf_T := zf_ti (zf_it2 (List.mem_of_getElem? (i := 102) rfl)) rfl
theorem zf_m232 : Cond.instanceMethod yX8_seatFoes ∈ zf_T := zf_ti (zf_it2 (List.mem_of_getElem? (i := 104) rfl)) rfl
theorem zf_m233 : Cond.selects RX8 yX8_seatFoes yX8_seatFoes ∈ zf_T := zf_ti (zf_wS (List.mem_of_getElem? (i := 5) rfl)) rfl
theorem zf_m234 : Cond.code yX8_seatFoes cX8_seatFoes 3 none ∈ zf_T := zf_ti (zf_it2 (List.mem_of_getElem? (i := 105) rfl)) rfl
theorem zf_m235 : Cond.methodLink RX8 168 yX4_reckon ∈ zf_T := zf_ti (zf_it2 (List.mem_of_getElem? (i := 106) rfl)) rfl
theorem zf_m236 : Cond.instanceMethod yX4_reckon ∈ zf_T := zf_ti (zf_it2 (List.mem_of_getElem? (i := 107) rfl)) rfl
theorem zf_m237 : Cond.selects RX4 yX4_reckon yX4_reckon ∈ zf_T := zf_ti (zf_it2 (List.mem_of_getElem? (i := 108) rfl)) rfl
theorem zf_m238 : Cond.code yX4_reckon cX4_reckon 9 (some .boolean) ∈ zf_T := zf_ti (zf_it2 (List.mem_of_getElem? (i := 109) rfl)) rfl
theorem zf_m239 : Cond.fieldLink RX4 42 "FairFight$Fray" "rounds" "I" ∈ zf_T := zf_ti (zf_it1 (List.mem_of_getElem? (i := 55) rfl)) rfl
theorem zf_m240 : Cond.fieldLink RX4 47 "FairFight$Fray" "size" "I" ∈ zf_T := zf_ti (zf_it1 (List.mem_of_getElem? (i := 52) rfl)) rfl
theorem zf_m241 : Cond.fieldLink RX4 73 "FairFight$Layer" "size" "I" ∈ zf_T := zf_ti (zf_it1 (List.mem_of_getElem? (i := 99) rfl)) rfl
theorem zf_m242 : Cond.methodLink RX4 74 Lib.Math.max.name ∈ zf_T := zf_ti (zf_it2 (List.mem_of_getElem? (i := 147) rfl)) rfl
theorem zf_m243 : Cond.static Lib.Math.max.name ∈ zf_T := zf_ti (zf_it2 (List.mem_of_getElem? (i := 148) rfl)) rfl
theorem zf_m244 : Cond.initialized "java/lang/Math" ∈ zf_T := zf_ti (zf_it1 (List.mem_of_getElem? (i := 10) rfl)) rfl
theorem zf_m245 : Cond.code Lib.Math.max.name Lib.Math.max.code 2 (some .int) ∈ zf_T := zf_ti (zf_it2 (List.mem_of_getElem? (i := 149) rfl)) rfl
theorem zf_m246 : Cond.constantLong RX4 80 (6) ∈ zf_T := zf_ti (zf_it2 (List.mem_of_getElem? (i := 121) rfl)) rfl
theorem zf_m247 : Cond.fieldLink RX4 82 "FairFight$Fray" "order" "[I" ∈ zf_T := zf_ti (zf_it1 (List.mem_of_getElem? (i := 50) rfl)) rfl
theorem zf_m248 : Cond.methodLink RX4 50 yX4_clear ∈ zf_T := zf_ti (zf_it2 (List.mem_of_getElem? (i := 110) rfl)) rfl
theorem zf_m249 : Cond.instanceMethod yX4_clear ∈ zf_T := zf_ti (zf_it2 (List.mem_of_getElem? (i := 112) rfl)) rfl
theorem zf_m250 : Cond.selects RX4 yX4_clear yX4_clear ∈ zf_T := zf_ti (zf_wS (List.mem_of_getElem? (i := 6) rfl)) rfl
theorem zf_m251 : Cond.code yX4_clear cX4_clear 2 none ∈ zf_T := zf_ti (zf_it2 (List.mem_of_getElem? (i := 113) rfl)) rfl
theorem zf_m252 : Cond.methodLink RX4 92 yX3_empty ∈ zf_T := zf_ti (zf_it2 (List.mem_of_getElem? (i := 114) rfl)) rfl
theorem zf_m253 : Cond.instanceMethod yX3_empty ∈ zf_T := zf_ti (zf_it2 (List.mem_of_getElem? (i := 115) rfl)) rfl
theorem zf_m254 : Cond.selects RX3 yX3_empty yX3_empty ∈ zf_T := zf_ti (zf_it2 (List.mem_of_getElem? (i := 116) rfl)) rfl
theorem zf_m255 : Cond.code yX3_empty cX3_empty 2 none ∈ zf_T := zf_ti (zf_it2 (List.mem_of_getElem? (i := 117) rfl)) rfl
theorem zf_m256 : Cond.methodLink RX4 53 yX4_powerOfSix ∈ zf_T := zf_ti (zf_it2 (List.mem_of_getElem? (i := 118) rfl)) rfl
theorem zf_m257 : Cond.static yX4_powerOfSix ∈ zf_T := zf_ti (zf_it2 (List.mem_of_getElem? (i := 119) rfl)) rfl
theorem zf_m258 : Cond.code yX4_powerOfSix cX4_powerOfSix 4 (some .long) ∈ zf_T := zf_ti (zf_it2 (List.mem_of_getElem? (i := 120) rfl)) rfl
theorem zf_m259 : Cond.methodLink RX4 57 yX2_beginning ∈ zf_T := zf_ti (zf_it2 (List.mem_of_getElem? (i := 122) rfl)) rfl
theorem zf_m260 : Cond.instanceMethod yX2_beginning ∈ zf_T := zf_ti (zf_it2 (List.mem_of_getElem? (i := 123) rfl)) rfl
theorem zf_m261 : Cond.selects RX2 yX2_beginning yX2_beginning ∈ zf_T := zf_ti (zf_it2 (List.mem_of_getElem? (i := 124) rfl)) rfl
theorem zf_m262 : Cond.code yX2_beginning cX2_beginning 5 (some .long) ∈ zf_T := zf_ti (zf_it2 (List.mem_of_getElem? (i := 125) rfl)) rfl
theorem zf_m263 : Cond.methodLink RX4 61 yX2_winner ∈ zf_T := zf_ti (zf_it2 (List.mem_of_getElem? (i := 126) rfl)) rfl
theorem zf_m264 : Cond.static yX2_winner ∈ zf_T := zf_ti (zf_it2 (List.mem_of_getElem? (i := 127) rfl)) rfl
theorem zf_m265 : Cond.code yX2_winner cX2_winner 2 (some .int) ∈ zf_T := zf_ti (zf_it2 (List.mem_of_getElem? (i := 128) rfl)) rfl
theorem zf_m266 : Cond.constantLong RX2 52 (133152) ∈ zf_T := zf_ti (zf_it2 (List.mem_of_getElem? (i := 129) rfl)) rfl
theorem zf_m267 : Cond.constantLong RX2 54 (34904997888) ∈ zf_T := zf_ti (zf_it2 (List.mem_of_getElem? (i := 130) rfl)) rfl
theorem zf_m268 : Cond.methodLink RX4 65 yX4_tally ∈ zf_T := zf_ti (zf_it2 (List.mem_of_getElem? (i := 131) rfl)) rfl
theorem zf_m269 : Cond.instanceMethod yX4_tally ∈ zf_T := zf_ti (zf_it2 (List.mem_of_getElem? (i := 133) rfl)) rfl
theorem zf_m270 : Cond.selects RX4 yX4_tally yX4_tally ∈ zf_T := zf_ti (zf_wS (List.mem_of_getElem? (i := 7) rfl)) rfl
theorem zf_m271 : Cond.code yX4_tally cX4_tally 12 none ∈ zf_T := zf_ti (zf_it2 (List.mem_of_getElem? (i := 134) rfl)) rfl
theorem zf_m272 : Cond.methodLink RX4 124 yX2_part ∈ zf_T := zf_ti (zf_it2 (List.mem_of_getElem? (i := 135) rfl)) rfl
theorem zf_m273 : Cond.static yX2_part ∈ zf_T := zf_ti (zf_it2 (List.mem_of_getElem? (i := 136) rfl)) rfl
theorem zf_m274 : Cond.code yX2_part cX2_part 3 (some .int) ∈ zf_T := zf_ti (zf_it2 (List.mem_of_getElem? (i := 137) rfl)) rfl
theorem zf_m275 : Cond.methodLink RX4 69 yX3_join ∈ zf_T := zf_ti (zf_it2 (List.mem_of_getElem? (i := 138) rfl)) rfl
theorem zf_m276 : Cond.instanceMethod yX3_join ∈ zf_T := zf_ti (zf_it2 (List.mem_of_getElem? (i := 139) rfl)) rfl
theorem zf_m277 : Cond.selects RX3 yX3_join yX3_join ∈ zf_T := zf_ti (zf_it2 (List.mem_of_getElem? (i := 140) rfl)) rfl
theorem zf_m278 : Cond.code yX3_join cX3_join 8 (some .boolean) ∈ zf_T := zf_ti (zf_it2 (List.mem_of_getElem? (i := 141) rfl)) rfl
theorem zf_m279 : Cond.constantLong RX3 29 (-7046029254386353131) ∈ zf_T := zf_ti (zf_it2 (List.mem_of_getElem? (i := 142) rfl)) rfl
theorem zf_m280 : Cond.methodLink RX3 31 yX3_joinNew ∈ zf_T := zf_ti (zf_it2 (List.mem_of_getElem? (i := 143) rfl)) rfl
theorem zf_m281 : Cond.instanceMethod yX3_joinNew ∈ zf_T := zf_ti (zf_it2 (List.mem_of_getElem? (i := 145) rfl)) rfl
theorem zf_m282 : Cond.selects RX3 yX3_joinNew yX3_joinNew ∈ zf_T := zf_ti (zf_wS (List.mem_of_getElem? (i := 8) rfl)) rfl
theorem zf_m283 : Cond.code yX3_joinNew cX3_joinNew 6 (some .boolean) ∈ zf_T := zf_ti (zf_it2 (List.mem_of_getElem? (i := 146) rfl)) rfl
theorem zf_m284 : Cond.methodLink RX4 86 yX4_reckonSlot ∈ zf_T := zf_ti (zf_it2 (List.mem_of_getElem? (i := 150) rfl)) rfl
theorem zf_m285 : Cond.instanceMethod yX4_reckonSlot ∈ zf_T := zf_ti (zf_it2 (List.mem_of_getElem? (i := 152) rfl)) rfl
theorem zf_m286 : Cond.selects RX4 yX4_reckonSlot yX4_reckonSlot ∈ zf_T := zf_ti (zf_wS (List.mem_of_getElem? (i := 9) rfl)) rfl
theorem zf_m287 : Cond.code yX4_reckonSlot cX4_reckonSlot 12 (some .boolean) ∈ zf_T := zf_ti (zf_it2 (List.mem_of_getElem? (i := 153) rfl)) rfl
theorem zf_m288 : Cond.fieldLink RX4 95 "FairFight$Layer" "states" "[J" ∈ zf_T := zf_ti (zf_it1 (List.mem_of_getElem? (i := 95) rfl)) rfl
theorem zf_m289 : Cond.fieldLink RX4 98 "FairFight$Layer" "ways" "[J" ∈ zf_T := zf_ti (zf_it1 (List.mem_of_getElem? (i := 97) rfl)) rfl
theorem zf_m290 : Cond.methodLink RX4 101 yX2_hasTurn ∈ zf_T := zf_ti (zf_it2 (List.mem_of_getElem? (i := 154) rfl)) rfl
theorem zf_m291 : Cond.instanceMethod yX2_hasTurn ∈ zf_T := zf_ti (zf_it2 (List.mem_of_getElem? (i := 155) rfl)) rfl
theorem zf_m292 : Cond.selects RX2 yX2_hasTurn yX2_hasTurn ∈ zf_T := zf_ti (zf_it2 (List.mem_of_getElem? (i := 156) rfl)) rfl
theorem zf_m293 : Cond.code yX2_hasTurn cX2_hasTurn 6 (some .boolean) ∈ zf_T := zf_ti (zf_it2 (List.mem_of_getElem? (i := 157) rfl)) rfl
theorem zf_m294 : Cond.methodLink RX2 56 yX2_part ∈ zf_T := zf_ti (zf_it2 (List.mem_of_getElem? (i := 158) rfl)) rfl
theorem zf_m295 : Cond.methodLink RX4 105 yX4_pass ∈ zf_T := zf_ti (zf_it2 (List.mem_of_getElem? (i := 159) rfl)) rfl
theorem zf_m296 : Cond.instanceMethod yX4_pass ∈ zf_T := zf_ti (zf_it2 (List.mem_of_getElem? (i := 161) rfl)) rfl
theorem zf_m297 : Cond.selects RX4 yX4_pass yX4_pass ∈ zf_T := zf_ti (zf_wS (List.mem_of_getElem? (i := 10) rfl)) rfl
theorem zf_m298 : Cond.code yX4_pass cX4_pass 9 (some .boolean) ∈ zf_T := zf_ti (zf_it2 (List.mem_of_getElem? (i := 162) rfl)) rfl
theorem zf_m299 : Cond.methodLink RX4 109 yX2_flees ∈ zf_T := zf_ti (zf_it2 (List.mem_of_getElem? (i := 163) rfl)) rfl
theorem zf_m300 : Cond.instanceMethod yX2_flees ∈ zf_T := zf_ti (zf_it2 (List.mem_of_getElem? (i := 164) rfl)) rfl
theorem zf_m301 : Cond.selects RX2 yX2_flees yX2_flees ∈ zf_T := zf_ti (zf_it2 (List.mem_of_getElem? (i := 165) rfl)) rfl
theorem zf_m302 : Cond.code yX2_flees cX2_flees 4 (some .boolean) ∈ zf_T := zf_ti (zf_it2 (List.mem_of_getElem? (i := 166) rfl)) rfl
theorem zf_m303 : Cond.methodLink RX2 60 yX2_lifeOf ∈ zf_T := zf_ti (zf_it2 (List.mem_of_getElem? (i := 167) rfl)) rfl
theorem zf_m304 : Cond.static yX2_lifeOf ∈ zf_T := zf_ti (zf_it2 (List.mem_of_getElem? (i := 168) rfl)) rfl
theorem zf_m305 : Cond.code yX2_lifeOf cX2_lifeOf 1 (some .int) ∈ zf_T := zf_ti (zf_it2 (List.mem_of_getElem? (i := 169) rfl)) rfl
theorem zf_m306 : Cond.methodLink RX4 113 yX2_afterFlight ∈ zf_T := zf_ti (zf_it2 (List.mem_of_getElem? (i := 170) rfl)) rfl
theorem zf_m307 : Cond.instanceMethod yX2_afterFlight ∈ zf_T := zf_ti (zf_it2 (List.mem_of_getElem? (i := 171) rfl)) rfl
theorem zf_m308 : Cond.selects RX2 yX2_afterFlight yX2_afterFlight ∈ zf_T := zf_ti (zf_it2 (List.mem_of_getElem? (i := 172) rfl)) rfl
theorem zf_m309 : Cond.code yX2_afterFlight cX2_afterFlight 4 (some .long) ∈ zf_T := zf_ti (zf_it2 (List.mem_of_getElem? (i := 173) rfl)) rfl
theorem zf_m310 : Cond.constantLong RX2 64 (32) ∈ zf_T := zf_ti (zf_it2 (List.mem_of_getElem? (i := 174) rfl)) rfl
theorem zf_m311 : Cond.constantLong RX2 66 (-1) ∈ zf_T := zf_ti (zf_it2 (List.mem_of_getElem? (i := 175) rfl)) rfl
theorem zf_m312 : Cond.methodLink RX4 117 yX2_hits ∈ zf_T := zf_ti (zf_it2 (List.mem_of_getElem? (i := 176) rfl)) rfl
theorem zf_m313 : Cond.instanceMethod yX2_hits ∈ zf_T := zf_ti (zf_it2 (List.mem_of_getElem? (i := 177) rfl)) rfl
theorem zf_m314 : Cond.selects RX2 yX2_hits yX2_hits ∈ zf_T := zf_ti (zf_it2 (List.mem_of_getElem? (i := 178) rfl)) rfl
theorem zf_m315 : Cond.code yX2_hits cX2_hits 2 (some .int) ∈ zf_T := zf_ti (zf_it2 (List.mem_of_getElem? (i := 179) rfl)) rfl
theorem zf_m316 : Cond.methodLink RX4 121 yX2_afterHit ∈ zf_T := zf_ti (zf_it2 (List.mem_of_getElem? (i := 180) rfl)) rfl
theorem zf_m317 : Cond.instanceMethod yX2_afterHit ∈ zf_T := zf_ti (zf_it2 (List.mem_of_getElem? (i := 181) rfl)) rfl
theorem zf_m318 : Cond.selects RX2 yX2_afterHit yX2_afterHit ∈ zf_T := zf_ti (zf_it2 (List.mem_of_getElem? (i := 182) rfl)) rfl
theorem zf_m319 : Cond.code yX2_afterHit cX2_afterHit 5 (some .long) ∈ zf_T := zf_ti (zf_it2 (List.mem_of_getElem? (i := 183) rfl)) rfl
theorem zf_m320 : Cond.methodLink RX2 68 yX2_chosen ∈ zf_T := zf_ti (zf_it2 (List.mem_of_getElem? (i := 184) rfl)) rfl
theorem zf_m321 : Cond.instanceMethod yX2_chosen ∈ zf_T := zf_ti (zf_it2 (List.mem_of_getElem? (i := 186) rfl)) rfl
theorem zf_m322 : Cond.selects RX2 yX2_chosen yX2_chosen ∈ zf_T := zf_ti (zf_wS (List.mem_of_getElem? (i := 11) rfl)) rfl
theorem zf_m323 : Cond.code yX2_chosen cX2_chosen 9 (some .int) ∈ zf_T := zf_ti (zf_it2 (List.mem_of_getElem? (i := 187) rfl)) rfl
theorem zf_m324 : Cond.methodLink RX2 72 yX2_struck ∈ zf_T := zf_ti (zf_it2 (List.mem_of_getElem? (i := 188) rfl)) rfl
theorem zf_m325 : Cond.static yX2_struck ∈ zf_T := zf_ti (zf_it2 (List.mem_of_getElem? (i := 189) rfl)) rfl
theorem zf_m326 : Cond.code yX2_struck cX2_struck 6 (some .long) ∈ zf_T := zf_ti (zf_it2 (List.mem_of_getElem? (i := 190) rfl)) rfl
theorem zf_m327 : Cond.constantLong RX2 82 (31) ∈ zf_T := zf_ti (zf_it2 (List.mem_of_getElem? (i := 191) rfl)) rfl
theorem zf_m328 : Cond.constantLong RX2 84 (63) ∈ zf_T := zf_ti (zf_it2 (List.mem_of_getElem? (i := 192) rfl)) rfl
theorem zf_m329 : Cond.methodLink RX2 76 yX2_allStruck ∈ zf_T := zf_ti (zf_it2 (List.mem_of_getElem? (i := 193) rfl)) rfl
theorem zf_m330 : Cond.instanceMethod yX2_allStruck ∈ zf_T := zf_ti (zf_it2 (List.mem_of_getElem? (i := 195) rfl)) rfl
theorem zf_m331 : Cond.selects RX2 yX2_allStruck yX2_allStruck ∈ zf_T := zf_ti (zf_wS (List.mem_of_getElem? (i := 12) rfl)) rfl
theorem zf_m332 : Cond.code yX2_allStruck cX2_allStruck 8 (some .long) ∈ zf_T := zf_ti (zf_it2 (List.mem_of_getElem? (i := 196) rfl)) rfl
theorem zf_m333 : Cond.methodLink RX2 79 yX2_healed ∈ zf_T := zf_ti (zf_it2 (List.mem_of_getElem? (i := 197) rfl)) rfl
theorem zf_m334 : Cond.instanceMethod yX2_healed ∈ zf_T := zf_ti (zf_it2 (List.mem_of_getElem? (i := 199) rfl)) rfl
theorem zf_m335 : Cond.selects RX2 yX2_healed yX2_healed ∈ zf_T := zf_ti (zf_wS (List.mem_of_getElem? (i := 13) rfl)) rfl
theorem zf_m336 : Cond.code yX2_healed cX2_healed 6 (some .long) ∈ zf_T := zf_ti (zf_it2 (List.mem_of_getElem? (i := 200) rfl)) rfl
theorem zf_m337 : Cond.methodLink RX2 86 Lib.Math.min.name ∈ zf_T := zf_ti (zf_it2 (List.mem_of_getElem? (i := 201) rfl)) rfl
theorem zf_m338 : Cond.static Lib.Math.min.name ∈ zf_T := zf_ti (zf_it2 (List.mem_of_getElem? (i := 202) rfl)) rfl
theorem zf_m339 : Cond.code Lib.Math.min.name Lib.Math.min.code 2 (some .int) ∈ zf_T := zf_ti (zf_it2 (List.mem_of_getElem? (i := 203) rfl)) rfl
theorem zf_m340 : Cond.methodLink RL 45 yX8_slots ∈ zf_T := zf_ti (zf_it2 (List.mem_of_getElem? (i := 59) rfl)) rfl
theorem zf_m341 : Cond.instanceMethod yX8_slots ∈ zf_T := zf_ti (zf_it2 (List.mem_of_getElem? (i := 60) rfl)) rfl
theorem zf_m342 : Cond.selects RX8 yX8_slots yX8_slots ∈ zf_T := zf_ti (zf_it2 (List.mem_of_getElem? (i := 61) rfl)) rfl
theorem zf_m343 : Cond.code yX8_slots cX8_slots 1 (some .int) ∈ zf_T := zf_ti (zf_it2 (List.mem_of_getElem? (i := 62) rfl)) rfl
theorem zf_m344 : Cond.methodLink RL 48 yX8_ways ∈ zf_T := zf_ti (zf_it2 (List.mem_of_getElem? (i := 208) rfl)) rfl
theorem zf_m345 : Cond.instanceMethod yX8_ways ∈ zf_T := zf_ti (zf_it2 (List.mem_of_getElem? (i := 209) rfl)) rfl
theorem zf_m346 : Cond.selects RX8 yX8_ways yX8_ways ∈ zf_T := zf_ti (zf_it2 (List.mem_of_getElem? (i := 210) rfl)) rfl
theorem zf_m347 : Cond.code yX8_ways cX8_ways 2 (some .long) ∈ zf_T := zf_ti (zf_it2 (List.mem_of_getElem? (i := 211) rfl)) rfl
theorem zf_m348 : Cond.fieldLink RX8 131 "FairFight$Odds" "byEnd" "[J" ∈ zf_T := zf_ti (zf_it1 (List.mem_of_getElem? (i := 119) rfl)) rfl
theorem zf_m349 : Cond.methodLink RX8 127 yX8_refusal ∈ zf_T := zf_ti (zf_it2 (List.mem_of_getElem? (i := 204) rfl)) rfl
theorem zf_m350 : Cond.static yX8_refusal ∈ zf_T := zf_ti (zf_it2 (List.mem_of_getElem? (i := 205) rfl)) rfl
theorem zf_m351 : Cond.code yX8_refusal cX8_refusal 1 (some .long) ∈ zf_T := zf_ti (zf_it2 (List.mem_of_getElem? (i := 206) rfl)) rfl
theorem zf_m352 : Cond.constantLong RX8 285 (-9223372036854775808) ∈ zf_T := zf_ti (zf_it2 (List.mem_of_getElem? (i := 207) rfl)) rfl
theorem zf_m353 : Cond.methodLink RL 54 yX8_all ∈ zf_T := zf_ti (zf_it2 (List.mem_of_getElem? (i := 63) rfl)) rfl
theorem zf_m354 : Cond.instanceMethod yX8_all ∈ zf_T := zf_ti (zf_it2 (List.mem_of_getElem? (i := 64) rfl)) rfl
theorem zf_m355 : Cond.selects RX8 yX8_all yX8_all ∈ zf_T := zf_ti (zf_it2 (List.mem_of_getElem? (i := 65) rfl)) rfl
theorem zf_m356 : Cond.code yX8_all cX8_all 1 (some .long) ∈ zf_T := zf_ti (zf_it2 (List.mem_of_getElem? (i := 66) rfl)) rfl
theorem zf_m357 : Cond.fieldLink RX8 123 "FairFight$Odds" "total" "J" ∈ zf_T := zf_ti (zf_it1 (List.mem_of_getElem? (i := 115) rfl)) rfl
theorem zf_m358 : Cond.methodLink RL 58 yX8_shake ∈ zf_T := zf_ti (zf_it3 (List.mem_of_getElem? (i := 53) rfl)) rfl
theorem zf_m359 : Cond.instanceMethod yX8_shake ∈ zf_T := zf_ti (zf_it3 (List.mem_of_getElem? (i := 54) rfl)) rfl
theorem zf_m360 : Cond.selects RX8 yX8_shake yX8_shake ∈ zf_T := zf_ti (zf_it3 (List.mem_of_getElem? (i := 55) rfl)) rfl
theorem zf_m361 : Cond.code yX8_shake cX8_shake 6 (some .int) ∈ zf_T := zf_ti (zf_it3 (List.mem_of_getElem? (i := 56) rfl)) rfl
theorem zf_m362 : Cond.fieldLink RX8 207 "FairFight$Sheet" "lost" "Z" ∈ zf_T := zf_ti (zf_it1 (List.mem_of_getElem? (i := 219) rfl)) rfl
theorem zf_m363 : Cond.fieldLink RX8 239 "FairFight$Sheet" "size" "I" ∈ zf_T := zf_ti (zf_it1 (List.mem_of_getElem? (i := 217) rfl)) rfl
theorem zf_m364 : Cond.constant RX8 265 (1103515245) ∈ zf_T := zf_ti (zf_it3 (List.mem_of_getElem? (i := 57) rfl)) rfl
theorem zf_m365 : Cond.methodLink RX8 244 yX7_store ∈ zf_T := zf_ti (zf_it3 (List.mem_of_getElem? (i := 49) rfl)) rfl
theorem zf_m366 : Cond.instanceMethod yX7_store ∈ zf_T := zf_ti (zf_it3 (List.mem_of_getElem? (i := 50) rfl)) rfl
theorem zf_m367 : Cond.selects RX7 yX7_store yX7_store ∈ zf_T := zf_ti (zf_it3 (List.mem_of_getElem? (i := 51) rfl)) rfl
theorem zf_m368 : Cond.code yX7_store cX7_store 3 none ∈ zf_T := zf_ti (zf_it3 (List.mem_of_getElem? (i := 52) rfl)) rfl
theorem zf_m369 : Cond.methodLink RX7 26 yX7_has ∈ zf_T := zf_ti (zf_it3 (List.mem_of_getElem? (i := 17) rfl)) rfl
theorem zf_m370 : Cond.instanceMethod yX7_has ∈ zf_T := zf_ti (zf_it3 (List.mem_of_getElem? (i := 10) rfl)) rfl
theorem zf_m371 : Cond.selects RX7 yX7_has yX7_has ∈ zf_T := zf_ti (zf_it3 (List.mem_of_getElem? (i := 11) rfl)) rfl
theorem zf_m372 : Cond.code yX7_has cX7_has 2 (some .boolean) ∈ zf_T := zf_ti (zf_it3 (List.mem_of_getElem? (i := 12) rfl)) rfl
theorem zf_m373 : Cond.methodLink RL 61 yX8_put ∈ zf_T := zf_ti (zf_it3 (List.mem_of_getElem? (i := 41) rfl)) rfl
theorem zf_m374 : Cond.instanceMethod yX8_put ∈ zf_T := zf_ti (zf_it3 (List.mem_of_getElem? (i := 42) rfl)) rfl
theorem zf_m375 : Cond.selects RX8 yX8_put yX8_put ∈ zf_T := zf_ti (zf_it3 (List.mem_of_getElem? (i := 43) rfl)) rfl
theorem zf_m376 : Cond.code yX8_put cX8_put 6 (some .int) ∈ zf_T := zf_ti (zf_it3 (List.mem_of_getElem? (i := 44) rfl)) rfl
theorem zf_m377 : Cond.methodLink RX8 240 yX8_itemFault ∈ zf_T := zf_ti (zf_it3 (List.mem_of_getElem? (i := 45) rfl)) rfl
theorem zf_m378 : Cond.static yX8_itemFault ∈ zf_T := zf_ti (zf_it3 (List.mem_of_getElem? (i := 46) rfl)) rfl
theorem zf_m379 : Cond.code yX8_itemFault cX8_itemFault 3 (some .int) ∈ zf_T := zf_ti (zf_it3 (List.mem_of_getElem? (i := 47) rfl)) rfl
theorem zf_m380 : Cond.fieldLink RX8 250 "FairFight$Sheet" "form" "I" ∈ zf_T := zf_ti (zf_it1 (List.mem_of_getElem? (i := 215) rfl)) rfl
theorem zf_m381 : Cond.methodLink RX8 287 yX7_has ∈ zf_T := zf_ti (zf_it3 (List.mem_of_getElem? (i := 48) rfl)) rfl
theorem zf_m382 : Cond.methodLink RL 64 yX8_play ∈ zf_T := zf_ti (zf_it2 (List.mem_of_getElem? (i := 229) rfl)) rfl
theorem zf_m383 : Cond.instanceMethod yX8_play ∈ zf_T := zf_ti (zf_it2 (List.mem_of_getElem? (i := 230) rfl)) rfl
theorem zf_m384 : Cond.selects RX8 yX8_play yX8_play ∈ zf_T := zf_ti (zf_it2 (List.mem_of_getElem? (i := 231) rfl)) rfl
theorem zf_m385 : Cond.code yX8_play cX8_play 2 (some .int) ∈ zf_T := zf_ti (zf_it2 (List.mem_of_getElem? (i := 232) rfl)) rfl
theorem zf_m386 : Cond.fieldLink RX8 221 "FairFight$Bout" "end" "I" ∈ zf_T := zf_ti (zf_it1 (List.mem_of_getElem? (i := 189) rfl)) rfl
theorem zf_m387 : Cond.methodLink RX8 217 yX0_run ∈ zf_T := zf_ti (zf_it3 (List.mem_of_getElem? (i := 0) rfl)) rfl
theorem zf_m388 : Cond.instanceMethod yX0_run ∈ zf_T := zf_ti (zf_it3 (List.mem_of_getElem? (i := 1) rfl)) rfl
theorem zf_m389 : Cond.selects RX0 yX0_run yX0_run ∈ zf_T := zf_ti (zf_it3 (List.mem_of_getElem? (i := 2) rfl)) rfl
theorem zf_m390 : Cond.code yX0_run cX0_run 12 (some .boolean) ∈ zf_T := zf_ti (zf_it3 (List.mem_of_getElem? (i := 3) rfl)) rfl
theorem zf_m391 : Cond.fieldLink RX0 35 "FairFight$Fray" "rounds" "I" ∈ zf_T := zf_ti (zf_it1 (List.mem_of_getElem? (i := 56) rfl)) rfl
theorem zf_m392 : Cond.fieldLink RX0 38 "FairFight$Fray" "size" "I" ∈ zf_T := zf_ti (zf_it1 (List.mem_of_getElem? (i := 53) rfl)) rfl
theorem zf_m393 : Cond.fieldLink RX0 41 "FairFight$Fray" "order" "[I" ∈ zf_T := zf_ti (zf_it1 (List.mem_of_getElem? (i := 49) rfl)) rfl
theorem zf_m394 : Cond.methodLink RX0 25 yX2_beginning ∈ zf_T := zf_ti (zf_it3 (List.mem_of_getElem? (i := 4) rfl)) rfl
theorem zf_m395 : Cond.methodLink RX0 31 yX2_winner ∈ zf_T := zf_ti (zf_it3 (List.mem_of_getElem? (i := 5) rfl)) rfl
theorem zf_m396 : Cond.methodLink RX0 44 yX2_hasTurn ∈ zf_T := zf_ti (zf_it3 (List.mem_of_getElem? (i := 6) rfl)) rfl
theorem zf_m397 : Cond.methodLink RX0 48 yX2_flees ∈ zf_T := zf_ti (zf_it3 (List.mem_of_getElem? (i := 7) rfl)) rfl
theorem zf_m398 : Cond.methodLink RX0 52 yX2_afterFlight ∈ zf_T := zf_ti (zf_it3 (List.mem_of_getElem? (i := 8) rfl)) rfl
theorem zf_m399 : Cond.methodLink RX0 56 yX7_has ∈ zf_T := zf_ti (zf_it3 (List.mem_of_getElem? (i := 9) rfl)) rfl
theorem zf_m400 : Cond.methodLink RX0 62 yX7_item ∈ zf_T := zf_ti (zf_it3 (List.mem_of_getElem? (i := 13) rfl)) rfl
theorem zf_m401 : Cond.instanceMethod yX7_item ∈ zf_T := zf_ti (zf_it3 (List.mem_of_getElem? (i := 14) rfl)) rfl
theorem zf_m402 : Cond.selects RX7 yX7_item yX7_item ∈ zf_T := zf_ti (zf_it3 (List.mem_of_getElem? (i := 15) rfl)) rfl
theorem zf_m403 : Cond.code yX7_item cX7_item 2 (some .int) ∈ zf_T := zf_ti (zf_it3 (List.mem_of_getElem? (i := 16) rfl)) rfl
theorem zf_m404 : Cond.methodLink RX0 66 yX2_hits ∈ zf_T := zf_ti (zf_it3 (List.mem_of_getElem? (i := 18) rfl)) rfl
theorem zf_m405 : Cond.methodLink RX0 69 yX2_afterHit ∈ zf_T := zf_ti (zf_it3 (List.mem_of_getElem? (i := 19) rfl)) rfl
theorem zf_m406 : Cond.methodLink RX0 72 yX0_keepLives ∈ zf_T := zf_ti (zf_it3 (List.mem_of_getElem? (i := 20) rfl)) rfl
theorem zf_m407 : Cond.instanceMethod yX0_keepLives ∈ zf_T := zf_ti (zf_it3 (List.mem_of_getElem? (i := 22) rfl)) rfl
theorem zf_m408 : Cond.selects RX0 yX0_keepLives yX0_keepLives ∈ zf_T := zf_ti (zf_wS (List.mem_of_getElem? (i := 15) rfl)) rfl
theorem zf_m409 : Cond.code yX0_keepLives cX0_keepLives 6 none ∈ zf_T := zf_ti (zf_it3 (List.mem_of_getElem? (i := 23) rfl)) rfl
theorem zf_m410 : Cond.methodLink RX0 76 yX2_part ∈ zf_T := zf_ti (zf_it3 (List.mem_of_getElem? (i := 24) rfl)) rfl
theorem zf_m411 : Cond.methodLink RX0 80 yX2_lifeOf ∈ zf_T := zf_ti (zf_it3 (List.mem_of_getElem? (i := 25) rfl)) rfl
theorem zf_m412 : Cond.methodLink RL 68 yX8_played ∈ zf_T := zf_ti (zf_it3 (List.mem_of_getElem? (i := 26) rfl)) rfl
theorem zf_m413 : Cond.instanceMethod yX8_played ∈ zf_T := zf_ti (zf_it3 (List.mem_of_getElem? (i := 27) rfl)) rfl
theorem zf_m414 : Cond.selects RX8 yX8_played yX8_played ∈ zf_T := zf_ti (zf_it3 (List.mem_of_getElem? (i := 28) rfl)) rfl
theorem zf_m415 : Cond.code yX8_played cX8_played 2 (some .int) ∈ zf_T := zf_ti (zf_it3 (List.mem_of_getElem? (i := 29) rfl)) rfl
theorem zf_m416 : Cond.fieldLink RX8 224 "FairFight$Bout" "rolls" "I" ∈ zf_T := zf_ti (zf_it1 (List.mem_of_getElem? (i := 191) rfl)) rfl
theorem zf_m417 : Cond.fieldLink RX8 227 "FairFight$Bout" "round" "I" ∈ zf_T := zf_ti (zf_it1 (List.mem_of_getElem? (i := 193) rfl)) rfl
theorem zf_m418 : Cond.fieldLink RX8 230 "FairFight$Bout" "lives" "[I" ∈ zf_T := zf_ti (zf_it1 (List.mem_of_getElem? (i := 195) rfl)) rfl
theorem zf_m419 : Cond.methodLink RL 71 yX8_ends ∈ zf_T := zf_ti (zf_it2 (List.mem_of_getElem? (i := 225) rfl)) rfl
theorem zf_m420 : Cond.instanceMethod yX8_ends ∈ zf_T := zf_ti (zf_it2 (List.mem_of_getElem? (i := 226) rfl)) rfl
theorem zf_m421 : Cond.selects RX8 yX8_ends yX8_ends ∈ zf_T := zf_ti (zf_it2 (List.mem_of_getElem? (i := 227) rfl)) rfl
theorem zf_m422 : Cond.code yX8_ends cX8_ends 2 (some .long) ∈ zf_T := zf_ti (zf_it2 (List.mem_of_getElem? (i := 228) rfl)) rfl
theorem zf_m423 : Cond.fieldLink RX8 149 "FairFight$Odds" "byRound" "[J" ∈ zf_T := zf_ti (zf_it1 (List.mem_of_getElem? (i := 121) rfl)) rfl
theorem zf_m424 : Cond.methodLink RL 74 yX8_left ∈ zf_T := zf_ti (zf_it2 (List.mem_of_getElem? (i := 212) rfl)) rfl
theorem zf_m425 : Cond.instanceMethod yX8_left ∈ zf_T := zf_ti (zf_it2 (List.mem_of_getElem? (i := 213) rfl)) rfl
theorem zf_m426 : Cond.selects RX8 yX8_left yX8_left ∈ zf_T := zf_ti (zf_it2 (List.mem_of_getElem? (i := 214) rfl)) rfl
theorem zf_m427 : Cond.code yX8_left cX8_left 6 (some .long) ∈ zf_T := zf_ti (zf_it2 (List.mem_of_getElem? (i := 215) rfl)) rfl
theorem zf_m428 : Cond.methodLink RX8 108 yX8_isPlace ∈ zf_T := zf_ti (zf_it2 (List.mem_of_getElem? (i := 216) rfl)) rfl
theorem zf_m429 : Cond.methodLink RX8 142 yX4_waysLeft ∈ zf_T := zf_ti (zf_it2 (List.mem_of_getElem? (i := 217) rfl)) rfl
theorem zf_m430 : Cond.instanceMethod yX4_waysLeft ∈ zf_T := zf_ti (zf_it2 (List.mem_of_getElem? (i := 218) rfl)) rfl
theorem zf_m431 : Cond.selects RX4 yX4_waysLeft yX4_waysLeft ∈ zf_T := zf_ti (zf_it2 (List.mem_of_getElem? (i := 219) rfl)) rfl
theorem zf_m432 : Cond.code yX4_waysLeft cX4_waysLeft 5 (some .long) ∈ zf_T := zf_ti (zf_it2 (List.mem_of_getElem? (i := 220) rfl)) rfl
theorem zf_uw0 : ∀ w ∈ u_ws RX0 TX0 4, w ∈ zf_T := by
  intro w h
  obtain ⟨k, hk, rfl⟩ := List.mem_map.mp h
  have hk := List.mem_range.mp hk
  rcases (show k = 0 ∨ k = 1 ∨ k = 2 ∨ k = 3 by omega) with rfl | rfl | rfl | rfl
  · exact zf_ti (zf_it1 (List.mem_of_getElem? (i := 196) rfl)) rfl
  · exact zf_ti (zf_it1 (List.mem_of_getElem? (i := 198) rfl)) rfl
  · exact zf_ti (zf_it1 (List.mem_of_getElem? (i := 200) rfl)) rfl
  · exact zf_ti (zf_it1 (List.mem_of_getElem? (i := 202) rfl)) rfl
theorem zf_uw1 : ∀ w ∈ u_ws RX1 TX1 6, w ∈ zf_T := by
  intro w h
  obtain ⟨k, hk, rfl⟩ := List.mem_map.mp h
  have hk := List.mem_range.mp hk
  rcases (show k = 0 ∨ k = 1 ∨ k = 2 ∨ k = 3 ∨ k = 4 ∨ k = 5 by omega) with rfl | rfl | rfl | rfl | rfl | rfl
  · exact zf_ti (zf_it1 (List.mem_of_getElem? (i := 169) rfl)) rfl
  · exact zf_ti (zf_it1 (List.mem_of_getElem? (i := 171) rfl)) rfl
  · exact zf_ti (zf_it1 (List.mem_of_getElem? (i := 173) rfl)) rfl
  · exact zf_ti (zf_it1 (List.mem_of_getElem? (i := 175) rfl)) rfl
  · exact zf_ti (zf_it1 (List.mem_of_getElem? (i := 177) rfl)) rfl
  · exact zf_ti (zf_it1 (List.mem_of_getElem? (i := 179) rfl)) rfl
theorem zf_uw2 : ∀ w ∈ u_ws RX2 TX2 11, w ∈ zf_T := by
  intro w h
  obtain ⟨k, hk, rfl⟩ := List.mem_map.mp h
  have hk := List.mem_range.mp hk
  rcases (show k = 0 ∨ k = 1 ∨ k = 2 ∨ k = 3 ∨ k = 4 ∨ k = 5 ∨ k = 6 ∨ k = 7 ∨ k = 8 ∨ k = 9 ∨ k = 10 by omega) with rfl | rfl | rfl | rfl | rfl | rfl | rfl | rfl | rfl | rfl | rfl
  · exact zf_ti (zf_it1 (List.mem_of_getElem? (i := 59) rfl)) rfl
  · exact zf_ti (zf_it1 (List.mem_of_getElem? (i := 61) rfl)) rfl
  · exact zf_ti (zf_it1 (List.mem_of_getElem? (i := 63) rfl)) rfl
  · exact zf_ti (zf_it1 (List.mem_of_getElem? (i := 65) rfl)) rfl
  · exact zf_ti (zf_it1 (List.mem_of_getElem? (i := 67) rfl)) rfl
  · exact zf_ti (zf_it1 (List.mem_of_getElem? (i := 69) rfl)) rfl
  · exact zf_ti (zf_it1 (List.mem_of_getElem? (i := 71) rfl)) rfl
  · exact zf_ti (zf_it1 (List.mem_of_getElem? (i := 73) rfl)) rfl
  · exact zf_ti (zf_it1 (List.mem_of_getElem? (i := 75) rfl)) rfl
  · exact zf_ti (zf_it1 (List.mem_of_getElem? (i := 77) rfl)) rfl
  · exact zf_ti (zf_it1 (List.mem_of_getElem? (i := 79) rfl)) rfl
theorem zf_uw3 : ∀ w ∈ u_ws RX3 TX3 5, w ∈ zf_T := by
  intro w h
  obtain ⟨k, hk, rfl⟩ := List.mem_map.mp h
  have hk := List.mem_range.mp hk
  rcases (show k = 0 ∨ k = 1 ∨ k = 2 ∨ k = 3 ∨ k = 4 by omega) with rfl | rfl | rfl | rfl | rfl
  · exact zf_ti (zf_it1 (List.mem_of_getElem? (i := 102) rfl)) rfl
  · exact zf_ti (zf_it1 (List.mem_of_getElem? (i := 104) rfl)) rfl
  · exact zf_ti (zf_it1 (List.mem_of_getElem? (i := 106) rfl)) rfl
  · exact zf_ti (zf_it1 (List.mem_of_getElem? (i := 108) rfl)) rfl
  · exact zf_ti (zf_it1 (List.mem_of_getElem? (i := 110) rfl)) rfl
theorem zf_uw4 : ∀ w ∈ u_ws RX4 TX4 8, w ∈ zf_T := by
  intro w h
  obtain ⟨k, hk, rfl⟩ := List.mem_map.mp h
  have hk := List.mem_range.mp hk
  rcases (show k = 0 ∨ k = 1 ∨ k = 2 ∨ k = 3 ∨ k = 4 ∨ k = 5 ∨ k = 6 ∨ k = 7 by omega) with rfl | rfl | rfl | rfl | rfl | rfl | rfl | rfl
  · exact zf_ti (zf_it1 (List.mem_of_getElem? (i := 126) rfl)) rfl
  · exact zf_ti (zf_it1 (List.mem_of_getElem? (i := 128) rfl)) rfl
  · exact zf_ti (zf_it1 (List.mem_of_getElem? (i := 130) rfl)) rfl
  · exact zf_ti (zf_it1 (List.mem_of_getElem? (i := 132) rfl)) rfl
  · exact zf_ti (zf_it1 (List.mem_of_getElem? (i := 134) rfl)) rfl
  · exact zf_ti (zf_it1 (List.mem_of_getElem? (i := 136) rfl)) rfl
  · exact zf_ti (zf_it1 (List.mem_of_getElem? (i := 138) rfl)) rfl
  · exact zf_ti (zf_it1 (List.mem_of_getElem? (i := 140) rfl)) rfl
theorem zf_uw5 : ∀ w ∈ u_ws RX5 TX5 2, w ∈ zf_T := by
  intro w h
  obtain ⟨k, hk, rfl⟩ := List.mem_map.mp h
  have hk := List.mem_range.mp hk
  rcases (show k = 0 ∨ k = 1 by omega) with rfl | rfl
  · exact zf_ti (zf_it1 (List.mem_of_getElem? (i := 28) rfl)) rfl
  · exact zf_ti (zf_it1 (List.mem_of_getElem? (i := 30) rfl)) rfl
theorem zf_uw6 : ∀ w ∈ u_ws RX6 TX6 2, w ∈ zf_T := by
  intro w h
  obtain ⟨k, hk, rfl⟩ := List.mem_map.mp h
  have hk := List.mem_range.mp hk
  rcases (show k = 0 ∨ k = 1 by omega) with rfl | rfl
  · exact zf_ti (zf_it1 (List.mem_of_getElem? (i := 158) rfl)) rfl
  · exact zf_ti (zf_it1 (List.mem_of_getElem? (i := 160) rfl)) rfl
theorem zf_uw7 : ∀ w ∈ u_ws RX7 TX7 4, w ∈ zf_T := by
  intro w h
  obtain ⟨k, hk, rfl⟩ := List.mem_map.mp h
  have hk := List.mem_range.mp hk
  rcases (show k = 0 ∨ k = 1 ∨ k = 2 ∨ k = 3 by omega) with rfl | rfl | rfl | rfl
  · exact zf_ti (zf_it1 (List.mem_of_getElem? (i := 220) rfl)) rfl
  · exact zf_ti (zf_it1 (List.mem_of_getElem? (i := 222) rfl)) rfl
  · exact zf_ti (zf_it1 (List.mem_of_getElem? (i := 224) rfl)) rfl
  · exact zf_ti (zf_it1 (List.mem_of_getElem? (i := 226) rfl)) rfl
theorem zf_uw8 : ∀ w ∈ u_ws RX8 TX8 13, w ∈ zf_T := by
  intro w h
  obtain ⟨k, hk, rfl⟩ := List.mem_map.mp h
  have hk := List.mem_range.mp hk
  rcases (show k = 0 ∨ k = 1 ∨ k = 2 ∨ k = 3 ∨ k = 4 ∨ k = 5 ∨ k = 6 ∨ k = 7 ∨ k = 8 ∨ k = 9 ∨ k = 10 ∨ k = 11 ∨ k = 12 by omega) with rfl | rfl | rfl | rfl | rfl | rfl | rfl | rfl | rfl | rfl | rfl | rfl | rfl
  · exact zf_ti (zf_it2 (List.mem_of_getElem? (i := 2) rfl)) rfl
  · exact zf_ti (zf_it2 (List.mem_of_getElem? (i := 4) rfl)) rfl
  · exact zf_ti (zf_it2 (List.mem_of_getElem? (i := 6) rfl)) rfl
  · exact zf_ti (zf_it2 (List.mem_of_getElem? (i := 8) rfl)) rfl
  · exact zf_ti (zf_it2 (List.mem_of_getElem? (i := 10) rfl)) rfl
  · exact zf_ti (zf_it2 (List.mem_of_getElem? (i := 12) rfl)) rfl
  · exact zf_ti (zf_it2 (List.mem_of_getElem? (i := 14) rfl)) rfl
  · exact zf_ti (zf_it2 (List.mem_of_getElem? (i := 16) rfl)) rfl
  · exact zf_ti (zf_it2 (List.mem_of_getElem? (i := 18) rfl)) rfl
  · exact zf_ti (zf_it2 (List.mem_of_getElem? (i := 20) rfl)) rfl
  · exact zf_ti (zf_it2 (List.mem_of_getElem? (i := 22) rfl)) rfl
  · exact zf_ti (zf_it2 (List.mem_of_getElem? (i := 24) rfl)) rfl
  · exact zf_ti (zf_it2 (List.mem_of_getElem? (i := 26) rfl)) rfl
theorem zf_acI : Cond.arrayClass .int ∈ zf_T := zf_m3
theorem zf_acJ : Cond.arrayClass .long ∈ zf_T := zf_m69
theorem zf_mxS : Cond.static Lib.Math.max.name ∈ zf_T := zf_m243
theorem zf_mxC : Cond.code Lib.Math.max.name Lib.Math.max.code 2 (some .int) ∈ zf_T := zf_m245
theorem zf_mnS : Cond.static Lib.Math.min.name ∈ zf_T := zf_m338
theorem zf_mnC : Cond.code Lib.Math.min.name Lib.Math.min.code 2 (some .int) ∈ zf_T := zf_m339
theorem zf_mtI : Cond.initialized "java/lang/Math" ∈ zf_T := zf_m244
theorem zf_obI : Cond.instanceMethod objectInit ∈ zf_T := zf_m9
theorem zf_obC : Cond.code objectInit ⟨#[0xb1]⟩ 1 none ∈ zf_T := zf_m10
theorem zf_aoRow : Cond.arrayOver (.object "FairFight$Row") ∈ lw_tbl := zf_it1 (List.mem_of_getElem? (i := 35) rfl)
theorem zf_aoSheet : Cond.arrayOver (.object "FairFight$Sheet") ∈ lw_tbl := zf_it1 (List.mem_of_getElem? (i := 206) rfl)
theorem zf_lsLOWEST : Cond.laysStatic "FairFight$Roster" "LOWEST" "[I" ∈ lw_tbl := zf_it3 (List.mem_of_getElem? (i := 77) rfl)
theorem zf_lsHIGHEST : Cond.laysStatic "FairFight$Roster" "HIGHEST" "[I" ∈ lw_tbl := zf_it3 (List.mem_of_getElem? (i := 79) rfl)
