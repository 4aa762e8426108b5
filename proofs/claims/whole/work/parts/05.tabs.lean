/-- a class of ours by its number; 10: the law, 11: Integer -/
def zf_oR (o : Nat) : String := match o with
  | 0 => RX0
  | 1 => RX1
  | 2 => RX2
  | 3 => RX3
  | 4 => RX4
  | 5 => RX5
  | 6 => RX6
  | 7 => RX7
  | 8 => RX8
  | 9 => RX9
  | 10 => RL
  | _ => RJ6
/-- a method: name, bytes, locals, answer, class, how many arguments (without this), 0 virtual 1 static 2 constructor, frames and words of locals that its calls need -/
abbrev zf_E : Type := MethodName × ByteArray × Nat × Option FieldType × Nat × Nat × Nat × Nat × Nat
def zf_mt0 : List zf_E := [(yX0_init, cX0_init, 1, none, 0, 0, 2, 1, 20), (yX0_run, cX0_run, 12, (some .boolean), 0, 2, 0, 3, 76), (yX0_keepLives, cX0_keepLives, 6, none, 0, 2, 0, 1, 22), (yX1_init, cX1_init, 2, none, 1, 0, 2, 2, 40), (yX1_sumOf, cX1_sumOf, 4, (some .int), 1, 1, 0, 0, 0), (yX1_bestUse, cX1_bestUse, 6, (some .int), 1, 0, 0, 1, 23), (yX2_init, cX2_init, 1, none, 2, 0, 2, 1, 20), (yX2_open, cX2_open, 4, none, 2, 3, 0, 0, 0), (yX2_seat, cX2_seat, 6, none, 2, 4, 0, 2, 43), (yX2_beginning, cX2_beginning, 5, (some .long), 2, 0, 0, 0, 0), (yX2_winner, cX2_winner, 2, (some .int), 2, 1, 1, 0, 0), (yX2_part, cX2_part, 3, (some .int), 2, 2, 1, 0, 0), (yX2_lifeOf, cX2_lifeOf, 1, (some .int), 2, 1, 1, 0, 0), (yX2_hasTurn, cX2_hasTurn, 6, (some .boolean), 2, 3, 0, 1, 22), (yX2_flees, cX2_flees, 4, (some .boolean), 2, 2, 0, 1, 22), (yX2_afterFlight, cX2_afterFlight, 4, (some .long), 2, 2, 0, 0, 0), (yX2_hits, cX2_hits, 2, (some .int), 2, 1, 0, 0, 0), (yX2_afterHit, cX2_afterHit, 5, (some .long), 2, 2, 0, 2, 52), (yX2_chosen, cX2_chosen, 9, (some .int), 2, 3, 0, 1, 22), (yX2_allStruck, cX2_allStruck, 8, (some .long), 2, 3, 0, 1, 25), (yX2_struck, cX2_struck, 6, (some .long), 2, 3, 1, 0, 0), (yX2_healed, cX2_healed, 6, (some .long), 2, 3, 0, 1, 22), (yX3_init, cX3_init, 1, none, 3, 0, 2, 1, 20), (yX3_empty, cX3_empty, 2, none, 3, 0, 0, 0, 0)]
def zf_mt1 : List zf_E := [(yX3_join, cX3_join, 8, (some .boolean), 3, 2, 0, 1, 25), (yX3_joinNew, cX3_joinNew, 6, (some .boolean), 3, 3, 0, 0, 0), (yX4_init, cX4_init, 1, none, 4, 0, 2, 2, 40), (yX4_reckon, cX4_reckon, 9, (some .boolean), 4, 1, 0, 4, 112), (yX4_waysLeft, cX4_waysLeft, 5, (some .long), 4, 3, 0, 0, 0), (yX4_perMillion, cX4_perMillion, 6, (some .int), 4, 0, 0, 0, 0), (yX4_clear, cX4_clear, 2, none, 4, 0, 0, 1, 21), (yX4_powerOfSix, cX4_powerOfSix, 4, (some .long), 4, 1, 1, 0, 0), (yX4_reckonSlot, cX4_reckonSlot, 12, (some .boolean), 4, 4, 0, 3, 81), (yX4_pass, cX4_pass, 9, (some .boolean), 4, 5, 0, 2, 53), (yX4_tally, cX4_tally, 12, none, 4, 5, 0, 1, 22), (yX5_init, cX5_init, 1, none, 5, 0, 2, 1, 20), (yX5_fits, cX5_fits, 2, (some .boolean), 5, 2, 1, 0, 0), (yX5_has, cX5_has, 2, (some .boolean), 5, 1, 0, 0, 0), (yX5_number, cX5_number, 3, (some .int), 5, 2, 0, 1, 21), (yX5_change, cX5_change, 4, none, 5, 3, 0, 1, 21), (yX6_init, cX6_init, 1, none, 6, 0, 2, 1, 20), (yX6_become, cX6_become, 5, none, 6, 4, 0, 0, 0), (yX6_who, cX6_who, 2, (some .int), 6, 1, 0, 1, 20), (yX7_init, cX7_init, 1, none, 7, 0, 2, 1, 20), (yX7_renew, cX7_renew, 4, none, 7, 2, 0, 0, 0), (yX7_has, cX7_has, 2, (some .boolean), 7, 1, 0, 0, 0), (yX7_hasRun, cX7_hasRun, 3, (some .boolean), 7, 2, 0, 0, 0), (yX7_item, cX7_item, 2, (some .int), 7, 1, 0, 1, 21)]
def zf_mt2 : List zf_E := [(yX7_store, cX7_store, 3, none, 7, 2, 0, 1, 21), (yX8_init, cX8_init, 2, none, 8, 0, 2, 3, 61), (yX8_fighter, cX8_fighter, 9, (some .int), 8, 6, 0, 2, 44), (yX8_about, cX8_about, 3, (some .int), 8, 2, 0, 2, 43), (yX8_tune, cX8_tune, 5, (some .int), 8, 3, 0, 2, 44), (yX8_side, cX8_side, 6, (some .int), 8, 4, 0, 3, 65), (yX8_at, cX8_at, 3, (some .int), 8, 2, 0, 2, 41), (yX8_laws, cX8_laws, 5, (some .int), 8, 3, 0, 2, 40), (yX8_slots, cX8_slots, 1, (some .int), 8, 0, 0, 0, 0), (yX8_all, cX8_all, 1, (some .long), 8, 0, 0, 6, 160), (yX8_ways, cX8_ways, 2, (some .long), 8, 1, 0, 6, 160), (yX8_chance, cX8_chance, 1, (some .int), 8, 0, 0, 6, 160), (yX8_left, cX8_left, 6, (some .long), 8, 4, 0, 6, 160), (yX8_states, cX8_states, 1, (some .int), 8, 0, 0, 6, 160), (yX8_ends, cX8_ends, 2, (some .long), 8, 1, 0, 6, 160), (yX8_better, cX8_better, 6, (some .int), 8, 2, 0, 7, 180), (yX8_without, cX8_without, 2, (some .int), 8, 1, 0, 5, 140), (yX8_surprised, cX8_surprised, 2, (some .int), 8, 1, 0, 5, 140), (yX8_fight, cX8_fight, 5, (some .int), 8, 3, 0, 3, 65), (yX8_rest, cX8_rest, 2, (some .int), 8, 0, 0, 0, 0), (yX8_purse, cX8_purse, 3, (some .int), 8, 2, 0, 0, 0), (yX8_day, cX8_day, 2, (some .int), 8, 0, 0, 7, 183), (yX8_use, cX8_use, 2, (some .int), 8, 0, 0, 7, 183), (yX8_odds, cX8_odds, 3, (some .int), 8, 2, 0, 6, 162)]
def zf_mt3 : List zf_E := [(yX8_wish, cX8_wish, 6, (some .int), 8, 2, 0, 6, 165), (yX8_band, cX8_band, 2, (some .int), 8, 1, 0, 0, 0), (yX8_play, cX8_play, 2, (some .int), 8, 1, 0, 5, 112), (yX8_played, cX8_played, 2, (some .int), 8, 1, 0, 0, 0), (yX8_sheet, cX8_sheet, 4, (some .int), 8, 3, 0, 1, 23), (yX8_lose, cX8_lose, 2, (some .int), 8, 1, 0, 1, 21), (yX8_put, cX8_put, 6, (some .int), 8, 4, 0, 2, 43), (yX8_get, cX8_get, 5, (some .int), 8, 3, 0, 2, 43), (yX8_copy, cX8_copy, 8, (some .int), 8, 5, 0, 1, 26), (yX8_shake, cX8_shake, 6, (some .int), 8, 2, 0, 2, 43), (yX8_count, cX8_count, 2, (some .int), 8, 1, 0, 0, 0), (yX8_digest, cX8_digest, 5, (some .long), 8, 0, 0, 3, 65), (yX8_isSide, cX8_isSide, 1, (some .boolean), 8, 1, 1, 0, 0), (yX8_isSideOrNone, cX8_isSideOrNone, 1, (some .boolean), 8, 1, 1, 1, 20), (yX8_isPlace, cX8_isPlace, 1, (some .boolean), 8, 1, 1, 0, 0), (yX8_isSheet, cX8_isSheet, 1, (some .boolean), 8, 1, 1, 0, 0), (yX8_isForm, cX8_isForm, 1, (some .boolean), 8, 1, 1, 0, 0), (yX8_seatOf, cX8_seatOf, 2, (some .int), 8, 2, 1, 0, 0), (yX8_rowSize, cX8_rowSize, 4, (some .int), 8, 3, 0, 2, 42), (yX8_isFighterOrNone, cX8_isFighterOrNone, 2, (some .boolean), 8, 1, 0, 1, 21), (yX8_refusal, cX8_refusal, 1, (some .long), 8, 1, 1, 0, 0), (yX8_found, cX8_found, 2, (some .int), 8, 1, 0, 0, 0), (yX8_itemFault, cX8_itemFault, 3, (some .int), 8, 3, 1, 1, 21), (yX8_seatFight, cX8_seatFight, 1, none, 8, 0, 0, 4, 92)]
def zf_mt4 : List zf_E := [(yX8_seatHeroes, cX8_seatHeroes, 5, none, 8, 2, 0, 3, 68), (yX8_seatFoes, cX8_seatFoes, 3, none, 8, 1, 0, 3, 68), (yX8_reckonFight, cX8_reckonFight, 1, (some .boolean), 8, 0, 0, 5, 140), (yX8_chanceAgainst, cX8_chanceAgainst, 3, (some .int), 8, 2, 0, 5, 140), (yX8_reckonDay, cX8_reckonDay, 2, (some .int), 8, 0, 0, 6, 162), (yX8_tryBand, cX8_tryBand, 6, none, 8, 4, 0, 5, 140), (yX9_init, cX9_init, 2, none, 9, 0, 2, 1, 20), (yX9_in, cX9_in, 6, (some .boolean), 9, 3, 1, 0, 0), (yX9_no, cX9_no, 1, (some .long), 9, 1, 1, 0, 0), (yX9_isNumber, cX9_isNumber, 2, (some .boolean), 9, 2, 1, 1, 25), (yX9_isFighter, cX9_isFighter, 2, (some .boolean), 9, 1, 0, 1, 25), (yX9_fighter, cX9_fighter, 8, (some .int), 9, 6, 0, 2, 46), (yX9_about, cX9_about, 3, (some .int), 9, 2, 0, 2, 46), (yX9_tune, cX9_tune, 5, (some .int), 9, 3, 0, 2, 46), (yX9_isRow, cX9_isRow, 5, (some .boolean), 9, 3, 0, 1, 25), (yX9_manyOf, cX9_manyOf, 3, (some .int), 9, 3, 1, 0, 0), (yX9_side, cX9_side, 5, (some .int), 9, 4, 0, 2, 49), (yX9_at, cX9_at, 3, (some .int), 9, 2, 0, 1, 25), (yX9_laws, cX9_laws, 4, (some .int), 9, 3, 0, 1, 25), (yX9_sets, cX9_sets, 3, none, 9, 1, 0, 0, 0), (yX9_begins, cX9_begins, 3, none, 9, 0, 0, 0, 0), (yX9_winner, cX9_winner, 1, (some .int), 9, 0, 0, 0, 0), (yX9_hurts, cX9_hurts, 3, none, 9, 2, 0, 0, 0), (yX9_target, cX9_target, 5, (some .int), 9, 2, 0, 0, 0)]
def zf_mt5 : List zf_E := [(yX9_hasTurn, cX9_hasTurn, 3, (some .boolean), 9, 2, 0, 0, 0), (yX9_flees, cX9_flees, 2, (some .boolean), 9, 1, 0, 0, 0), (yX9_hits, cX9_hits, 7, none, 9, 1, 0, 1, 24), (yX9_pack, cX9_pack, 4, (some .long), 9, 0, 0, 0, 0), (yX9_unpack, cX9_unpack, 6, none, 9, 1, 0, 0, 0), (yX9_counts, cX9_counts, 6, none, 9, 3, 0, 0, 0), (yX9_comes, cX9_comes, 6, none, 9, 1, 0, 1, 23), (yX9_goesOn, cX9_goesOn, 7, none, 9, 3, 0, 2, 48), (yX9_slotsNow, cX9_slotsNow, 1, (some .int), 9, 0, 0, 0, 0), (yX9_works, cX9_works, 9, (some .int), 9, 0, 0, 3, 74), (yX9_worksAsItIs, cX9_worksAsItIs, 1, (some .int), 9, 0, 0, 4, 102), (yX9_chanceOf, cX9_chanceOf, 8, (some .int), 9, 0, 0, 1, 20), (yX9_slots, cX9_slots, 1, (some .int), 9, 0, 0, 1, 22), (yX9_all, cX9_all, 1, (some .long), 9, 0, 0, 5, 122), (yX9_ways, cX9_ways, 2, (some .long), 9, 1, 0, 5, 122), (yX9_chance, cX9_chance, 1, (some .int), 9, 0, 0, 5, 122), (yX9_left, cX9_left, 5, (some .long), 9, 4, 0, 5, 122), (yX9_states, cX9_states, 1, (some .int), 9, 0, 0, 5, 122), (yX9_ends, cX9_ends, 2, (some .long), 9, 1, 0, 5, 122), (yX9_better, cX9_better, 5, (some .int), 9, 2, 0, 6, 142), (yX9_without, cX9_without, 3, (some .int), 9, 1, 0, 4, 102), (yX9_surprised, cX9_surprised, 2, (some .int), 9, 1, 0, 4, 102), (yX9_fight, cX9_fight, 4, (some .int), 9, 3, 0, 2, 49), (yX9_rest, cX9_rest, 2, (some .int), 9, 0, 0, 0, 0)]
def zf_mt6 : List zf_E := [(yX9_purse, cX9_purse, 3, (some .int), 9, 2, 0, 1, 25), (yX9_oddsOf, cX9_oddsOf, 4, (some .int), 9, 2, 0, 4, 102), (yX9_findUse, cX9_findUse, 8, (some .int), 9, 0, 0, 5, 125), (yX9_day, cX9_day, 1, (some .int), 9, 0, 0, 6, 152), (yX9_use, cX9_use, 2, (some .int), 9, 0, 0, 6, 152), (yX9_odds, cX9_odds, 3, (some .int), 9, 2, 0, 5, 125), (yX9_wish, cX9_wish, 6, (some .int), 9, 2, 0, 4, 102), (yX9_band, cX9_band, 2, (some .int), 9, 1, 0, 1, 25), (yX9_play, cX9_play, 9, (some .int), 9, 1, 0, 2, 50), (yX9_played, cX9_played, 2, (some .int), 9, 1, 0, 1, 25), (yX9_met, cX9_met, 2, (some .int), 9, 1, 0, 0, 0), (yX9_isSheet, cX9_isSheet, 1, (some .boolean), 9, 1, 1, 1, 25), (yX9_sheet, cX9_sheet, 5, (some .int), 9, 3, 0, 2, 45), (yX9_lose, cX9_lose, 2, (some .int), 9, 1, 0, 2, 45), (yX9_lacks, cX9_lacks, 4, (some .int), 9, 3, 0, 1, 25), (yX9_put, cX9_put, 6, (some .int), 9, 4, 0, 2, 48), (yX9_get, cX9_get, 4, (some .int), 9, 3, 0, 2, 48), (yX9_copy, cX9_copy, 7, (some .int), 9, 5, 0, 2, 45), (yX9_shake, cX9_shake, 5, (some .int), 9, 2, 0, 2, 45), (yX9_count, cX9_count, 2, (some .int), 9, 1, 0, 1, 22), (yX9_digest, cX9_digest, 4, (some .long), 9, 0, 0, 2, 43), (yJ6_bitCount_0f7a4, cJ6_bitCount_0f7a4, 1, (some .int), 11, 1, 1, 0, 0)]
def zf_mt : List zf_E := zf_mt0 ++ (zf_mt1 ++ (zf_mt2 ++ (zf_mt3 ++ (zf_mt4 ++ (zf_mt5 ++ (zf_mt6))))))
def zf_law : zf_E := (yL_law, cL_law, 4, some .boolean, 10, 1, 1, 8, 205)
def zf_g (k : Nat) : zf_E := if k = 1000 then zf_law else zf_mt.getD k (yX0_init, cX0_init, 1, none, 0, 0, 2, 1, 20)
theorem zf_g0 : zf_g 0 = (yX0_init, cX0_init, 1, none, 0, 0, 2, 1, 20) := rfl
theorem zf_g1 : zf_g 1 = (yX0_run, cX0_run, 12, (some .boolean), 0, 2, 0, 3, 76) := rfl
theorem zf_g2 : zf_g 2 = (yX0_keepLives, cX0_keepLives, 6, none, 0, 2, 0, 1, 22) := rfl
theorem zf_g3 : zf_g 3 = (yX1_init, cX1_init, 2, none, 1, 0, 2, 2, 40) := rfl
theorem zf_g4 : zf_g 4 = (yX1_sumOf, cX1_sumOf, 4, (some .int), 1, 1, 0, 0, 0) := rfl
theorem zf_g5 : zf_g 5 = (yX1_bestUse, cX1_bestUse, 6, (some .int), 1, 0, 0, 1, 23) := rfl
theorem zf_g6 : zf_g 6 = (yX2_init, cX2_init, 1, none, 2, 0, 2, 1, 20) := rfl
theorem zf_g7 : zf_g 7 = (yX2_open, cX2_open, 4, none, 2, 3, 0, 0, 0) := rfl
theorem zf_g8 : zf_g 8 = (yX2_seat, cX2_seat, 6, none, 2, 4, 0, 2, 43) := rfl
theorem zf_g9 : zf_g 9 = (yX2_beginning, cX2_beginning, 5, (some .long), 2, 0, 0, 0, 0) := rfl
theorem zf_g10 : zf_g 10 = (yX2_winner, cX2_winner, 2, (some .int), 2, 1, 1, 0, 0) := rfl
theorem zf_g11 : zf_g 11 = (yX2_part, cX2_part, 3, (some .int), 2, 2, 1, 0, 0) := rfl
theorem zf_g12 : zf_g 12 = (yX2_lifeOf, cX2_lifeOf, 1, (some .int), 2, 1, 1, 0, 0) := rfl
theorem zf_g13 : zf_g 13 = (yX2_hasTurn, cX2_hasTurn, 6, (some .boolean), 2, 3, 0, 1, 22) := rfl
theorem zf_g14 : zf_g 14 = (yX2_flees, cX2_flees, 4, (some .boolean), 2, 2, 0, 1, 22) := rfl
theorem zf_g15 : zf_g 15 = (yX2_afterFlight, cX2_afterFlight, 4, (some .long), 2, 2, 0, 0, 0) := rfl
theorem zf_g16 : zf_g 16 = (yX2_hits, cX2_hits, 2, (some .int), 2, 1, 0, 0, 0) := rfl
theorem zf_g17 : zf_g 17 = (yX2_afterHit, cX2_afterHit, 5, (some .long), 2, 2, 0, 2, 52) := rfl
theorem zf_g18 : zf_g 18 = (yX2_chosen, cX2_chosen, 9, (some .int), 2, 3, 0, 1, 22) := rfl
theorem zf_g19 : zf_g 19 = (yX2_allStruck, cX2_allStruck, 8, (some .long), 2, 3, 0, 1, 25) := rfl
theorem zf_g20 : zf_g 20 = (yX2_struck, cX2_struck, 6, (some .long), 2, 3, 1, 0, 0) := rfl
theorem zf_g21 : zf_g 21 = (yX2_healed, cX2_healed, 6, (some .long), 2, 3, 0, 1, 22) := rfl
theorem zf_g22 : zf_g 22 = (yX3_init, cX3_init, 1, none, 3, 0, 2, 1, 20) := rfl
theorem zf_g23 : zf_g 23 = (yX3_empty, cX3_empty, 2, none, 3, 0, 0, 0, 0) := rfl
theorem zf_g24 : zf_g 24 = (yX3_join, cX3_join, 8, (some .boolean), 3, 2, 0, 1, 25) := rfl
theorem zf_g25 : zf_g 25 = (yX3_joinNew, cX3_joinNew, 6, (some .boolean), 3, 3, 0, 0, 0) := rfl
theorem zf_g26 : zf_g 26 = (yX4_init, cX4_init, 1, none, 4, 0, 2, 2, 40) := rfl
theorem zf_g27 : zf_g 27 = (yX4_reckon, cX4_reckon, 9, (some .boolean), 4, 1, 0, 4, 112) := rfl
theorem zf_g28 : zf_g 28 = (yX4_waysLeft, cX4_waysLeft, 5, (some .long), 4, 3, 0, 0, 0) := rfl
theorem zf_g29 : zf_g 29 = (yX4_perMillion, cX4_perMillion, 6, (some .int), 4, 0, 0, 0, 0) := rfl
theorem zf_g30 : zf_g 30 = (yX4_clear, cX4_clear, 2, none, 4, 0, 0, 1, 21) := rfl
theorem zf_g31 : zf_g 31 = (yX4_powerOfSix, cX4_powerOfSix, 4, (some .long), 4, 1, 1, 0, 0) := rfl
theorem zf_g32 : zf_g 32 = (yX4_reckonSlot, cX4_reckonSlot, 12, (some .boolean), 4, 4, 0, 3, 81) := rfl
theorem zf_g33 : zf_g 33 = (yX4_pass, cX4_pass, 9, (some .boolean), 4, 5, 0, 2, 53) := rfl
theorem zf_g34 : zf_g 34 = (yX4_tally, cX4_tally, 12, none, 4, 5, 0, 1, 22) := rfl
theorem zf_g35 : zf_g 35 = (yX5_init, cX5_init, 1, none, 5, 0, 2, 1, 20) := rfl
theorem zf_g36 : zf_g 36 = (yX5_fits, cX5_fits, 2, (some .boolean), 5, 2, 1, 0, 0) := rfl
theorem zf_g37 : zf_g 37 = (yX5_has, cX5_has, 2, (some .boolean), 5, 1, 0, 0, 0) := rfl
theorem zf_g38 : zf_g 38 = (yX5_number, cX5_number, 3, (some .int), 5, 2, 0, 1, 21) := rfl
theorem zf_g39 : zf_g 39 = (yX5_change, cX5_change, 4, none, 5, 3, 0, 1, 21) := rfl
theorem zf_g40 : zf_g 40 = (yX6_init, cX6_init, 1, none, 6, 0, 2, 1, 20) := rfl
theorem zf_g41 : zf_g 41 = (yX6_become, cX6_become, 5, none, 6, 4, 0, 0, 0) := rfl
theorem zf_g42 : zf_g 42 = (yX6_who, cX6_who, 2, (some .int), 6, 1, 0, 1, 20) := rfl
theorem zf_g43 : zf_g 43 = (yX7_init, cX7_init, 1, none, 7, 0, 2, 1, 20) := rfl
theorem zf_g44 : zf_g 44 = (yX7_renew, cX7_renew, 4, none, 7, 2, 0, 0, 0) := rfl
theorem zf_g45 : zf_g 45 = (yX7_has, cX7_has, 2, (some .boolean), 7, 1, 0, 0, 0) := rfl
theorem zf_g46 : zf_g 46 = (yX7_hasRun, cX7_hasRun, 3, (some .boolean), 7, 2, 0, 0, 0) := rfl
theorem zf_g47 : zf_g 47 = (yX7_item, cX7_item, 2, (some .int), 7, 1, 0, 1, 21) := rfl
theorem zf_g48 : zf_g 48 = (yX7_store, cX7_store, 3, none, 7, 2, 0, 1, 21) := rfl
theorem zf_g49 : zf_g 49 = (yX8_init, cX8_init, 2, none, 8, 0, 2, 3, 61) := rfl
theorem zf_g50 : zf_g 50 = (yX8_fighter, cX8_fighter, 9, (some .int), 8, 6, 0, 2, 44) := rfl
theorem zf_g51 : zf_g 51 = (yX8_about, cX8_about, 3, (some .int), 8, 2, 0, 2, 43) := rfl
theorem zf_g52 : zf_g 52 = (yX8_tune, cX8_tune, 5, (some .int), 8, 3, 0, 2, 44) := rfl
theorem zf_g53 : zf_g 53 = (yX8_side, cX8_side, 6, (some .int), 8, 4, 0, 3, 65) := rfl
theorem zf_g54 : zf_g 54 = (yX8_at, cX8_at, 3, (some .int), 8, 2, 0, 2, 41) := rfl
theorem zf_g55 : zf_g 55 = (yX8_laws, cX8_laws, 5, (some .int), 8, 3, 0, 2, 40) := rfl
theorem zf_g56 : zf_g 56 = (yX8_slots, cX8_slots, 1, (some .int), 8, 0, 0, 0, 0) := rfl
theorem zf_g57 : zf_g 57 = (yX8_all, cX8_all, 1, (some .long), 8, 0, 0, 6, 160) := rfl
theorem zf_g58 : zf_g 58 = (yX8_ways, cX8_ways, 2, (some .long), 8, 1, 0, 6, 160) := rfl
theorem zf_g59 : zf_g 59 = (yX8_chance, cX8_chance, 1, (some .int), 8, 0, 0, 6, 160) := rfl
theorem zf_g60 : zf_g 60 = (yX8_left, cX8_left, 6, (some .long), 8, 4, 0, 6, 160) := rfl
theorem zf_g61 : zf_g 61 = (yX8_states, cX8_states, 1, (some .int), 8, 0, 0, 6, 160) := rfl
theorem zf_g62 : zf_g 62 = (yX8_ends, cX8_ends, 2, (some .long), 8, 1, 0, 6, 160) := rfl
theorem zf_g63 : zf_g 63 = (yX8_better, cX8_better, 6, (some .int), 8, 2, 0, 7, 180) := rfl
theorem zf_g64 : zf_g 64 = (yX8_without, cX8_without, 2, (some .int), 8, 1, 0, 5, 140) := rfl
theorem zf_g65 : zf_g 65 = (yX8_surprised, cX8_surprised, 2, (some .int), 8, 1, 0, 5, 140) := rfl
theorem zf_g66 : zf_g 66 = (yX8_fight, cX8_fight, 5, (some .int), 8, 3, 0, 3, 65) := rfl
theorem zf_g67 : zf_g 67 = (yX8_rest, cX8_rest, 2, (some .int), 8, 0, 0, 0, 0) := rfl
theorem zf_g68 : zf_g 68 = (yX8_purse, cX8_purse, 3, (some .int), 8, 2, 0, 0, 0) := rfl
theorem zf_g69 : zf_g 69 = (yX8_day, cX8_day, 2, (some .int), 8, 0, 0, 7, 183) := rfl
theorem zf_g70 : zf_g 70 = (yX8_use, cX8_use, 2, (some .int), 8, 0, 0, 7, 183) := rfl
theorem zf_g71 : zf_g 71 = (yX8_odds, cX8_odds, 3, (some .int), 8, 2, 0, 6, 162) := rfl
theorem zf_g72 : zf_g 72 = (yX8_wish, cX8_wish, 6, (some .int), 8, 2, 0, 6, 165) := rfl
theorem zf_g73 : zf_g 73 = (yX8_band, cX8_band, 2, (some .int), 8, 1, 0, 0, 0) := rfl
theorem zf_g74 : zf_g 74 = (yX8_play, cX8_play, 2, (some .int), 8, 1, 0, 5, 112) := rfl
theorem zf_g75 : zf_g 75 = (yX8_played, cX8_played, 2, (some .int), 8, 1, 0, 0, 0) := rfl
theorem zf_g76 : zf_g 76 = (yX8_sheet, cX8_sheet, 4, (some .int), 8, 3, 0, 1, 23) := rfl
theorem zf_g77 : zf_g 77 = (yX8_lose, cX8_lose, 2, (some .int), 8, 1, 0, 1, 21) := rfl
theorem zf_g78 : zf_g 78 = (yX8_put, cX8_put, 6, (some .int), 8, 4, 0, 2, 43) := rfl
theorem zf_g79 : zf_g 79 = (yX8_get, cX8_get, 5, (some .int), 8, 3, 0, 2, 43) := rfl
theorem zf_g80 : zf_g 80 = (yX8_copy, cX8_copy, 8, (some .int), 8, 5, 0, 1, 26) := rfl
theorem zf_g81 : zf_g 81 = (yX8_shake, cX8_shake, 6, (some .int), 8, 2, 0, 2, 43) := rfl
theorem zf_g82 : zf_g 82 = (yX8_count, cX8_count, 2, (some .int), 8, 1, 0, 0, 0) := rfl
theorem zf_g83 : zf_g 83 = (yX8_digest, cX8_digest, 5, (some .long), 8, 0, 0, 3, 65) := rfl
theorem zf_g84 : zf_g 84 = (yX8_isSide, cX8_isSide, 1, (some .boolean), 8, 1, 1, 0, 0) := rfl
theorem zf_g85 : zf_g 85 = (yX8_isSideOrNone, cX8_isSideOrNone, 1, (some .boolean), 8, 1, 1, 1, 20) := rfl
theorem zf_g86 : zf_g 86 = (yX8_isPlace, cX8_isPlace, 1, (some .boolean), 8, 1, 1, 0, 0) := rfl
theorem zf_g87 : zf_g 87 = (yX8_isSheet, cX8_isSheet, 1, (some .boolean), 8, 1, 1, 0, 0) := rfl
theorem zf_g88 : zf_g 88 = (yX8_isForm, cX8_isForm, 1, (some .boolean), 8, 1, 1, 0, 0) := rfl
theorem zf_g89 : zf_g 89 = (yX8_seatOf, cX8_seatOf, 2, (some .int), 8, 2, 1, 0, 0) := rfl
theorem zf_g90 : zf_g 90 = (yX8_rowSize, cX8_rowSize, 4, (some .int), 8, 3, 0, 2, 42) := rfl
theorem zf_g91 : zf_g 91 = (yX8_isFighterOrNone, cX8_isFighterOrNone, 2, (some .boolean), 8, 1, 0, 1, 21) := rfl
theorem zf_g92 : zf_g 92 = (yX8_refusal, cX8_refusal, 1, (some .long), 8, 1, 1, 0, 0) := rfl
theorem zf_g93 : zf_g 93 = (yX8_found, cX8_found, 2, (some .int), 8, 1, 0, 0, 0) := rfl
theorem zf_g94 : zf_g 94 = (yX8_itemFault, cX8_itemFault, 3, (some .int), 8, 3, 1, 1, 21) := rfl
theorem zf_g95 : zf_g 95 = (yX8_seatFight, cX8_seatFight, 1, none, 8, 0, 0, 4, 92) := rfl
theorem zf_g96 : zf_g 96 = (yX8_seatHeroes, cX8_seatHeroes, 5, none, 8, 2, 0, 3, 68) := rfl
theorem zf_g97 : zf_g 97 = (yX8_seatFoes, cX8_seatFoes, 3, none, 8, 1, 0, 3, 68) := rfl
theorem zf_g98 : zf_g 98 = (yX8_reckonFight, cX8_reckonFight, 1, (some .boolean), 8, 0, 0, 5, 140) := rfl
theorem zf_g99 : zf_g 99 = (yX8_chanceAgainst, cX8_chanceAgainst, 3, (some .int), 8, 2, 0, 5, 140) := rfl
theorem zf_g100 : zf_g 100 = (yX8_reckonDay, cX8_reckonDay, 2, (some .int), 8, 0, 0, 6, 162) := rfl
theorem zf_g101 : zf_g 101 = (yX8_tryBand, cX8_tryBand, 6, none, 8, 4, 0, 5, 140) := rfl
theorem zf_g102 : zf_g 102 = (yX9_init, cX9_init, 2, none, 9, 0, 2, 1, 20) := rfl
theorem zf_g103 : zf_g 103 = (yX9_in, cX9_in, 6, (some .boolean), 9, 3, 1, 0, 0) := rfl
theorem zf_g104 : zf_g 104 = (yX9_no, cX9_no, 1, (some .long), 9, 1, 1, 0, 0) := rfl
theorem zf_g105 : zf_g 105 = (yX9_isNumber, cX9_isNumber, 2, (some .boolean), 9, 2, 1, 1, 25) := rfl
theorem zf_g106 : zf_g 106 = (yX9_isFighter, cX9_isFighter, 2, (some .boolean), 9, 1, 0, 1, 25) := rfl
theorem zf_g107 : zf_g 107 = (yX9_fighter, cX9_fighter, 8, (some .int), 9, 6, 0, 2, 46) := rfl
theorem zf_g108 : zf_g 108 = (yX9_about, cX9_about, 3, (some .int), 9, 2, 0, 2, 46) := rfl
theorem zf_g109 : zf_g 109 = (yX9_tune, cX9_tune, 5, (some .int), 9, 3, 0, 2, 46) := rfl
theorem zf_g110 : zf_g 110 = (yX9_isRow, cX9_isRow, 5, (some .boolean), 9, 3, 0, 1, 25) := rfl
theorem zf_g111 : zf_g 111 = (yX9_manyOf, cX9_manyOf, 3, (some .int), 9, 3, 1, 0, 0) := rfl
theorem zf_g112 : zf_g 112 = (yX9_side, cX9_side, 5, (some .int), 9, 4, 0, 2, 49) := rfl
theorem zf_g113 : zf_g 113 = (yX9_at, cX9_at, 3, (some .int), 9, 2, 0, 1, 25) := rfl
theorem zf_g114 : zf_g 114 = (yX9_laws, cX9_laws, 4, (some .int), 9, 3, 0, 1, 25) := rfl
theorem zf_g115 : zf_g 115 = (yX9_sets, cX9_sets, 3, none, 9, 1, 0, 0, 0) := rfl
theorem zf_g116 : zf_g 116 = (yX9_begins, cX9_begins, 3, none, 9, 0, 0, 0, 0) := rfl
theorem zf_g117 : zf_g 117 = (yX9_winner, cX9_winner, 1, (some .int), 9, 0, 0, 0, 0) := rfl
theorem zf_g118 : zf_g 118 = (yX9_hurts, cX9_hurts, 3, none, 9, 2, 0, 0, 0) := rfl
theorem zf_g119 : zf_g 119 = (yX9_target, cX9_target, 5, (some .int), 9, 2, 0, 0, 0) := rfl
theorem zf_g120 : zf_g 120 = (yX9_hasTurn, cX9_hasTurn, 3, (some .boolean), 9, 2, 0, 0, 0) := rfl
theorem zf_g121 : zf_g 121 = (yX9_flees, cX9_flees, 2, (some .boolean), 9, 1, 0, 0, 0) := rfl
theorem zf_g122 : zf_g 122 = (yX9_hits, cX9_hits, 7, none, 9, 1, 0, 1, 24) := rfl
theorem zf_g123 : zf_g 123 = (yX9_pack, cX9_pack, 4, (some .long), 9, 0, 0, 0, 0) := rfl
theorem zf_g124 : zf_g 124 = (yX9_unpack, cX9_unpack, 6, none, 9, 1, 0, 0, 0) := rfl
theorem zf_g125 : zf_g 125 = (yX9_counts, cX9_counts, 6, none, 9, 3, 0, 0, 0) := rfl
theorem zf_g126 : zf_g 126 = (yX9_comes, cX9_comes, 6, none, 9, 1, 0, 1, 23) := rfl
theorem zf_g127 : zf_g 127 = (yX9_goesOn, cX9_goesOn, 7, none, 9, 3, 0, 2, 48) := rfl
theorem zf_g128 : zf_g 128 = (yX9_slotsNow, cX9_slotsNow, 1, (some .int), 9, 0, 0, 0, 0) := rfl
theorem zf_g129 : zf_g 129 = (yX9_works, cX9_works, 9, (some .int), 9, 0, 0, 3, 74) := rfl
theorem zf_g130 : zf_g 130 = (yX9_worksAsItIs, cX9_worksAsItIs, 1, (some .int), 9, 0, 0, 4, 102) := rfl
theorem zf_g131 : zf_g 131 = (yX9_chanceOf, cX9_chanceOf, 8, (some .int), 9, 0, 0, 1, 20) := rfl
theorem zf_g132 : zf_g 132 = (yX9_slots, cX9_slots, 1, (some .int), 9, 0, 0, 1, 22) := rfl
theorem zf_g133 : zf_g 133 = (yX9_all, cX9_all, 1, (some .long), 9, 0, 0, 5, 122) := rfl
theorem zf_g134 : zf_g 134 = (yX9_ways, cX9_ways, 2, (some .long), 9, 1, 0, 5, 122) := rfl
theorem zf_g135 : zf_g 135 = (yX9_chance, cX9_chance, 1, (some .int), 9, 0, 0, 5, 122) := rfl
theorem zf_g136 : zf_g 136 = (yX9_left, cX9_left, 5, (some .long), 9, 4, 0, 5, 122) := rfl
theorem zf_g137 : zf_g 137 = (yX9_states, cX9_states, 1, (some .int), 9, 0, 0, 5, 122) := rfl
theorem zf_g138 : zf_g 138 = (yX9_ends, cX9_ends, 2, (some .long), 9, 1, 0, 5, 122) := rfl
theorem zf_g139 : zf_g 139 = (yX9_better, cX9_better, 5, (some .int), 9, 2, 0, 6, 142) := rfl
theorem zf_g140 : zf_g 140 = (yX9_without, cX9_without, 3, (some .int), 9, 1, 0, 4, 102) := rfl
theorem zf_g141 : zf_g 141 = (yX9_surprised, cX9_surprised, 2, (some .int), 9, 1, 0, 4, 102) := rfl
theorem zf_g142 : zf_g 142 = (yX9_fight, cX9_fight, 4, (some .int), 9, 3, 0, 2, 49) := rfl
theorem zf_g143 : zf_g 143 = (yX9_rest, cX9_rest, 2, (some .int), 9, 0, 0, 0, 0) := rfl
theorem zf_g144 : zf_g 144 = (yX9_purse, cX9_purse, 3, (some .int), 9, 2, 0, 1, 25) := rfl
theorem zf_g145 : zf_g 145 = (yX9_oddsOf, cX9_oddsOf, 4, (some .int), 9, 2, 0, 4, 102) := rfl
theorem zf_g146 : zf_g 146 = (yX9_findUse, cX9_findUse, 8, (some .int), 9, 0, 0, 5, 125) := rfl
theorem zf_g147 : zf_g 147 = (yX9_day, cX9_day, 1, (some .int), 9, 0, 0, 6, 152) := rfl
theorem zf_g148 : zf_g 148 = (yX9_use, cX9_use, 2, (some .int), 9, 0, 0, 6, 152) := rfl
theorem zf_g149 : zf_g 149 = (yX9_odds, cX9_odds, 3, (some .int), 9, 2, 0, 5, 125) := rfl
theorem zf_g150 : zf_g 150 = (yX9_wish, cX9_wish, 6, (some .int), 9, 2, 0, 4, 102) := rfl
theorem zf_g151 : zf_g 151 = (yX9_band, cX9_band, 2, (some .int), 9, 1, 0, 1, 25) := rfl
theorem zf_g152 : zf_g 152 = (yX9_play, cX9_play, 9, (some .int), 9, 1, 0, 2, 50) := rfl
theorem zf_g153 : zf_g 153 = (yX9_played, cX9_played, 2, (some .int), 9, 1, 0, 1, 25) := rfl
theorem zf_g154 : zf_g 154 = (yX9_met, cX9_met, 2, (some .int), 9, 1, 0, 0, 0) := rfl
theorem zf_g155 : zf_g 155 = (yX9_isSheet, cX9_isSheet, 1, (some .boolean), 9, 1, 1, 1, 25) := rfl
theorem zf_g156 : zf_g 156 = (yX9_sheet, cX9_sheet, 5, (some .int), 9, 3, 0, 2, 45) := rfl
theorem zf_g157 : zf_g 157 = (yX9_lose, cX9_lose, 2, (some .int), 9, 1, 0, 2, 45) := rfl
theorem zf_g158 : zf_g 158 = (yX9_lacks, cX9_lacks, 4, (some .int), 9, 3, 0, 1, 25) := rfl
theorem zf_g159 : zf_g 159 = (yX9_put, cX9_put, 6, (some .int), 9, 4, 0, 2, 48) := rfl
theorem zf_g160 : zf_g 160 = (yX9_get, cX9_get, 4, (some .int), 9, 3, 0, 2, 48) := rfl
theorem zf_g161 : zf_g 161 = (yX9_copy, cX9_copy, 7, (some .int), 9, 5, 0, 2, 45) := rfl
theorem zf_g162 : zf_g 162 = (yX9_shake, cX9_shake, 5, (some .int), 9, 2, 0, 2, 45) := rfl
theorem zf_g163 : zf_g 163 = (yX9_count, cX9_count, 2, (some .int), 9, 1, 0, 1, 22) := rfl
theorem zf_g164 : zf_g 164 = (yX9_digest, cX9_digest, 4, (some .long), 9, 0, 0, 2, 43) := rfl
theorem zf_g165 : zf_g 165 = (yJ6_bitCount_0f7a4, cJ6_bitCount_0f7a4, 1, (some .int), 11, 1, 1, 0, 0) := rfl
theorem zf_g1000 : zf_g 1000 = zf_law := rfl
def zf_okE (e : zf_E) : Prop := Cond.code e.1 e.2.1 e.2.2.1 e.2.2.2.1 ∈ zf_T ∧ Cond.initialized e.1.cls ∈ zf_T ∧ (e.1.cls ≠ "java/lang/invoke/MethodHandle" ∧ e.1.cls ≠ "java/lang/invoke/VarHandle" ∧ (parseMethodDescriptor e.1.desc).map (fun d => d.parameters.length) = some e.2.2.2.2.2.1) ∧ plainName e.1.cls = true ∧ e.1.cls = zf_oR e.2.2.2.2.1 ∧ (match e.2.2.2.2.2.2.1 with | 0 => Cond.instanceMethod e.1 ∈ zf_T ∧ Cond.selects e.1.cls e.1 e.1 ∈ zf_T ∧ e.1.name ≠ "<init>" | 1 => Cond.static e.1 ∈ zf_T ∧ e.1.name ≠ "<init>" | _ => Cond.instanceMethod e.1 ∈ zf_T ∧ e.1.name = "<init>" ∧ e.2.2.2.1 = none)
theorem zf_e0 : zf_okE (yX0_init, cX0_init, 1, none, 0, 0, 2, 1, 20) := ⟨zf_m106, zf_m34, ⟨by decide, by decide, by decide +kernel⟩, by decide +kernel, rfl, ⟨zf_m105, rfl, rfl⟩⟩
theorem zf_e1 : zf_okE (yX0_run, cX0_run, 12, (some .boolean), 0, 2, 0, 3, 76) := ⟨zf_m718, zf_m34, ⟨by decide, by decide, by decide +kernel⟩, by decide +kernel, rfl, ⟨zf_m716, zf_m717, by decide⟩⟩
theorem zf_e2 : zf_okE (yX0_keepLives, cX0_keepLives, 6, none, 0, 2, 0, 1, 22) := ⟨zf_m741, zf_m34, ⟨by decide, by decide, by decide +kernel⟩, by decide +kernel, rfl, ⟨zf_m739, zf_m740, by decide⟩⟩
theorem zf_e3 : zf_okE (yX1_init, cX1_init, 2, none, 1, 0, 2, 2, 40) := ⟨zf_m91, zf_m28, ⟨by decide, by decide, by decide +kernel⟩, by decide +kernel, rfl, ⟨zf_m90, rfl, rfl⟩⟩
theorem zf_e4 : zf_okE (yX1_sumOf, cX1_sumOf, 4, (some .int), 1, 1, 0, 0, 0) := ⟨zf_m640, zf_m28, ⟨by decide, by decide, by decide +kernel⟩, by decide +kernel, rfl, ⟨zf_m638, zf_m639, by decide⟩⟩
theorem zf_e5 : zf_okE (yX1_bestUse, cX1_bestUse, 6, (some .int), 1, 0, 0, 1, 23) := ⟨zf_m636, zf_m28, ⟨by decide, by decide, by decide +kernel⟩, by decide +kernel, rfl, ⟨zf_m634, zf_m635, by decide⟩⟩
theorem zf_e6 : zf_okE (yX2_init, cX2_init, 1, none, 2, 0, 2, 1, 20) := ⟨zf_m53, zf_m20, ⟨by decide, by decide, by decide +kernel⟩, by decide +kernel, rfl, ⟨zf_m52, rfl, rfl⟩⟩
theorem zf_e7 : zf_okE (yX2_open, cX2_open, 4, none, 2, 3, 0, 0, 0) := ⟨zf_m311, zf_m20, ⟨by decide, by decide, by decide +kernel⟩, by decide +kernel, rfl, ⟨zf_m309, zf_m310, by decide⟩⟩
theorem zf_e8 : zf_okE (yX2_seat, cX2_seat, 6, none, 2, 4, 0, 2, 43) := ⟨zf_m322, zf_m20, ⟨by decide, by decide, by decide +kernel⟩, by decide +kernel, rfl, ⟨zf_m320, zf_m321, by decide⟩⟩
theorem zf_e9 : zf_okE (yX2_beginning, cX2_beginning, 5, (some .long), 2, 0, 0, 0, 0) := ⟨zf_m355, zf_m20, ⟨by decide, by decide, by decide +kernel⟩, by decide +kernel, rfl, ⟨zf_m353, zf_m354, by decide⟩⟩
theorem zf_e10 : zf_okE (yX2_winner, cX2_winner, 2, (some .int), 2, 1, 1, 0, 0) := ⟨zf_m358, zf_m20, ⟨by decide, by decide, by decide +kernel⟩, by decide +kernel, rfl, ⟨zf_m357, by decide⟩⟩
theorem zf_e11 : zf_okE (yX2_part, cX2_part, 3, (some .int), 2, 2, 1, 0, 0) := ⟨zf_m367, zf_m20, ⟨by decide, by decide, by decide +kernel⟩, by decide +kernel, rfl, ⟨zf_m366, by decide⟩⟩
theorem zf_e12 : zf_okE (yX2_lifeOf, cX2_lifeOf, 1, (some .int), 2, 1, 1, 0, 0) := ⟨zf_m398, zf_m20, ⟨by decide, by decide, by decide +kernel⟩, by decide +kernel, rfl, ⟨zf_m397, by decide⟩⟩
theorem zf_e13 : zf_okE (yX2_hasTurn, cX2_hasTurn, 6, (some .boolean), 2, 3, 0, 1, 22) := ⟨zf_m386, zf_m20, ⟨by decide, by decide, by decide +kernel⟩, by decide +kernel, rfl, ⟨zf_m384, zf_m385, by decide⟩⟩
theorem zf_e14 : zf_okE (yX2_flees, cX2_flees, 4, (some .boolean), 2, 2, 0, 1, 22) := ⟨zf_m395, zf_m20, ⟨by decide, by decide, by decide +kernel⟩, by decide +kernel, rfl, ⟨zf_m393, zf_m394, by decide⟩⟩
theorem zf_e15 : zf_okE (yX2_afterFlight, cX2_afterFlight, 4, (some .long), 2, 2, 0, 0, 0) := ⟨zf_m402, zf_m20, ⟨by decide, by decide, by decide +kernel⟩, by decide +kernel, rfl, ⟨zf_m400, zf_m401, by decide⟩⟩
theorem zf_e16 : zf_okE (yX2_hits, cX2_hits, 2, (some .int), 2, 1, 0, 0, 0) := ⟨zf_m408, zf_m20, ⟨by decide, by decide, by decide +kernel⟩, by decide +kernel, rfl, ⟨zf_m406, zf_m407, by decide⟩⟩
theorem zf_e17 : zf_okE (yX2_afterHit, cX2_afterHit, 5, (some .long), 2, 2, 0, 2, 52) := ⟨zf_m412, zf_m20, ⟨by decide, by decide, by decide +kernel⟩, by decide +kernel, rfl, ⟨zf_m410, zf_m411, by decide⟩⟩
theorem zf_e18 : zf_okE (yX2_chosen, cX2_chosen, 9, (some .int), 2, 3, 0, 1, 22) := ⟨zf_m416, zf_m20, ⟨by decide, by decide, by decide +kernel⟩, by decide +kernel, rfl, ⟨zf_m414, zf_m415, by decide⟩⟩
theorem zf_e19 : zf_okE (yX2_allStruck, cX2_allStruck, 8, (some .long), 2, 3, 0, 1, 25) := ⟨zf_m425, zf_m20, ⟨by decide, by decide, by decide +kernel⟩, by decide +kernel, rfl, ⟨zf_m423, zf_m424, by decide⟩⟩
theorem zf_e20 : zf_okE (yX2_struck, cX2_struck, 6, (some .long), 2, 3, 1, 0, 0) := ⟨zf_m419, zf_m20, ⟨by decide, by decide, by decide +kernel⟩, by decide +kernel, rfl, ⟨zf_m418, by decide⟩⟩
theorem zf_e21 : zf_okE (yX2_healed, cX2_healed, 6, (some .long), 2, 3, 0, 1, 22) := ⟨zf_m429, zf_m20, ⟨by decide, by decide, by decide +kernel⟩, by decide +kernel, rfl, ⟨zf_m427, zf_m428, by decide⟩⟩
theorem zf_e22 : zf_okE (yX3_init, cX3_init, 1, none, 3, 0, 2, 1, 20) := ⟨zf_m82, zf_m77, ⟨by decide, by decide, by decide +kernel⟩, by decide +kernel, rfl, ⟨zf_m81, rfl, rfl⟩⟩
theorem zf_e23 : zf_okE (yX3_empty, cX3_empty, 2, none, 3, 0, 0, 0, 0) := ⟨zf_m348, zf_m77, ⟨by decide, by decide, by decide +kernel⟩, by decide +kernel, rfl, ⟨zf_m346, zf_m347, by decide⟩⟩
theorem zf_e24 : zf_okE (yX3_join, cX3_join, 8, (some .boolean), 3, 2, 0, 1, 25) := ⟨zf_m371, zf_m77, ⟨by decide, by decide, by decide +kernel⟩, by decide +kernel, rfl, ⟨zf_m369, zf_m370, by decide⟩⟩
theorem zf_e25 : zf_okE (yX3_joinNew, cX3_joinNew, 6, (some .boolean), 3, 3, 0, 0, 0) := ⟨zf_m376, zf_m77, ⟨by decide, by decide, by decide +kernel⟩, by decide +kernel, rfl, ⟨zf_m374, zf_m375, by decide⟩⟩
theorem zf_e26 : zf_okE (yX4_init, cX4_init, 1, none, 4, 0, 2, 2, 40) := ⟨zf_m67, zf_m24, ⟨by decide, by decide, by decide +kernel⟩, by decide +kernel, rfl, ⟨zf_m66, rfl, rfl⟩⟩
theorem zf_e27 : zf_okE (yX4_reckon, cX4_reckon, 9, (some .boolean), 4, 1, 0, 4, 112) := ⟨zf_m331, zf_m24, ⟨by decide, by decide, by decide +kernel⟩, by decide +kernel, rfl, ⟨zf_m329, zf_m330, by decide⟩⟩
theorem zf_e28 : zf_okE (yX4_waysLeft, cX4_waysLeft, 5, (some .long), 4, 3, 0, 0, 0) := ⟨zf_m537, zf_m24, ⟨by decide, by decide, by decide +kernel⟩, by decide +kernel, rfl, ⟨zf_m535, zf_m536, by decide⟩⟩
theorem zf_e29 : zf_okE (yX4_perMillion, cX4_perMillion, 6, (some .int), 4, 0, 0, 0, 0) := ⟨zf_m519, zf_m24, ⟨by decide, by decide, by decide +kernel⟩, by decide +kernel, rfl, ⟨zf_m517, zf_m518, by decide⟩⟩
theorem zf_e30 : zf_okE (yX4_clear, cX4_clear, 2, none, 4, 0, 0, 1, 21) := ⟨zf_m344, zf_m24, ⟨by decide, by decide, by decide +kernel⟩, by decide +kernel, rfl, ⟨zf_m342, zf_m343, by decide⟩⟩
theorem zf_e31 : zf_okE (yX4_powerOfSix, cX4_powerOfSix, 4, (some .long), 4, 1, 1, 0, 0) := ⟨zf_m351, zf_m24, ⟨by decide, by decide, by decide +kernel⟩, by decide +kernel, rfl, ⟨zf_m350, by decide⟩⟩
theorem zf_e32 : zf_okE (yX4_reckonSlot, cX4_reckonSlot, 12, (some .boolean), 4, 4, 0, 3, 81) := ⟨zf_m380, zf_m24, ⟨by decide, by decide, by decide +kernel⟩, by decide +kernel, rfl, ⟨zf_m378, zf_m379, by decide⟩⟩
theorem zf_e33 : zf_okE (yX4_pass, cX4_pass, 9, (some .boolean), 4, 5, 0, 2, 53) := ⟨zf_m391, zf_m24, ⟨by decide, by decide, by decide +kernel⟩, by decide +kernel, rfl, ⟨zf_m389, zf_m390, by decide⟩⟩
theorem zf_e34 : zf_okE (yX4_tally, cX4_tally, 12, none, 4, 5, 0, 1, 22) := ⟨zf_m364, zf_m24, ⟨by decide, by decide, by decide +kernel⟩, by decide +kernel, rfl, ⟨zf_m362, zf_m363, by decide⟩⟩
theorem zf_e35 : zf_okE (yX5_init, cX5_init, 1, none, 5, 0, 2, 1, 20) := ⟨zf_m48, zf_m14, ⟨by decide, by decide, by decide +kernel⟩, by decide +kernel, rfl, ⟨zf_m47, rfl, rfl⟩⟩
theorem zf_e36 : zf_okE (yX5_fits, cX5_fits, 2, (some .boolean), 5, 2, 1, 0, 0) := ⟨zf_m161, zf_m14, ⟨by decide, by decide, by decide +kernel⟩, by decide +kernel, rfl, ⟨zf_m160, by decide⟩⟩
theorem zf_e37 : zf_okE (yX5_has, cX5_has, 2, (some .boolean), 5, 1, 0, 0, 0) := ⟨zf_m171, zf_m14, ⟨by decide, by decide, by decide +kernel⟩, by decide +kernel, rfl, ⟨zf_m169, zf_m170, by decide⟩⟩
theorem zf_e38 : zf_okE (yX5_number, cX5_number, 3, (some .int), 5, 2, 0, 1, 21) := ⟨zf_m196, zf_m14, ⟨by decide, by decide, by decide +kernel⟩, by decide +kernel, rfl, ⟨zf_m194, zf_m195, by decide⟩⟩
theorem zf_e39 : zf_okE (yX5_change, cX5_change, 4, none, 5, 3, 0, 1, 21) := ⟨zf_m167, zf_m14, ⟨by decide, by decide, by decide +kernel⟩, by decide +kernel, rfl, ⟨zf_m165, zf_m166, by decide⟩⟩
theorem zf_e40 : zf_okE (yX6_init, cX6_init, 1, none, 6, 0, 2, 1, 20) := ⟨zf_m101, zf_m44, ⟨by decide, by decide, by decide +kernel⟩, by decide +kernel, rfl, ⟨zf_m100, rfl, rfl⟩⟩
theorem zf_e41 : zf_okE (yX6_become, cX6_become, 5, none, 6, 4, 0, 0, 0) := ⟨zf_m232, zf_m44, ⟨by decide, by decide, by decide +kernel⟩, by decide +kernel, rfl, ⟨zf_m230, zf_m231, by decide⟩⟩
theorem zf_e42 : zf_okE (yX6_who, cX6_who, 2, (some .int), 6, 1, 0, 1, 20) := ⟨zf_m255, zf_m44, ⟨by decide, by decide, by decide +kernel⟩, by decide +kernel, rfl, ⟨zf_m253, zf_m254, by decide⟩⟩
theorem zf_e43 : zf_okE (yX7_init, cX7_init, 1, none, 7, 0, 2, 1, 20) := ⟨zf_m113, zf_m46, ⟨by decide, by decide, by decide +kernel⟩, by decide +kernel, rfl, ⟨zf_m112, rfl, rfl⟩⟩
theorem zf_e44 : zf_okE (yX7_renew, cX7_renew, 4, none, 7, 2, 0, 0, 0) := ⟨zf_m779, zf_m46, ⟨by decide, by decide, by decide +kernel⟩, by decide +kernel, rfl, ⟨zf_m777, zf_m778, by decide⟩⟩
theorem zf_e45 : zf_okE (yX7_has, cX7_has, 2, (some .boolean), 7, 1, 0, 0, 0) := ⟨zf_m730, zf_m46, ⟨by decide, by decide, by decide +kernel⟩, by decide +kernel, rfl, ⟨zf_m728, zf_m729, by decide⟩⟩
theorem zf_e46 : zf_okE (yX7_hasRun, cX7_hasRun, 3, (some .boolean), 7, 2, 0, 0, 0) := ⟨zf_m835, zf_m46, ⟨by decide, by decide, by decide +kernel⟩, by decide +kernel, rfl, ⟨zf_m833, zf_m834, by decide⟩⟩
theorem zf_e47 : zf_okE (yX7_item, cX7_item, 2, (some .int), 7, 1, 0, 1, 21) := ⟨zf_m734, zf_m46, ⟨by decide, by decide, by decide +kernel⟩, by decide +kernel, rfl, ⟨zf_m732, zf_m733, by decide⟩⟩
theorem zf_e48 : zf_okE (yX7_store, cX7_store, 3, none, 7, 2, 0, 1, 21) := ⟨zf_m805, zf_m46, ⟨by decide, by decide, by decide +kernel⟩, by decide +kernel, rfl, ⟨zf_m803, zf_m804, by decide⟩⟩
theorem zf_e49 : zf_okE (yX8_init, cX8_init, 2, none, 8, 0, 2, 3, 61) := ⟨zf_m8, zf_m2, ⟨by decide, by decide, by decide +kernel⟩, by decide +kernel, rfl, ⟨zf_m7, rfl, rfl⟩⟩
theorem zf_e50 : zf_okE (yX8_fighter, cX8_fighter, 9, (some .int), 8, 6, 0, 2, 44) := ⟨zf_m157, zf_m2, ⟨by decide, by decide, by decide +kernel⟩, by decide +kernel, rfl, ⟨zf_m155, zf_m156, by decide⟩⟩
theorem zf_e51 : zf_okE (yX8_about, cX8_about, 3, (some .int), 8, 2, 0, 2, 43) := ⟨zf_m191, zf_m2, ⟨by decide, by decide, by decide +kernel⟩, by decide +kernel, rfl, ⟨zf_m189, zf_m190, by decide⟩⟩
theorem zf_e52 : zf_okE (yX8_tune, cX8_tune, 5, (some .int), 8, 3, 0, 2, 44) := ⟨zf_m209, zf_m2, ⟨by decide, by decide, by decide +kernel⟩, by decide +kernel, rfl, ⟨zf_m207, zf_m208, by decide⟩⟩
theorem zf_e53 : zf_okE (yX8_side, cX8_side, 6, (some .int), 8, 4, 0, 3, 65) := ⟨zf_m217, zf_m2, ⟨by decide, by decide, by decide +kernel⟩, by decide +kernel, rfl, ⟨zf_m215, zf_m216, by decide⟩⟩
theorem zf_e54 : zf_okE (yX8_at, cX8_at, 3, (some .int), 8, 2, 0, 2, 41) := ⟨zf_m248, zf_m2, ⟨by decide, by decide, by decide +kernel⟩, by decide +kernel, rfl, ⟨zf_m246, zf_m247, by decide⟩⟩
theorem zf_e55 : zf_okE (yX8_laws, cX8_laws, 5, (some .int), 8, 3, 0, 2, 40) := ⟨zf_m263, zf_m2, ⟨by decide, by decide, by decide +kernel⟩, by decide +kernel, rfl, ⟨zf_m261, zf_m262, by decide⟩⟩
theorem zf_e56 : zf_okE (yX8_slots, cX8_slots, 1, (some .int), 8, 0, 0, 0, 0) := ⟨zf_m275, zf_m2, ⟨by decide, by decide, by decide +kernel⟩, by decide +kernel, rfl, ⟨zf_m273, zf_m274, by decide⟩⟩
theorem zf_e57 : zf_okE (yX8_all, cX8_all, 1, (some .long), 8, 0, 0, 6, 160) := ⟨zf_m298, zf_m2, ⟨by decide, by decide, by decide +kernel⟩, by decide +kernel, rfl, ⟨zf_m296, zf_m297, by decide⟩⟩
theorem zf_e58 : zf_okE (yX8_ways, cX8_ways, 2, (some .long), 8, 1, 0, 6, 160) := ⟨zf_m506, zf_m2, ⟨by decide, by decide, by decide +kernel⟩, by decide +kernel, rfl, ⟨zf_m504, zf_m505, by decide⟩⟩
theorem zf_e59 : zf_okE (yX8_chance, cX8_chance, 1, (some .int), 8, 0, 0, 6, 160) := ⟨zf_m515, zf_m2, ⟨by decide, by decide, by decide +kernel⟩, by decide +kernel, rfl, ⟨zf_m513, zf_m514, by decide⟩⟩
theorem zf_e60 : zf_okE (yX8_left, cX8_left, 6, (some .long), 8, 4, 0, 6, 160) := ⟨zf_m533, zf_m2, ⟨by decide, by decide, by decide +kernel⟩, by decide +kernel, rfl, ⟨zf_m531, zf_m532, by decide⟩⟩
theorem zf_e61 : zf_okE (yX8_states, cX8_states, 1, (some .int), 8, 0, 0, 6, 160) := ⟨zf_m545, zf_m2, ⟨by decide, by decide, by decide +kernel⟩, by decide +kernel, rfl, ⟨zf_m543, zf_m544, by decide⟩⟩
theorem zf_e62 : zf_okE (yX8_ends, cX8_ends, 2, (some .long), 8, 1, 0, 6, 160) := ⟨zf_m554, zf_m2, ⟨by decide, by decide, by decide +kernel⟩, by decide +kernel, rfl, ⟨zf_m552, zf_m553, by decide⟩⟩
theorem zf_e63 : zf_okE (yX8_better, cX8_better, 6, (some .int), 8, 2, 0, 7, 180) := ⟨zf_m563, zf_m2, ⟨by decide, by decide, by decide +kernel⟩, by decide +kernel, rfl, ⟨zf_m561, zf_m562, by decide⟩⟩
theorem zf_e64 : zf_okE (yX8_without, cX8_without, 2, (some .int), 8, 1, 0, 5, 140) := ⟨zf_m577, zf_m2, ⟨by decide, by decide, by decide +kernel⟩, by decide +kernel, rfl, ⟨zf_m575, zf_m576, by decide⟩⟩
theorem zf_e65 : zf_okE (yX8_surprised, cX8_surprised, 2, (some .int), 8, 1, 0, 5, 140) := ⟨zf_m585, zf_m2, ⟨by decide, by decide, by decide +kernel⟩, by decide +kernel, rfl, ⟨zf_m583, zf_m584, by decide⟩⟩
theorem zf_e66 : zf_okE (yX8_fight, cX8_fight, 5, (some .int), 8, 3, 0, 3, 65) := ⟨zf_m593, zf_m2, ⟨by decide, by decide, by decide +kernel⟩, by decide +kernel, rfl, ⟨zf_m591, zf_m592, by decide⟩⟩
theorem zf_e67 : zf_okE (yX8_rest, cX8_rest, 2, (some .int), 8, 0, 0, 0, 0) := ⟨zf_m604, zf_m2, ⟨by decide, by decide, by decide +kernel⟩, by decide +kernel, rfl, ⟨zf_m602, zf_m603, by decide⟩⟩
theorem zf_e68 : zf_okE (yX8_purse, cX8_purse, 3, (some .int), 8, 2, 0, 0, 0) := ⟨zf_m612, zf_m2, ⟨by decide, by decide, by decide +kernel⟩, by decide +kernel, rfl, ⟨zf_m610, zf_m611, by decide⟩⟩
theorem zf_e69 : zf_okE (yX8_day, cX8_day, 2, (some .int), 8, 0, 0, 7, 183) := ⟨zf_m622, zf_m2, ⟨by decide, by decide, by decide +kernel⟩, by decide +kernel, rfl, ⟨zf_m620, zf_m621, by decide⟩⟩
theorem zf_e70 : zf_okE (yX8_use, cX8_use, 2, (some .int), 8, 0, 0, 7, 183) := ⟨zf_m665, zf_m2, ⟨by decide, by decide, by decide +kernel⟩, by decide +kernel, rfl, ⟨zf_m663, zf_m664, by decide⟩⟩
theorem zf_e71 : zf_okE (yX8_odds, cX8_odds, 3, (some .int), 8, 2, 0, 6, 162) := ⟨zf_m673, zf_m2, ⟨by decide, by decide, by decide +kernel⟩, by decide +kernel, rfl, ⟨zf_m671, zf_m672, by decide⟩⟩
theorem zf_e72 : zf_okE (yX8_wish, cX8_wish, 6, (some .int), 8, 2, 0, 6, 165) := ⟨zf_m681, zf_m2, ⟨by decide, by decide, by decide +kernel⟩, by decide +kernel, rfl, ⟨zf_m679, zf_m680, by decide⟩⟩
theorem zf_e73 : zf_okE (yX8_band, cX8_band, 2, (some .int), 8, 1, 0, 0, 0) := ⟨zf_m697, zf_m2, ⟨by decide, by decide, by decide +kernel⟩, by decide +kernel, rfl, ⟨zf_m695, zf_m696, by decide⟩⟩
theorem zf_e74 : zf_okE (yX8_play, cX8_play, 2, (some .int), 8, 1, 0, 5, 112) := ⟨zf_m705, zf_m2, ⟨by decide, by decide, by decide +kernel⟩, by decide +kernel, rfl, ⟨zf_m703, zf_m704, by decide⟩⟩
theorem zf_e75 : zf_okE (yX8_played, cX8_played, 2, (some .int), 8, 1, 0, 0, 0) := ⟨zf_m760, zf_m2, ⟨by decide, by decide, by decide +kernel⟩, by decide +kernel, rfl, ⟨zf_m758, zf_m759, by decide⟩⟩
theorem zf_e76 : zf_okE (yX8_sheet, cX8_sheet, 4, (some .int), 8, 3, 0, 1, 23) := ⟨zf_m772, zf_m2, ⟨by decide, by decide, by decide +kernel⟩, by decide +kernel, rfl, ⟨zf_m770, zf_m771, by decide⟩⟩
theorem zf_e77 : zf_okE (yX8_lose, cX8_lose, 2, (some .int), 8, 1, 0, 1, 21) := ⟨zf_m787, zf_m2, ⟨by decide, by decide, by decide +kernel⟩, by decide +kernel, rfl, ⟨zf_m785, zf_m786, by decide⟩⟩
theorem zf_e78 : zf_okE (yX8_put, cX8_put, 6, (some .int), 8, 4, 0, 2, 43) := ⟨zf_m796, zf_m2, ⟨by decide, by decide, by decide +kernel⟩, by decide +kernel, rfl, ⟨zf_m794, zf_m795, by decide⟩⟩
theorem zf_e79 : zf_okE (yX8_get, cX8_get, 5, (some .int), 8, 3, 0, 2, 43) := ⟨zf_m817, zf_m2, ⟨by decide, by decide, by decide +kernel⟩, by decide +kernel, rfl, ⟨zf_m815, zf_m816, by decide⟩⟩
theorem zf_e80 : zf_okE (yX8_copy, cX8_copy, 8, (some .int), 8, 5, 0, 1, 26) := ⟨zf_m826, zf_m2, ⟨by decide, by decide, by decide +kernel⟩, by decide +kernel, rfl, ⟨zf_m824, zf_m825, by decide⟩⟩
theorem zf_e81 : zf_okE (yX8_shake, cX8_shake, 6, (some .int), 8, 2, 0, 2, 43) := ⟨zf_m843, zf_m2, ⟨by decide, by decide, by decide +kernel⟩, by decide +kernel, rfl, ⟨zf_m841, zf_m842, by decide⟩⟩
theorem zf_e82 : zf_okE (yX8_count, cX8_count, 2, (some .int), 8, 1, 0, 0, 0) := ⟨zf_m853, zf_m2, ⟨by decide, by decide, by decide +kernel⟩, by decide +kernel, rfl, ⟨zf_m851, zf_m852, by decide⟩⟩
theorem zf_e83 : zf_okE (yX8_digest, cX8_digest, 5, (some .long), 8, 0, 0, 3, 65) := ⟨zf_m861, zf_m2, ⟨by decide, by decide, by decide +kernel⟩, by decide +kernel, rfl, ⟨zf_m859, zf_m860, by decide⟩⟩
theorem zf_e84 : zf_okE (yX8_isSide, cX8_isSide, 1, (some .boolean), 8, 1, 1, 0, 0) := ⟨zf_m228, zf_m2, ⟨by decide, by decide, by decide +kernel⟩, by decide +kernel, rfl, ⟨zf_m227, by decide⟩⟩
theorem zf_e85 : zf_okE (yX8_isSideOrNone, cX8_isSideOrNone, 1, (some .boolean), 8, 1, 1, 1, 20) := ⟨zf_m266, zf_m2, ⟨by decide, by decide, by decide +kernel⟩, by decide +kernel, rfl, ⟨zf_m265, by decide⟩⟩
theorem zf_e86 : zf_okE (yX8_isPlace, cX8_isPlace, 1, (some .boolean), 8, 1, 1, 0, 0) := ⟨zf_m251, zf_m2, ⟨by decide, by decide, by decide +kernel⟩, by decide +kernel, rfl, ⟨zf_m250, by decide⟩⟩
theorem zf_e87 : zf_okE (yX8_isSheet, cX8_isSheet, 1, (some .boolean), 8, 1, 1, 0, 0) := ⟨zf_m710, zf_m2, ⟨by decide, by decide, by decide +kernel⟩, by decide +kernel, rfl, ⟨zf_m709, by decide⟩⟩
theorem zf_e88 : zf_okE (yX8_isForm, cX8_isForm, 1, (some .boolean), 8, 1, 1, 0, 0) := ⟨zf_m775, zf_m2, ⟨by decide, by decide, by decide +kernel⟩, by decide +kernel, rfl, ⟨zf_m774, by decide⟩⟩
theorem zf_e89 : zf_okE (yX8_seatOf, cX8_seatOf, 2, (some .int), 8, 2, 1, 0, 0) := ⟨zf_m318, zf_m2, ⟨by decide, by decide, by decide +kernel⟩, by decide +kernel, rfl, ⟨zf_m317, by decide⟩⟩
theorem zf_e90 : zf_okE (yX8_rowSize, cX8_rowSize, 4, (some .int), 8, 3, 0, 2, 42) := ⟨zf_m221, zf_m2, ⟨by decide, by decide, by decide +kernel⟩, by decide +kernel, rfl, ⟨zf_m219, zf_m220, by decide⟩⟩
theorem zf_e91 : zf_okE (yX8_isFighterOrNone, cX8_isFighterOrNone, 2, (some .boolean), 8, 1, 0, 1, 21) := ⟨zf_m225, zf_m2, ⟨by decide, by decide, by decide +kernel⟩, by decide +kernel, rfl, ⟨zf_m223, zf_m224, by decide⟩⟩
theorem zf_e92 : zf_okE (yX8_refusal, cX8_refusal, 1, (some .long), 8, 1, 1, 0, 0) := ⟨zf_m435, zf_m2, ⟨by decide, by decide, by decide +kernel⟩, by decide +kernel, rfl, ⟨zf_m434, by decide⟩⟩
theorem zf_e93 : zf_okE (yX8_found, cX8_found, 2, (some .int), 8, 1, 0, 0, 0) := ⟨zf_m714, zf_m2, ⟨by decide, by decide, by decide +kernel⟩, by decide +kernel, rfl, ⟨zf_m712, zf_m713, by decide⟩⟩
theorem zf_e94 : zf_okE (yX8_itemFault, cX8_itemFault, 3, (some .int), 8, 3, 1, 1, 21) := ⟨zf_m799, zf_m2, ⟨by decide, by decide, by decide +kernel⟩, by decide +kernel, rfl, ⟨zf_m798, by decide⟩⟩
theorem zf_e95 : zf_okE (yX8_seatFight, cX8_seatFight, 1, none, 8, 0, 0, 4, 92) := ⟨zf_m307, zf_m2, ⟨by decide, by decide, by decide +kernel⟩, by decide +kernel, rfl, ⟨zf_m305, zf_m306, by decide⟩⟩
theorem zf_e96 : zf_okE (yX8_seatHeroes, cX8_seatHeroes, 5, none, 8, 2, 0, 3, 68) := ⟨zf_m315, zf_m2, ⟨by decide, by decide, by decide +kernel⟩, by decide +kernel, rfl, ⟨zf_m313, zf_m314, by decide⟩⟩
theorem zf_e97 : zf_okE (yX8_seatFoes, cX8_seatFoes, 3, none, 8, 1, 0, 3, 68) := ⟨zf_m327, zf_m2, ⟨by decide, by decide, by decide +kernel⟩, by decide +kernel, rfl, ⟨zf_m325, zf_m326, by decide⟩⟩
theorem zf_e98 : zf_okE (yX8_reckonFight, cX8_reckonFight, 1, (some .boolean), 8, 0, 0, 5, 140) := ⟨zf_m303, zf_m2, ⟨by decide, by decide, by decide +kernel⟩, by decide +kernel, rfl, ⟨zf_m301, zf_m302, by decide⟩⟩
theorem zf_e99 : zf_okE (yX8_chanceAgainst, cX8_chanceAgainst, 3, (some .int), 8, 2, 0, 5, 140) := ⟨zf_m632, zf_m2, ⟨by decide, by decide, by decide +kernel⟩, by decide +kernel, rfl, ⟨zf_m630, zf_m631, by decide⟩⟩
theorem zf_e100 : zf_okE (yX8_reckonDay, cX8_reckonDay, 2, (some .int), 8, 0, 0, 6, 162) := ⟨zf_m626, zf_m2, ⟨by decide, by decide, by decide +kernel⟩, by decide +kernel, rfl, ⟨zf_m624, zf_m625, by decide⟩⟩
theorem zf_e101 : zf_okE (yX8_tryBand, cX8_tryBand, 6, none, 8, 4, 0, 5, 140) := ⟨zf_m687, zf_m2, ⟨by decide, by decide, by decide +kernel⟩, by decide +kernel, rfl, ⟨zf_m685, zf_m686, by decide⟩⟩
theorem zf_e102 : zf_okE (yX9_init, cX9_init, 2, none, 9, 0, 2, 1, 20) := ⟨zf_m121, zf_m5, ⟨by decide, by decide, by decide +kernel⟩, by decide +kernel, rfl, ⟨zf_m120, rfl, rfl⟩⟩
theorem zf_e103 : zf_okE (yX9_in, cX9_in, 6, (some .boolean), 9, 3, 1, 0, 0) := ⟨zf_m187, zf_m5, ⟨by decide, by decide, by decide +kernel⟩, by decide +kernel, rfl, ⟨zf_m186, by decide⟩⟩
theorem zf_e104 : zf_okE (yX9_no, cX9_no, 1, (some .long), 9, 1, 1, 0, 0) := ⟨zf_m501, zf_m5, ⟨by decide, by decide, by decide +kernel⟩, by decide +kernel, rfl, ⟨zf_m500, by decide⟩⟩
theorem zf_e105 : zf_okE (yX9_isNumber, cX9_isNumber, 2, (some .boolean), 9, 2, 1, 1, 25) := ⟨zf_m179, zf_m5, ⟨by decide, by decide, by decide +kernel⟩, by decide +kernel, rfl, ⟨zf_m178, by decide⟩⟩
theorem zf_e106 : zf_okE (yX9_isFighter, cX9_isFighter, 2, (some .boolean), 9, 1, 0, 1, 25) := ⟨zf_m205, zf_m5, ⟨by decide, by decide, by decide +kernel⟩, by decide +kernel, rfl, ⟨zf_m203, zf_m204, by decide⟩⟩
theorem zf_e107 : zf_okE (yX9_fighter, cX9_fighter, 8, (some .int), 9, 6, 0, 2, 46) := ⟨zf_m175, zf_m5, ⟨by decide, by decide, by decide +kernel⟩, by decide +kernel, rfl, ⟨zf_m173, zf_m174, by decide⟩⟩
theorem zf_e108 : zf_okE (yX9_about, cX9_about, 3, (some .int), 9, 2, 0, 2, 46) := ⟨zf_m200, zf_m5, ⟨by decide, by decide, by decide +kernel⟩, by decide +kernel, rfl, ⟨zf_m198, zf_m199, by decide⟩⟩
theorem zf_e109 : zf_okE (yX9_tune, cX9_tune, 5, (some .int), 9, 3, 0, 2, 46) := ⟨zf_m213, zf_m5, ⟨by decide, by decide, by decide +kernel⟩, by decide +kernel, rfl, ⟨zf_m211, zf_m212, by decide⟩⟩
theorem zf_e110 : zf_okE (yX9_isRow, cX9_isRow, 5, (some .boolean), 9, 3, 0, 1, 25) := ⟨zf_m240, zf_m5, ⟨by decide, by decide, by decide +kernel⟩, by decide +kernel, rfl, ⟨zf_m238, zf_m239, by decide⟩⟩
theorem zf_e111 : zf_okE (yX9_manyOf, cX9_manyOf, 3, (some .int), 9, 3, 1, 0, 0) := ⟨zf_m244, zf_m5, ⟨by decide, by decide, by decide +kernel⟩, by decide +kernel, rfl, ⟨zf_m243, by decide⟩⟩
theorem zf_e112 : zf_okE (yX9_side, cX9_side, 5, (some .int), 9, 4, 0, 2, 49) := ⟨zf_m236, zf_m5, ⟨by decide, by decide, by decide +kernel⟩, by decide +kernel, rfl, ⟨zf_m234, zf_m235, by decide⟩⟩
theorem zf_e113 : zf_okE (yX9_at, cX9_at, 3, (some .int), 9, 2, 0, 1, 25) := ⟨zf_m259, zf_m5, ⟨by decide, by decide, by decide +kernel⟩, by decide +kernel, rfl, ⟨zf_m257, zf_m258, by decide⟩⟩
theorem zf_e114 : zf_okE (yX9_laws, cX9_laws, 4, (some .int), 9, 3, 0, 1, 25) := ⟨zf_m270, zf_m5, ⟨by decide, by decide, by decide +kernel⟩, by decide +kernel, rfl, ⟨zf_m268, zf_m269, by decide⟩⟩
theorem zf_e115 : zf_okE (yX9_sets, cX9_sets, 3, none, 9, 1, 0, 0, 0) := ⟨zf_m284, zf_m5, ⟨by decide, by decide, by decide +kernel⟩, by decide +kernel, rfl, ⟨zf_m282, zf_m283, by decide⟩⟩
theorem zf_e116 : zf_okE (yX9_begins, cX9_begins, 3, none, 9, 0, 0, 0, 0) := ⟨zf_m289, zf_m5, ⟨by decide, by decide, by decide +kernel⟩, by decide +kernel, rfl, ⟨zf_m287, zf_m288, by decide⟩⟩
theorem zf_e117 : zf_okE (yX9_winner, cX9_winner, 1, (some .int), 9, 0, 0, 0, 0) := ⟨zf_m455, zf_m5, ⟨by decide, by decide, by decide +kernel⟩, by decide +kernel, rfl, ⟨zf_m453, zf_m454, by decide⟩⟩
theorem zf_e118 : zf_okE (yX9_hurts, cX9_hurts, 3, none, 9, 2, 0, 0, 0) := ⟨zf_m498, zf_m5, ⟨by decide, by decide, by decide +kernel⟩, by decide +kernel, rfl, ⟨zf_m496, zf_m497, by decide⟩⟩
theorem zf_e119 : zf_okE (yX9_target, cX9_target, 5, (some .int), 9, 2, 0, 0, 0) := ⟨zf_m494, zf_m5, ⟨by decide, by decide, by decide +kernel⟩, by decide +kernel, rfl, ⟨zf_m492, zf_m493, by decide⟩⟩
theorem zf_e120 : zf_okE (yX9_hasTurn, cX9_hasTurn, 3, (some .boolean), 9, 2, 0, 0, 0) := ⟨zf_m472, zf_m5, ⟨by decide, by decide, by decide +kernel⟩, by decide +kernel, rfl, ⟨zf_m470, zf_m471, by decide⟩⟩
theorem zf_e121 : zf_okE (yX9_flees, cX9_flees, 2, (some .boolean), 9, 1, 0, 0, 0) := ⟨zf_m482, zf_m5, ⟨by decide, by decide, by decide +kernel⟩, by decide +kernel, rfl, ⟨zf_m480, zf_m481, by decide⟩⟩
theorem zf_e122 : zf_okE (yX9_hits, cX9_hits, 7, none, 9, 1, 0, 1, 24) := ⟨zf_m490, zf_m5, ⟨by decide, by decide, by decide +kernel⟩, by decide +kernel, rfl, ⟨zf_m488, zf_m489, by decide⟩⟩
theorem zf_e123 : zf_okE (yX9_pack, cX9_pack, 4, (some .long), 9, 0, 0, 0, 0) := ⟨zf_m463, zf_m5, ⟨by decide, by decide, by decide +kernel⟩, by decide +kernel, rfl, ⟨zf_m461, zf_m462, by decide⟩⟩
theorem zf_e124 : zf_okE (yX9_unpack, cX9_unpack, 6, none, 9, 1, 0, 0, 0) := ⟨zf_m467, zf_m5, ⟨by decide, by decide, by decide +kernel⟩, by decide +kernel, rfl, ⟨zf_m465, zf_m466, by decide⟩⟩
theorem zf_e125 : zf_okE (yX9_counts, cX9_counts, 6, none, 9, 3, 0, 0, 0) := ⟨zf_m459, zf_m5, ⟨by decide, by decide, by decide +kernel⟩, by decide +kernel, rfl, ⟨zf_m457, zf_m458, by decide⟩⟩
theorem zf_e126 : zf_okE (yX9_comes, cX9_comes, 6, none, 9, 1, 0, 1, 23) := ⟨zf_m476, zf_m5, ⟨by decide, by decide, by decide +kernel⟩, by decide +kernel, rfl, ⟨zf_m474, zf_m475, by decide⟩⟩
theorem zf_e127 : zf_okE (yX9_goesOn, cX9_goesOn, 7, none, 9, 3, 0, 2, 48) := ⟨zf_m486, zf_m5, ⟨by decide, by decide, by decide +kernel⟩, by decide +kernel, rfl, ⟨zf_m484, zf_m485, by decide⟩⟩
theorem zf_e128 : zf_okE (yX9_slotsNow, cX9_slotsNow, 1, (some .int), 9, 0, 0, 0, 0) := ⟨zf_m294, zf_m5, ⟨by decide, by decide, by decide +kernel⟩, by decide +kernel, rfl, ⟨zf_m292, zf_m293, by decide⟩⟩
theorem zf_e129 : zf_okE (yX9_works, cX9_works, 9, (some .int), 9, 0, 0, 3, 74) := ⟨zf_m448, zf_m5, ⟨by decide, by decide, by decide +kernel⟩, by decide +kernel, rfl, ⟨zf_m446, zf_m447, by decide⟩⟩
theorem zf_e130 : zf_okE (yX9_worksAsItIs, cX9_worksAsItIs, 1, (some .int), 9, 0, 0, 4, 102) := ⟨zf_m444, zf_m5, ⟨by decide, by decide, by decide +kernel⟩, by decide +kernel, rfl, ⟨zf_m442, zf_m443, by decide⟩⟩
theorem zf_e131 : zf_okE (yX9_chanceOf, cX9_chanceOf, 8, (some .int), 9, 0, 0, 1, 20) := ⟨zf_m528, zf_m5, ⟨by decide, by decide, by decide +kernel⟩, by decide +kernel, rfl, ⟨zf_m526, zf_m527, by decide⟩⟩
theorem zf_e132 : zf_okE (yX9_slots, cX9_slots, 1, (some .int), 9, 0, 0, 1, 22) := ⟨zf_m280, zf_m5, ⟨by decide, by decide, by decide +kernel⟩, by decide +kernel, rfl, ⟨zf_m278, zf_m279, by decide⟩⟩
theorem zf_e133 : zf_okE (yX9_all, cX9_all, 1, (some .long), 9, 0, 0, 5, 122) := ⟨zf_m440, zf_m5, ⟨by decide, by decide, by decide +kernel⟩, by decide +kernel, rfl, ⟨zf_m438, zf_m439, by decide⟩⟩
theorem zf_e134 : zf_okE (yX9_ways, cX9_ways, 2, (some .long), 9, 1, 0, 5, 122) := ⟨zf_m511, zf_m5, ⟨by decide, by decide, by decide +kernel⟩, by decide +kernel, rfl, ⟨zf_m509, zf_m510, by decide⟩⟩
theorem zf_e135 : zf_okE (yX9_chance, cX9_chance, 1, (some .int), 9, 0, 0, 5, 122) := ⟨zf_m524, zf_m5, ⟨by decide, by decide, by decide +kernel⟩, by decide +kernel, rfl, ⟨zf_m522, zf_m523, by decide⟩⟩
theorem zf_e136 : zf_okE (yX9_left, cX9_left, 5, (some .long), 9, 4, 0, 5, 122) := ⟨zf_m541, zf_m5, ⟨by decide, by decide, by decide +kernel⟩, by decide +kernel, rfl, ⟨zf_m539, zf_m540, by decide⟩⟩
theorem zf_e137 : zf_okE (yX9_states, cX9_states, 1, (some .int), 9, 0, 0, 5, 122) := ⟨zf_m550, zf_m5, ⟨by decide, by decide, by decide +kernel⟩, by decide +kernel, rfl, ⟨zf_m548, zf_m549, by decide⟩⟩
theorem zf_e138 : zf_okE (yX9_ends, cX9_ends, 2, (some .long), 9, 1, 0, 5, 122) := ⟨zf_m559, zf_m5, ⟨by decide, by decide, by decide +kernel⟩, by decide +kernel, rfl, ⟨zf_m557, zf_m558, by decide⟩⟩
theorem zf_e139 : zf_okE (yX9_better, cX9_better, 5, (some .int), 9, 2, 0, 6, 142) := ⟨zf_m570, zf_m5, ⟨by decide, by decide, by decide +kernel⟩, by decide +kernel, rfl, ⟨zf_m568, zf_m569, by decide⟩⟩
theorem zf_e140 : zf_okE (yX9_without, cX9_without, 3, (some .int), 9, 1, 0, 4, 102) := ⟨zf_m581, zf_m5, ⟨by decide, by decide, by decide +kernel⟩, by decide +kernel, rfl, ⟨zf_m579, zf_m580, by decide⟩⟩
theorem zf_e141 : zf_okE (yX9_surprised, cX9_surprised, 2, (some .int), 9, 1, 0, 4, 102) := ⟨zf_m589, zf_m5, ⟨by decide, by decide, by decide +kernel⟩, by decide +kernel, rfl, ⟨zf_m587, zf_m588, by decide⟩⟩
theorem zf_e142 : zf_okE (yX9_fight, cX9_fight, 4, (some .int), 9, 3, 0, 2, 49) := ⟨zf_m599, zf_m5, ⟨by decide, by decide, by decide +kernel⟩, by decide +kernel, rfl, ⟨zf_m597, zf_m598, by decide⟩⟩
theorem zf_e143 : zf_okE (yX9_rest, cX9_rest, 2, (some .int), 9, 0, 0, 0, 0) := ⟨zf_m608, zf_m5, ⟨by decide, by decide, by decide +kernel⟩, by decide +kernel, rfl, ⟨zf_m606, zf_m607, by decide⟩⟩
theorem zf_e144 : zf_okE (yX9_purse, cX9_purse, 3, (some .int), 9, 2, 0, 1, 25) := ⟨zf_m618, zf_m5, ⟨by decide, by decide, by decide +kernel⟩, by decide +kernel, rfl, ⟨zf_m616, zf_m617, by decide⟩⟩
theorem zf_e145 : zf_okE (yX9_oddsOf, cX9_oddsOf, 4, (some .int), 9, 2, 0, 4, 102) := ⟨zf_m661, zf_m5, ⟨by decide, by decide, by decide +kernel⟩, by decide +kernel, rfl, ⟨zf_m659, zf_m660, by decide⟩⟩
theorem zf_e146 : zf_okE (yX9_findUse, cX9_findUse, 8, (some .int), 9, 0, 0, 5, 125) := ⟨zf_m656, zf_m5, ⟨by decide, by decide, by decide +kernel⟩, by decide +kernel, rfl, ⟨zf_m654, zf_m655, by decide⟩⟩
theorem zf_e147 : zf_okE (yX9_day, cX9_day, 1, (some .int), 9, 0, 0, 6, 152) := ⟨zf_m652, zf_m5, ⟨by decide, by decide, by decide +kernel⟩, by decide +kernel, rfl, ⟨zf_m650, zf_m651, by decide⟩⟩
theorem zf_e148 : zf_okE (yX9_use, cX9_use, 2, (some .int), 9, 0, 0, 6, 152) := ⟨zf_m669, zf_m5, ⟨by decide, by decide, by decide +kernel⟩, by decide +kernel, rfl, ⟨zf_m667, zf_m668, by decide⟩⟩
theorem zf_e149 : zf_okE (yX9_odds, cX9_odds, 3, (some .int), 9, 2, 0, 5, 125) := ⟨zf_m677, zf_m5, ⟨by decide, by decide, by decide +kernel⟩, by decide +kernel, rfl, ⟨zf_m675, zf_m676, by decide⟩⟩
theorem zf_e150 : zf_okE (yX9_wish, cX9_wish, 6, (some .int), 9, 2, 0, 4, 102) := ⟨zf_m691, zf_m5, ⟨by decide, by decide, by decide +kernel⟩, by decide +kernel, rfl, ⟨zf_m689, zf_m690, by decide⟩⟩
theorem zf_e151 : zf_okE (yX9_band, cX9_band, 2, (some .int), 9, 1, 0, 1, 25) := ⟨zf_m701, zf_m5, ⟨by decide, by decide, by decide +kernel⟩, by decide +kernel, rfl, ⟨zf_m699, zf_m700, by decide⟩⟩
theorem zf_e152 : zf_okE (yX9_play, cX9_play, 9, (some .int), 9, 1, 0, 2, 50) := ⟨zf_m747, zf_m5, ⟨by decide, by decide, by decide +kernel⟩, by decide +kernel, rfl, ⟨zf_m745, zf_m746, by decide⟩⟩
theorem zf_e153 : zf_okE (yX9_played, cX9_played, 2, (some .int), 9, 1, 0, 1, 25) := ⟨zf_m767, zf_m5, ⟨by decide, by decide, by decide +kernel⟩, by decide +kernel, rfl, ⟨zf_m765, zf_m766, by decide⟩⟩
theorem zf_e154 : zf_okE (yX9_met, cX9_met, 2, (some .int), 9, 1, 0, 0, 0) := ⟨zf_m755, zf_m5, ⟨by decide, by decide, by decide +kernel⟩, by decide +kernel, rfl, ⟨zf_m753, zf_m754, by decide⟩⟩
theorem zf_e155 : zf_okE (yX9_isSheet, cX9_isSheet, 1, (some .boolean), 9, 1, 1, 1, 25) := ⟨zf_m750, zf_m5, ⟨by decide, by decide, by decide +kernel⟩, by decide +kernel, rfl, ⟨zf_m749, by decide⟩⟩
theorem zf_e156 : zf_okE (yX9_sheet, cX9_sheet, 5, (some .int), 9, 3, 0, 2, 45) := ⟨zf_m783, zf_m5, ⟨by decide, by decide, by decide +kernel⟩, by decide +kernel, rfl, ⟨zf_m781, zf_m782, by decide⟩⟩
theorem zf_e157 : zf_okE (yX9_lose, cX9_lose, 2, (some .int), 9, 1, 0, 2, 45) := ⟨zf_m792, zf_m5, ⟨by decide, by decide, by decide +kernel⟩, by decide +kernel, rfl, ⟨zf_m790, zf_m791, by decide⟩⟩
theorem zf_e158 : zf_okE (yX9_lacks, cX9_lacks, 4, (some .int), 9, 3, 0, 1, 25) := ⟨zf_m813, zf_m5, ⟨by decide, by decide, by decide +kernel⟩, by decide +kernel, rfl, ⟨zf_m811, zf_m812, by decide⟩⟩
theorem zf_e159 : zf_okE (yX9_put, cX9_put, 6, (some .int), 9, 4, 0, 2, 48) := ⟨zf_m809, zf_m5, ⟨by decide, by decide, by decide +kernel⟩, by decide +kernel, rfl, ⟨zf_m807, zf_m808, by decide⟩⟩
theorem zf_e160 : zf_okE (yX9_get, cX9_get, 4, (some .int), 9, 3, 0, 2, 48) := ⟨zf_m822, zf_m5, ⟨by decide, by decide, by decide +kernel⟩, by decide +kernel, rfl, ⟨zf_m820, zf_m821, by decide⟩⟩
theorem zf_e161 : zf_okE (yX9_copy, cX9_copy, 7, (some .int), 9, 5, 0, 2, 45) := ⟨zf_m839, zf_m5, ⟨by decide, by decide, by decide +kernel⟩, by decide +kernel, rfl, ⟨zf_m837, zf_m838, by decide⟩⟩
theorem zf_e162 : zf_okE (yX9_shake, cX9_shake, 5, (some .int), 9, 2, 0, 2, 45) := ⟨zf_m848, zf_m5, ⟨by decide, by decide, by decide +kernel⟩, by decide +kernel, rfl, ⟨zf_m846, zf_m847, by decide⟩⟩
theorem zf_e163 : zf_okE (yX9_count, cX9_count, 2, (some .int), 9, 1, 0, 1, 22) := ⟨zf_m857, zf_m5, ⟨by decide, by decide, by decide +kernel⟩, by decide +kernel, rfl, ⟨zf_m855, zf_m856, by decide⟩⟩
theorem zf_e164 : zf_okE (yX9_digest, cX9_digest, 4, (some .long), 9, 0, 0, 2, 43) := ⟨zf_m871, zf_m5, ⟨by decide, by decide, by decide +kernel⟩, by decide +kernel, rfl, ⟨zf_m869, zf_m870, by decide⟩⟩
theorem zf_e165 : zf_okE (yJ6_bitCount_0f7a4, cJ6_bitCount_0f7a4, 1, (some .int), 11, 1, 1, 0, 0) := ⟨zf_m644, zf_m643, ⟨by decide, by decide, by decide +kernel⟩, by decide +kernel, rfl, ⟨zf_m642, by decide⟩⟩
theorem zf_et0 : ∀ e ∈ zf_mt0, zf_okE e := List.forall_mem_cons.mpr ⟨zf_e0, List.forall_mem_cons.mpr ⟨zf_e1, List.forall_mem_cons.mpr ⟨zf_e2, List.forall_mem_cons.mpr ⟨zf_e3, List.forall_mem_cons.mpr ⟨zf_e4, List.forall_mem_cons.mpr ⟨zf_e5, List.forall_mem_cons.mpr ⟨zf_e6, List.forall_mem_cons.mpr ⟨zf_e7, List.forall_mem_cons.mpr ⟨zf_e8, List.forall_mem_cons.mpr ⟨zf_e9, List.forall_mem_cons.mpr ⟨zf_e10, List.forall_mem_cons.mpr ⟨zf_e11, List.forall_mem_cons.mpr ⟨zf_e12, List.forall_mem_cons.mpr ⟨zf_e13, List.forall_mem_cons.mpr ⟨zf_e14, List.forall_mem_cons.mpr ⟨zf_e15, List.forall_mem_cons.mpr ⟨zf_e16, List.forall_mem_cons.mpr ⟨zf_e17, List.forall_mem_cons.mpr ⟨zf_e18, List.forall_mem_cons.mpr ⟨zf_e19, List.forall_mem_cons.mpr ⟨zf_e20, List.forall_mem_cons.mpr ⟨zf_e21, List.forall_mem_cons.mpr ⟨zf_e22, List.forall_mem_cons.mpr ⟨zf_e23, fun _ h => absurd h List.not_mem_nil⟩⟩⟩⟩⟩⟩⟩⟩⟩⟩⟩⟩⟩⟩⟩⟩⟩⟩⟩⟩⟩⟩⟩⟩
theorem zf_et1 : ∀ e ∈ zf_mt1, zf_okE e := List.forall_mem_cons.mpr ⟨zf_e24, List.forall_mem_cons.mpr ⟨zf_e25, List.forall_mem_cons.mpr ⟨zf_e26, List.forall_mem_cons.mpr ⟨zf_e27, List.forall_mem_cons.mpr ⟨zf_e28, List.forall_mem_cons.mpr ⟨zf_e29, List.forall_mem_cons.mpr ⟨zf_e30, List.forall_mem_cons.mpr ⟨zf_e31, List.forall_mem_cons.mpr ⟨zf_e32, List.forall_mem_cons.mpr ⟨zf_e33, List.forall_mem_cons.mpr ⟨zf_e34, List.forall_mem_cons.mpr ⟨zf_e35, List.forall_mem_cons.mpr ⟨zf_e36, List.forall_mem_cons.mpr ⟨zf_e37, List.forall_mem_cons.mpr ⟨zf_e38, List.forall_mem_cons.mpr ⟨zf_e39, List.forall_mem_cons.mpr ⟨zf_e40, List.forall_mem_cons.mpr ⟨zf_e41, List.forall_mem_cons.mpr ⟨zf_e42, List.forall_mem_cons.mpr ⟨zf_e43, List.forall_mem_cons.mpr ⟨zf_e44, List.forall_mem_cons.mpr ⟨zf_e45, List.forall_mem_cons.mpr ⟨zf_e46, List.forall_mem_cons.mpr ⟨zf_e47, fun _ h => absurd h List.not_mem_nil⟩⟩⟩⟩⟩⟩⟩⟩⟩⟩⟩⟩⟩⟩⟩⟩⟩⟩⟩⟩⟩⟩⟩⟩
theorem zf_et2 : ∀ e ∈ zf_mt2, zf_okE e := List.forall_mem_cons.mpr ⟨zf_e48, List.forall_mem_cons.mpr ⟨zf_e49, List.forall_mem_cons.mpr ⟨zf_e50, List.forall_mem_cons.mpr ⟨zf_e51, List.forall_mem_cons.mpr ⟨zf_e52, List.forall_mem_cons.mpr ⟨zf_e53, List.forall_mem_cons.mpr ⟨zf_e54, List.forall_mem_cons.mpr ⟨zf_e55, List.forall_mem_cons.mpr ⟨zf_e56, List.forall_mem_cons.mpr ⟨zf_e57, List.forall_mem_cons.mpr ⟨zf_e58, List.forall_mem_cons.mpr ⟨zf_e59, List.forall_mem_cons.mpr ⟨zf_e60, List.forall_mem_cons.mpr ⟨zf_e61, List.forall_mem_cons.mpr ⟨zf_e62, List.forall_mem_cons.mpr ⟨zf_e63, List.forall_mem_cons.mpr ⟨zf_e64, List.forall_mem_cons.mpr ⟨zf_e65, List.forall_mem_cons.mpr ⟨zf_e66, List.forall_mem_cons.mpr ⟨zf_e67, List.forall_mem_cons.mpr ⟨zf_e68, List.forall_mem_cons.mpr ⟨zf_e69, List.forall_mem_cons.mpr ⟨zf_e70, List.forall_mem_cons.mpr ⟨zf_e71, fun _ h => absurd h List.not_mem_nil⟩⟩⟩⟩⟩⟩⟩⟩⟩⟩⟩⟩⟩⟩⟩⟩⟩⟩⟩⟩⟩⟩⟩⟩
theorem zf_et3 : ∀ e ∈ zf_mt3, zf_okE e := List.forall_mem_cons.mpr ⟨zf_e72, List.forall_mem_cons.mpr ⟨zf_e73, List.forall_mem_cons.mpr ⟨zf_e74, List.forall_mem_cons.mpr ⟨zf_e75, List.forall_mem_cons.mpr ⟨zf_e76, List.forall_mem_cons.mpr ⟨zf_e77, List.forall_mem_cons.mpr ⟨zf_e78, List.forall_mem_cons.mpr ⟨zf_e79, List.forall_mem_cons.mpr ⟨zf_e80, List.forall_mem_cons.mpr ⟨zf_e81, List.forall_mem_cons.mpr ⟨zf_e82, List.forall_mem_cons.mpr ⟨zf_e83, List.forall_mem_cons.mpr ⟨zf_e84, List.forall_mem_cons.mpr ⟨zf_e85, List.forall_mem_cons.mpr ⟨zf_e86, List.forall_mem_cons.mpr ⟨zf_e87, List.forall_mem_cons.mpr ⟨zf_e88, List.forall_mem_cons.mpr ⟨zf_e89, List.forall_mem_cons.mpr ⟨zf_e90, List.forall_mem_cons.mpr ⟨zf_e91, List.forall_mem_cons.mpr ⟨zf_e92, List.forall_mem_cons.mpr ⟨zf_e93, List.forall_mem_cons.mpr ⟨zf_e94, List.forall_mem_cons.mpr ⟨zf_e95, fun _ h => absurd h List.not_mem_nil⟩⟩⟩⟩⟩⟩⟩⟩⟩⟩⟩⟩⟩⟩⟩⟩⟩⟩⟩⟩⟩⟩⟩⟩
theorem zf_et4 : ∀ e ∈ zf_mt4, zf_okE e := List.forall_mem_cons.mpr ⟨zf_e96, List.forall_mem_cons.mpr ⟨zf_e97, List.forall_mem_cons.mpr ⟨zf_e98, List.forall_mem_cons.mpr ⟨zf_e99, List.forall_mem_cons.mpr ⟨zf_e100, List.forall_mem_cons.mpr ⟨zf_e101, List.forall_mem_cons.mpr ⟨zf_e102, List.forall_mem_cons.mpr ⟨zf_e103, List.forall_mem_cons.mpr ⟨zf_e104, List.forall_mem_cons.mpr ⟨zf_e105, List.forall_mem_cons.mpr ⟨zf_e106, List.forall_mem_cons.mpr ⟨zf_e107, List.forall_mem_cons.mpr ⟨zf_e108, List.forall_mem_cons.mpr ⟨zf_e109, List.forall_mem_cons.mpr ⟨zf_e110, List.forall_mem_cons.mpr ⟨zf_e111, List.forall_mem_cons.mpr ⟨zf_e112, List.forall_mem_cons.mpr ⟨zf_e113, List.forall_mem_cons.mpr ⟨zf_e114, List.forall_mem_cons.mpr ⟨zf_e115, List.forall_mem_cons.mpr ⟨zf_e116, List.forall_mem_cons.mpr ⟨zf_e117, List.forall_mem_cons.mpr ⟨zf_e118, List.forall_mem_cons.mpr ⟨zf_e119, fun _ h => absurd h List.not_mem_nil⟩⟩⟩⟩⟩⟩⟩⟩⟩⟩⟩⟩⟩⟩⟩⟩⟩⟩⟩⟩⟩⟩⟩⟩
theorem zf_et5 : ∀ e ∈ zf_mt5, zf_okE e := List.forall_mem_cons.mpr ⟨zf_e120, List.forall_mem_cons.mpr ⟨zf_e121, List.forall_mem_cons.mpr ⟨zf_e122, List.forall_mem_cons.mpr ⟨zf_e123, List.forall_mem_cons.mpr ⟨zf_e124, List.forall_mem_cons.mpr ⟨zf_e125, List.forall_mem_cons.mpr ⟨zf_e126, List.forall_mem_cons.mpr ⟨zf_e127, List.forall_mem_cons.mpr ⟨zf_e128, List.forall_mem_cons.mpr ⟨zf_e129, List.forall_mem_cons.mpr ⟨zf_e130, List.forall_mem_cons.mpr ⟨zf_e131, List.forall_mem_cons.mpr ⟨zf_e132, List.forall_mem_cons.mpr ⟨zf_e133, List.forall_mem_cons.mpr ⟨zf_e134, List.forall_mem_cons.mpr ⟨zf_e135, List.forall_mem_cons.mpr ⟨zf_e136, List.forall_mem_cons.mpr ⟨zf_e137, List.forall_mem_cons.mpr ⟨zf_e138, List.forall_mem_cons.mpr ⟨zf_e139, List.forall_mem_cons.mpr ⟨zf_e140, List.forall_mem_cons.mpr ⟨zf_e141, List.forall_mem_cons.mpr ⟨zf_e142, List.forall_mem_cons.mpr ⟨zf_e143, fun _ h => absurd h List.not_mem_nil⟩⟩⟩⟩⟩⟩⟩⟩⟩⟩⟩⟩⟩⟩⟩⟩⟩⟩⟩⟩⟩⟩⟩⟩
theorem zf_et6 : ∀ e ∈ zf_mt6, zf_okE e := List.forall_mem_cons.mpr ⟨zf_e144, List.forall_mem_cons.mpr ⟨zf_e145, List.forall_mem_cons.mpr ⟨zf_e146, List.forall_mem_cons.mpr ⟨zf_e147, List.forall_mem_cons.mpr ⟨zf_e148, List.forall_mem_cons.mpr ⟨zf_e149, List.forall_mem_cons.mpr ⟨zf_e150, List.forall_mem_cons.mpr ⟨zf_e151, List.forall_mem_cons.mpr ⟨zf_e152, List.forall_mem_cons.mpr ⟨zf_e153, List.forall_mem_cons.mpr ⟨zf_e154, List.forall_mem_cons.mpr ⟨zf_e155, List.forall_mem_cons.mpr ⟨zf_e156, List.forall_mem_cons.mpr ⟨zf_e157, List.forall_mem_cons.mpr ⟨zf_e158, List.forall_mem_cons.mpr ⟨zf_e159, List.forall_mem_cons.mpr ⟨zf_e160, List.forall_mem_cons.mpr ⟨zf_e161, List.forall_mem_cons.mpr ⟨zf_e162, List.forall_mem_cons.mpr ⟨zf_e163, List.forall_mem_cons.mpr ⟨zf_e164, List.forall_mem_cons.mpr ⟨zf_e165, fun _ h => absurd h List.not_mem_nil⟩⟩⟩⟩⟩⟩⟩⟩⟩⟩⟩⟩⟩⟩⟩⟩⟩⟩⟩⟩⟩⟩
theorem zf_et : ∀ e ∈ zf_mt, zf_okE e := List.forall_mem_append.mpr ⟨zf_et0, List.forall_mem_append.mpr ⟨zf_et1, List.forall_mem_append.mpr ⟨zf_et2, List.forall_mem_append.mpr ⟨zf_et3, List.forall_mem_append.mpr ⟨zf_et4, List.forall_mem_append.mpr ⟨zf_et5, zf_et6⟩⟩⟩⟩⟩⟩
theorem zf_eok (k : Nat) (h : k ≠ 1000) : zf_okE (zf_g k) := by
  unfold zf_g
  rw [if_neg h]
  by_cases hk : k < zf_mt.length
  · rw [List.getD_eq_getElem?_getD, List.getElem?_eq_getElem hk]
    exact zf_et _ (List.getElem_mem hk)
  · rw [List.getD_eq_getElem?_getD, List.getElem?_eq_none (by omega)]
    exact zf_e0
/-- links to nest mates -/
def zf_nl : List (Nat × Nat × Nat) := [(1, 34, 40), (4, 31, 22), (6, 19, 86), (8, 9, 35), (8, 24, 6), (8, 31, 26), (8, 49, 0), (8, 76, 40), (8, 77, 43)]
theorem zf_nm0 : Cond.methodLinkNest (zf_oR 1) 34 (zf_g 40).1 "FairFight" ∈ lw_tbl := zf_it1 (List.mem_of_getElem? (i := 154) rfl)
theorem zf_nm1 : Cond.methodLinkNest (zf_oR 4) 31 (zf_g 22).1 "FairFight" ∈ lw_tbl := zf_it1 (List.mem_of_getElem? (i := 93) rfl)
theorem zf_nm2 : Cond.methodLinkNest (zf_oR 6) 19 (zf_g 86).1 "FairFight" ∈ lw_tbl := zf_it2 (List.mem_of_getElem? (i := 101) rfl)
theorem zf_nm3 : Cond.methodLinkNest (zf_oR 8) 9 (zf_g 35).1 "FairFight" ∈ lw_tbl := zf_it1 (List.mem_of_getElem? (i := 24) rfl)
theorem zf_nm4 : Cond.methodLinkNest (zf_oR 8) 24 (zf_g 6).1 "FairFight" ∈ lw_tbl := zf_it1 (List.mem_of_getElem? (i := 41) rfl)
theorem zf_nm5 : Cond.methodLinkNest (zf_oR 8) 31 (zf_g 26).1 "FairFight" ∈ lw_tbl := zf_it1 (List.mem_of_getElem? (i := 87) rfl)
theorem zf_nm6 : Cond.methodLinkNest (zf_oR 8) 49 (zf_g 0).1 "FairFight" ∈ lw_tbl := zf_it1 (List.mem_of_getElem? (i := 193) rfl)
theorem zf_nm7 : Cond.methodLinkNest (zf_oR 8) 76 (zf_g 40).1 "FairFight" ∈ lw_tbl := zf_it1 (List.mem_of_getElem? (i := 216) rfl)
theorem zf_nm8 : Cond.methodLinkNest (zf_oR 8) 77 (zf_g 43).1 "FairFight" ∈ lw_tbl := zf_it1 (List.mem_of_getElem? (i := 218) rfl)
theorem zf_nlt : ∀ e ∈ zf_nl, Cond.methodLinkNest (zf_oR e.1) e.2.1 (zf_g e.2.2).1 "FairFight" ∈ lw_tbl := List.forall_mem_cons.mpr ⟨zf_nm0, List.forall_mem_cons.mpr ⟨zf_nm1, List.forall_mem_cons.mpr ⟨zf_nm2, List.forall_mem_cons.mpr ⟨zf_nm3, List.forall_mem_cons.mpr ⟨zf_nm4, List.forall_mem_cons.mpr ⟨zf_nm5, List.forall_mem_cons.mpr ⟨zf_nm6, List.forall_mem_cons.mpr ⟨zf_nm7, List.forall_mem_cons.mpr ⟨zf_nm8, fun _ h => absurd h List.not_mem_nil⟩⟩⟩⟩⟩⟩⟩⟩⟩
def zf_ml0 : List (Nat × Nat × Nat × Nat) := [(0, 3, 3, 0), (0, 25, 0, 9), (0, 31, 1, 10), (0, 44, 0, 13), (0, 48, 0, 14), (0, 52, 0, 15), (0, 56, 0, 45), (0, 62, 0, 47), (0, 66, 0, 16), (0, 69, 0, 17), (0, 72, 0, 2), (0, 76, 1, 11), (0, 80, 1, 12), (1, 3, 3, 0), (1, 34, 7, 40), (1, 35, 0, 4), (1, 39, 1, 165), (2, 3, 3, 0), (2, 46, 0, 38), (2, 56, 1, 11), (2, 60, 1, 12), (2, 68, 0, 18), (2, 72, 1, 20), (2, 76, 0, 19)]
def zf_ml1 : List (Nat × Nat × Nat × Nat) := [(2, 79, 0, 21), (2, 86, 5, 0), (3, 3, 3, 0), (3, 31, 0, 25), (4, 3, 3, 0), (4, 31, 7, 22), (4, 50, 0, 30), (4, 53, 1, 31), (4, 57, 0, 9), (4, 61, 1, 10), (4, 65, 0, 34), (4, 69, 0, 24), (4, 74, 4, 0), (4, 86, 0, 32), (4, 92, 0, 23), (4, 101, 0, 13), (4, 105, 0, 33), (4, 109, 0, 14), (4, 113, 0, 15), (4, 117, 0, 16), (4, 121, 0, 17), (4, 124, 1, 11), (5, 3, 3, 0), (5, 25, 0, 37)]
def zf_ml2 : List (Nat × Nat × Nat × Nat) := [(6, 3, 3, 0), (6, 19, 8, 86), (7, 3, 3, 0), (7, 26, 0, 45), (8, 1, 3, 0), (8, 9, 7, 35), (8, 24, 7, 6), (8, 31, 7, 26), (8, 38, 2, 3), (8, 49, 7, 0), (8, 76, 7, 40), (8, 77, 7, 43), (8, 78, 1, 36), (8, 85, 0, 39), (8, 89, 0, 37), (8, 93, 0, 38), (8, 97, 0, 90), (8, 101, 1, 84), (8, 104, 0, 41), (8, 108, 1, 86), (8, 111, 0, 42), (8, 115, 1, 85), (8, 119, 0, 98), (8, 127, 1, 92)]
def zf_ml3 : List (Nat × Nat × Nat × Nat) := [(8, 135, 0, 29), (8, 139, 1, 89), (8, 142, 0, 28), (8, 153, 0, 59), (8, 157, 0, 7), (8, 160, 0, 96), (8, 164, 0, 97), (8, 168, 0, 27), (8, 182, 0, 100), (8, 185, 0, 5), (8, 188, 0, 4), (8, 191, 0, 99), (8, 196, 5, 0), (8, 201, 0, 101), (8, 204, 1, 87), (8, 211, 0, 93), (8, 214, 0, 95), (8, 217, 0, 1), (8, 233, 1, 88), (8, 236, 0, 44), (8, 240, 1, 94), (8, 244, 0, 48), (8, 247, 0, 47), (8, 253, 0, 46)]
def zf_ml4 : List (Nat × Nat × Nat × Nat) := [(8, 259, 6, 0), (8, 270, 0, 82), (8, 273, 0, 51), (8, 276, 0, 54), (8, 279, 0, 75), (8, 282, 0, 91), (8, 287, 0, 45), (8, 288, 0, 8), (9, 1, 3, 0), (9, 107, 1, 103), (9, 122, 1, 105), (9, 126, 0, 106), (9, 134, 0, 110), (9, 138, 1, 111), (9, 151, 0, 119), (9, 155, 0, 118), (9, 161, 0, 123), (9, 172, 0, 117), (9, 176, 0, 125), (9, 180, 0, 126), (9, 184, 0, 116), (9, 190, 0, 128), (9, 196, 0, 124), (9, 199, 0, 120)]
def zf_ml5 : List (Nat × Nat × Nat × Nat) := [(9, 202, 0, 121), (9, 205, 0, 127), (9, 209, 0, 122), (9, 213, 0, 115), (9, 216, 0, 129), (9, 221, 0, 130), (9, 224, 1, 104), (9, 228, 0, 131), (9, 232, 0, 135), (9, 239, 0, 145), (9, 245, 0, 146), (9, 253, 1, 155), (9, 256, 0, 154), (9, 267, 0, 158), (9, 273, 0, 163), (10, 9, 2, 49), (10, 12, 2, 102), (10, 13, 0, 50), (10, 17, 0, 107), (10, 18, 0, 51), (10, 22, 0, 108), (10, 23, 0, 52), (10, 27, 0, 109), (10, 28, 0, 53)]
def zf_ml6 : List (Nat × Nat × Nat × Nat) := [(10, 32, 0, 112), (10, 33, 0, 54), (10, 36, 0, 113), (10, 37, 0, 55), (10, 40, 0, 114), (10, 41, 0, 56), (10, 45, 0, 132), (10, 46, 0, 57), (10, 50, 0, 133), (10, 51, 0, 58), (10, 55, 0, 134), (10, 56, 0, 59), (10, 59, 0, 135), (10, 60, 0, 60), (10, 64, 0, 136), (10, 65, 0, 61), (10, 68, 0, 137), (10, 69, 0, 62), (10, 72, 0, 138), (10, 73, 0, 63), (10, 76, 0, 139), (10, 77, 0, 64), (10, 81, 0, 140), (10, 82, 0, 65)]
def zf_ml7 : List (Nat × Nat × Nat × Nat) := [(10, 85, 0, 141), (10, 86, 0, 66), (10, 89, 0, 142), (10, 90, 0, 67), (10, 93, 0, 143), (10, 94, 0, 68), (10, 97, 0, 144), (10, 98, 0, 69), (10, 101, 0, 147), (10, 102, 0, 70), (10, 105, 0, 148), (10, 106, 0, 71), (10, 109, 0, 149), (10, 110, 0, 72), (10, 113, 0, 150), (10, 114, 0, 73), (10, 117, 0, 151), (10, 118, 0, 74), (10, 121, 0, 152), (10, 122, 0, 75), (10, 125, 0, 153), (10, 126, 0, 76), (10, 129, 0, 156), (10, 130, 0, 77)]
def zf_ml8 : List (Nat × Nat × Nat × Nat) := [(10, 133, 0, 157), (10, 134, 0, 78), (10, 137, 0, 159), (10, 138, 0, 79), (10, 141, 0, 160), (10, 142, 0, 80), (10, 146, 0, 161), (10, 147, 0, 81), (10, 150, 0, 162), (10, 151, 0, 82), (10, 154, 0, 163), (10, 155, 0, 83), (10, 158, 0, 164)]
def zf_ml : List (Nat × Nat × Nat × Nat) := zf_ml0 ++ (zf_ml1 ++ (zf_ml2 ++ (zf_ml3 ++ (zf_ml4 ++ (zf_ml5 ++ (zf_ml6 ++ (zf_ml7 ++ (zf_ml8))))))))
def zf_mlO (e : (Nat × Nat × Nat × Nat)) : Prop := match e.2.2.1 with | 0 => Cond.methodLink (zf_oR e.1) e.2.1 (zf_g e.2.2.2).1 ∈ zf_T ∧ e.2.2.2 ≠ 1000 ∧ (zf_g e.2.2.2).2.2.2.2.2.2.1 = 0 | 1 => Cond.methodLink (zf_oR e.1) e.2.1 (zf_g e.2.2.2).1 ∈ zf_T ∧ e.2.2.2 ≠ 1000 ∧ (zf_g e.2.2.2).2.2.2.2.2.2.1 = 1 | 2 => Cond.methodLink (zf_oR e.1) e.2.1 (zf_g e.2.2.2).1 ∈ zf_T ∧ e.2.2.2 ≠ 1000 ∧ (zf_g e.2.2.2).2.2.2.2.2.2.1 = 2 | 3 => Cond.methodLink (zf_oR e.1) e.2.1 objectInit ∈ zf_T | 4 => Cond.methodLink (zf_oR e.1) e.2.1 Lib.Math.max.name ∈ zf_T | 5 => Cond.methodLink (zf_oR e.1) e.2.1 Lib.Math.min.name ∈ zf_T | 6 => Cond.methodLink (zf_oR e.1) e.2.1 arraycopyName ∈ zf_T | 7 => (e.1, e.2.1, e.2.2.2) ∈ zf_nl ∧ e.2.2.2 ≠ 1000 ∧ (zf_g e.2.2.2).2.2.2.2.2.2.1 = 2 | 8 => (e.1, e.2.1, e.2.2.2) ∈ zf_nl ∧ e.2.2.2 ≠ 1000 ∧ (zf_g e.2.2.2).2.2.2.2.2.2.1 = 1 | _ => False
theorem zf_mle0 : zf_mlO (0, 3, 3, 0) := zf_m107
theorem zf_mle1 : zf_mlO (0, 25, 0, 9) := ⟨zf_m722, by decide, rfl⟩
theorem zf_mle2 : zf_mlO (0, 31, 1, 10) := ⟨zf_m723, by decide, rfl⟩
theorem zf_mle3 : zf_mlO (0, 44, 0, 13) := ⟨zf_m724, by decide, rfl⟩
theorem zf_mle4 : zf_mlO (0, 48, 0, 14) := ⟨zf_m725, by decide, rfl⟩
theorem zf_mle5 : zf_mlO (0, 52, 0, 15) := ⟨zf_m726, by decide, rfl⟩
theorem zf_mle6 : zf_mlO (0, 56, 0, 45) := ⟨zf_m727, by decide, rfl⟩
theorem zf_mle7 : zf_mlO (0, 62, 0, 47) := ⟨zf_m731, by decide, rfl⟩
theorem zf_mle8 : zf_mlO (0, 66, 0, 16) := ⟨zf_m736, by decide, rfl⟩
theorem zf_mle9 : zf_mlO (0, 69, 0, 17) := ⟨zf_m737, by decide, rfl⟩
theorem zf_mle10 : zf_mlO (0, 72, 0, 2) := ⟨zf_m738, by decide, rfl⟩
theorem zf_mle11 : zf_mlO (0, 76, 1, 11) := ⟨zf_m742, by decide, rfl⟩
theorem zf_mle12 : zf_mlO (0, 80, 1, 12) := ⟨zf_m743, by decide, rfl⟩
theorem zf_mle13 : zf_mlO (1, 3, 3, 0) := zf_m92
theorem zf_mle14 : zf_mlO (1, 34, 7, 40) := ⟨by decide, by decide, rfl⟩
theorem zf_mle15 : zf_mlO (1, 35, 0, 4) := ⟨zf_m637, by decide, rfl⟩
theorem zf_mle16 : zf_mlO (1, 39, 1, 165) := ⟨zf_m641, by decide, rfl⟩
theorem zf_mle17 : zf_mlO (2, 3, 3, 0) := zf_m54
theorem zf_mle18 : zf_mlO (2, 46, 0, 38) := ⟨zf_m323, by decide, rfl⟩
theorem zf_mle19 : zf_mlO (2, 56, 1, 11) := ⟨zf_m387, by decide, rfl⟩
theorem zf_mle20 : zf_mlO (2, 60, 1, 12) := ⟨zf_m396, by decide, rfl⟩
theorem zf_mle21 : zf_mlO (2, 68, 0, 18) := ⟨zf_m413, by decide, rfl⟩
theorem zf_mle22 : zf_mlO (2, 72, 1, 20) := ⟨zf_m417, by decide, rfl⟩
theorem zf_mle23 : zf_mlO (2, 76, 0, 19) := ⟨zf_m422, by decide, rfl⟩
theorem zf_mle24 : zf_mlO (2, 79, 0, 21) := ⟨zf_m426, by decide, rfl⟩
theorem zf_mle25 : zf_mlO (2, 86, 5, 0) := zf_m430
theorem zf_mle26 : zf_mlO (3, 3, 3, 0) := zf_m83
theorem zf_mle27 : zf_mlO (3, 31, 0, 25) := ⟨zf_m373, by decide, rfl⟩
theorem zf_mle28 : zf_mlO (4, 3, 3, 0) := zf_m68
theorem zf_mle29 : zf_mlO (4, 31, 7, 22) := ⟨by decide, by decide, rfl⟩
theorem zf_mle30 : zf_mlO (4, 50, 0, 30) := ⟨zf_m341, by decide, rfl⟩
theorem zf_mle31 : zf_mlO (4, 53, 1, 31) := ⟨zf_m349, by decide, rfl⟩
theorem zf_mle32 : zf_mlO (4, 57, 0, 9) := ⟨zf_m352, by decide, rfl⟩
theorem zf_mle33 : zf_mlO (4, 61, 1, 10) := ⟨zf_m356, by decide, rfl⟩
theorem zf_mle34 : zf_mlO (4, 65, 0, 34) := ⟨zf_m361, by decide, rfl⟩
theorem zf_mle35 : zf_mlO (4, 69, 0, 24) := ⟨zf_m368, by decide, rfl⟩
theorem zf_mle36 : zf_mlO (4, 74, 4, 0) := zf_m335
theorem zf_mle37 : zf_mlO (4, 86, 0, 32) := ⟨zf_m377, by decide, rfl⟩
theorem zf_mle38 : zf_mlO (4, 92, 0, 23) := ⟨zf_m345, by decide, rfl⟩
theorem zf_mle39 : zf_mlO (4, 101, 0, 13) := ⟨zf_m383, by decide, rfl⟩
theorem zf_mle40 : zf_mlO (4, 105, 0, 33) := ⟨zf_m388, by decide, rfl⟩
theorem zf_mle41 : zf_mlO (4, 109, 0, 14) := ⟨zf_m392, by decide, rfl⟩
theorem zf_mle42 : zf_mlO (4, 113, 0, 15) := ⟨zf_m399, by decide, rfl⟩
theorem zf_mle43 : zf_mlO (4, 117, 0, 16) := ⟨zf_m405, by decide, rfl⟩
theorem zf_mle44 : zf_mlO (4, 121, 0, 17) := ⟨zf_m409, by decide, rfl⟩
theorem zf_mle45 : zf_mlO (4, 124, 1, 11) := ⟨zf_m365, by decide, rfl⟩
theorem zf_mle46 : zf_mlO (5, 3, 3, 0) := zf_m49
theorem zf_mle47 : zf_mlO (5, 25, 0, 37) := ⟨zf_m168, by decide, rfl⟩
theorem zf_mle48 : zf_mlO (6, 3, 3, 0) := zf_m102
theorem zf_mle49 : zf_mlO (6, 19, 8, 86) := ⟨by decide, by decide, rfl⟩
theorem zf_mle50 : zf_mlO (7, 3, 3, 0) := zf_m114
theorem zf_mle51 : zf_mlO (7, 26, 0, 45) := ⟨zf_m735, by decide, rfl⟩
theorem zf_mle52 : zf_mlO (8, 1, 3, 0) := zf_m9
theorem zf_mle53 : zf_mlO (8, 9, 7, 35) := ⟨by decide, by decide, rfl⟩
theorem zf_mle54 : zf_mlO (8, 24, 7, 6) := ⟨by decide, by decide, rfl⟩
theorem zf_mle55 : zf_mlO (8, 31, 7, 26) := ⟨by decide, by decide, rfl⟩
theorem zf_mle56 : zf_mlO (8, 38, 2, 3) := ⟨zf_m89, by decide, rfl⟩
theorem zf_mle57 : zf_mlO (8, 49, 7, 0) := ⟨by decide, by decide, rfl⟩
theorem zf_mle58 : zf_mlO (8, 76, 7, 40) := ⟨by decide, by decide, rfl⟩
theorem zf_mle59 : zf_mlO (8, 77, 7, 43) := ⟨by decide, by decide, rfl⟩
theorem zf_mle60 : zf_mlO (8, 78, 1, 36) := ⟨zf_m159, by decide, rfl⟩
theorem zf_mle61 : zf_mlO (8, 85, 0, 39) := ⟨zf_m164, by decide, rfl⟩
theorem zf_mle62 : zf_mlO (8, 89, 0, 37) := ⟨zf_m192, by decide, rfl⟩
theorem zf_mle63 : zf_mlO (8, 93, 0, 38) := ⟨zf_m193, by decide, rfl⟩
theorem zf_mle64 : zf_mlO (8, 97, 0, 90) := ⟨zf_m218, by decide, rfl⟩
theorem zf_mle65 : zf_mlO (8, 101, 1, 84) := ⟨zf_m226, by decide, rfl⟩
theorem zf_mle66 : zf_mlO (8, 104, 0, 41) := ⟨zf_m229, by decide, rfl⟩
theorem zf_mle67 : zf_mlO (8, 108, 1, 86) := ⟨zf_m249, by decide, rfl⟩
theorem zf_mle68 : zf_mlO (8, 111, 0, 42) := ⟨zf_m252, by decide, rfl⟩
theorem zf_mle69 : zf_mlO (8, 115, 1, 85) := ⟨zf_m264, by decide, rfl⟩
theorem zf_mle70 : zf_mlO (8, 119, 0, 98) := ⟨zf_m300, by decide, rfl⟩
theorem zf_mle71 : zf_mlO (8, 127, 1, 92) := ⟨zf_m433, by decide, rfl⟩
theorem zf_mle72 : zf_mlO (8, 135, 0, 29) := ⟨zf_m516, by decide, rfl⟩
theorem zf_mle73 : zf_mlO (8, 139, 1, 89) := ⟨zf_m316, by decide, rfl⟩
theorem zf_mle74 : zf_mlO (8, 142, 0, 28) := ⟨zf_m534, by decide, rfl⟩
theorem zf_mle75 : zf_mlO (8, 153, 0, 59) := ⟨zf_m566, by decide, rfl⟩
theorem zf_mle76 : zf_mlO (8, 157, 0, 7) := ⟨zf_m308, by decide, rfl⟩
theorem zf_mle77 : zf_mlO (8, 160, 0, 96) := ⟨zf_m312, by decide, rfl⟩
theorem zf_mle78 : zf_mlO (8, 164, 0, 97) := ⟨zf_m324, by decide, rfl⟩
theorem zf_mle79 : zf_mlO (8, 168, 0, 27) := ⟨zf_m328, by decide, rfl⟩
theorem zf_mle80 : zf_mlO (8, 182, 0, 100) := ⟨zf_m623, by decide, rfl⟩
theorem zf_mle81 : zf_mlO (8, 185, 0, 5) := ⟨zf_m633, by decide, rfl⟩
theorem zf_mle82 : zf_mlO (8, 188, 0, 4) := ⟨zf_m648, by decide, rfl⟩
theorem zf_mle83 : zf_mlO (8, 191, 0, 99) := ⟨zf_m629, by decide, rfl⟩
theorem zf_mle84 : zf_mlO (8, 196, 5, 0) := zf_m683
theorem zf_mle85 : zf_mlO (8, 201, 0, 101) := ⟨zf_m684, by decide, rfl⟩
theorem zf_mle86 : zf_mlO (8, 204, 1, 87) := ⟨zf_m708, by decide, rfl⟩
theorem zf_mle87 : zf_mlO (8, 211, 0, 93) := ⟨zf_m711, by decide, rfl⟩
theorem zf_mle88 : zf_mlO (8, 214, 0, 95) := ⟨zf_m304, by decide, rfl⟩
theorem zf_mle89 : zf_mlO (8, 217, 0, 1) := ⟨zf_m715, by decide, rfl⟩
theorem zf_mle90 : zf_mlO (8, 233, 1, 88) := ⟨zf_m773, by decide, rfl⟩
theorem zf_mle91 : zf_mlO (8, 236, 0, 44) := ⟨zf_m776, by decide, rfl⟩
theorem zf_mle92 : zf_mlO (8, 240, 1, 94) := ⟨zf_m797, by decide, rfl⟩
theorem zf_mle93 : zf_mlO (8, 244, 0, 48) := ⟨zf_m802, by decide, rfl⟩
theorem zf_mle94 : zf_mlO (8, 247, 0, 47) := ⟨zf_m818, by decide, rfl⟩
theorem zf_mle95 : zf_mlO (8, 253, 0, 46) := ⟨zf_m832, by decide, rfl⟩
theorem zf_mle96 : zf_mlO (8, 259, 6, 0) := zf_m828
theorem zf_mle97 : zf_mlO (8, 270, 0, 82) := ⟨zf_m864, by decide, rfl⟩
theorem zf_mle98 : zf_mlO (8, 273, 0, 51) := ⟨zf_m865, by decide, rfl⟩
theorem zf_mle99 : zf_mlO (8, 276, 0, 54) := ⟨zf_m866, by decide, rfl⟩
theorem zf_mle100 : zf_mlO (8, 279, 0, 75) := ⟨zf_m867, by decide, rfl⟩
theorem zf_mle101 : zf_mlO (8, 282, 0, 91) := ⟨zf_m222, by decide, rfl⟩
theorem zf_mle102 : zf_mlO (8, 287, 0, 45) := ⟨zf_m801, by decide, rfl⟩
theorem zf_mle103 : zf_mlO (8, 288, 0, 8) := ⟨zf_m319, by decide, rfl⟩
theorem zf_mle104 : zf_mlO (9, 1, 3, 0) := zf_m122
theorem zf_mle105 : zf_mlO (9, 107, 1, 103) := ⟨zf_m185, by decide, rfl⟩
theorem zf_mle106 : zf_mlO (9, 122, 1, 105) := ⟨zf_m177, by decide, rfl⟩
theorem zf_mle107 : zf_mlO (9, 126, 0, 106) := ⟨zf_m202, by decide, rfl⟩
theorem zf_mle108 : zf_mlO (9, 134, 0, 110) := ⟨zf_m237, by decide, rfl⟩
theorem zf_mle109 : zf_mlO (9, 138, 1, 111) := ⟨zf_m242, by decide, rfl⟩
theorem zf_mle110 : zf_mlO (9, 151, 0, 119) := ⟨zf_m491, by decide, rfl⟩
theorem zf_mle111 : zf_mlO (9, 155, 0, 118) := ⟨zf_m495, by decide, rfl⟩
theorem zf_mle112 : zf_mlO (9, 161, 0, 123) := ⟨zf_m460, by decide, rfl⟩
theorem zf_mle113 : zf_mlO (9, 172, 0, 117) := ⟨zf_m452, by decide, rfl⟩
theorem zf_mle114 : zf_mlO (9, 176, 0, 125) := ⟨zf_m456, by decide, rfl⟩
theorem zf_mle115 : zf_mlO (9, 180, 0, 126) := ⟨zf_m473, by decide, rfl⟩
theorem zf_mle116 : zf_mlO (9, 184, 0, 116) := ⟨zf_m286, by decide, rfl⟩
theorem zf_mle117 : zf_mlO (9, 190, 0, 128) := ⟨zf_m291, by decide, rfl⟩
theorem zf_mle118 : zf_mlO (9, 196, 0, 124) := ⟨zf_m464, by decide, rfl⟩
theorem zf_mle119 : zf_mlO (9, 199, 0, 120) := ⟨zf_m469, by decide, rfl⟩
theorem zf_mle120 : zf_mlO (9, 202, 0, 121) := ⟨zf_m479, by decide, rfl⟩
theorem zf_mle121 : zf_mlO (9, 205, 0, 127) := ⟨zf_m483, by decide, rfl⟩
theorem zf_mle122 : zf_mlO (9, 209, 0, 122) := ⟨zf_m487, by decide, rfl⟩
theorem zf_mle123 : zf_mlO (9, 213, 0, 115) := ⟨zf_m281, by decide, rfl⟩
theorem zf_mle124 : zf_mlO (9, 216, 0, 129) := ⟨zf_m445, by decide, rfl⟩
theorem zf_mle125 : zf_mlO (9, 221, 0, 130) := ⟨zf_m441, by decide, rfl⟩
theorem zf_mle126 : zf_mlO (9, 224, 1, 104) := ⟨zf_m499, by decide, rfl⟩
theorem zf_mle127 : zf_mlO (9, 228, 0, 131) := ⟨zf_m525, by decide, rfl⟩
theorem zf_mle128 : zf_mlO (9, 232, 0, 135) := ⟨zf_m573, by decide, rfl⟩
theorem zf_mle129 : zf_mlO (9, 239, 0, 145) := ⟨zf_m658, by decide, rfl⟩
theorem zf_mle130 : zf_mlO (9, 245, 0, 146) := ⟨zf_m653, by decide, rfl⟩
theorem zf_mle131 : zf_mlO (9, 253, 1, 155) := ⟨zf_m748, by decide, rfl⟩
theorem zf_mle132 : zf_mlO (9, 256, 0, 154) := ⟨zf_m752, by decide, rfl⟩
theorem zf_mle133 : zf_mlO (9, 267, 0, 158) := ⟨zf_m810, by decide, rfl⟩
theorem zf_mle134 : zf_mlO (9, 273, 0, 163) := ⟨zf_m873, by decide, rfl⟩
theorem zf_mle135 : zf_mlO (10, 9, 2, 49) := ⟨zf_m6, by decide, rfl⟩
theorem zf_mle136 : zf_mlO (10, 12, 2, 102) := ⟨zf_m119, by decide, rfl⟩
theorem zf_mle137 : zf_mlO (10, 13, 0, 50) := ⟨zf_m154, by decide, rfl⟩
theorem zf_mle138 : zf_mlO (10, 17, 0, 107) := ⟨zf_m172, by decide, rfl⟩
theorem zf_mle139 : zf_mlO (10, 18, 0, 51) := ⟨zf_m188, by decide, rfl⟩
theorem zf_mle140 : zf_mlO (10, 22, 0, 108) := ⟨zf_m197, by decide, rfl⟩
theorem zf_mle141 : zf_mlO (10, 23, 0, 52) := ⟨zf_m206, by decide, rfl⟩
theorem zf_mle142 : zf_mlO (10, 27, 0, 109) := ⟨zf_m210, by decide, rfl⟩
theorem zf_mle143 : zf_mlO (10, 28, 0, 53) := ⟨zf_m214, by decide, rfl⟩
theorem zf_mle144 : zf_mlO (10, 32, 0, 112) := ⟨zf_m233, by decide, rfl⟩
theorem zf_mle145 : zf_mlO (10, 33, 0, 54) := ⟨zf_m245, by decide, rfl⟩
theorem zf_mle146 : zf_mlO (10, 36, 0, 113) := ⟨zf_m256, by decide, rfl⟩
theorem zf_mle147 : zf_mlO (10, 37, 0, 55) := ⟨zf_m260, by decide, rfl⟩
theorem zf_mle148 : zf_mlO (10, 40, 0, 114) := ⟨zf_m267, by decide, rfl⟩
theorem zf_mle149 : zf_mlO (10, 41, 0, 56) := ⟨zf_m272, by decide, rfl⟩
theorem zf_mle150 : zf_mlO (10, 45, 0, 132) := ⟨zf_m277, by decide, rfl⟩
theorem zf_mle151 : zf_mlO (10, 46, 0, 57) := ⟨zf_m295, by decide, rfl⟩
theorem zf_mle152 : zf_mlO (10, 50, 0, 133) := ⟨zf_m437, by decide, rfl⟩
theorem zf_mle153 : zf_mlO (10, 51, 0, 58) := ⟨zf_m503, by decide, rfl⟩
theorem zf_mle154 : zf_mlO (10, 55, 0, 134) := ⟨zf_m508, by decide, rfl⟩
theorem zf_mle155 : zf_mlO (10, 56, 0, 59) := ⟨zf_m512, by decide, rfl⟩
theorem zf_mle156 : zf_mlO (10, 59, 0, 135) := ⟨zf_m521, by decide, rfl⟩
theorem zf_mle157 : zf_mlO (10, 60, 0, 60) := ⟨zf_m530, by decide, rfl⟩
theorem zf_mle158 : zf_mlO (10, 64, 0, 136) := ⟨zf_m538, by decide, rfl⟩
theorem zf_mle159 : zf_mlO (10, 65, 0, 61) := ⟨zf_m542, by decide, rfl⟩
theorem zf_mle160 : zf_mlO (10, 68, 0, 137) := ⟨zf_m547, by decide, rfl⟩
theorem zf_mle161 : zf_mlO (10, 69, 0, 62) := ⟨zf_m551, by decide, rfl⟩
theorem zf_mle162 : zf_mlO (10, 72, 0, 138) := ⟨zf_m556, by decide, rfl⟩
theorem zf_mle163 : zf_mlO (10, 73, 0, 63) := ⟨zf_m560, by decide, rfl⟩
theorem zf_mle164 : zf_mlO (10, 76, 0, 139) := ⟨zf_m567, by decide, rfl⟩
theorem zf_mle165 : zf_mlO (10, 77, 0, 64) := ⟨zf_m574, by decide, rfl⟩
theorem zf_mle166 : zf_mlO (10, 81, 0, 140) := ⟨zf_m578, by decide, rfl⟩
theorem zf_mle167 : zf_mlO (10, 82, 0, 65) := ⟨zf_m582, by decide, rfl⟩
theorem zf_mle168 : zf_mlO (10, 85, 0, 141) := ⟨zf_m586, by decide, rfl⟩
theorem zf_mle169 : zf_mlO (10, 86, 0, 66) := ⟨zf_m590, by decide, rfl⟩
theorem zf_mle170 : zf_mlO (10, 89, 0, 142) := ⟨zf_m596, by decide, rfl⟩
theorem zf_mle171 : zf_mlO (10, 90, 0, 67) := ⟨zf_m601, by decide, rfl⟩
theorem zf_mle172 : zf_mlO (10, 93, 0, 143) := ⟨zf_m605, by decide, rfl⟩
theorem zf_mle173 : zf_mlO (10, 94, 0, 68) := ⟨zf_m609, by decide, rfl⟩
theorem zf_mle174 : zf_mlO (10, 97, 0, 144) := ⟨zf_m615, by decide, rfl⟩
theorem zf_mle175 : zf_mlO (10, 98, 0, 69) := ⟨zf_m619, by decide, rfl⟩
theorem zf_mle176 : zf_mlO (10, 101, 0, 147) := ⟨zf_m649, by decide, rfl⟩
theorem zf_mle177 : zf_mlO (10, 102, 0, 70) := ⟨zf_m662, by decide, rfl⟩
theorem zf_mle178 : zf_mlO (10, 105, 0, 148) := ⟨zf_m666, by decide, rfl⟩
theorem zf_mle179 : zf_mlO (10, 106, 0, 71) := ⟨zf_m670, by decide, rfl⟩
theorem zf_mle180 : zf_mlO (10, 109, 0, 149) := ⟨zf_m674, by decide, rfl⟩
theorem zf_mle181 : zf_mlO (10, 110, 0, 72) := ⟨zf_m678, by decide, rfl⟩
theorem zf_mle182 : zf_mlO (10, 113, 0, 150) := ⟨zf_m688, by decide, rfl⟩
theorem zf_mle183 : zf_mlO (10, 114, 0, 73) := ⟨zf_m694, by decide, rfl⟩
theorem zf_mle184 : zf_mlO (10, 117, 0, 151) := ⟨zf_m698, by decide, rfl⟩
theorem zf_mle185 : zf_mlO (10, 118, 0, 74) := ⟨zf_m702, by decide, rfl⟩
theorem zf_mle186 : zf_mlO (10, 121, 0, 152) := ⟨zf_m744, by decide, rfl⟩
theorem zf_mle187 : zf_mlO (10, 122, 0, 75) := ⟨zf_m757, by decide, rfl⟩
theorem zf_mle188 : zf_mlO (10, 125, 0, 153) := ⟨zf_m764, by decide, rfl⟩
theorem zf_mle189 : zf_mlO (10, 126, 0, 76) := ⟨zf_m769, by decide, rfl⟩
theorem zf_mle190 : zf_mlO (10, 129, 0, 156) := ⟨zf_m780, by decide, rfl⟩
theorem zf_mle191 : zf_mlO (10, 130, 0, 77) := ⟨zf_m784, by decide, rfl⟩
theorem zf_mle192 : zf_mlO (10, 133, 0, 157) := ⟨zf_m789, by decide, rfl⟩
theorem zf_mle193 : zf_mlO (10, 134, 0, 78) := ⟨zf_m793, by decide, rfl⟩
theorem zf_mle194 : zf_mlO (10, 137, 0, 159) := ⟨zf_m806, by decide, rfl⟩
theorem zf_mle195 : zf_mlO (10, 138, 0, 79) := ⟨zf_m814, by decide, rfl⟩
theorem zf_mle196 : zf_mlO (10, 141, 0, 160) := ⟨zf_m819, by decide, rfl⟩
theorem zf_mle197 : zf_mlO (10, 142, 0, 80) := ⟨zf_m823, by decide, rfl⟩
theorem zf_mle198 : zf_mlO (10, 146, 0, 161) := ⟨zf_m836, by decide, rfl⟩
theorem zf_mle199 : zf_mlO (10, 147, 0, 81) := ⟨zf_m840, by decide, rfl⟩
theorem zf_mle200 : zf_mlO (10, 150, 0, 162) := ⟨zf_m845, by decide, rfl⟩
theorem zf_mle201 : zf_mlO (10, 151, 0, 82) := ⟨zf_m850, by decide, rfl⟩
theorem zf_mle202 : zf_mlO (10, 154, 0, 163) := ⟨zf_m854, by decide, rfl⟩
theorem zf_mle203 : zf_mlO (10, 155, 0, 83) := ⟨zf_m858, by decide, rfl⟩
theorem zf_mle204 : zf_mlO (10, 158, 0, 164) := ⟨zf_m868, by decide, rfl⟩
theorem zf_mlt0 : ∀ e ∈ zf_ml0, zf_mlO e := List.forall_mem_cons.mpr ⟨zf_mle0, List.forall_mem_cons.mpr ⟨zf_mle1, List.forall_mem_cons.mpr ⟨zf_mle2, List.forall_mem_cons.mpr ⟨zf_mle3, List.forall_mem_cons.mpr ⟨zf_mle4, List.forall_mem_cons.mpr ⟨zf_mle5, List.forall_mem_cons.mpr ⟨zf_mle6, List.forall_mem_cons.mpr ⟨zf_mle7, List.forall_mem_cons.mpr ⟨zf_mle8, List.forall_mem_cons.mpr ⟨zf_mle9, List.forall_mem_cons.mpr ⟨zf_mle10, List.forall_mem_cons.mpr ⟨zf_mle11, List.forall_mem_cons.mpr ⟨zf_mle12, List.forall_mem_cons.mpr ⟨zf_mle13, List.forall_mem_cons.mpr ⟨zf_mle14, List.forall_mem_cons.mpr ⟨zf_mle15, List.forall_mem_cons.mpr ⟨zf_mle16, List.forall_mem_cons.mpr ⟨zf_mle17, List.forall_mem_cons.mpr ⟨zf_mle18, List.forall_mem_cons.mpr ⟨zf_mle19, List.forall_mem_cons.mpr ⟨zf_mle20, List.forall_mem_cons.mpr ⟨zf_mle21, List.forall_mem_cons.mpr ⟨zf_mle22, List.forall_mem_cons.mpr ⟨zf_mle23, fun _ h => absurd h List.not_mem_nil⟩⟩⟩⟩⟩⟩⟩⟩⟩⟩⟩⟩⟩⟩⟩⟩⟩⟩⟩⟩⟩⟩⟩⟩
theorem zf_mlt1 : ∀ e ∈ zf_ml1, zf_mlO e := List.forall_mem_cons.mpr ⟨zf_mle24, List.forall_mem_cons.mpr ⟨zf_mle25, List.forall_mem_cons.mpr ⟨zf_mle26, List.forall_mem_cons.mpr ⟨zf_mle27, List.forall_mem_cons.mpr ⟨zf_mle28, List.forall_mem_cons.mpr ⟨zf_mle29, List.forall_mem_cons.mpr ⟨zf_mle30, List.forall_mem_cons.mpr ⟨zf_mle31, List.forall_mem_cons.mpr ⟨zf_mle32, List.forall_mem_cons.mpr ⟨zf_mle33, List.forall_mem_cons.mpr ⟨zf_mle34, List.forall_mem_cons.mpr ⟨zf_mle35, List.forall_mem_cons.mpr ⟨zf_mle36, List.forall_mem_cons.mpr ⟨zf_mle37, List.forall_mem_cons.mpr ⟨zf_mle38, List.forall_mem_cons.mpr ⟨zf_mle39, List.forall_mem_cons.mpr ⟨zf_mle40, List.forall_mem_cons.mpr ⟨zf_mle41, List.forall_mem_cons.mpr ⟨zf_mle42, List.forall_mem_cons.mpr ⟨zf_mle43, List.forall_mem_cons.mpr ⟨zf_mle44, List.forall_mem_cons.mpr ⟨zf_mle45, List.forall_mem_cons.mpr ⟨zf_mle46, List.forall_mem_cons.mpr ⟨zf_mle47, fun _ h => absurd h List.not_mem_nil⟩⟩⟩⟩⟩⟩⟩⟩⟩⟩⟩⟩⟩⟩⟩⟩⟩⟩⟩⟩⟩⟩⟩⟩
theorem zf_mlt2 : ∀ e ∈ zf_ml2, zf_mlO e := List.forall_mem_cons.mpr ⟨zf_mle48, List.forall_mem_cons.mpr ⟨zf_mle49, List.forall_mem_cons.mpr ⟨zf_mle50, List.forall_mem_cons.mpr ⟨zf_mle51, List.forall_mem_cons.mpr ⟨zf_mle52, List.forall_mem_cons.mpr ⟨zf_mle53, List.forall_mem_cons.mpr ⟨zf_mle54, List.forall_mem_cons.mpr ⟨zf_mle55, List.forall_mem_cons.mpr ⟨zf_mle56, List.forall_mem_cons.mpr ⟨zf_mle57, List.forall_mem_cons.mpr ⟨zf_mle58, List.forall_mem_cons.mpr ⟨zf_mle59, List.forall_mem_cons.mpr ⟨zf_mle60, List.forall_mem_cons.mpr ⟨zf_mle61, List.forall_mem_cons.mpr ⟨zf_mle62, List.forall_mem_cons.mpr ⟨zf_mle63, List.forall_mem_cons.mpr ⟨zf_mle64, List.forall_mem_cons.mpr ⟨zf_mle65, List.forall_mem_cons.mpr ⟨zf_mle66, List.forall_mem_cons.mpr ⟨zf_mle67, List.forall_mem_cons.mpr ⟨zf_mle68, List.forall_mem_cons.mpr ⟨zf_mle69, List.forall_mem_cons.mpr ⟨zf_mle70, List.forall_mem_cons.mpr ⟨zf_mle71, fun _ h => absurd h List.not_mem_nil⟩⟩⟩⟩⟩⟩⟩⟩⟩⟩⟩⟩⟩⟩⟩⟩⟩⟩⟩⟩⟩⟩⟩⟩
theorem zf_mlt3 : ∀ e ∈ zf_ml3, zf_mlO e := List.forall_mem_cons.mpr ⟨zf_mle72, List.forall_mem_cons.mpr ⟨zf_mle73, List.forall_mem_cons.mpr ⟨zf_mle74, List.forall_mem_cons.mpr ⟨zf_mle75, List.forall_mem_cons.mpr ⟨zf_mle76, List.forall_mem_cons.mpr ⟨zf_mle77, List.forall_mem_cons.mpr ⟨zf_mle78, List.forall_mem_cons.mpr ⟨zf_mle79, List.forall_mem_cons.mpr ⟨zf_mle80, List.forall_mem_cons.mpr ⟨zf_mle81, List.forall_mem_cons.mpr ⟨zf_mle82, List.forall_mem_cons.mpr ⟨zf_mle83, List.forall_mem_cons.mpr ⟨zf_mle84, List.forall_mem_cons.mpr ⟨zf_mle85, List.forall_mem_cons.mpr ⟨zf_mle86, List.forall_mem_cons.mpr ⟨zf_mle87, List.forall_mem_cons.mpr ⟨zf_mle88, List.forall_mem_cons.mpr ⟨zf_mle89, List.forall_mem_cons.mpr ⟨zf_mle90, List.forall_mem_cons.mpr ⟨zf_mle91, List.forall_mem_cons.mpr ⟨zf_mle92, List.forall_mem_cons.mpr ⟨zf_mle93, List.forall_mem_cons.mpr ⟨zf_mle94, List.forall_mem_cons.mpr ⟨zf_mle95, fun _ h => absurd h List.not_mem_nil⟩⟩⟩⟩⟩⟩⟩⟩⟩⟩⟩⟩⟩⟩⟩⟩⟩⟩⟩⟩⟩⟩⟩⟩
theorem zf_mlt4 : ∀ e ∈ zf_ml4, zf_mlO e := List.forall_mem_cons.mpr ⟨zf_mle96, List.forall_mem_cons.mpr ⟨zf_mle97, List.forall_mem_cons.mpr ⟨zf_mle98, List.forall_mem_cons.mpr ⟨zf_mle99, List.forall_mem_cons.mpr ⟨zf_mle100, List.forall_mem_cons.mpr ⟨zf_mle101, List.forall_mem_cons.mpr ⟨zf_mle102, List.forall_mem_cons.mpr ⟨zf_mle103, List.forall_mem_cons.mpr ⟨zf_mle104, List.forall_mem_cons.mpr ⟨zf_mle105, List.forall_mem_cons.mpr ⟨zf_mle106, List.forall_mem_cons.mpr ⟨zf_mle107, List.forall_mem_cons.mpr ⟨zf_mle108, List.forall_mem_cons.mpr ⟨zf_mle109, List.forall_mem_cons.mpr ⟨zf_mle110, List.forall_mem_cons.mpr ⟨zf_mle111, List.forall_mem_cons.mpr ⟨zf_mle112, List.forall_mem_cons.mpr ⟨zf_mle113, List.forall_mem_cons.mpr ⟨zf_mle114, List.forall_mem_cons.mpr ⟨zf_mle115, List.forall_mem_cons.mpr ⟨zf_mle116, List.forall_mem_cons.mpr ⟨zf_mle117, List.forall_mem_cons.mpr ⟨zf_mle118, List.forall_mem_cons.mpr ⟨zf_mle119, fun _ h => absurd h List.not_mem_nil⟩⟩⟩⟩⟩⟩⟩⟩⟩⟩⟩⟩⟩⟩⟩⟩⟩⟩⟩⟩⟩⟩⟩⟩
theorem zf_mlt5 : ∀ e ∈ zf_ml5, zf_mlO e := List.forall_mem_cons.mpr ⟨zf_mle120, List.forall_mem_cons.mpr ⟨zf_mle121, List.forall_mem_cons.mpr ⟨zf_mle122, List.forall_mem_cons.mpr ⟨zf_mle123, List.forall_mem_cons.mpr ⟨zf_mle124, List.forall_mem_cons.mpr ⟨zf_mle125, List.forall_mem_cons.mpr ⟨zf_mle126, List.forall_mem_cons.mpr ⟨zf_mle127, List.forall_mem_cons.mpr ⟨zf_mle128, List.forall_mem_cons.mpr ⟨zf_mle129, List.forall_mem_cons.mpr ⟨zf_mle130, List.forall_mem_cons.mpr ⟨zf_mle131, List.forall_mem_cons.mpr ⟨zf_mle132, List.forall_mem_cons.mpr ⟨zf_mle133, List.forall_mem_cons.mpr ⟨zf_mle134, List.forall_mem_cons.mpr ⟨zf_mle135, List.forall_mem_cons.mpr ⟨zf_mle136, List.forall_mem_cons.mpr ⟨zf_mle137, List.forall_mem_cons.mpr ⟨zf_mle138, List.forall_mem_cons.mpr ⟨zf_mle139, List.forall_mem_cons.mpr ⟨zf_mle140, List.forall_mem_cons.mpr ⟨zf_mle141, List.forall_mem_cons.mpr ⟨zf_mle142, List.forall_mem_cons.mpr ⟨zf_mle143, fun _ h => absurd h List.not_mem_nil⟩⟩⟩⟩⟩⟩⟩⟩⟩⟩⟩⟩⟩⟩⟩⟩⟩⟩⟩⟩⟩⟩⟩⟩
theorem zf_mlt6 : ∀ e ∈ zf_ml6, zf_mlO e := List.forall_mem_cons.mpr ⟨zf_mle144, List.forall_mem_cons.mpr ⟨zf_mle145, List.forall_mem_cons.mpr ⟨zf_mle146, List.forall_mem_cons.mpr ⟨zf_mle147, List.forall_mem_cons.mpr ⟨zf_mle148, List.forall_mem_cons.mpr ⟨zf_mle149, List.forall_mem_cons.mpr ⟨zf_mle150, List.forall_mem_cons.mpr ⟨zf_mle151, List.forall_mem_cons.mpr ⟨zf_mle152, List.forall_mem_cons.mpr ⟨zf_mle153, List.forall_mem_cons.mpr ⟨zf_mle154, List.forall_mem_cons.mpr ⟨zf_mle155, List.forall_mem_cons.mpr ⟨zf_mle156, List.forall_mem_cons.mpr ⟨zf_mle157, List.forall_mem_cons.mpr ⟨zf_mle158, List.forall_mem_cons.mpr ⟨zf_mle159, List.forall_mem_cons.mpr ⟨zf_mle160, List.forall_mem_cons.mpr ⟨zf_mle161, List.forall_mem_cons.mpr ⟨zf_mle162, List.forall_mem_cons.mpr ⟨zf_mle163, List.forall_mem_cons.mpr ⟨zf_mle164, List.forall_mem_cons.mpr ⟨zf_mle165, List.forall_mem_cons.mpr ⟨zf_mle166, List.forall_mem_cons.mpr ⟨zf_mle167, fun _ h => absurd h List.not_mem_nil⟩⟩⟩⟩⟩⟩⟩⟩⟩⟩⟩⟩⟩⟩⟩⟩⟩⟩⟩⟩⟩⟩⟩⟩
theorem zf_mlt7 : ∀ e ∈ zf_ml7, zf_mlO e := List.forall_mem_cons.mpr ⟨zf_mle168, List.forall_mem_cons.mpr ⟨zf_mle169, List.forall_mem_cons.mpr ⟨zf_mle170, List.forall_mem_cons.mpr ⟨zf_mle171, List.forall_mem_cons.mpr ⟨zf_mle172, List.forall_mem_cons.mpr ⟨zf_mle173, List.forall_mem_cons.mpr ⟨zf_mle174, List.forall_mem_cons.mpr ⟨zf_mle175, List.forall_mem_cons.mpr ⟨zf_mle176, List.forall_mem_cons.mpr ⟨zf_mle177, List.forall_mem_cons.mpr ⟨zf_mle178, List.forall_mem_cons.mpr ⟨zf_mle179, List.forall_mem_cons.mpr ⟨zf_mle180, List.forall_mem_cons.mpr ⟨zf_mle181, List.forall_mem_cons.mpr ⟨zf_mle182, List.forall_mem_cons.mpr ⟨zf_mle183, List.forall_mem_cons.mpr ⟨zf_mle184, List.forall_mem_cons.mpr ⟨zf_mle185, List.forall_mem_cons.mpr ⟨zf_mle186, List.forall_mem_cons.mpr ⟨zf_mle187, List.forall_mem_cons.mpr ⟨zf_mle188, List.forall_mem_cons.mpr ⟨zf_mle189, List.forall_mem_cons.mpr ⟨zf_mle190, List.forall_mem_cons.mpr ⟨zf_mle191, fun _ h => absurd h List.not_mem_nil⟩⟩⟩⟩⟩⟩⟩⟩⟩⟩⟩⟩⟩⟩⟩⟩⟩⟩⟩⟩⟩⟩⟩⟩
theorem zf_mlt8 : ∀ e ∈ zf_ml8, zf_mlO e := List.forall_mem_cons.mpr ⟨zf_mle192, List.forall_mem_cons.mpr ⟨zf_mle193, List.forall_mem_cons.mpr ⟨zf_mle194, List.forall_mem_cons.mpr ⟨zf_mle195, List.forall_mem_cons.mpr ⟨zf_mle196, List.forall_mem_cons.mpr ⟨zf_mle197, List.forall_mem_cons.mpr ⟨zf_mle198, List.forall_mem_cons.mpr ⟨zf_mle199, List.forall_mem_cons.mpr ⟨zf_mle200, List.forall_mem_cons.mpr ⟨zf_mle201, List.forall_mem_cons.mpr ⟨zf_mle202, List.forall_mem_cons.mpr ⟨zf_mle203, List.forall_mem_cons.mpr ⟨zf_mle204, fun _ h => absurd h List.not_mem_nil⟩⟩⟩⟩⟩⟩⟩⟩⟩⟩⟩⟩⟩
theorem zf_mlt : ∀ e ∈ zf_ml, zf_mlO e := List.forall_mem_append.mpr ⟨zf_mlt0, List.forall_mem_append.mpr ⟨zf_mlt1, List.forall_mem_append.mpr ⟨zf_mlt2, List.forall_mem_append.mpr ⟨zf_mlt3, List.forall_mem_append.mpr ⟨zf_mlt4, List.forall_mem_append.mpr ⟨zf_mlt5, List.forall_mem_append.mpr ⟨zf_mlt6, List.forall_mem_append.mpr ⟨zf_mlt7, zf_mlt8⟩⟩⟩⟩⟩⟩⟩⟩
def zf_fl0 : List (Nat × Nat × Nat × Nat) := [(0, 9, 0, 0), (0, 15, 0, 1), (0, 18, 0, 2), (0, 21, 0, 3), (0, 35, 2, 8), (0, 38, 2, 7), (0, 41, 2, 6), (1, 11, 1, 0), (1, 17, 1, 1), (1, 21, 1, 2), (1, 24, 1, 3), (1, 28, 1, 4), (1, 31, 1, 5), (2, 9, 2, 0), (2, 15, 2, 1), (2, 18, 2, 2), (2, 21, 2, 3), (2, 24, 2, 4), (2, 27, 2, 5), (2, 30, 2, 6), (2, 33, 2, 7), (2, 37, 2, 8), (2, 40, 2, 9), (2, 43, 2, 10)]
def zf_fl1 : List (Nat × Nat × Nat × Nat) := [(3, 9, 3, 0), (3, 15, 3, 1), (3, 18, 3, 2), (3, 22, 3, 3), (3, 26, 3, 4), (4, 9, 4, 0), (4, 15, 4, 1), (4, 19, 4, 2), (4, 23, 4, 3), (4, 26, 4, 4), (4, 32, 4, 5), (4, 36, 4, 6), (4, 39, 4, 7), (4, 42, 2, 8), (4, 47, 2, 7), (4, 73, 3, 2), (4, 82, 2, 6), (4, 95, 3, 0), (4, 98, 3, 1), (5, 11, 5, 0), (5, 15, 5, 1), (6, 9, 6, 0), (6, 15, 6, 1), (7, 9, 7, 0)]
def zf_fl2 : List (Nat × Nat × Nat × Nat) := [(7, 15, 7, 1), (7, 19, 7, 2), (7, 22, 7, 3), (8, 10, 8, 0), (8, 18, 8, 1), (8, 25, 8, 2), (8, 32, 8, 3), (8, 39, 8, 4), (8, 43, 8, 5), (8, 50, 8, 6), (8, 56, 8, 7), (8, 60, 8, 8), (8, 64, 8, 9), (8, 67, 8, 10), (8, 70, 8, 11), (8, 73, 8, 12), (8, 82, 5, 1), (8, 118, 6, 1), (8, 123, 4, 0), (8, 131, 4, 2), (8, 146, 4, 1), (8, 149, 4, 3), (8, 172, 1, 3), (8, 173, 1, 0)]
def zf_fl3 : List (Nat × Nat × Nat × Nat) := [(8, 176, 1, 4), (8, 179, 1, 5), (8, 207, 7, 3), (8, 221, 0, 0), (8, 224, 0, 1), (8, 227, 0, 2), (8, 230, 0, 3), (8, 239, 7, 2), (8, 250, 7, 1), (8, 256, 7, 0), (8, 292, 1, 1), (8, 295, 1, 2), (9, 7, 9, 1), (9, 13, 9, 2), (9, 16, 9, 3), (9, 20, 9, 5), (9, 23, 9, 6), (9, 26, 9, 7), (9, 29, 9, 10), (9, 32, 9, 11), (9, 35, 9, 12), (9, 39, 9, 14), (9, 43, 9, 15), (9, 46, 9, 17)]
def zf_fl4 : List (Nat × Nat × Nat × Nat) := [(9, 49, 9, 18), (9, 52, 9, 19), (9, 55, 9, 20), (9, 58, 9, 21), (9, 61, 9, 22), (9, 64, 9, 24), (9, 67, 9, 26), (9, 70, 9, 27), (9, 73, 9, 28), (9, 76, 9, 29), (9, 79, 9, 32), (9, 82, 9, 33), (9, 85, 9, 34), (9, 88, 9, 35), (9, 91, 9, 36), (9, 94, 9, 37), (9, 97, 9, 38), (9, 100, 9, 39), (9, 119, 9, 0), (9, 142, 9, 4), (9, 145, 9, 8), (9, 148, 9, 9), (9, 169, 9, 16), (9, 187, 9, 23)]
def zf_fl5 : List (Nat × Nat × Nat × Nat) := [(9, 193, 9, 13), (9, 236, 9, 25), (9, 242, 9, 30), (9, 250, 9, 31), (9, 262, 9, 40)]
def zf_fl : List (Nat × Nat × Nat × Nat) := zf_fl0 ++ (zf_fl1 ++ (zf_fl2 ++ (zf_fl3 ++ (zf_fl4 ++ (zf_fl5)))))
def zf_flO (e : (Nat × Nat × Nat × Nat)) : Prop := Cond.fieldLink (zf_oR e.1) e.2.1 (zf_cT e.2.2.1 e.2.2.2).1 (zf_cT e.2.2.1 e.2.2.2).2.1 (zf_cT e.2.2.1 e.2.2.2).2.2.1 ∈ zf_T ∧ e.2.2.1 < 10 ∧ e.2.2.2 < zf_cN e.2.2.1 ∧ (zf_cT e.2.2.1 e.2.2.2).1 = zf_cR e.2.2.1
theorem zf_fle0 : zf_flO (0, 9, 0, 0) := ⟨zf_m108, by decide, by decide, rfl⟩
theorem zf_fle1 : zf_flO (0, 15, 0, 1) := ⟨zf_m109, by decide, by decide, rfl⟩
theorem zf_fle2 : zf_flO (0, 18, 0, 2) := ⟨zf_m110, by decide, by decide, rfl⟩
theorem zf_fle3 : zf_flO (0, 21, 0, 3) := ⟨zf_m111, by decide, by decide, rfl⟩
theorem zf_fle4 : zf_flO (0, 35, 2, 8) := ⟨zf_m719, by decide, by decide, rfl⟩
theorem zf_fle5 : zf_flO (0, 38, 2, 7) := ⟨zf_m720, by decide, by decide, rfl⟩
theorem zf_fle6 : zf_flO (0, 41, 2, 6) := ⟨zf_m721, by decide, by decide, rfl⟩
theorem zf_fle7 : zf_flO (1, 11, 1, 0) := ⟨zf_m94, by decide, by decide, rfl⟩
theorem zf_fle8 : zf_flO (1, 17, 1, 1) := ⟨zf_m95, by decide, by decide, rfl⟩
theorem zf_fle9 : zf_flO (1, 21, 1, 2) := ⟨zf_m96, by decide, by decide, rfl⟩
theorem zf_fle10 : zf_flO (1, 24, 1, 3) := ⟨zf_m97, by decide, by decide, rfl⟩
theorem zf_fle11 : zf_flO (1, 28, 1, 4) := ⟨zf_m98, by decide, by decide, rfl⟩
theorem zf_fle12 : zf_flO (1, 31, 1, 5) := ⟨zf_m99, by decide, by decide, rfl⟩
theorem zf_fle13 : zf_flO (2, 9, 2, 0) := ⟨zf_m55, by decide, by decide, rfl⟩
theorem zf_fle14 : zf_flO (2, 15, 2, 1) := ⟨zf_m56, by decide, by decide, rfl⟩
theorem zf_fle15 : zf_flO (2, 18, 2, 2) := ⟨zf_m57, by decide, by decide, rfl⟩
theorem zf_fle16 : zf_flO (2, 21, 2, 3) := ⟨zf_m58, by decide, by decide, rfl⟩
theorem zf_fle17 : zf_flO (2, 24, 2, 4) := ⟨zf_m59, by decide, by decide, rfl⟩
theorem zf_fle18 : zf_flO (2, 27, 2, 5) := ⟨zf_m60, by decide, by decide, rfl⟩
theorem zf_fle19 : zf_flO (2, 30, 2, 6) := ⟨zf_m61, by decide, by decide, rfl⟩
theorem zf_fle20 : zf_flO (2, 33, 2, 7) := ⟨zf_m62, by decide, by decide, rfl⟩
theorem zf_fle21 : zf_flO (2, 37, 2, 8) := ⟨zf_m63, by decide, by decide, rfl⟩
theorem zf_fle22 : zf_flO (2, 40, 2, 9) := ⟨zf_m64, by decide, by decide, rfl⟩
theorem zf_fle23 : zf_flO (2, 43, 2, 10) := ⟨zf_m65, by decide, by decide, rfl⟩
theorem zf_fle24 : zf_flO (3, 9, 3, 0) := ⟨zf_m84, by decide, by decide, rfl⟩
theorem zf_fle25 : zf_flO (3, 15, 3, 1) := ⟨zf_m85, by decide, by decide, rfl⟩
theorem zf_fle26 : zf_flO (3, 18, 3, 2) := ⟨zf_m86, by decide, by decide, rfl⟩
theorem zf_fle27 : zf_flO (3, 22, 3, 3) := ⟨zf_m87, by decide, by decide, rfl⟩
theorem zf_fle28 : zf_flO (3, 26, 3, 4) := ⟨zf_m88, by decide, by decide, rfl⟩
theorem zf_fle29 : zf_flO (4, 9, 4, 0) := ⟨zf_m69, by decide, by decide, rfl⟩
theorem zf_fle30 : zf_flO (4, 15, 4, 1) := ⟨zf_m70, by decide, by decide, rfl⟩
theorem zf_fle31 : zf_flO (4, 19, 4, 2) := ⟨zf_m72, by decide, by decide, rfl⟩
theorem zf_fle32 : zf_flO (4, 23, 4, 3) := ⟨zf_m73, by decide, by decide, rfl⟩
theorem zf_fle33 : zf_flO (4, 26, 4, 4) := ⟨zf_m74, by decide, by decide, rfl⟩
theorem zf_fle34 : zf_flO (4, 32, 4, 5) := ⟨zf_m78, by decide, by decide, rfl⟩
theorem zf_fle35 : zf_flO (4, 36, 4, 6) := ⟨zf_m79, by decide, by decide, rfl⟩
theorem zf_fle36 : zf_flO (4, 39, 4, 7) := ⟨zf_m80, by decide, by decide, rfl⟩
theorem zf_fle37 : zf_flO (4, 42, 2, 8) := ⟨zf_m332, by decide, by decide, rfl⟩
theorem zf_fle38 : zf_flO (4, 47, 2, 7) := ⟨zf_m333, by decide, by decide, rfl⟩
theorem zf_fle39 : zf_flO (4, 73, 3, 2) := ⟨zf_m334, by decide, by decide, rfl⟩
theorem zf_fle40 : zf_flO (4, 82, 2, 6) := ⟨zf_m340, by decide, by decide, rfl⟩
theorem zf_fle41 : zf_flO (4, 95, 3, 0) := ⟨zf_m381, by decide, by decide, rfl⟩
theorem zf_fle42 : zf_flO (4, 98, 3, 1) := ⟨zf_m382, by decide, by decide, rfl⟩
theorem zf_fle43 : zf_flO (5, 11, 5, 0) := ⟨zf_m50, by decide, by decide, rfl⟩
theorem zf_fle44 : zf_flO (5, 15, 5, 1) := ⟨zf_m51, by decide, by decide, rfl⟩
theorem zf_fle45 : zf_flO (6, 9, 6, 0) := ⟨zf_m103, by decide, by decide, rfl⟩
theorem zf_fle46 : zf_flO (6, 15, 6, 1) := ⟨zf_m104, by decide, by decide, rfl⟩
theorem zf_fle47 : zf_flO (7, 9, 7, 0) := ⟨zf_m115, by decide, by decide, rfl⟩
theorem zf_fle48 : zf_flO (7, 15, 7, 1) := ⟨zf_m116, by decide, by decide, rfl⟩
theorem zf_fle49 : zf_flO (7, 19, 7, 2) := ⟨zf_m117, by decide, by decide, rfl⟩
theorem zf_fle50 : zf_flO (7, 22, 7, 3) := ⟨zf_m118, by decide, by decide, rfl⟩
theorem zf_fle51 : zf_flO (8, 10, 8, 0) := ⟨zf_m15, by decide, by decide, rfl⟩
theorem zf_fle52 : zf_flO (8, 18, 8, 1) := ⟨zf_m17, by decide, by decide, rfl⟩
theorem zf_fle53 : zf_flO (8, 25, 8, 2) := ⟨zf_m21, by decide, by decide, rfl⟩
theorem zf_fle54 : zf_flO (8, 32, 8, 3) := ⟨zf_m25, by decide, by decide, rfl⟩
theorem zf_fle55 : zf_flO (8, 39, 8, 4) := ⟨zf_m29, by decide, by decide, rfl⟩
theorem zf_fle56 : zf_flO (8, 43, 8, 5) := ⟨zf_m31, by decide, by decide, rfl⟩
theorem zf_fle57 : zf_flO (8, 50, 8, 6) := ⟨zf_m35, by decide, by decide, rfl⟩
theorem zf_fle58 : zf_flO (8, 56, 8, 7) := ⟨zf_m37, by decide, by decide, rfl⟩
theorem zf_fle59 : zf_flO (8, 60, 8, 8) := ⟨zf_m38, by decide, by decide, rfl⟩
theorem zf_fle60 : zf_flO (8, 64, 8, 9) := ⟨zf_m39, by decide, by decide, rfl⟩
theorem zf_fle61 : zf_flO (8, 67, 8, 10) := ⟨zf_m40, by decide, by decide, rfl⟩
theorem zf_fle62 : zf_flO (8, 70, 8, 11) := ⟨zf_m41, by decide, by decide, rfl⟩
theorem zf_fle63 : zf_flO (8, 73, 8, 12) := ⟨zf_m42, by decide, by decide, rfl⟩
theorem zf_fle64 : zf_flO (8, 82, 5, 1) := ⟨zf_m158, by decide, by decide, rfl⟩
theorem zf_fle65 : zf_flO (8, 118, 6, 1) := ⟨zf_m276, by decide, by decide, rfl⟩
theorem zf_fle66 : zf_flO (8, 123, 4, 0) := ⟨zf_m299, by decide, by decide, rfl⟩
theorem zf_fle67 : zf_flO (8, 131, 4, 2) := ⟨zf_m507, by decide, by decide, rfl⟩
theorem zf_fle68 : zf_flO (8, 146, 4, 1) := ⟨zf_m546, by decide, by decide, rfl⟩
theorem zf_fle69 : zf_flO (8, 149, 4, 3) := ⟨zf_m555, by decide, by decide, rfl⟩
theorem zf_fle70 : zf_flO (8, 172, 1, 3) := ⟨zf_m594, by decide, by decide, rfl⟩
theorem zf_fle71 : zf_flO (8, 173, 1, 0) := ⟨zf_m595, by decide, by decide, rfl⟩
theorem zf_fle72 : zf_flO (8, 176, 1, 4) := ⟨zf_m613, by decide, by decide, rfl⟩
theorem zf_fle73 : zf_flO (8, 179, 1, 5) := ⟨zf_m614, by decide, by decide, rfl⟩
theorem zf_fle74 : zf_flO (8, 207, 7, 3) := ⟨zf_m706, by decide, by decide, rfl⟩
theorem zf_fle75 : zf_flO (8, 221, 0, 0) := ⟨zf_m707, by decide, by decide, rfl⟩
theorem zf_fle76 : zf_flO (8, 224, 0, 1) := ⟨zf_m761, by decide, by decide, rfl⟩
theorem zf_fle77 : zf_flO (8, 227, 0, 2) := ⟨zf_m762, by decide, by decide, rfl⟩
theorem zf_fle78 : zf_flO (8, 230, 0, 3) := ⟨zf_m763, by decide, by decide, rfl⟩
theorem zf_fle79 : zf_flO (8, 239, 7, 2) := ⟨zf_m788, by decide, by decide, rfl⟩
theorem zf_fle80 : zf_flO (8, 250, 7, 1) := ⟨zf_m800, by decide, by decide, rfl⟩
theorem zf_fle81 : zf_flO (8, 256, 7, 0) := ⟨zf_m827, by decide, by decide, rfl⟩
theorem zf_fle82 : zf_flO (8, 292, 1, 1) := ⟨zf_m627, by decide, by decide, rfl⟩
theorem zf_fle83 : zf_flO (8, 295, 1, 2) := ⟨zf_m628, by decide, by decide, rfl⟩
theorem zf_fle84 : zf_flO (9, 7, 9, 1) := ⟨zf_m123, by decide, by decide, rfl⟩
theorem zf_fle85 : zf_flO (9, 13, 9, 2) := ⟨zf_m124, by decide, by decide, rfl⟩
theorem zf_fle86 : zf_flO (9, 16, 9, 3) := ⟨zf_m125, by decide, by decide, rfl⟩
theorem zf_fle87 : zf_flO (9, 20, 9, 5) := ⟨zf_m126, by decide, by decide, rfl⟩
theorem zf_fle88 : zf_flO (9, 23, 9, 6) := ⟨zf_m127, by decide, by decide, rfl⟩
theorem zf_fle89 : zf_flO (9, 26, 9, 7) := ⟨zf_m128, by decide, by decide, rfl⟩
theorem zf_fle90 : zf_flO (9, 29, 9, 10) := ⟨zf_m129, by decide, by decide, rfl⟩
theorem zf_fle91 : zf_flO (9, 32, 9, 11) := ⟨zf_m130, by decide, by decide, rfl⟩
theorem zf_fle92 : zf_flO (9, 35, 9, 12) := ⟨zf_m132, by decide, by decide, rfl⟩
theorem zf_fle93 : zf_flO (9, 39, 9, 14) := ⟨zf_m133, by decide, by decide, rfl⟩
theorem zf_fle94 : zf_flO (9, 43, 9, 15) := ⟨zf_m134, by decide, by decide, rfl⟩
theorem zf_fle95 : zf_flO (9, 46, 9, 17) := ⟨zf_m135, by decide, by decide, rfl⟩
theorem zf_fle96 : zf_flO (9, 49, 9, 18) := ⟨zf_m136, by decide, by decide, rfl⟩
theorem zf_fle97 : zf_flO (9, 52, 9, 19) := ⟨zf_m137, by decide, by decide, rfl⟩
theorem zf_fle98 : zf_flO (9, 55, 9, 20) := ⟨zf_m138, by decide, by decide, rfl⟩
theorem zf_fle99 : zf_flO (9, 58, 9, 21) := ⟨zf_m139, by decide, by decide, rfl⟩
theorem zf_fle100 : zf_flO (9, 61, 9, 22) := ⟨zf_m140, by decide, by decide, rfl⟩
theorem zf_fle101 : zf_flO (9, 64, 9, 24) := ⟨zf_m141, by decide, by decide, rfl⟩
theorem zf_fle102 : zf_flO (9, 67, 9, 26) := ⟨zf_m142, by decide, by decide, rfl⟩
theorem zf_fle103 : zf_flO (9, 70, 9, 27) := ⟨zf_m143, by decide, by decide, rfl⟩
theorem zf_fle104 : zf_flO (9, 73, 9, 28) := ⟨zf_m144, by decide, by decide, rfl⟩
theorem zf_fle105 : zf_flO (9, 76, 9, 29) := ⟨zf_m145, by decide, by decide, rfl⟩
theorem zf_fle106 : zf_flO (9, 79, 9, 32) := ⟨zf_m146, by decide, by decide, rfl⟩
theorem zf_fle107 : zf_flO (9, 82, 9, 33) := ⟨zf_m147, by decide, by decide, rfl⟩
theorem zf_fle108 : zf_flO (9, 85, 9, 34) := ⟨zf_m148, by decide, by decide, rfl⟩
theorem zf_fle109 : zf_flO (9, 88, 9, 35) := ⟨zf_m149, by decide, by decide, rfl⟩
theorem zf_fle110 : zf_flO (9, 91, 9, 36) := ⟨zf_m150, by decide, by decide, rfl⟩
theorem zf_fle111 : zf_flO (9, 94, 9, 37) := ⟨zf_m151, by decide, by decide, rfl⟩
theorem zf_fle112 : zf_flO (9, 97, 9, 38) := ⟨zf_m152, by decide, by decide, rfl⟩
theorem zf_fle113 : zf_flO (9, 100, 9, 39) := ⟨zf_m153, by decide, by decide, rfl⟩
theorem zf_fle114 : zf_flO (9, 119, 9, 0) := ⟨zf_m176, by decide, by decide, rfl⟩
theorem zf_fle115 : zf_flO (9, 142, 9, 4) := ⟨zf_m271, by decide, by decide, rfl⟩
theorem zf_fle116 : zf_flO (9, 145, 9, 8) := ⟨zf_m285, by decide, by decide, rfl⟩
theorem zf_fle117 : zf_flO (9, 148, 9, 9) := ⟨zf_m290, by decide, by decide, rfl⟩
theorem zf_fle118 : zf_flO (9, 169, 9, 16) := ⟨zf_m451, by decide, by decide, rfl⟩
theorem zf_fle119 : zf_flO (9, 187, 9, 23) := ⟨zf_m449, by decide, by decide, rfl⟩
theorem zf_fle120 : zf_flO (9, 193, 9, 13) := ⟨zf_m450, by decide, by decide, rfl⟩
theorem zf_fle121 : zf_flO (9, 236, 9, 25) := ⟨zf_m600, by decide, by decide, rfl⟩
theorem zf_fle122 : zf_flO (9, 242, 9, 30) := ⟨zf_m657, by decide, by decide, rfl⟩
theorem zf_fle123 : zf_flO (9, 250, 9, 31) := ⟨zf_m693, by decide, by decide, rfl⟩
theorem zf_fle124 : zf_flO (9, 262, 9, 40) := ⟨zf_m756, by decide, by decide, rfl⟩
theorem zf_flt0 : ∀ e ∈ zf_fl0, zf_flO e := List.forall_mem_cons.mpr ⟨zf_fle0, List.forall_mem_cons.mpr ⟨zf_fle1, List.forall_mem_cons.mpr ⟨zf_fle2, List.forall_mem_cons.mpr ⟨zf_fle3, List.forall_mem_cons.mpr ⟨zf_fle4, List.forall_mem_cons.mpr ⟨zf_fle5, List.forall_mem_cons.mpr ⟨zf_fle6, List.forall_mem_cons.mpr ⟨zf_fle7, List.forall_mem_cons.mpr ⟨zf_fle8, List.forall_mem_cons.mpr ⟨zf_fle9, List.forall_mem_cons.mpr ⟨zf_fle10, List.forall_mem_cons.mpr ⟨zf_fle11, List.forall_mem_cons.mpr ⟨zf_fle12, List.forall_mem_cons.mpr ⟨zf_fle13, List.forall_mem_cons.mpr ⟨zf_fle14, List.forall_mem_cons.mpr ⟨zf_fle15, List.forall_mem_cons.mpr ⟨zf_fle16, List.forall_mem_cons.mpr ⟨zf_fle17, List.forall_mem_cons.mpr ⟨zf_fle18, List.forall_mem_cons.mpr ⟨zf_fle19, List.forall_mem_cons.mpr ⟨zf_fle20, List.forall_mem_cons.mpr ⟨zf_fle21, List.forall_mem_cons.mpr ⟨zf_fle22, List.forall_mem_cons.mpr ⟨zf_fle23, fun _ h => absurd h List.not_mem_nil⟩⟩⟩⟩⟩⟩⟩⟩⟩⟩⟩⟩⟩⟩⟩⟩⟩⟩⟩⟩⟩⟩⟩⟩
theorem zf_flt1 : ∀ e ∈ zf_fl1, zf_flO e := List.forall_mem_cons.mpr ⟨zf_fle24, List.forall_mem_cons.mpr ⟨zf_fle25, List.forall_mem_cons.mpr ⟨zf_fle26, List.forall_mem_cons.mpr ⟨zf_fle27, List.forall_mem_cons.mpr ⟨zf_fle28, List.forall_mem_cons.mpr ⟨zf_fle29, List.forall_mem_cons.mpr ⟨zf_fle30, List.forall_mem_cons.mpr ⟨zf_fle31, List.forall_mem_cons.mpr ⟨zf_fle32, List.forall_mem_cons.mpr ⟨zf_fle33, List.forall_mem_cons.mpr ⟨zf_fle34, List.forall_mem_cons.mpr ⟨zf_fle35, List.forall_mem_cons.mpr ⟨zf_fle36, List.forall_mem_cons.mpr ⟨zf_fle37, List.forall_mem_cons.mpr ⟨zf_fle38, List.forall_mem_cons.mpr ⟨zf_fle39, List.forall_mem_cons.mpr ⟨zf_fle40, List.forall_mem_cons.mpr ⟨zf_fle41, List.forall_mem_cons.mpr ⟨zf_fle42, List.forall_mem_cons.mpr ⟨zf_fle43, List.forall_mem_cons.mpr ⟨zf_fle44, List.forall_mem_cons.mpr ⟨zf_fle45, List.forall_mem_cons.mpr ⟨zf_fle46, List.forall_mem_cons.mpr ⟨zf_fle47, fun _ h => absurd h List.not_mem_nil⟩⟩⟩⟩⟩⟩⟩⟩⟩⟩⟩⟩⟩⟩⟩⟩⟩⟩⟩⟩⟩⟩⟩⟩
theorem zf_flt2 : ∀ e ∈ zf_fl2, zf_flO e := List.forall_mem_cons.mpr ⟨zf_fle48, List.forall_mem_cons.mpr ⟨zf_fle49, List.forall_mem_cons.mpr ⟨zf_fle50, List.forall_mem_cons.mpr ⟨zf_fle51, List.forall_mem_cons.mpr ⟨zf_fle52, List.forall_mem_cons.mpr ⟨zf_fle53, List.forall_mem_cons.mpr ⟨zf_fle54, List.forall_mem_cons.mpr ⟨zf_fle55, List.forall_mem_cons.mpr ⟨zf_fle56, List.forall_mem_cons.mpr ⟨zf_fle57, List.forall_mem_cons.mpr ⟨zf_fle58, List.forall_mem_cons.mpr ⟨zf_fle59, List.forall_mem_cons.mpr ⟨zf_fle60, List.forall_mem_cons.mpr ⟨zf_fle61, List.forall_mem_cons.mpr ⟨zf_fle62, List.forall_mem_cons.mpr ⟨zf_fle63, List.forall_mem_cons.mpr ⟨zf_fle64, List.forall_mem_cons.mpr ⟨zf_fle65, List.forall_mem_cons.mpr ⟨zf_fle66, List.forall_mem_cons.mpr ⟨zf_fle67, List.forall_mem_cons.mpr ⟨zf_fle68, List.forall_mem_cons.mpr ⟨zf_fle69, List.forall_mem_cons.mpr ⟨zf_fle70, List.forall_mem_cons.mpr ⟨zf_fle71, fun _ h => absurd h List.not_mem_nil⟩⟩⟩⟩⟩⟩⟩⟩⟩⟩⟩⟩⟩⟩⟩⟩⟩⟩⟩⟩⟩⟩⟩⟩
theorem zf_flt3 : ∀ e ∈ zf_fl3, zf_flO e := List.forall_mem_cons.mpr ⟨zf_fle72, List.forall_mem_cons.mpr ⟨zf_fle73, List.forall_mem_cons.mpr ⟨zf_fle74, List.forall_mem_cons.mpr ⟨zf_fle75, List.forall_mem_cons.mpr ⟨zf_fle76, List.forall_mem_cons.mpr ⟨zf_fle77, List.forall_mem_cons.mpr ⟨zf_fle78, List.forall_mem_cons.mpr ⟨zf_fle79, List.forall_mem_cons.mpr ⟨zf_fle80, List.forall_mem_cons.mpr ⟨zf_fle81, List.forall_mem_cons.mpr ⟨zf_fle82, List.forall_mem_cons.mpr ⟨zf_fle83, List.forall_mem_cons.mpr ⟨zf_fle84, List.forall_mem_cons.mpr ⟨zf_fle85, List.forall_mem_cons.mpr ⟨zf_fle86, List.forall_mem_cons.mpr ⟨zf_fle87, List.forall_mem_cons.mpr ⟨zf_fle88, List.forall_mem_cons.mpr ⟨zf_fle89, List.forall_mem_cons.mpr ⟨zf_fle90, List.forall_mem_cons.mpr ⟨zf_fle91, List.forall_mem_cons.mpr ⟨zf_fle92, List.forall_mem_cons.mpr ⟨zf_fle93, List.forall_mem_cons.mpr ⟨zf_fle94, List.forall_mem_cons.mpr ⟨zf_fle95, fun _ h => absurd h List.not_mem_nil⟩⟩⟩⟩⟩⟩⟩⟩⟩⟩⟩⟩⟩⟩⟩⟩⟩⟩⟩⟩⟩⟩⟩⟩
theorem zf_flt4 : ∀ e ∈ zf_fl4, zf_flO e := List.forall_mem_cons.mpr ⟨zf_fle96, List.forall_mem_cons.mpr ⟨zf_fle97, List.forall_mem_cons.mpr ⟨zf_fle98, List.forall_mem_cons.mpr ⟨zf_fle99, List.forall_mem_cons.mpr ⟨zf_fle100, List.forall_mem_cons.mpr ⟨zf_fle101, List.forall_mem_cons.mpr ⟨zf_fle102, List.forall_mem_cons.mpr ⟨zf_fle103, List.forall_mem_cons.mpr ⟨zf_fle104, List.forall_mem_cons.mpr ⟨zf_fle105, List.forall_mem_cons.mpr ⟨zf_fle106, List.forall_mem_cons.mpr ⟨zf_fle107, List.forall_mem_cons.mpr ⟨zf_fle108, List.forall_mem_cons.mpr ⟨zf_fle109, List.forall_mem_cons.mpr ⟨zf_fle110, List.forall_mem_cons.mpr ⟨zf_fle111, List.forall_mem_cons.mpr ⟨zf_fle112, List.forall_mem_cons.mpr ⟨zf_fle113, List.forall_mem_cons.mpr ⟨zf_fle114, List.forall_mem_cons.mpr ⟨zf_fle115, List.forall_mem_cons.mpr ⟨zf_fle116, List.forall_mem_cons.mpr ⟨zf_fle117, List.forall_mem_cons.mpr ⟨zf_fle118, List.forall_mem_cons.mpr ⟨zf_fle119, fun _ h => absurd h List.not_mem_nil⟩⟩⟩⟩⟩⟩⟩⟩⟩⟩⟩⟩⟩⟩⟩⟩⟩⟩⟩⟩⟩⟩⟩⟩
theorem zf_flt5 : ∀ e ∈ zf_fl5, zf_flO e := List.forall_mem_cons.mpr ⟨zf_fle120, List.forall_mem_cons.mpr ⟨zf_fle121, List.forall_mem_cons.mpr ⟨zf_fle122, List.forall_mem_cons.mpr ⟨zf_fle123, List.forall_mem_cons.mpr ⟨zf_fle124, fun _ h => absurd h List.not_mem_nil⟩⟩⟩⟩⟩
theorem zf_flt : ∀ e ∈ zf_fl, zf_flO e := List.forall_mem_append.mpr ⟨zf_flt0, List.forall_mem_append.mpr ⟨zf_flt1, List.forall_mem_append.mpr ⟨zf_flt2, List.forall_mem_append.mpr ⟨zf_flt3, List.forall_mem_append.mpr ⟨zf_flt4, zf_flt5⟩⟩⟩⟩⟩
def zf_cl0 : List (Nat × Nat × Nat) := [(1, 9, 6), (4, 29, 3), (8, 7, 5), (8, 16, 6), (8, 22, 2), (8, 29, 4), (8, 36, 1), (8, 47, 0), (8, 54, 7), (10, 7, 8), (10, 10, 9)]
def zf_cl : List (Nat × Nat × Nat) := zf_cl0
def zf_clO (e : (Nat × Nat × Nat)) : Prop := Cond.classLink (zf_oR e.1) e.2.1 (zf_cR e.2.2) ∈ zf_T ∧ e.2.2 < 10
theorem zf_cle0 : zf_clO (1, 9, 6) := ⟨zf_m93, by decide⟩
theorem zf_cle1 : zf_clO (4, 29, 3) := ⟨zf_m75, by decide⟩
theorem zf_cle2 : zf_clO (8, 7, 5) := ⟨zf_m12, by decide⟩
theorem zf_cle3 : zf_clO (8, 16, 6) := ⟨zf_m16, by decide⟩
theorem zf_cle4 : zf_clO (8, 22, 2) := ⟨zf_m18, by decide⟩
theorem zf_cle5 : zf_clO (8, 29, 4) := ⟨zf_m22, by decide⟩
theorem zf_cle6 : zf_clO (8, 36, 1) := ⟨zf_m26, by decide⟩
theorem zf_cle7 : zf_clO (8, 47, 0) := ⟨zf_m32, by decide⟩
theorem zf_cle8 : zf_clO (8, 54, 7) := ⟨zf_m36, by decide⟩
theorem zf_cle9 : zf_clO (10, 7, 8) := ⟨zf_m0, by decide⟩
theorem zf_cle10 : zf_clO (10, 10, 9) := ⟨zf_m3, by decide⟩
theorem zf_clt0 : ∀ e ∈ zf_cl0, zf_clO e := List.forall_mem_cons.mpr ⟨zf_cle0, List.forall_mem_cons.mpr ⟨zf_cle1, List.forall_mem_cons.mpr ⟨zf_cle2, List.forall_mem_cons.mpr ⟨zf_cle3, List.forall_mem_cons.mpr ⟨zf_cle4, List.forall_mem_cons.mpr ⟨zf_cle5, List.forall_mem_cons.mpr ⟨zf_cle6, List.forall_mem_cons.mpr ⟨zf_cle7, List.forall_mem_cons.mpr ⟨zf_cle8, List.forall_mem_cons.mpr ⟨zf_cle9, List.forall_mem_cons.mpr ⟨zf_cle10, fun _ h => absurd h List.not_mem_nil⟩⟩⟩⟩⟩⟩⟩⟩⟩⟩⟩
theorem zf_clt : ∀ e ∈ zf_cl, zf_clO e := zf_clt0
def zf_sl0 : List (Nat × Nat × Nat) := [(5, 19, 1000000), (5, 22, 1000001)]
def zf_sl : List (Nat × Nat × Nat) := zf_sl0
def zf_slO (e : (Nat × Nat × Nat)) : Prop := Cond.fieldLink (zf_oR e.1) e.2.1 RX5 (if e.2.2 = 1000000 then "LOWEST" else "HIGHEST") "[I" ∈ zf_T ∧ (e.2.2 = 1000000 ∨ e.2.2 = 1000001)
theorem zf_sle0 : zf_slO (5, 19, 1000000) := ⟨zf_m162, by decide⟩
theorem zf_sle1 : zf_slO (5, 22, 1000001) := ⟨zf_m163, by decide⟩
theorem zf_slt0 : ∀ e ∈ zf_sl0, zf_slO e := List.forall_mem_cons.mpr ⟨zf_sle0, List.forall_mem_cons.mpr ⟨zf_sle1, fun _ h => absurd h List.not_mem_nil⟩⟩
theorem zf_slt : ∀ e ∈ zf_sl, zf_slO e := zf_slt0
def zf_k40 : List (Nat × Nat × Int32) := [(8, 152, -2147483648), (8, 156, -2147483647), (8, 195, 1000000), (8, 265, 1103515245), (9, 231, -2147483648), (9, 235, -2147483647), (9, 270, 1103515245), (11, 265, 1431655765), (11, 266, 858993459), (11, 267, 252645135)]
def zf_k4 : List (Nat × Nat × Int32) := zf_k40
def zf_k4O (e : (Nat × Nat × Int32)) : Prop := Cond.constant (zf_oR e.1) e.2.1 e.2.2 ∈ zf_T
theorem zf_k4e0 : zf_k4O (8, 152, -2147483648) := zf_m564
theorem zf_k4e1 : zf_k4O (8, 156, -2147483647) := zf_m565
theorem zf_k4e2 : zf_k4O (8, 195, 1000000) := zf_m682
theorem zf_k4e3 : zf_k4O (8, 265, 1103515245) := zf_m844
theorem zf_k4e4 : zf_k4O (9, 231, -2147483648) := zf_m571
theorem zf_k4e5 : zf_k4O (9, 235, -2147483647) := zf_m572
theorem zf_k4e6 : zf_k4O (9, 270, 1103515245) := zf_m849
theorem zf_k4e7 : zf_k4O (11, 265, 1431655765) := zf_m645
theorem zf_k4e8 : zf_k4O (11, 266, 858993459) := zf_m646
theorem zf_k4e9 : zf_k4O (11, 267, 252645135) := zf_m647
theorem zf_k4t0 : ∀ e ∈ zf_k40, zf_k4O e := List.forall_mem_cons.mpr ⟨zf_k4e0, List.forall_mem_cons.mpr ⟨zf_k4e1, List.forall_mem_cons.mpr ⟨zf_k4e2, List.forall_mem_cons.mpr ⟨zf_k4e3, List.forall_mem_cons.mpr ⟨zf_k4e4, List.forall_mem_cons.mpr ⟨zf_k4e5, List.forall_mem_cons.mpr ⟨zf_k4e6, List.forall_mem_cons.mpr ⟨zf_k4e7, List.forall_mem_cons.mpr ⟨zf_k4e8, List.forall_mem_cons.mpr ⟨zf_k4e9, fun _ h => absurd h List.not_mem_nil⟩⟩⟩⟩⟩⟩⟩⟩⟩⟩
theorem zf_k4t : ∀ e ∈ zf_k4, zf_k4O e := zf_k4t0
def zf_k80 : List (Nat × Nat × Int64) := [(2, 52, 133152), (2, 54, 34904997888), (2, 64, 32), (2, 66, -1), (2, 82, 31), (2, 84, 63), (3, 29, -7046029254386353131), (4, 80, 6), (4, 90, 10), (8, 266, 17), (8, 268, 31), (8, 285, -9223372036854775808), (9, 103, -9223372036854775808), (9, 105, 2), (9, 111, 20), (9, 113, 6), (9, 115, 9), (9, 117, 19), (9, 130, 5), (9, 132, -1), (9, 159, 31), (9, 165, 2654435761), (9, 167, 2047), (9, 219, 10)]
def zf_k81 : List (Nat × Nat × Int64) := [(9, 248, 1000000), (9, 260, 15), (9, 265, 3), (9, 271, 17)]
def zf_k8 : List (Nat × Nat × Int64) := zf_k80 ++ (zf_k81)
def zf_k8O (e : (Nat × Nat × Int64)) : Prop := Cond.constantLong (zf_oR e.1) e.2.1 e.2.2 ∈ zf_T
theorem zf_k8e0 : zf_k8O (2, 52, 133152) := zf_m359
theorem zf_k8e1 : zf_k8O (2, 54, 34904997888) := zf_m360
theorem zf_k8e2 : zf_k8O (2, 64, 32) := zf_m403
theorem zf_k8e3 : zf_k8O (2, 66, -1) := zf_m404
theorem zf_k8e4 : zf_k8O (2, 82, 31) := zf_m420
theorem zf_k8e5 : zf_k8O (2, 84, 63) := zf_m421
theorem zf_k8e6 : zf_k8O (3, 29, -7046029254386353131) := zf_m372
theorem zf_k8e7 : zf_k8O (4, 80, 6) := zf_m339
theorem zf_k8e8 : zf_k8O (4, 90, 10) := zf_m520
theorem zf_k8e9 : zf_k8O (8, 266, 17) := zf_m862
theorem zf_k8e10 : zf_k8O (8, 268, 31) := zf_m863
theorem zf_k8e11 : zf_k8O (8, 285, -9223372036854775808) := zf_m436
theorem zf_k8e12 : zf_k8O (9, 103, -9223372036854775808) := zf_m502
theorem zf_k8e13 : zf_k8O (9, 105, 2) := zf_m180
theorem zf_k8e14 : zf_k8O (9, 111, 20) := zf_m181
theorem zf_k8e15 : zf_k8O (9, 113, 6) := zf_m182
theorem zf_k8e16 : zf_k8O (9, 115, 9) := zf_m183
theorem zf_k8e17 : zf_k8O (9, 117, 19) := zf_m184
theorem zf_k8e18 : zf_k8O (9, 130, 5) := zf_m201
theorem zf_k8e19 : zf_k8O (9, 132, -1) := zf_m241
theorem zf_k8e20 : zf_k8O (9, 159, 31) := zf_m468
theorem zf_k8e21 : zf_k8O (9, 165, 2654435761) := zf_m477
theorem zf_k8e22 : zf_k8O (9, 167, 2047) := zf_m478
theorem zf_k8e23 : zf_k8O (9, 219, 10) := zf_m529
theorem zf_k8e24 : zf_k8O (9, 248, 1000000) := zf_m692
theorem zf_k8e25 : zf_k8O (9, 260, 15) := zf_m768
theorem zf_k8e26 : zf_k8O (9, 265, 3) := zf_m751
theorem zf_k8e27 : zf_k8O (9, 271, 17) := zf_m872
theorem zf_k8t0 : ∀ e ∈ zf_k80, zf_k8O e := List.forall_mem_cons.mpr ⟨zf_k8e0, List.forall_mem_cons.mpr ⟨zf_k8e1, List.forall_mem_cons.mpr ⟨zf_k8e2, List.forall_mem_cons.mpr ⟨zf_k8e3, List.forall_mem_cons.mpr ⟨zf_k8e4, List.forall_mem_cons.mpr ⟨zf_k8e5, List.forall_mem_cons.mpr ⟨zf_k8e6, List.forall_mem_cons.mpr ⟨zf_k8e7, List.forall_mem_cons.mpr ⟨zf_k8e8, List.forall_mem_cons.mpr ⟨zf_k8e9, List.forall_mem_cons.mpr ⟨zf_k8e10, List.forall_mem_cons.mpr ⟨zf_k8e11, List.forall_mem_cons.mpr ⟨zf_k8e12, List.forall_mem_cons.mpr ⟨zf_k8e13, List.forall_mem_cons.mpr ⟨zf_k8e14, List.forall_mem_cons.mpr ⟨zf_k8e15, List.forall_mem_cons.mpr ⟨zf_k8e16, List.forall_mem_cons.mpr ⟨zf_k8e17, List.forall_mem_cons.mpr ⟨zf_k8e18, List.forall_mem_cons.mpr ⟨zf_k8e19, List.forall_mem_cons.mpr ⟨zf_k8e20, List.forall_mem_cons.mpr ⟨zf_k8e21, List.forall_mem_cons.mpr ⟨zf_k8e22, List.forall_mem_cons.mpr ⟨zf_k8e23, fun _ h => absurd h List.not_mem_nil⟩⟩⟩⟩⟩⟩⟩⟩⟩⟩⟩⟩⟩⟩⟩⟩⟩⟩⟩⟩⟩⟩⟩⟩
theorem zf_k8t1 : ∀ e ∈ zf_k81, zf_k8O e := List.forall_mem_cons.mpr ⟨zf_k8e24, List.forall_mem_cons.mpr ⟨zf_k8e25, List.forall_mem_cons.mpr ⟨zf_k8e26, List.forall_mem_cons.mpr ⟨zf_k8e27, fun _ h => absurd h List.not_mem_nil⟩⟩⟩⟩
theorem zf_k8t : ∀ e ∈ zf_k8, zf_k8O e := List.forall_mem_append.mpr ⟨zf_k8t0, zf_k8t1⟩
/-- an entry by its class and its place in the pool -/
def zf_at {α : Type} (l : List (Nat × Nat × α)) (o i : Nat) : Option α := (l.find? (fun e => e.1 == o && e.2.1 == i)).map (fun e => e.2.2)
theorem zf_at_in {α : Type} {l : List (Nat × Nat × α)} {o i : Nat} {v : α} (h : zf_at l o i = some v) : (o, i, v) ∈ l := by
  unfold zf_at at h
  cases hf : l.find? (fun e => e.1 == o && e.2.1 == i) with
  | none => rw [hf] at h; cases h
  | some e =>
    rw [hf] at h
    have h1 := List.find?_some hf
    have h2 := List.mem_of_find?_eq_some hf
    obtain ⟨a, b, c⟩ := e
    simp only [Bool.and_eq_true, beq_iff_eq] at h1
    obtain ⟨rfl, rfl⟩ := h1
    cases h
    exact h2
theorem zf_ml_0_3 : zf_at zf_ml 0 3 = some (3, 0) := by decide +kernel
theorem zf_ml_0_25 : zf_at zf_ml 0 25 = some (0, 9) := by decide +kernel
theorem zf_ml_0_31 : zf_at zf_ml 0 31 = some (1, 10) := by decide +kernel
theorem zf_ml_0_44 : zf_at zf_ml 0 44 = some (0, 13) := by decide +kernel
theorem zf_ml_0_48 : zf_at zf_ml 0 48 = some (0, 14) := by decide +kernel
theorem zf_ml_0_52 : zf_at zf_ml 0 52 = some (0, 15) := by decide +kernel
theorem zf_ml_0_56 : zf_at zf_ml 0 56 = some (0, 45) := by decide +kernel
theorem zf_ml_0_62 : zf_at zf_ml 0 62 = some (0, 47) := by decide +kernel
theorem zf_ml_0_66 : zf_at zf_ml 0 66 = some (0, 16) := by decide +kernel
theorem zf_ml_0_69 : zf_at zf_ml 0 69 = some (0, 17) := by decide +kernel
theorem zf_ml_0_72 : zf_at zf_ml 0 72 = some (0, 2) := by decide +kernel
theorem zf_ml_0_76 : zf_at zf_ml 0 76 = some (1, 11) := by decide +kernel
theorem zf_ml_0_80 : zf_at zf_ml 0 80 = some (1, 12) := by decide +kernel
theorem zf_ml_1_3 : zf_at zf_ml 1 3 = some (3, 0) := by decide +kernel
theorem zf_ml_1_34 : zf_at zf_ml 1 34 = some (7, 40) := by decide +kernel
theorem zf_ml_1_35 : zf_at zf_ml 1 35 = some (0, 4) := by decide +kernel
theorem zf_ml_1_39 : zf_at zf_ml 1 39 = some (1, 165) := by decide +kernel
theorem zf_ml_2_3 : zf_at zf_ml 2 3 = some (3, 0) := by decide +kernel
theorem zf_ml_2_46 : zf_at zf_ml 2 46 = some (0, 38) := by decide +kernel
theorem zf_ml_2_56 : zf_at zf_ml 2 56 = some (1, 11) := by decide +kernel
theorem zf_ml_2_60 : zf_at zf_ml 2 60 = some (1, 12) := by decide +kernel
theorem zf_ml_2_68 : zf_at zf_ml 2 68 = some (0, 18) := by decide +kernel
theorem zf_ml_2_72 : zf_at zf_ml 2 72 = some (1, 20) := by decide +kernel
theorem zf_ml_2_76 : zf_at zf_ml 2 76 = some (0, 19) := by decide +kernel
theorem zf_ml_2_79 : zf_at zf_ml 2 79 = some (0, 21) := by decide +kernel
theorem zf_ml_2_86 : zf_at zf_ml 2 86 = some (5, 0) := by decide +kernel
theorem zf_ml_3_3 : zf_at zf_ml 3 3 = some (3, 0) := by decide +kernel
theorem zf_ml_3_31 : zf_at zf_ml 3 31 = some (0, 25) := by decide +kernel
theorem zf_ml_4_3 : zf_at zf_ml 4 3 = some (3, 0) := by decide +kernel
theorem zf_ml_4_31 : zf_at zf_ml 4 31 = some (7, 22) := by decide +kernel
theorem zf_ml_4_50 : zf_at zf_ml 4 50 = some (0, 30) := by decide +kernel
theorem zf_ml_4_53 : zf_at zf_ml 4 53 = some (1, 31) := by decide +kernel
theorem zf_ml_4_57 : zf_at zf_ml 4 57 = some (0, 9) := by decide +kernel
theorem zf_ml_4_61 : zf_at zf_ml 4 61 = some (1, 10) := by decide +kernel
theorem zf_ml_4_65 : zf_at zf_ml 4 65 = some (0, 34) := by decide +kernel
theorem zf_ml_4_69 : zf_at zf_ml 4 69 = some (0, 24) := by decide +kernel
theorem zf_ml_4_74 : zf_at zf_ml 4 74 = some (4, 0) := by decide +kernel
theorem zf_ml_4_86 : zf_at zf_ml 4 86 = some (0, 32) := by decide +kernel
theorem zf_ml_4_92 : zf_at zf_ml 4 92 = some (0, 23) := by decide +kernel
theorem zf_ml_4_101 : zf_at zf_ml 4 101 = some (0, 13) := by decide +kernel
theorem zf_ml_4_105 : zf_at zf_ml 4 105 = some (0, 33) := by decide +kernel
theorem zf_ml_4_109 : zf_at zf_ml 4 109 = some (0, 14) := by decide +kernel
theorem zf_ml_4_113 : zf_at zf_ml 4 113 = some (0, 15) := by decide +kernel
theorem zf_ml_4_117 : zf_at zf_ml 4 117 = some (0, 16) := by decide +kernel
theorem zf_ml_4_121 : zf_at zf_ml 4 121 = some (0, 17) := by decide +kernel
theorem zf_ml_4_124 : zf_at zf_ml 4 124 = some (1, 11) := by decide +kernel
theorem zf_ml_5_3 : zf_at zf_ml 5 3 = some (3, 0) := by decide +kernel
theorem zf_ml_5_25 : zf_at zf_ml 5 25 = some (0, 37) := by decide +kernel
theorem zf_ml_6_3 : zf_at zf_ml 6 3 = some (3, 0) := by decide +kernel
theorem zf_ml_6_19 : zf_at zf_ml 6 19 = some (8, 86) := by decide +kernel
theorem zf_ml_7_3 : zf_at zf_ml 7 3 = some (3, 0) := by decide +kernel
theorem zf_ml_7_26 : zf_at zf_ml 7 26 = some (0, 45) := by decide +kernel
theorem zf_ml_8_1 : zf_at zf_ml 8 1 = some (3, 0) := by decide +kernel
theorem zf_ml_8_9 : zf_at zf_ml 8 9 = some (7, 35) := by decide +kernel
theorem zf_ml_8_24 : zf_at zf_ml 8 24 = some (7, 6) := by decide +kernel
theorem zf_ml_8_31 : zf_at zf_ml 8 31 = some (7, 26) := by decide +kernel
theorem zf_ml_8_38 : zf_at zf_ml 8 38 = some (2, 3) := by decide +kernel
theorem zf_ml_8_49 : zf_at zf_ml 8 49 = some (7, 0) := by decide +kernel
theorem zf_ml_8_76 : zf_at zf_ml 8 76 = some (7, 40) := by decide +kernel
theorem zf_ml_8_77 : zf_at zf_ml 8 77 = some (7, 43) := by decide +kernel
theorem zf_ml_8_78 : zf_at zf_ml 8 78 = some (1, 36) := by decide +kernel
theorem zf_ml_8_85 : zf_at zf_ml 8 85 = some (0, 39) := by decide +kernel
theorem zf_ml_8_89 : zf_at zf_ml 8 89 = some (0, 37) := by decide +kernel
theorem zf_ml_8_93 : zf_at zf_ml 8 93 = some (0, 38) := by decide +kernel
theorem zf_ml_8_97 : zf_at zf_ml 8 97 = some (0, 90) := by decide +kernel
theorem zf_ml_8_101 : zf_at zf_ml 8 101 = some (1, 84) := by decide +kernel
theorem zf_ml_8_104 : zf_at zf_ml 8 104 = some (0, 41) := by decide +kernel
theorem zf_ml_8_108 : zf_at zf_ml 8 108 = some (1, 86) := by decide +kernel
theorem zf_ml_8_111 : zf_at zf_ml 8 111 = some (0, 42) := by decide +kernel
theorem zf_ml_8_115 : zf_at zf_ml 8 115 = some (1, 85) := by decide +kernel
theorem zf_ml_8_119 : zf_at zf_ml 8 119 = some (0, 98) := by decide +kernel
theorem zf_ml_8_127 : zf_at zf_ml 8 127 = some (1, 92) := by decide +kernel
theorem zf_ml_8_135 : zf_at zf_ml 8 135 = some (0, 29) := by decide +kernel
theorem zf_ml_8_139 : zf_at zf_ml 8 139 = some (1, 89) := by decide +kernel
theorem zf_ml_8_142 : zf_at zf_ml 8 142 = some (0, 28) := by decide +kernel
theorem zf_ml_8_153 : zf_at zf_ml 8 153 = some (0, 59) := by decide +kernel
theorem zf_ml_8_157 : zf_at zf_ml 8 157 = some (0, 7) := by decide +kernel
theorem zf_ml_8_160 : zf_at zf_ml 8 160 = some (0, 96) := by decide +kernel
theorem zf_ml_8_164 : zf_at zf_ml 8 164 = some (0, 97) := by decide +kernel
theorem zf_ml_8_168 : zf_at zf_ml 8 168 = some (0, 27) := by decide +kernel
theorem zf_ml_8_182 : zf_at zf_ml 8 182 = some (0, 100) := by decide +kernel
theorem zf_ml_8_185 : zf_at zf_ml 8 185 = some (0, 5) := by decide +kernel
theorem zf_ml_8_188 : zf_at zf_ml 8 188 = some (0, 4) := by decide +kernel
theorem zf_ml_8_191 : zf_at zf_ml 8 191 = some (0, 99) := by decide +kernel
theorem zf_ml_8_196 : zf_at zf_ml 8 196 = some (5, 0) := by decide +kernel
theorem zf_ml_8_201 : zf_at zf_ml 8 201 = some (0, 101) := by decide +kernel
theorem zf_ml_8_204 : zf_at zf_ml 8 204 = some (1, 87) := by decide +kernel
theorem zf_ml_8_211 : zf_at zf_ml 8 211 = some (0, 93) := by decide +kernel
theorem zf_ml_8_214 : zf_at zf_ml 8 214 = some (0, 95) := by decide +kernel
theorem zf_ml_8_217 : zf_at zf_ml 8 217 = some (0, 1) := by decide +kernel
theorem zf_ml_8_233 : zf_at zf_ml 8 233 = some (1, 88) := by decide +kernel
theorem zf_ml_8_236 : zf_at zf_ml 8 236 = some (0, 44) := by decide +kernel
theorem zf_ml_8_240 : zf_at zf_ml 8 240 = some (1, 94) := by decide +kernel
theorem zf_ml_8_244 : zf_at zf_ml 8 244 = some (0, 48) := by decide +kernel
theorem zf_ml_8_247 : zf_at zf_ml 8 247 = some (0, 47) := by decide +kernel
theorem zf_ml_8_253 : zf_at zf_ml 8 253 = some (0, 46) := by decide +kernel
theorem zf_ml_8_259 : zf_at zf_ml 8 259 = some (6, 0) := by decide +kernel
theorem zf_ml_8_270 : zf_at zf_ml 8 270 = some (0, 82) := by decide +kernel
theorem zf_ml_8_273 : zf_at zf_ml 8 273 = some (0, 51) := by decide +kernel
theorem zf_ml_8_276 : zf_at zf_ml 8 276 = some (0, 54) := by decide +kernel
theorem zf_ml_8_279 : zf_at zf_ml 8 279 = some (0, 75) := by decide +kernel
theorem zf_ml_8_282 : zf_at zf_ml 8 282 = some (0, 91) := by decide +kernel
theorem zf_ml_8_287 : zf_at zf_ml 8 287 = some (0, 45) := by decide +kernel
theorem zf_ml_8_288 : zf_at zf_ml 8 288 = some (0, 8) := by decide +kernel
theorem zf_ml_9_1 : zf_at zf_ml 9 1 = some (3, 0) := by decide +kernel
theorem zf_ml_9_107 : zf_at zf_ml 9 107 = some (1, 103) := by decide +kernel
theorem zf_ml_9_122 : zf_at zf_ml 9 122 = some (1, 105) := by decide +kernel
theorem zf_ml_9_126 : zf_at zf_ml 9 126 = some (0, 106) := by decide +kernel
theorem zf_ml_9_134 : zf_at zf_ml 9 134 = some (0, 110) := by decide +kernel
theorem zf_ml_9_138 : zf_at zf_ml 9 138 = some (1, 111) := by decide +kernel
theorem zf_ml_9_151 : zf_at zf_ml 9 151 = some (0, 119) := by decide +kernel
theorem zf_ml_9_155 : zf_at zf_ml 9 155 = some (0, 118) := by decide +kernel
theorem zf_ml_9_161 : zf_at zf_ml 9 161 = some (0, 123) := by decide +kernel
theorem zf_ml_9_172 : zf_at zf_ml 9 172 = some (0, 117) := by decide +kernel
theorem zf_ml_9_176 : zf_at zf_ml 9 176 = some (0, 125) := by decide +kernel
theorem zf_ml_9_180 : zf_at zf_ml 9 180 = some (0, 126) := by decide +kernel
theorem zf_ml_9_184 : zf_at zf_ml 9 184 = some (0, 116) := by decide +kernel
theorem zf_ml_9_190 : zf_at zf_ml 9 190 = some (0, 128) := by decide +kernel
theorem zf_ml_9_196 : zf_at zf_ml 9 196 = some (0, 124) := by decide +kernel
theorem zf_ml_9_199 : zf_at zf_ml 9 199 = some (0, 120) := by decide +kernel
theorem zf_ml_9_202 : zf_at zf_ml 9 202 = some (0, 121) := by decide +kernel
theorem zf_ml_9_205 : zf_at zf_ml 9 205 = some (0, 127) := by decide +kernel
theorem zf_ml_9_209 : zf_at zf_ml 9 209 = some (0, 122) := by decide +kernel
theorem zf_ml_9_213 : zf_at zf_ml 9 213 = some (0, 115) := by decide +kernel
theorem zf_ml_9_216 : zf_at zf_ml 9 216 = some (0, 129) := by decide +kernel
theorem zf_ml_9_221 : zf_at zf_ml 9 221 = some (0, 130) := by decide +kernel
theorem zf_ml_9_224 : zf_at zf_ml 9 224 = some (1, 104) := by decide +kernel
theorem zf_ml_9_228 : zf_at zf_ml 9 228 = some (0, 131) := by decide +kernel
theorem zf_ml_9_232 : zf_at zf_ml 9 232 = some (0, 135) := by decide +kernel
theorem zf_ml_9_239 : zf_at zf_ml 9 239 = some (0, 145) := by decide +kernel
theorem zf_ml_9_245 : zf_at zf_ml 9 245 = some (0, 146) := by decide +kernel
theorem zf_ml_9_253 : zf_at zf_ml 9 253 = some (1, 155) := by decide +kernel
theorem zf_ml_9_256 : zf_at zf_ml 9 256 = some (0, 154) := by decide +kernel
theorem zf_ml_9_267 : zf_at zf_ml 9 267 = some (0, 158) := by decide +kernel
theorem zf_ml_9_273 : zf_at zf_ml 9 273 = some (0, 163) := by decide +kernel
theorem zf_ml_10_9 : zf_at zf_ml 10 9 = some (2, 49) := by decide +kernel
theorem zf_ml_10_12 : zf_at zf_ml 10 12 = some (2, 102) := by decide +kernel
theorem zf_ml_10_13 : zf_at zf_ml 10 13 = some (0, 50) := by decide +kernel
theorem zf_ml_10_17 : zf_at zf_ml 10 17 = some (0, 107) := by decide +kernel
theorem zf_ml_10_18 : zf_at zf_ml 10 18 = some (0, 51) := by decide +kernel
theorem zf_ml_10_22 : zf_at zf_ml 10 22 = some (0, 108) := by decide +kernel
theorem zf_ml_10_23 : zf_at zf_ml 10 23 = some (0, 52) := by decide +kernel
theorem zf_ml_10_27 : zf_at zf_ml 10 27 = some (0, 109) := by decide +kernel
theorem zf_ml_10_28 : zf_at zf_ml 10 28 = some (0, 53) := by decide +kernel
theorem zf_ml_10_32 : zf_at zf_ml 10 32 = some (0, 112) := by decide +kernel
theorem zf_ml_10_33 : zf_at zf_ml 10 33 = some (0, 54) := by decide +kernel
theorem zf_ml_10_36 : zf_at zf_ml 10 36 = some (0, 113) := by decide +kernel
theorem zf_ml_10_37 : zf_at zf_ml 10 37 = some (0, 55) := by decide +kernel
theorem zf_ml_10_40 : zf_at zf_ml 10 40 = some (0, 114) := by decide +kernel
theorem zf_ml_10_41 : zf_at zf_ml 10 41 = some (0, 56) := by decide +kernel
theorem zf_ml_10_45 : zf_at zf_ml 10 45 = some (0, 132) := by decide +kernel
theorem zf_ml_10_46 : zf_at zf_ml 10 46 = some (0, 57) := by decide +kernel
theorem zf_ml_10_50 : zf_at zf_ml 10 50 = some (0, 133) := by decide +kernel
theorem zf_ml_10_51 : zf_at zf_ml 10 51 = some (0, 58) := by decide +kernel
theorem zf_ml_10_55 : zf_at zf_ml 10 55 = some (0, 134) := by decide +kernel
theorem zf_ml_10_56 : zf_at zf_ml 10 56 = some (0, 59) := by decide +kernel
theorem zf_ml_10_59 : zf_at zf_ml 10 59 = some (0, 135) := by decide +kernel
theorem zf_ml_10_60 : zf_at zf_ml 10 60 = some (0, 60) := by decide +kernel
theorem zf_ml_10_64 : zf_at zf_ml 10 64 = some (0, 136) := by decide +kernel
theorem zf_ml_10_65 : zf_at zf_ml 10 65 = some (0, 61) := by decide +kernel
theorem zf_ml_10_68 : zf_at zf_ml 10 68 = some (0, 137) := by decide +kernel
theorem zf_ml_10_69 : zf_at zf_ml 10 69 = some (0, 62) := by decide +kernel
theorem zf_ml_10_72 : zf_at zf_ml 10 72 = some (0, 138) := by decide +kernel
theorem zf_ml_10_73 : zf_at zf_ml 10 73 = some (0, 63) := by decide +kernel
theorem zf_ml_10_76 : zf_at zf_ml 10 76 = some (0, 139) := by decide +kernel
theorem zf_ml_10_77 : zf_at zf_ml 10 77 = some (0, 64) := by decide +kernel
theorem zf_ml_10_81 : zf_at zf_ml 10 81 = some (0, 140) := by decide +kernel
theorem zf_ml_10_82 : zf_at zf_ml 10 82 = some (0, 65) := by decide +kernel
theorem zf_ml_10_85 : zf_at zf_ml 10 85 = some (0, 141) := by decide +kernel
theorem zf_ml_10_86 : zf_at zf_ml 10 86 = some (0, 66) := by decide +kernel
theorem zf_ml_10_89 : zf_at zf_ml 10 89 = some (0, 142) := by decide +kernel
theorem zf_ml_10_90 : zf_at zf_ml 10 90 = some (0, 67) := by decide +kernel
theorem zf_ml_10_93 : zf_at zf_ml 10 93 = some (0, 143) := by decide +kernel
theorem zf_ml_10_94 : zf_at zf_ml 10 94 = some (0, 68) := by decide +kernel
theorem zf_ml_10_97 : zf_at zf_ml 10 97 = some (0, 144) := by decide +kernel
theorem zf_ml_10_98 : zf_at zf_ml 10 98 = some (0, 69) := by decide +kernel
theorem zf_ml_10_101 : zf_at zf_ml 10 101 = some (0, 147) := by decide +kernel
theorem zf_ml_10_102 : zf_at zf_ml 10 102 = some (0, 70) := by decide +kernel
theorem zf_ml_10_105 : zf_at zf_ml 10 105 = some (0, 148) := by decide +kernel
theorem zf_ml_10_106 : zf_at zf_ml 10 106 = some (0, 71) := by decide +kernel
theorem zf_ml_10_109 : zf_at zf_ml 10 109 = some (0, 149) := by decide +kernel
theorem zf_ml_10_110 : zf_at zf_ml 10 110 = some (0, 72) := by decide +kernel
theorem zf_ml_10_113 : zf_at zf_ml 10 113 = some (0, 150) := by decide +kernel
theorem zf_ml_10_114 : zf_at zf_ml 10 114 = some (0, 73) := by decide +kernel
theorem zf_ml_10_117 : zf_at zf_ml 10 117 = some (0, 151) := by decide +kernel
theorem zf_ml_10_118 : zf_at zf_ml 10 118 = some (0, 74) := by decide +kernel
theorem zf_ml_10_121 : zf_at zf_ml 10 121 = some (0, 152) := by decide +kernel
theorem zf_ml_10_122 : zf_at zf_ml 10 122 = some (0, 75) := by decide +kernel
theorem zf_ml_10_125 : zf_at zf_ml 10 125 = some (0, 153) := by decide +kernel
theorem zf_ml_10_126 : zf_at zf_ml 10 126 = some (0, 76) := by decide +kernel
theorem zf_ml_10_129 : zf_at zf_ml 10 129 = some (0, 156) := by decide +kernel
theorem zf_ml_10_130 : zf_at zf_ml 10 130 = some (0, 77) := by decide +kernel
theorem zf_ml_10_133 : zf_at zf_ml 10 133 = some (0, 157) := by decide +kernel
theorem zf_ml_10_134 : zf_at zf_ml 10 134 = some (0, 78) := by decide +kernel
theorem zf_ml_10_137 : zf_at zf_ml 10 137 = some (0, 159) := by decide +kernel
theorem zf_ml_10_138 : zf_at zf_ml 10 138 = some (0, 79) := by decide +kernel
theorem zf_ml_10_141 : zf_at zf_ml 10 141 = some (0, 160) := by decide +kernel
theorem zf_ml_10_142 : zf_at zf_ml 10 142 = some (0, 80) := by decide +kernel
theorem zf_ml_10_146 : zf_at zf_ml 10 146 = some (0, 161) := by decide +kernel
theorem zf_ml_10_147 : zf_at zf_ml 10 147 = some (0, 81) := by decide +kernel
theorem zf_ml_10_150 : zf_at zf_ml 10 150 = some (0, 162) := by decide +kernel
theorem zf_ml_10_151 : zf_at zf_ml 10 151 = some (0, 82) := by decide +kernel
theorem zf_ml_10_154 : zf_at zf_ml 10 154 = some (0, 163) := by decide +kernel
theorem zf_ml_10_155 : zf_at zf_ml 10 155 = some (0, 83) := by decide +kernel
theorem zf_ml_10_158 : zf_at zf_ml 10 158 = some (0, 164) := by decide +kernel
theorem zf_fl_0_9 : zf_at zf_fl 0 9 = some (0, 0) := by decide +kernel
theorem zf_fl_0_15 : zf_at zf_fl 0 15 = some (0, 1) := by decide +kernel
theorem zf_fl_0_18 : zf_at zf_fl 0 18 = some (0, 2) := by decide +kernel
theorem zf_fl_0_21 : zf_at zf_fl 0 21 = some (0, 3) := by decide +kernel
theorem zf_fl_0_35 : zf_at zf_fl 0 35 = some (2, 8) := by decide +kernel
theorem zf_fl_0_38 : zf_at zf_fl 0 38 = some (2, 7) := by decide +kernel
theorem zf_fl_0_41 : zf_at zf_fl 0 41 = some (2, 6) := by decide +kernel
theorem zf_fl_1_11 : zf_at zf_fl 1 11 = some (1, 0) := by decide +kernel
theorem zf_fl_1_17 : zf_at zf_fl 1 17 = some (1, 1) := by decide +kernel
theorem zf_fl_1_21 : zf_at zf_fl 1 21 = some (1, 2) := by decide +kernel
theorem zf_fl_1_24 : zf_at zf_fl 1 24 = some (1, 3) := by decide +kernel
theorem zf_fl_1_28 : zf_at zf_fl 1 28 = some (1, 4) := by decide +kernel
theorem zf_fl_1_31 : zf_at zf_fl 1 31 = some (1, 5) := by decide +kernel
theorem zf_fl_2_9 : zf_at zf_fl 2 9 = some (2, 0) := by decide +kernel
theorem zf_fl_2_15 : zf_at zf_fl 2 15 = some (2, 1) := by decide +kernel
theorem zf_fl_2_18 : zf_at zf_fl 2 18 = some (2, 2) := by decide +kernel
theorem zf_fl_2_21 : zf_at zf_fl 2 21 = some (2, 3) := by decide +kernel
theorem zf_fl_2_24 : zf_at zf_fl 2 24 = some (2, 4) := by decide +kernel
theorem zf_fl_2_27 : zf_at zf_fl 2 27 = some (2, 5) := by decide +kernel
theorem zf_fl_2_30 : zf_at zf_fl 2 30 = some (2, 6) := by decide +kernel
theorem zf_fl_2_33 : zf_at zf_fl 2 33 = some (2, 7) := by decide +kernel
theorem zf_fl_2_37 : zf_at zf_fl 2 37 = some (2, 8) := by decide +kernel
theorem zf_fl_2_40 : zf_at zf_fl 2 40 = some (2, 9) := by decide +kernel
theorem zf_fl_2_43 : zf_at zf_fl 2 43 = some (2, 10) := by decide +kernel
theorem zf_fl_3_9 : zf_at zf_fl 3 9 = some (3, 0) := by decide +kernel
theorem zf_fl_3_15 : zf_at zf_fl 3 15 = some (3, 1) := by decide +kernel
theorem zf_fl_3_18 : zf_at zf_fl 3 18 = some (3, 2) := by decide +kernel
theorem zf_fl_3_22 : zf_at zf_fl 3 22 = some (3, 3) := by decide +kernel
theorem zf_fl_3_26 : zf_at zf_fl 3 26 = some (3, 4) := by decide +kernel
theorem zf_fl_4_9 : zf_at zf_fl 4 9 = some (4, 0) := by decide +kernel
theorem zf_fl_4_15 : zf_at zf_fl 4 15 = some (4, 1) := by decide +kernel
theorem zf_fl_4_19 : zf_at zf_fl 4 19 = some (4, 2) := by decide +kernel
theorem zf_fl_4_23 : zf_at zf_fl 4 23 = some (4, 3) := by decide +kernel
theorem zf_fl_4_26 : zf_at zf_fl 4 26 = some (4, 4) := by decide +kernel
theorem zf_fl_4_32 : zf_at zf_fl 4 32 = some (4, 5) := by decide +kernel
theorem zf_fl_4_36 : zf_at zf_fl 4 36 = some (4, 6) := by decide +kernel
theorem zf_fl_4_39 : zf_at zf_fl 4 39 = some (4, 7) := by decide +kernel
theorem zf_fl_4_42 : zf_at zf_fl 4 42 = some (2, 8) := by decide +kernel
theorem zf_fl_4_47 : zf_at zf_fl 4 47 = some (2, 7) := by decide +kernel
theorem zf_fl_4_73 : zf_at zf_fl 4 73 = some (3, 2) := by decide +kernel
theorem zf_fl_4_82 : zf_at zf_fl 4 82 = some (2, 6) := by decide +kernel
theorem zf_fl_4_95 : zf_at zf_fl 4 95 = some (3, 0) := by decide +kernel
theorem zf_fl_4_98 : zf_at zf_fl 4 98 = some (3, 1) := by decide +kernel
theorem zf_fl_5_11 : zf_at zf_fl 5 11 = some (5, 0) := by decide +kernel
theorem zf_fl_5_15 : zf_at zf_fl 5 15 = some (5, 1) := by decide +kernel
theorem zf_fl_6_9 : zf_at zf_fl 6 9 = some (6, 0) := by decide +kernel
theorem zf_fl_6_15 : zf_at zf_fl 6 15 = some (6, 1) := by decide +kernel
theorem zf_fl_7_9 : zf_at zf_fl 7 9 = some (7, 0) := by decide +kernel
theorem zf_fl_7_15 : zf_at zf_fl 7 15 = some (7, 1) := by decide +kernel
theorem zf_fl_7_19 : zf_at zf_fl 7 19 = some (7, 2) := by decide +kernel
theorem zf_fl_7_22 : zf_at zf_fl 7 22 = some (7, 3) := by decide +kernel
theorem zf_fl_8_10 : zf_at zf_fl 8 10 = some (8, 0) := by decide +kernel
theorem zf_fl_8_18 : zf_at zf_fl 8 18 = some (8, 1) := by decide +kernel
theorem zf_fl_8_25 : zf_at zf_fl 8 25 = some (8, 2) := by decide +kernel
theorem zf_fl_8_32 : zf_at zf_fl 8 32 = some (8, 3) := by decide +kernel
theorem zf_fl_8_39 : zf_at zf_fl 8 39 = some (8, 4) := by decide +kernel
theorem zf_fl_8_43 : zf_at zf_fl 8 43 = some (8, 5) := by decide +kernel
theorem zf_fl_8_50 : zf_at zf_fl 8 50 = some (8, 6) := by decide +kernel
theorem zf_fl_8_56 : zf_at zf_fl 8 56 = some (8, 7) := by decide +kernel
theorem zf_fl_8_60 : zf_at zf_fl 8 60 = some (8, 8) := by decide +kernel
theorem zf_fl_8_64 : zf_at zf_fl 8 64 = some (8, 9) := by decide +kernel
theorem zf_fl_8_67 : zf_at zf_fl 8 67 = some (8, 10) := by decide +kernel
theorem zf_fl_8_70 : zf_at zf_fl 8 70 = some (8, 11) := by decide +kernel
theorem zf_fl_8_73 : zf_at zf_fl 8 73 = some (8, 12) := by decide +kernel
theorem zf_fl_8_82 : zf_at zf_fl 8 82 = some (5, 1) := by decide +kernel
theorem zf_fl_8_118 : zf_at zf_fl 8 118 = some (6, 1) := by decide +kernel
theorem zf_fl_8_123 : zf_at zf_fl 8 123 = some (4, 0) := by decide +kernel
theorem zf_fl_8_131 : zf_at zf_fl 8 131 = some (4, 2) := by decide +kernel
theorem zf_fl_8_146 : zf_at zf_fl 8 146 = some (4, 1) := by decide +kernel
theorem zf_fl_8_149 : zf_at zf_fl 8 149 = some (4, 3) := by decide +kernel
theorem zf_fl_8_172 : zf_at zf_fl 8 172 = some (1, 3) := by decide +kernel
theorem zf_fl_8_173 : zf_at zf_fl 8 173 = some (1, 0) := by decide +kernel
theorem zf_fl_8_176 : zf_at zf_fl 8 176 = some (1, 4) := by decide +kernel
theorem zf_fl_8_179 : zf_at zf_fl 8 179 = some (1, 5) := by decide +kernel
theorem zf_fl_8_207 : zf_at zf_fl 8 207 = some (7, 3) := by decide +kernel
theorem zf_fl_8_221 : zf_at zf_fl 8 221 = some (0, 0) := by decide +kernel
theorem zf_fl_8_224 : zf_at zf_fl 8 224 = some (0, 1) := by decide +kernel
theorem zf_fl_8_227 : zf_at zf_fl 8 227 = some (0, 2) := by decide +kernel
theorem zf_fl_8_230 : zf_at zf_fl 8 230 = some (0, 3) := by decide +kernel
theorem zf_fl_8_239 : zf_at zf_fl 8 239 = some (7, 2) := by decide +kernel
theorem zf_fl_8_250 : zf_at zf_fl 8 250 = some (7, 1) := by decide +kernel
theorem zf_fl_8_256 : zf_at zf_fl 8 256 = some (7, 0) := by decide +kernel
theorem zf_fl_8_292 : zf_at zf_fl 8 292 = some (1, 1) := by decide +kernel
theorem zf_fl_8_295 : zf_at zf_fl 8 295 = some (1, 2) := by decide +kernel
theorem zf_fl_9_7 : zf_at zf_fl 9 7 = some (9, 1) := by decide +kernel
theorem zf_fl_9_13 : zf_at zf_fl 9 13 = some (9, 2) := by decide +kernel
theorem zf_fl_9_16 : zf_at zf_fl 9 16 = some (9, 3) := by decide +kernel
theorem zf_fl_9_20 : zf_at zf_fl 9 20 = some (9, 5) := by decide +kernel
theorem zf_fl_9_23 : zf_at zf_fl 9 23 = some (9, 6) := by decide +kernel
theorem zf_fl_9_26 : zf_at zf_fl 9 26 = some (9, 7) := by decide +kernel
theorem zf_fl_9_29 : zf_at zf_fl 9 29 = some (9, 10) := by decide +kernel
theorem zf_fl_9_32 : zf_at zf_fl 9 32 = some (9, 11) := by decide +kernel
theorem zf_fl_9_35 : zf_at zf_fl 9 35 = some (9, 12) := by decide +kernel
theorem zf_fl_9_39 : zf_at zf_fl 9 39 = some (9, 14) := by decide +kernel
theorem zf_fl_9_43 : zf_at zf_fl 9 43 = some (9, 15) := by decide +kernel
theorem zf_fl_9_46 : zf_at zf_fl 9 46 = some (9, 17) := by decide +kernel
theorem zf_fl_9_49 : zf_at zf_fl 9 49 = some (9, 18) := by decide +kernel
theorem zf_fl_9_52 : zf_at zf_fl 9 52 = some (9, 19) := by decide +kernel
theorem zf_fl_9_55 : zf_at zf_fl 9 55 = some (9, 20) := by decide +kernel
theorem zf_fl_9_58 : zf_at zf_fl 9 58 = some (9, 21) := by decide +kernel
theorem zf_fl_9_61 : zf_at zf_fl 9 61 = some (9, 22) := by decide +kernel
theorem zf_fl_9_64 : zf_at zf_fl 9 64 = some (9, 24) := by decide +kernel
theorem zf_fl_9_67 : zf_at zf_fl 9 67 = some (9, 26) := by decide +kernel
theorem zf_fl_9_70 : zf_at zf_fl 9 70 = some (9, 27) := by decide +kernel
theorem zf_fl_9_73 : zf_at zf_fl 9 73 = some (9, 28) := by decide +kernel
theorem zf_fl_9_76 : zf_at zf_fl 9 76 = some (9, 29) := by decide +kernel
theorem zf_fl_9_79 : zf_at zf_fl 9 79 = some (9, 32) := by decide +kernel
theorem zf_fl_9_82 : zf_at zf_fl 9 82 = some (9, 33) := by decide +kernel
theorem zf_fl_9_85 : zf_at zf_fl 9 85 = some (9, 34) := by decide +kernel
theorem zf_fl_9_88 : zf_at zf_fl 9 88 = some (9, 35) := by decide +kernel
theorem zf_fl_9_91 : zf_at zf_fl 9 91 = some (9, 36) := by decide +kernel
theorem zf_fl_9_94 : zf_at zf_fl 9 94 = some (9, 37) := by decide +kernel
theorem zf_fl_9_97 : zf_at zf_fl 9 97 = some (9, 38) := by decide +kernel
theorem zf_fl_9_100 : zf_at zf_fl 9 100 = some (9, 39) := by decide +kernel
theorem zf_fl_9_119 : zf_at zf_fl 9 119 = some (9, 0) := by decide +kernel
theorem zf_fl_9_142 : zf_at zf_fl 9 142 = some (9, 4) := by decide +kernel
theorem zf_fl_9_145 : zf_at zf_fl 9 145 = some (9, 8) := by decide +kernel
theorem zf_fl_9_148 : zf_at zf_fl 9 148 = some (9, 9) := by decide +kernel
theorem zf_fl_9_169 : zf_at zf_fl 9 169 = some (9, 16) := by decide +kernel
theorem zf_fl_9_187 : zf_at zf_fl 9 187 = some (9, 23) := by decide +kernel
theorem zf_fl_9_193 : zf_at zf_fl 9 193 = some (9, 13) := by decide +kernel
theorem zf_fl_9_236 : zf_at zf_fl 9 236 = some (9, 25) := by decide +kernel
theorem zf_fl_9_242 : zf_at zf_fl 9 242 = some (9, 30) := by decide +kernel
theorem zf_fl_9_250 : zf_at zf_fl 9 250 = some (9, 31) := by decide +kernel
theorem zf_fl_9_262 : zf_at zf_fl 9 262 = some (9, 40) := by decide +kernel
theorem zf_cl_1_9 : zf_at zf_cl 1 9 = some (6) := by decide +kernel
theorem zf_cl_4_29 : zf_at zf_cl 4 29 = some (3) := by decide +kernel
theorem zf_cl_8_7 : zf_at zf_cl 8 7 = some (5) := by decide +kernel
theorem zf_cl_8_16 : zf_at zf_cl 8 16 = some (6) := by decide +kernel
theorem zf_cl_8_22 : zf_at zf_cl 8 22 = some (2) := by decide +kernel
theorem zf_cl_8_29 : zf_at zf_cl 8 29 = some (4) := by decide +kernel
theorem zf_cl_8_36 : zf_at zf_cl 8 36 = some (1) := by decide +kernel
theorem zf_cl_8_47 : zf_at zf_cl 8 47 = some (0) := by decide +kernel
theorem zf_cl_8_54 : zf_at zf_cl 8 54 = some (7) := by decide +kernel
theorem zf_cl_10_7 : zf_at zf_cl 10 7 = some (8) := by decide +kernel
theorem zf_cl_10_10 : zf_at zf_cl 10 10 = some (9) := by decide +kernel
theorem zf_sl_5_19 : zf_at zf_sl 5 19 = some (1000000) := by decide +kernel
theorem zf_sl_5_22 : zf_at zf_sl 5 22 = some (1000001) := by decide +kernel
theorem zf_k4_8_152 : zf_at zf_k4 8 152 = some (-2147483648) := by decide +kernel
theorem zf_k4_8_156 : zf_at zf_k4 8 156 = some (-2147483647) := by decide +kernel
theorem zf_k4_8_195 : zf_at zf_k4 8 195 = some (1000000) := by decide +kernel
theorem zf_k4_8_265 : zf_at zf_k4 8 265 = some (1103515245) := by decide +kernel
theorem zf_k4_9_231 : zf_at zf_k4 9 231 = some (-2147483648) := by decide +kernel
theorem zf_k4_9_235 : zf_at zf_k4 9 235 = some (-2147483647) := by decide +kernel
theorem zf_k4_9_270 : zf_at zf_k4 9 270 = some (1103515245) := by decide +kernel
theorem zf_k4_11_265 : zf_at zf_k4 11 265 = some (1431655765) := by decide +kernel
theorem zf_k4_11_266 : zf_at zf_k4 11 266 = some (858993459) := by decide +kernel
theorem zf_k4_11_267 : zf_at zf_k4 11 267 = some (252645135) := by decide +kernel
theorem zf_k8_2_52 : zf_at zf_k8 2 52 = some (133152) := by decide +kernel
theorem zf_k8_2_54 : zf_at zf_k8 2 54 = some (34904997888) := by decide +kernel
theorem zf_k8_2_64 : zf_at zf_k8 2 64 = some (32) := by decide +kernel
theorem zf_k8_2_66 : zf_at zf_k8 2 66 = some (-1) := by decide +kernel
theorem zf_k8_2_82 : zf_at zf_k8 2 82 = some (31) := by decide +kernel
theorem zf_k8_2_84 : zf_at zf_k8 2 84 = some (63) := by decide +kernel
theorem zf_k8_3_29 : zf_at zf_k8 3 29 = some (-7046029254386353131) := by decide +kernel
theorem zf_k8_4_80 : zf_at zf_k8 4 80 = some (6) := by decide +kernel
theorem zf_k8_4_90 : zf_at zf_k8 4 90 = some (10) := by decide +kernel
theorem zf_k8_8_266 : zf_at zf_k8 8 266 = some (17) := by decide +kernel
theorem zf_k8_8_268 : zf_at zf_k8 8 268 = some (31) := by decide +kernel
theorem zf_k8_8_285 : zf_at zf_k8 8 285 = some (-9223372036854775808) := by decide +kernel
theorem zf_k8_9_103 : zf_at zf_k8 9 103 = some (-9223372036854775808) := by decide +kernel
theorem zf_k8_9_105 : zf_at zf_k8 9 105 = some (2) := by decide +kernel
theorem zf_k8_9_111 : zf_at zf_k8 9 111 = some (20) := by decide +kernel
theorem zf_k8_9_113 : zf_at zf_k8 9 113 = some (6) := by decide +kernel
theorem zf_k8_9_115 : zf_at zf_k8 9 115 = some (9) := by decide +kernel
theorem zf_k8_9_117 : zf_at zf_k8 9 117 = some (19) := by decide +kernel
theorem zf_k8_9_130 : zf_at zf_k8 9 130 = some (5) := by decide +kernel
theorem zf_k8_9_132 : zf_at zf_k8 9 132 = some (-1) := by decide +kernel
theorem zf_k8_9_159 : zf_at zf_k8 9 159 = some (31) := by decide +kernel
theorem zf_k8_9_165 : zf_at zf_k8 9 165 = some (2654435761) := by decide +kernel
theorem zf_k8_9_167 : zf_at zf_k8 9 167 = some (2047) := by decide +kernel
theorem zf_k8_9_219 : zf_at zf_k8 9 219 = some (10) := by decide +kernel
theorem zf_k8_9_248 : zf_at zf_k8 9 248 = some (1000000) := by decide +kernel
theorem zf_k8_9_260 : zf_at zf_k8 9 260 = some (15) := by decide +kernel
theorem zf_k8_9_265 : zf_at zf_k8 9 265 = some (3) := by decide +kernel
theorem zf_k8_9_271 : zf_at zf_k8 9 271 = some (17) := by decide +kernel
theorem zf_cI (c : Nat) (h : c < 10) : Cond.instantiable (zf_cR c) (zf_cN c) ∈ zf_T ∧ Cond.initialized (zf_cR c) ∈ zf_T := by
  rcases (show c = 0 ∨ c = 1 ∨ c = 2 ∨ c = 3 ∨ c = 4 ∨ c = 5 ∨ c = 6 ∨ c = 7 ∨ c = 8 ∨ c = 9 by omega) with rfl | rfl | rfl | rfl | rfl | rfl | rfl | rfl | rfl | rfl
  · exact ⟨zf_m33, zf_m34⟩
  · exact ⟨zf_m27, zf_m28⟩
  · exact ⟨zf_m19, zf_m20⟩
  · exact ⟨zf_m76, zf_m77⟩
  · exact ⟨zf_m23, zf_m24⟩
  · exact ⟨zf_m13, zf_m14⟩
  · exact ⟨zf_m43, zf_m44⟩
  · exact ⟨zf_m45, zf_m46⟩
  · exact ⟨zf_m1, zf_m2⟩
  · exact ⟨zf_m4, zf_m5⟩
