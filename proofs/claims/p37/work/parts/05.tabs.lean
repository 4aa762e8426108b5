/-- a class of ours by its number; 10: the law, 11: Integer -/
def zf_oR (o : Nat) : String := match o with
  | 0 => RX0
  | 1 => RX1
  | 2 => RX2
  | 3 => RX3
  | 4 => RX4
  | 5 => RX5
  | 6 => RX6
  | 7 => RX7
  | 8 => RX8
  | 10 => RL
  | 9 => RX0
  | _ => RX0
/-- a method: name, bytes, locals, answer, class, how many arguments (without this), 0 virtual 1 static 2 constructor, frames and words of locals that its calls need -/
abbrev zf_E : Type := MethodName × ByteArray × Nat × Option FieldType × Nat × Nat × Nat × Nat × Nat
def zf_mt0 : List zf_E := [(yX0_init, cX0_init, 1, none, 0, 0, 2, 1, 20), (yX0_run, cX0_run, 12, (some .boolean), 0, 2, 0, 3, 76), (yX0_keepLives, cX0_keepLives, 6, none, 0, 2, 0, 1, 22), (yX1_init, cX1_init, 2, none, 1, 0, 2, 2, 40), (yX0_init, cX0_init, 1, none, 0, 0, 2, 1, 20), (yX0_init, cX0_init, 1, none, 0, 0, 2, 1, 20), (yX2_init, cX2_init, 1, none, 2, 0, 2, 1, 20), (yX2_open, cX2_open, 4, none, 2, 3, 0, 0, 0), (yX2_seat, cX2_seat, 6, none, 2, 4, 0, 2, 43), (yX2_beginning, cX2_beginning, 5, (some .long), 2, 0, 0, 0, 0), (yX2_winner, cX2_winner, 2, (some .int), 2, 1, 1, 0, 0), (yX2_part, cX2_part, 3, (some .int), 2, 2, 1, 0, 0), (yX2_lifeOf, cX2_lifeOf, 1, (some .int), 2, 1, 1, 0, 0), (yX2_hasTurn, cX2_hasTurn, 6, (some .boolean), 2, 3, 0, 1, 22), (yX2_flees, cX2_flees, 4, (some .boolean), 2, 2, 0, 1, 22), (yX2_afterFlight, cX2_afterFlight, 4, (some .long), 2, 2, 0, 0, 0), (yX2_hits, cX2_hits, 2, (some .int), 2, 1, 0, 0, 0), (yX2_afterHit, cX2_afterHit, 5, (some .long), 2, 2, 0, 2, 52), (yX2_chosen, cX2_chosen, 9, (some .int), 2, 3, 0, 1, 22), (yX2_allStruck, cX2_allStruck, 8, (some .long), 2, 3, 0, 1, 25), (yX2_struck, cX2_struck, 6, (some .long), 2, 3, 1, 0, 0), (yX2_healed, cX2_healed, 6, (some .long), 2, 3, 0, 1, 22), (yX3_init, cX3_init, 1, none, 3, 0, 2, 1, 20), (yX3_empty, cX3_empty, 2, none, 3, 0, 0, 0, 0)]
def zf_mt1 : List zf_E := [(yX3_join, cX3_join, 8, (some .boolean), 3, 2, 0, 1, 25), (yX3_joinNew, cX3_joinNew, 6, (some .boolean), 3, 3, 0, 0, 0), (yX4_init, cX4_init, 1, none, 4, 0, 2, 2, 40), (yX4_reckon, cX4_reckon, 9, (some .boolean), 4, 1, 0, 4, 112), (yX4_waysLeft, cX4_waysLeft, 5, (some .long), 4, 3, 0, 0, 0), (yX0_init, cX0_init, 1, none, 0, 0, 2, 1, 20), (yX4_clear, cX4_clear, 2, none, 4, 0, 0, 1, 21), (yX4_powerOfSix, cX4_powerOfSix, 4, (some .long), 4, 1, 1, 0, 0), (yX4_reckonSlot, cX4_reckonSlot, 12, (some .boolean), 4, 4, 0, 3, 81), (yX4_pass, cX4_pass, 9, (some .boolean), 4, 5, 0, 2, 53), (yX4_tally, cX4_tally, 12, none, 4, 5, 0, 1, 22), (yX5_init, cX5_init, 1, none, 5, 0, 2, 1, 20), (yX5_fits, cX5_fits, 2, (some .boolean), 5, 2, 1, 0, 0), (yX5_has, cX5_has, 2, (some .boolean), 5, 1, 0, 0, 0), (yX5_number, cX5_number, 3, (some .int), 5, 2, 0, 1, 21), (yX5_change, cX5_change, 4, none, 5, 3, 0, 1, 21), (yX6_init, cX6_init, 1, none, 6, 0, 2, 1, 20), (yX6_become, cX6_become, 5, none, 6, 4, 0, 0, 0), (yX6_who, cX6_who, 2, (some .int), 6, 1, 0, 1, 20), (yX7_init, cX7_init, 1, none, 7, 0, 2, 1, 20), (yX7_renew, cX7_renew, 4, none, 7, 2, 0, 0, 0), (yX7_has, cX7_has, 2, (some .boolean), 7, 1, 0, 0, 0), (yX0_init, cX0_init, 1, none, 0, 0, 2, 1, 20), (yX7_item, cX7_item, 2, (some .int), 7, 1, 0, 1, 21)]
def zf_mt2 : List zf_E := [(yX7_store, cX7_store, 3, none, 7, 2, 0, 1, 21), (yX8_init, cX8_init, 2, none, 8, 0, 2, 3, 61), (yX8_fighter, cX8_fighter, 9, (some .int), 8, 6, 0, 2, 44), (yX0_init, cX0_init, 1, none, 0, 0, 2, 1, 20), (yX0_init, cX0_init, 1, none, 0, 0, 2, 1, 20), (yX8_side, cX8_side, 6, (some .int), 8, 4, 0, 3, 65), (yX0_init, cX0_init, 1, none, 0, 0, 2, 1, 20), (yX8_laws, cX8_laws, 5, (some .int), 8, 3, 0, 2, 40), (yX8_slots, cX8_slots, 1, (some .int), 8, 0, 0, 0, 0), (yX8_all, cX8_all, 1, (some .long), 8, 0, 0, 6, 160), (yX8_ways, cX8_ways, 2, (some .long), 8, 1, 0, 6, 160), (yX0_init, cX0_init, 1, none, 0, 0, 2, 1, 20), (yX8_left, cX8_left, 6, (some .long), 8, 4, 0, 6, 160), (yX8_states, cX8_states, 1, (some .int), 8, 0, 0, 6, 160), (yX8_ends, cX8_ends, 2, (some .long), 8, 1, 0, 6, 160), (yX0_init, cX0_init, 1, none, 0, 0, 2, 1, 20), (yX0_init, cX0_init, 1, none, 0, 0, 2, 1, 20), (yX0_init, cX0_init, 1, none, 0, 0, 2, 1, 20), (yX0_init, cX0_init, 1, none, 0, 0, 2, 1, 20), (yX0_init, cX0_init, 1, none, 0, 0, 2, 1, 20), (yX0_init, cX0_init, 1, none, 0, 0, 2, 1, 20), (yX0_init, cX0_init, 1, none, 0, 0, 2, 1, 20), (yX0_init, cX0_init, 1, none, 0, 0, 2, 1, 20), (yX0_init, cX0_init, 1, none, 0, 0, 2, 1, 20)]
def zf_mt3 : List zf_E := [(yX0_init, cX0_init, 1, none, 0, 0, 2, 1, 20), (yX0_init, cX0_init, 1, none, 0, 0, 2, 1, 20), (yX8_play, cX8_play, 2, (some .int), 8, 1, 0, 5, 112), (yX8_played, cX8_played, 2, (some .int), 8, 1, 0, 0, 0), (yX8_sheet, cX8_sheet, 4, (some .int), 8, 3, 0, 1, 23), (yX0_init, cX0_init, 1, none, 0, 0, 2, 1, 20), (yX8_put, cX8_put, 6, (some .int), 8, 4, 0, 2, 43), (yX0_init, cX0_init, 1, none, 0, 0, 2, 1, 20), (yX0_init, cX0_init, 1, none, 0, 0, 2, 1, 20), (yX8_shake, cX8_shake, 6, (some .int), 8, 2, 0, 2, 43), (yX0_init, cX0_init, 1, none, 0, 0, 2, 1, 20), (yX0_init, cX0_init, 1, none, 0, 0, 2, 1, 20), (yX8_isSide, cX8_isSide, 1, (some .boolean), 8, 1, 1, 0, 0), (yX8_isSideOrNone, cX8_isSideOrNone, 1, (some .boolean), 8, 1, 1, 1, 20), (yX8_isPlace, cX8_isPlace, 1, (some .boolean), 8, 1, 1, 0, 0), (yX8_isSheet, cX8_isSheet, 1, (some .boolean), 8, 1, 1, 0, 0), (yX8_isForm, cX8_isForm, 1, (some .boolean), 8, 1, 1, 0, 0), (yX8_seatOf, cX8_seatOf, 2, (some .int), 8, 2, 1, 0, 0), (yX8_rowSize, cX8_rowSize, 4, (some .int), 8, 3, 0, 2, 42), (yX8_isFighterOrNone, cX8_isFighterOrNone, 2, (some .boolean), 8, 1, 0, 1, 21), (yX8_refusal, cX8_refusal, 1, (some .long), 8, 1, 1, 0, 0), (yX8_found, cX8_found, 2, (some .int), 8, 1, 0, 0, 0), (yX8_itemFault, cX8_itemFault, 3, (some .int), 8, 3, 1, 1, 21), (yX8_seatFight, cX8_seatFight, 1, none, 8, 0, 0, 4, 92)]
def zf_mt4 : List zf_E := [(yX8_seatHeroes, cX8_seatHeroes, 5, none, 8, 2, 0, 3, 68), (yX8_seatFoes, cX8_seatFoes, 3, none, 8, 1, 0, 3, 68), (yX8_reckonFight, cX8_reckonFight, 1, (some .boolean), 8, 0, 0, 5, 140), (yX0_init, cX0_init, 1, none, 0, 0, 2, 1, 20), (yX0_init, cX0_init, 1, none, 0, 0, 2, 1, 20), (yX0_init, cX0_init, 1, none, 0, 0, 2, 1, 20), (yX0_init, cX0_init, 1, none, 0, 0, 2, 1, 20), (yX0_init, cX0_init, 1, none, 0, 0, 2, 1, 20), (yX0_init, cX0_init, 1, none, 0, 0, 2, 1, 20), (yX0_init, cX0_init, 1, none, 0, 0, 2, 1, 20), (yX0_init, cX0_init, 1, none, 0, 0, 2, 1, 20), (yX0_init, cX0_init, 1, none, 0, 0, 2, 1, 20), (yX0_init, cX0_init, 1, none, 0, 0, 2, 1, 20), (yX0_init, cX0_init, 1, none, 0, 0, 2, 1, 20), (yX0_init, cX0_init, 1, none, 0, 0, 2, 1, 20), (yX0_init, cX0_init, 1, none, 0, 0, 2, 1, 20), (yX0_init, cX0_init, 1, none, 0, 0, 2, 1, 20), (yX0_init, cX0_init, 1, none, 0, 0, 2, 1, 20), (yX0_init, cX0_init, 1, none, 0, 0, 2, 1, 20), (yX0_init, cX0_init, 1, none, 0, 0, 2, 1, 20), (yX0_init, cX0_init, 1, none, 0, 0, 2, 1, 20), (yX0_init, cX0_init, 1, none, 0, 0, 2, 1, 20), (yX0_init, cX0_init, 1, none, 0, 0, 2, 1, 20), (yX0_init, cX0_init, 1, none, 0, 0, 2, 1, 20)]
def zf_mt5 : List zf_E := [(yX0_init, cX0_init, 1, none, 0, 0, 2, 1, 20), (yX0_init, cX0_init, 1, none, 0, 0, 2, 1, 20), (yX0_init, cX0_init, 1, none, 0, 0, 2, 1, 20), (yX0_init, cX0_init, 1, none, 0, 0, 2, 1, 20), (yX0_init, cX0_init, 1, none, 0, 0, 2, 1, 20), (yX0_init, cX0_init, 1, none, 0, 0, 2, 1, 20), (yX0_init, cX0_init, 1, none, 0, 0, 2, 1, 20), (yX0_init, cX0_init, 1, none, 0, 0, 2, 1, 20), (yX0_init, cX0_init, 1, none, 0, 0, 2, 1, 20), (yX0_init, cX0_init, 1, none, 0, 0, 2, 1, 20), (yX0_init, cX0_init, 1, none, 0, 0, 2, 1, 20), (yX0_init, cX0_init, 1, none, 0, 0, 2, 1, 20), (yX0_init, cX0_init, 1, none, 0, 0, 2, 1, 20), (yX0_init, cX0_init, 1, none, 0, 0, 2, 1, 20), (yX0_init, cX0_init, 1, none, 0, 0, 2, 1, 20), (yX0_init, cX0_init, 1, none, 0, 0, 2, 1, 20), (yX0_init, cX0_init, 1, none, 0, 0, 2, 1, 20), (yX0_init, cX0_init, 1, none, 0, 0, 2, 1, 20), (yX0_init, cX0_init, 1, none, 0, 0, 2, 1, 20), (yX0_init, cX0_init, 1, none, 0, 0, 2, 1, 20), (yX0_init, cX0_init, 1, none, 0, 0, 2, 1, 20), (yX0_init, cX0_init, 1, none, 0, 0, 2, 1, 20), (yX0_init, cX0_init, 1, none, 0, 0, 2, 1, 20), (yX0_init, cX0_init, 1, none, 0, 0, 2, 1, 20)]
def zf_mt6 : List zf_E := [(yX0_init, cX0_init, 1, none, 0, 0, 2, 1, 20), (yX0_init, cX0_init, 1, none, 0, 0, 2, 1, 20), (yX0_init, cX0_init, 1, none, 0, 0, 2, 1, 20), (yX0_init, cX0_init, 1, none, 0, 0, 2, 1, 20), (yX0_init, cX0_init, 1, none, 0, 0, 2, 1, 20), (yX0_init, cX0_init, 1, none, 0, 0, 2, 1, 20), (yX0_init, cX0_init, 1, none, 0, 0, 2, 1, 20), (yX0_init, cX0_init, 1, none, 0, 0, 2, 1, 20), (yX0_init, cX0_init, 1, none, 0, 0, 2, 1, 20), (yX0_init, cX0_init, 1, none, 0, 0, 2, 1, 20), (yX0_init, cX0_init, 1, none, 0, 0, 2, 1, 20), (yX0_init, cX0_init, 1, none, 0, 0, 2, 1, 20), (yX0_init, cX0_init, 1, none, 0, 0, 2, 1, 20), (yX0_init, cX0_init, 1, none, 0, 0, 2, 1, 20), (yX0_init, cX0_init, 1, none, 0, 0, 2, 1, 20), (yX0_init, cX0_init, 1, none, 0, 0, 2, 1, 20), (yX0_init, cX0_init, 1, none, 0, 0, 2, 1, 20), (yX0_init, cX0_init, 1, none, 0, 0, 2, 1, 20), (yX0_init, cX0_init, 1, none, 0, 0, 2, 1, 20), (yX0_init, cX0_init, 1, none, 0, 0, 2, 1, 20), (yX0_init, cX0_init, 1, none, 0, 0, 2, 1, 20), (yX0_init, cX0_init, 1, none, 0, 0, 2, 1, 20), (yL_cell, cL_cell, 2, (some .int), 10, 2, 1, 0, 0), (yL_up, cL_up, 2, (some .int), 10, 2, 1, 0, 0)]
def zf_mt7 : List zf_E := [(yL_build, cL_build, 13, (some .boolean), 10, 5, 1, 3, 72)]
def zf_mt : List zf_E := zf_mt0 ++ (zf_mt1 ++ (zf_mt2 ++ (zf_mt3 ++ (zf_mt4 ++ (zf_mt5 ++ (zf_mt6 ++ (zf_mt7)))))))
def zf_law : zf_E := (yL_law, cL_law, 20, some .boolean, 10, 1, 1, 7, 185)
def zf_g (k : Nat) : zf_E := if k = 1000 then zf_law else zf_mt.getD k (yX0_init, cX0_init, 1, none, 0, 0, 2, 1, 20)
theorem zf_g0 : zf_g 0 = (yX0_init, cX0_init, 1, none, 0, 0, 2, 1, 20) := rfl
theorem zf_g1 : zf_g 1 = (yX0_run, cX0_run, 12, (some .boolean), 0, 2, 0, 3, 76) := rfl
theorem zf_g2 : zf_g 2 = (yX0_keepLives, cX0_keepLives, 6, none, 0, 2, 0, 1, 22) := rfl
theorem zf_g3 : zf_g 3 = (yX1_init, cX1_init, 2, none, 1, 0, 2, 2, 40) := rfl
theorem zf_g4 : zf_g 4 = (yX0_init, cX0_init, 1, none, 0, 0, 2, 1, 20) := rfl
theorem zf_g5 : zf_g 5 = (yX0_init, cX0_init, 1, none, 0, 0, 2, 1, 20) := rfl
theorem zf_g6 : zf_g 6 = (yX2_init, cX2_init, 1, none, 2, 0, 2, 1, 20) := rfl
theorem zf_g7 : zf_g 7 = (yX2_open, cX2_open, 4, none, 2, 3, 0, 0, 0) := rfl
theorem zf_g8 : zf_g 8 = (yX2_seat, cX2_seat, 6, none, 2, 4, 0, 2, 43) := rfl
theorem zf_g9 : zf_g 9 = (yX2_beginning, cX2_beginning, 5, (some .long), 2, 0, 0, 0, 0) := rfl
theorem zf_g10 : zf_g 10 = (yX2_winner, cX2_winner, 2, (some .int), 2, 1, 1, 0, 0) := rfl
theorem zf_g11 : zf_g 11 = (yX2_part, cX2_part, 3, (some .int), 2, 2, 1, 0, 0) := rfl
theorem zf_g12 : zf_g 12 = (yX2_lifeOf, cX2_lifeOf, 1, (some .int), 2, 1, 1, 0, 0) := rfl
theorem zf_g13 : zf_g 13 = (yX2_hasTurn, cX2_hasTurn, 6, (some .boolean), 2, 3, 0, 1, 22) := rfl
theorem zf_g14 : zf_g 14 = (yX2_flees, cX2_flees, 4, (some .boolean), 2, 2, 0, 1, 22) := rfl
theorem zf_g15 : zf_g 15 = (yX2_afterFlight, cX2_afterFlight, 4, (some .long), 2, 2, 0, 0, 0) := rfl
theorem zf_g16 : zf_g 16 = (yX2_hits, cX2_hits, 2, (some .int), 2, 1, 0, 0, 0) := rfl
theorem zf_g17 : zf_g 17 = (yX2_afterHit, cX2_afterHit, 5, (some .long), 2, 2, 0, 2, 52) := rfl
theorem zf_g18 : zf_g 18 = (yX2_chosen, cX2_chosen, 9, (some .int), 2, 3, 0, 1, 22) := rfl
theorem zf_g19 : zf_g 19 = (yX2_allStruck, cX2_allStruck, 8, (some .long), 2, 3, 0, 1, 25) := rfl
theorem zf_g20 : zf_g 20 = (yX2_struck, cX2_struck, 6, (some .long), 2, 3, 1, 0, 0) := rfl
theorem zf_g21 : zf_g 21 = (yX2_healed, cX2_healed, 6, (some .long), 2, 3, 0, 1, 22) := rfl
theorem zf_g22 : zf_g 22 = (yX3_init, cX3_init, 1, none, 3, 0, 2, 1, 20) := rfl
theorem zf_g23 : zf_g 23 = (yX3_empty, cX3_empty, 2, none, 3, 0, 0, 0, 0) := rfl
theorem zf_g24 : zf_g 24 = (yX3_join, cX3_join, 8, (some .boolean), 3, 2, 0, 1, 25) := rfl
theorem zf_g25 : zf_g 25 = (yX3_joinNew, cX3_joinNew, 6, (some .boolean), 3, 3, 0, 0, 0) := rfl
theorem zf_g26 : zf_g 26 = (yX4_init, cX4_init, 1, none, 4, 0, 2, 2, 40) := rfl
theorem zf_g27 : zf_g 27 = (yX4_reckon, cX4_reckon, 9, (some .boolean), 4, 1, 0, 4, 112) := rfl
theorem zf_g28 : zf_g 28 = (yX4_waysLeft, cX4_waysLeft, 5, (some .long), 4, 3, 0, 0, 0) := rfl
theorem zf_g29 : zf_g 29 = (yX0_init, cX0_init, 1, none, 0, 0, 2, 1, 20) := rfl
theorem zf_g30 : zf_g 30 = (yX4_clear, cX4_clear, 2, none, 4, 0, 0, 1, 21) := rfl
theorem zf_g31 : zf_g 31 = (yX4_powerOfSix, cX4_powerOfSix, 4, (some .long), 4, 1, 1, 0, 0) := rfl
theorem zf_g32 : zf_g 32 = (yX4_reckonSlot, cX4_reckonSlot, 12, (some .boolean), 4, 4, 0, 3, 81) := rfl
theorem zf_g33 : zf_g 33 = (yX4_pass, cX4_pass, 9, (some .boolean), 4, 5, 0, 2, 53) := rfl
theorem zf_g34 : zf_g 34 = (yX4_tally, cX4_tally, 12, none, 4, 5, 0, 1, 22) := rfl
theorem zf_g35 : zf_g 35 = (yX5_init, cX5_init, 1, none, 5, 0, 2, 1, 20) := rfl
theorem zf_g36 : zf_g 36 = (yX5_fits, cX5_fits, 2, (some .boolean), 5, 2, 1, 0, 0) := rfl
theorem zf_g37 : zf_g 37 = (yX5_has, cX5_has, 2, (some .boolean), 5, 1, 0, 0, 0) := rfl
theorem zf_g38 : zf_g 38 = (yX5_number, cX5_number, 3, (some .int), 5, 2, 0, 1, 21) := rfl
theorem zf_g39 : zf_g 39 = (yX5_change, cX5_change, 4, none, 5, 3, 0, 1, 21) := rfl
theorem zf_g40 : zf_g 40 = (yX6_init, cX6_init, 1, none, 6, 0, 2, 1, 20) := rfl
theorem zf_g41 : zf_g 41 = (yX6_become, cX6_become, 5, none, 6, 4, 0, 0, 0) := rfl
theorem zf_g42 : zf_g 42 = (yX6_who, cX6_who, 2, (some .int), 6, 1, 0, 1, 20) := rfl
theorem zf_g43 : zf_g 43 = (yX7_init, cX7_init, 1, none, 7, 0, 2, 1, 20) := rfl
theorem zf_g44 : zf_g 44 = (yX7_renew, cX7_renew, 4, none, 7, 2, 0, 0, 0) := rfl
theorem zf_g45 : zf_g 45 = (yX7_has, cX7_has, 2, (some .boolean), 7, 1, 0, 0, 0) := rfl
theorem zf_g46 : zf_g 46 = (yX0_init, cX0_init, 1, none, 0, 0, 2, 1, 20) := rfl
theorem zf_g47 : zf_g 47 = (yX7_item, cX7_item, 2, (some .int), 7, 1, 0, 1, 21) := rfl
theorem zf_g48 : zf_g 48 = (yX7_store, cX7_store, 3, none, 7, 2, 0, 1, 21) := rfl
theorem zf_g49 : zf_g 49 = (yX8_init, cX8_init, 2, none, 8, 0, 2, 3, 61) := rfl
theorem zf_g50 : zf_g 50 = (yX8_fighter, cX8_fighter, 9, (some .int), 8, 6, 0, 2, 44) := rfl
theorem zf_g51 : zf_g 51 = (yX0_init, cX0_init, 1, none, 0, 0, 2, 1, 20) := rfl
theorem zf_g52 : zf_g 52 = (yX0_init, cX0_init, 1, none, 0, 0, 2, 1, 20) := rfl
theorem zf_g53 : zf_g 53 = (yX8_side, cX8_side, 6, (some .int), 8, 4, 0, 3, 65) := rfl
theorem zf_g54 : zf_g 54 = (yX0_init, cX0_init, 1, none, 0, 0, 2, 1, 20) := rfl
theorem zf_g55 : zf_g 55 = (yX8_laws, cX8_laws, 5, (some .int), 8, 3, 0, 2, 40) := rfl
theorem zf_g56 : zf_g 56 = (yX8_slots, cX8_slots, 1, (some .int), 8, 0, 0, 0, 0) := rfl
theorem zf_g57 : zf_g 57 = (yX8_all, cX8_all, 1, (some .long), 8, 0, 0, 6, 160) := rfl
theorem zf_g58 : zf_g 58 = (yX8_ways, cX8_ways, 2, (some .long), 8, 1, 0, 6, 160) := rfl
theorem zf_g59 : zf_g 59 = (yX0_init, cX0_init, 1, none, 0, 0, 2, 1, 20) := rfl
theorem zf_g60 : zf_g 60 = (yX8_left, cX8_left, 6, (some .long), 8, 4, 0, 6, 160) := rfl
theorem zf_g61 : zf_g 61 = (yX8_states, cX8_states, 1, (some .int), 8, 0, 0, 6, 160) := rfl
theorem zf_g62 : zf_g 62 = (yX8_ends, cX8_ends, 2, (some .long), 8, 1, 0, 6, 160) := rfl
theorem zf_g63 : zf_g 63 = (yX0_init, cX0_init, 1, none, 0, 0, 2, 1, 20) := rfl
theorem zf_g64 : zf_g 64 = (yX0_init, cX0_init, 1, none, 0, 0, 2, 1, 20) := rfl
theorem zf_g65 : zf_g 65 = (yX0_init, cX0_init, 1, none, 0, 0, 2, 1, 20) := rfl
theorem zf_g66 : zf_g 66 = (yX0_init, cX0_init, 1, none, 0, 0, 2, 1, 20) := rfl
theorem zf_g67 : zf_g 67 = (yX0_init, cX0_init, 1, none, 0, 0, 2, 1, 20) := rfl
theorem zf_g68 : zf_g 68 = (yX0_init, cX0_init, 1, none, 0, 0, 2, 1, 20) := rfl
theorem zf_g69 : zf_g 69 = (yX0_init, cX0_init, 1, none, 0, 0, 2, 1, 20) := rfl
theorem zf_g70 : zf_g 70 = (yX0_init, cX0_init, 1, none, 0, 0, 2, 1, 20) := rfl
theorem zf_g71 : zf_g 71 = (yX0_init, cX0_init, 1, none, 0, 0, 2, 1, 20) := rfl
theorem zf_g72 : zf_g 72 = (yX0_init, cX0_init, 1, none, 0, 0, 2, 1, 20) := rfl
theorem zf_g73 : zf_g 73 = (yX0_init, cX0_init, 1, none, 0, 0, 2, 1, 20) := rfl
theorem zf_g74 : zf_g 74 = (yX8_play, cX8_play, 2, (some .int), 8, 1, 0, 5, 112) := rfl
theorem zf_g75 : zf_g 75 = (yX8_played, cX8_played, 2, (some .int), 8, 1, 0, 0, 0) := rfl
theorem zf_g76 : zf_g 76 = (yX8_sheet, cX8_sheet, 4, (some .int), 8, 3, 0, 1, 23) := rfl
theorem zf_g77 : zf_g 77 = (yX0_init, cX0_init, 1, none, 0, 0, 2, 1, 20) := rfl
theorem zf_g78 : zf_g 78 = (yX8_put, cX8_put, 6, (some .int), 8, 4, 0, 2, 43) := rfl
theorem zf_g79 : zf_g 79 = (yX0_init, cX0_init, 1, none, 0, 0, 2, 1, 20) := rfl
theorem zf_g80 : zf_g 80 = (yX0_init, cX0_init, 1, none, 0, 0, 2, 1, 20) := rfl
theorem zf_g81 : zf_g 81 = (yX8_shake, cX8_shake, 6, (some .int), 8, 2, 0, 2, 43) := rfl
theorem zf_g82 : zf_g 82 = (yX0_init, cX0_init, 1, none, 0, 0, 2, 1, 20) := rfl
theorem zf_g83 : zf_g 83 = (yX0_init, cX0_init, 1, none, 0, 0, 2, 1, 20) := rfl
theorem zf_g84 : zf_g 84 = (yX8_isSide, cX8_isSide, 1, (some .boolean), 8, 1, 1, 0, 0) := rfl
theorem zf_g85 : zf_g 85 = (yX8_isSideOrNone, cX8_isSideOrNone, 1, (some .boolean), 8, 1, 1, 1, 20) := rfl
theorem zf_g86 : zf_g 86 = (yX8_isPlace, cX8_isPlace, 1, (some .boolean), 8, 1, 1, 0, 0) := rfl
theorem zf_g87 : zf_g 87 = (yX8_isSheet, cX8_isSheet, 1, (some .boolean), 8, 1, 1, 0, 0) := rfl
theorem zf_g88 : zf_g 88 = (yX8_isForm, cX8_isForm, 1, (some .boolean), 8, 1, 1, 0, 0) := rfl
theorem zf_g89 : zf_g 89 = (yX8_seatOf, cX8_seatOf, 2, (some .int), 8, 2, 1, 0, 0) := rfl
theorem zf_g90 : zf_g 90 = (yX8_rowSize, cX8_rowSize, 4, (some .int), 8, 3, 0, 2, 42) := rfl
theorem zf_g91 : zf_g 91 = (yX8_isFighterOrNone, cX8_isFighterOrNone, 2, (some .boolean), 8, 1, 0, 1, 21) := rfl
theorem zf_g92 : zf_g 92 = (yX8_refusal, cX8_refusal, 1, (some .long), 8, 1, 1, 0, 0) := rfl
theorem zf_g93 : zf_g 93 = (yX8_found, cX8_found, 2, (some .int), 8, 1, 0, 0, 0) := rfl
theorem zf_g94 : zf_g 94 = (yX8_itemFault, cX8_itemFault, 3, (some .int), 8, 3, 1, 1, 21) := rfl
theorem zf_g95 : zf_g 95 = (yX8_seatFight, cX8_seatFight, 1, none, 8, 0, 0, 4, 92) := rfl
theorem zf_g96 : zf_g 96 = (yX8_seatHeroes, cX8_seatHeroes, 5, none, 8, 2, 0, 3, 68) := rfl
theorem zf_g97 : zf_g 97 = (yX8_seatFoes, cX8_seatFoes, 3, none, 8, 1, 0, 3, 68) := rfl
theorem zf_g98 : zf_g 98 = (yX8_reckonFight, cX8_reckonFight, 1, (some .boolean), 8, 0, 0, 5, 140) := rfl
theorem zf_g99 : zf_g 99 = (yX0_init, cX0_init, 1, none, 0, 0, 2, 1, 20) := rfl
theorem zf_g100 : zf_g 100 = (yX0_init, cX0_init, 1, none, 0, 0, 2, 1, 20) := rfl
theorem zf_g101 : zf_g 101 = (yX0_init, cX0_init, 1, none, 0, 0, 2, 1, 20) := rfl
theorem zf_g102 : zf_g 102 = (yX0_init, cX0_init, 1, none, 0, 0, 2, 1, 20) := rfl
theorem zf_g103 : zf_g 103 = (yX0_init, cX0_init, 1, none, 0, 0, 2, 1, 20) := rfl
theorem zf_g104 : zf_g 104 = (yX0_init, cX0_init, 1, none, 0, 0, 2, 1, 20) := rfl
theorem zf_g105 : zf_g 105 = (yX0_init, cX0_init, 1, none, 0, 0, 2, 1, 20) := rfl
theorem zf_g106 : zf_g 106 = (yX0_init, cX0_init, 1, none, 0, 0, 2, 1, 20) := rfl
theorem zf_g107 : zf_g 107 = (yX0_init, cX0_init, 1, none, 0, 0, 2, 1, 20) := rfl
theorem zf_g108 : zf_g 108 = (yX0_init, cX0_init, 1, none, 0, 0, 2, 1, 20) := rfl
theorem zf_g109 : zf_g 109 = (yX0_init, cX0_init, 1, none, 0, 0, 2, 1, 20) := rfl
theorem zf_g110 : zf_g 110 = (yX0_init, cX0_init, 1, none, 0, 0, 2, 1, 20) := rfl
theorem zf_g111 : zf_g 111 = (yX0_init, cX0_init, 1, none, 0, 0, 2, 1, 20) := rfl
theorem zf_g112 : zf_g 112 = (yX0_init, cX0_init, 1, none, 0, 0, 2, 1, 20) := rfl
theorem zf_g113 : zf_g 113 = (yX0_init, cX0_init, 1, none, 0, 0, 2, 1, 20) := rfl
theorem zf_g114 : zf_g 114 = (yX0_init, cX0_init, 1, none, 0, 0, 2, 1, 20) := rfl
theorem zf_g115 : zf_g 115 = (yX0_init, cX0_init, 1, none, 0, 0, 2, 1, 20) := rfl
theorem zf_g116 : zf_g 116 = (yX0_init, cX0_init, 1, none, 0, 0, 2, 1, 20) := rfl
theorem zf_g117 : zf_g 117 = (yX0_init, cX0_init, 1, none, 0, 0, 2, 1, 20) := rfl
theorem zf_g118 : zf_g 118 = (yX0_init, cX0_init, 1, none, 0, 0, 2, 1, 20) := rfl
theorem zf_g119 : zf_g 119 = (yX0_init, cX0_init, 1, none, 0, 0, 2, 1, 20) := rfl
theorem zf_g120 : zf_g 120 = (yX0_init, cX0_init, 1, none, 0, 0, 2, 1, 20) := rfl
theorem zf_g121 : zf_g 121 = (yX0_init, cX0_init, 1, none, 0, 0, 2, 1, 20) := rfl
theorem zf_g122 : zf_g 122 = (yX0_init, cX0_init, 1, none, 0, 0, 2, 1, 20) := rfl
theorem zf_g123 : zf_g 123 = (yX0_init, cX0_init, 1, none, 0, 0, 2, 1, 20) := rfl
theorem zf_g124 : zf_g 124 = (yX0_init, cX0_init, 1, none, 0, 0, 2, 1, 20) := rfl
theorem zf_g125 : zf_g 125 = (yX0_init, cX0_init, 1, none, 0, 0, 2, 1, 20) := rfl
theorem zf_g126 : zf_g 126 = (yX0_init, cX0_init, 1, none, 0, 0, 2, 1, 20) := rfl
theorem zf_g127 : zf_g 127 = (yX0_init, cX0_init, 1, none, 0, 0, 2, 1, 20) := rfl
theorem zf_g128 : zf_g 128 = (yX0_init, cX0_init, 1, none, 0, 0, 2, 1, 20) := rfl
theorem zf_g129 : zf_g 129 = (yX0_init, cX0_init, 1, none, 0, 0, 2, 1, 20) := rfl
theorem zf_g130 : zf_g 130 = (yX0_init, cX0_init, 1, none, 0, 0, 2, 1, 20) := rfl
theorem zf_g131 : zf_g 131 = (yX0_init, cX0_init, 1, none, 0, 0, 2, 1, 20) := rfl
theorem zf_g132 : zf_g 132 = (yX0_init, cX0_init, 1, none, 0, 0, 2, 1, 20) := rfl
theorem zf_g133 : zf_g 133 = (yX0_init, cX0_init, 1, none, 0, 0, 2, 1, 20) := rfl
theorem zf_g134 : zf_g 134 = (yX0_init, cX0_init, 1, none, 0, 0, 2, 1, 20) := rfl
theorem zf_g135 : zf_g 135 = (yX0_init, cX0_init, 1, none, 0, 0, 2, 1, 20) := rfl
theorem zf_g136 : zf_g 136 = (yX0_init, cX0_init, 1, none, 0, 0, 2, 1, 20) := rfl
theorem zf_g137 : zf_g 137 = (yX0_init, cX0_init, 1, none, 0, 0, 2, 1, 20) := rfl
theorem zf_g138 : zf_g 138 = (yX0_init, cX0_init, 1, none, 0, 0, 2, 1, 20) := rfl
theorem zf_g139 : zf_g 139 = (yX0_init, cX0_init, 1, none, 0, 0, 2, 1, 20) := rfl
theorem zf_g140 : zf_g 140 = (yX0_init, cX0_init, 1, none, 0, 0, 2, 1, 20) := rfl
theorem zf_g141 : zf_g 141 = (yX0_init, cX0_init, 1, none, 0, 0, 2, 1, 20) := rfl
theorem zf_g142 : zf_g 142 = (yX0_init, cX0_init, 1, none, 0, 0, 2, 1, 20) := rfl
theorem zf_g143 : zf_g 143 = (yX0_init, cX0_init, 1, none, 0, 0, 2, 1, 20) := rfl
theorem zf_g144 : zf_g 144 = (yX0_init, cX0_init, 1, none, 0, 0, 2, 1, 20) := rfl
theorem zf_g145 : zf_g 145 = (yX0_init, cX0_init, 1, none, 0, 0, 2, 1, 20) := rfl
theorem zf_g146 : zf_g 146 = (yX0_init, cX0_init, 1, none, 0, 0, 2, 1, 20) := rfl
theorem zf_g147 : zf_g 147 = (yX0_init, cX0_init, 1, none, 0, 0, 2, 1, 20) := rfl
theorem zf_g148 : zf_g 148 = (yX0_init, cX0_init, 1, none, 0, 0, 2, 1, 20) := rfl
theorem zf_g149 : zf_g 149 = (yX0_init, cX0_init, 1, none, 0, 0, 2, 1, 20) := rfl
theorem zf_g150 : zf_g 150 = (yX0_init, cX0_init, 1, none, 0, 0, 2, 1, 20) := rfl
theorem zf_g151 : zf_g 151 = (yX0_init, cX0_init, 1, none, 0, 0, 2, 1, 20) := rfl
theorem zf_g152 : zf_g 152 = (yX0_init, cX0_init, 1, none, 0, 0, 2, 1, 20) := rfl
theorem zf_g153 : zf_g 153 = (yX0_init, cX0_init, 1, none, 0, 0, 2, 1, 20) := rfl
theorem zf_g154 : zf_g 154 = (yX0_init, cX0_init, 1, none, 0, 0, 2, 1, 20) := rfl
theorem zf_g155 : zf_g 155 = (yX0_init, cX0_init, 1, none, 0, 0, 2, 1, 20) := rfl
theorem zf_g156 : zf_g 156 = (yX0_init, cX0_init, 1, none, 0, 0, 2, 1, 20) := rfl
theorem zf_g157 : zf_g 157 = (yX0_init, cX0_init, 1, none, 0, 0, 2, 1, 20) := rfl
theorem zf_g158 : zf_g 158 = (yX0_init, cX0_init, 1, none, 0, 0, 2, 1, 20) := rfl
theorem zf_g159 : zf_g 159 = (yX0_init, cX0_init, 1, none, 0, 0, 2, 1, 20) := rfl
theorem zf_g160 : zf_g 160 = (yX0_init, cX0_init, 1, none, 0, 0, 2, 1, 20) := rfl
theorem zf_g161 : zf_g 161 = (yX0_init, cX0_init, 1, none, 0, 0, 2, 1, 20) := rfl
theorem zf_g162 : zf_g 162 = (yX0_init, cX0_init, 1, none, 0, 0, 2, 1, 20) := rfl
theorem zf_g163 : zf_g 163 = (yX0_init, cX0_init, 1, none, 0, 0, 2, 1, 20) := rfl
theorem zf_g164 : zf_g 164 = (yX0_init, cX0_init, 1, none, 0, 0, 2, 1, 20) := rfl
theorem zf_g165 : zf_g 165 = (yX0_init, cX0_init, 1, none, 0, 0, 2, 1, 20) := rfl
theorem zf_g166 : zf_g 166 = (yL_cell, cL_cell, 2, (some .int), 10, 2, 1, 0, 0) := rfl
theorem zf_g167 : zf_g 167 = (yL_up, cL_up, 2, (some .int), 10, 2, 1, 0, 0) := rfl
theorem zf_g168 : zf_g 168 = (yL_build, cL_build, 13, (some .boolean), 10, 5, 1, 3, 72) := rfl
theorem zf_g1000 : zf_g 1000 = zf_law := rfl
def zf_okE (e : zf_E) : Prop := Cond.code e.1 e.2.1 e.2.2.1 e.2.2.2.1 ∈ zf_T ∧ Cond.initialized e.1.cls ∈ zf_T ∧ (e.1.cls ≠ "java/lang/invoke/MethodHandle" ∧ e.1.cls ≠ "java/lang/invoke/VarHandle" ∧ (parseMethodDescriptor e.1.desc).map (fun d => d.parameters.length) = some e.2.2.2.2.2.1) ∧ plainName e.1.cls = true ∧ e.1.cls = zf_oR e.2.2.2.2.1 ∧ (match e.2.2.2.2.2.2.1 with | 0 => Cond.instanceMethod e.1 ∈ zf_T ∧ Cond.selects e.1.cls e.1 e.1 ∈ zf_T ∧ e.1.name ≠ "<init>" | 1 => Cond.static e.1 ∈ zf_T ∧ e.1.name ≠ "<init>" | _ => Cond.instanceMethod e.1 ∈ zf_T ∧ e.1.name = "<init>" ∧ e.2.2.2.1 = none)
theorem zf_e0 : zf_okE (yX0_init, cX0_init, 1, none, 0, 0, 2, 1, 20) := ⟨zf_m104, zf_m32, ⟨by decide, by decide, by decide +kernel⟩, by decide +kernel, rfl, ⟨zf_m103, rfl, rfl⟩⟩
theorem zf_e1 : zf_okE (yX0_run, cX0_run, 12, (some .boolean), 0, 2, 0, 3, 76) := ⟨zf_m390, zf_m32, ⟨by decide, by decide, by decide +kernel⟩, by decide +kernel, rfl, ⟨zf_m388, zf_m389, by decide⟩⟩
theorem zf_e2 : zf_okE (yX0_keepLives, cX0_keepLives, 6, none, 0, 2, 0, 1, 22) := ⟨zf_m409, zf_m32, ⟨by decide, by decide, by decide +kernel⟩, by decide +kernel, rfl, ⟨zf_m407, zf_m408, by decide⟩⟩
theorem zf_e3 : zf_okE (yX1_init, cX1_init, 2, none, 1, 0, 2, 2, 40) := ⟨zf_m89, zf_m27, ⟨by decide, by decide, by decide +kernel⟩, by decide +kernel, rfl, ⟨zf_m88, rfl, rfl⟩⟩
theorem zf_e6 : zf_okE (yX2_init, cX2_init, 1, none, 2, 0, 2, 1, 20) := ⟨zf_m51, zf_m19, ⟨by decide, by decide, by decide +kernel⟩, by decide +kernel, rfl, ⟨zf_m50, rfl, rfl⟩⟩
theorem zf_e7 : zf_okE (yX2_open, cX2_open, 4, none, 2, 3, 0, 0, 0) := ⟨zf_m208, zf_m19, ⟨by decide, by decide, by decide +kernel⟩, by decide +kernel, rfl, ⟨zf_m206, zf_m207, by decide⟩⟩
theorem zf_e8 : zf_okE (yX2_seat, cX2_seat, 6, none, 2, 4, 0, 2, 43) := ⟨zf_m226, zf_m19, ⟨by decide, by decide, by decide +kernel⟩, by decide +kernel, rfl, ⟨zf_m224, zf_m225, by decide⟩⟩
theorem zf_e9 : zf_okE (yX2_beginning, cX2_beginning, 5, (some .long), 2, 0, 0, 0, 0) := ⟨zf_m262, zf_m19, ⟨by decide, by decide, by decide +kernel⟩, by decide +kernel, rfl, ⟨zf_m260, zf_m261, by decide⟩⟩
theorem zf_e10 : zf_okE (yX2_winner, cX2_winner, 2, (some .int), 2, 1, 1, 0, 0) := ⟨zf_m265, zf_m19, ⟨by decide, by decide, by decide +kernel⟩, by decide +kernel, rfl, ⟨zf_m264, by decide⟩⟩
theorem zf_e11 : zf_okE (yX2_part, cX2_part, 3, (some .int), 2, 2, 1, 0, 0) := ⟨zf_m274, zf_m19, ⟨by decide, by decide, by decide +kernel⟩, by decide +kernel, rfl, ⟨zf_m273, by decide⟩⟩
theorem zf_e12 : zf_okE (yX2_lifeOf, cX2_lifeOf, 1, (some .int), 2, 1, 1, 0, 0) := ⟨zf_m305, zf_m19, ⟨by decide, by decide, by decide +kernel⟩, by decide +kernel, rfl, ⟨zf_m304, by decide⟩⟩
theorem zf_e13 : zf_okE (yX2_hasTurn, cX2_hasTurn, 6, (some .boolean), 2, 3, 0, 1, 22) := ⟨zf_m293, zf_m19, ⟨by decide, by decide, by decide +kernel⟩, by decide +kernel, rfl, ⟨zf_m291, zf_m292, by decide⟩⟩
theorem zf_e14 : zf_okE (yX2_flees, cX2_flees, 4, (some .boolean), 2, 2, 0, 1, 22) := ⟨zf_m302, zf_m19, ⟨by decide, by decide, by decide +kernel⟩, by decide +kernel, rfl, ⟨zf_m300, zf_m301, by decide⟩⟩
theorem zf_e15 : zf_okE (yX2_afterFlight, cX2_afterFlight, 4, (some .long), 2, 2, 0, 0, 0) := ⟨zf_m309, zf_m19, ⟨by decide, by decide, by decide +kernel⟩, by decide +kernel, rfl, ⟨zf_m307, zf_m308, by decide⟩⟩
theorem zf_e16 : zf_okE (yX2_hits, cX2_hits, 2, (some .int), 2, 1, 0, 0, 0) := ⟨zf_m315, zf_m19, ⟨by decide, by decide, by decide +kernel⟩, by decide +kernel, rfl, ⟨zf_m313, zf_m314, by decide⟩⟩
theorem zf_e17 : zf_okE (yX2_afterHit, cX2_afterHit, 5, (some .long), 2, 2, 0, 2, 52) := ⟨zf_m319, zf_m19, ⟨by decide, by decide, by decide +kernel⟩, by decide +kernel, rfl, ⟨zf_m317, zf_m318, by decide⟩⟩
theorem zf_e18 : zf_okE (yX2_chosen, cX2_chosen, 9, (some .int), 2, 3, 0, 1, 22) := ⟨zf_m323, zf_m19, ⟨by decide, by decide, by decide +kernel⟩, by decide +kernel, rfl, ⟨zf_m321, zf_m322, by decide⟩⟩
theorem zf_e19 : zf_okE (yX2_allStruck, cX2_allStruck, 8, (some .long), 2, 3, 0, 1, 25) := ⟨zf_m332, zf_m19, ⟨by decide, by decide, by decide +kernel⟩, by decide +kernel, rfl, ⟨zf_m330, zf_m331, by decide⟩⟩
theorem zf_e20 : zf_okE (yX2_struck, cX2_struck, 6, (some .long), 2, 3, 1, 0, 0) := ⟨zf_m326, zf_m19, ⟨by decide, by decide, by decide +kernel⟩, by decide +kernel, rfl, ⟨zf_m325, by decide⟩⟩
theorem zf_e21 : zf_okE (yX2_healed, cX2_healed, 6, (some .long), 2, 3, 0, 1, 22) := ⟨zf_m336, zf_m19, ⟨by decide, by decide, by decide +kernel⟩, by decide +kernel, rfl, ⟨zf_m334, zf_m335, by decide⟩⟩
theorem zf_e22 : zf_okE (yX3_init, cX3_init, 1, none, 3, 0, 2, 1, 20) := ⟨zf_m80, zf_m75, ⟨by decide, by decide, by decide +kernel⟩, by decide +kernel, rfl, ⟨zf_m79, rfl, rfl⟩⟩
theorem zf_e23 : zf_okE (yX3_empty, cX3_empty, 2, none, 3, 0, 0, 0, 0) := ⟨zf_m255, zf_m75, ⟨by decide, by decide, by decide +kernel⟩, by decide +kernel, rfl, ⟨zf_m253, zf_m254, by decide⟩⟩
theorem zf_e24 : zf_okE (yX3_join, cX3_join, 8, (some .boolean), 3, 2, 0, 1, 25) := ⟨zf_m278, zf_m75, ⟨by decide, by decide, by decide +kernel⟩, by decide +kernel, rfl, ⟨zf_m276, zf_m277, by decide⟩⟩
theorem zf_e25 : zf_okE (yX3_joinNew, cX3_joinNew, 6, (some .boolean), 3, 3, 0, 0, 0) := ⟨zf_m283, zf_m75, ⟨by decide, by decide, by decide +kernel⟩, by decide +kernel, rfl, ⟨zf_m281, zf_m282, by decide⟩⟩
theorem zf_e26 : zf_okE (yX4_init, cX4_init, 1, none, 4, 0, 2, 2, 40) := ⟨zf_m65, zf_m23, ⟨by decide, by decide, by decide +kernel⟩, by decide +kernel, rfl, ⟨zf_m64, rfl, rfl⟩⟩
theorem zf_e27 : zf_okE (yX4_reckon, cX4_reckon, 9, (some .boolean), 4, 1, 0, 4, 112) := ⟨zf_m238, zf_m23, ⟨by decide, by decide, by decide +kernel⟩, by decide +kernel, rfl, ⟨zf_m236, zf_m237, by decide⟩⟩
theorem zf_e28 : zf_okE (yX4_waysLeft, cX4_waysLeft, 5, (some .long), 4, 3, 0, 0, 0) := ⟨zf_m432, zf_m23, ⟨by decide, by decide, by decide +kernel⟩, by decide +kernel, rfl, ⟨zf_m430, zf_m431, by decide⟩⟩
theorem zf_e30 : zf_okE (yX4_clear, cX4_clear, 2, none, 4, 0, 0, 1, 21) := ⟨zf_m251, zf_m23, ⟨by decide, by decide, by decide +kernel⟩, by decide +kernel, rfl, ⟨zf_m249, zf_m250, by decide⟩⟩
theorem zf_e31 : zf_okE (yX4_powerOfSix, cX4_powerOfSix, 4, (some .long), 4, 1, 1, 0, 0) := ⟨zf_m258, zf_m23, ⟨by decide, by decide, by decide +kernel⟩, by decide +kernel, rfl, ⟨zf_m257, by decide⟩⟩
theorem zf_e32 : zf_okE (yX4_reckonSlot, cX4_reckonSlot, 12, (some .boolean), 4, 4, 0, 3, 81) := ⟨zf_m287, zf_m23, ⟨by decide, by decide, by decide +kernel⟩, by decide +kernel, rfl, ⟨zf_m285, zf_m286, by decide⟩⟩
theorem zf_e33 : zf_okE (yX4_pass, cX4_pass, 9, (some .boolean), 4, 5, 0, 2, 53) := ⟨zf_m298, zf_m23, ⟨by decide, by decide, by decide +kernel⟩, by decide +kernel, rfl, ⟨zf_m296, zf_m297, by decide⟩⟩
theorem zf_e34 : zf_okE (yX4_tally, cX4_tally, 12, none, 4, 5, 0, 1, 22) := ⟨zf_m271, zf_m23, ⟨by decide, by decide, by decide +kernel⟩, by decide +kernel, rfl, ⟨zf_m269, zf_m270, by decide⟩⟩
theorem zf_e35 : zf_okE (yX5_init, cX5_init, 1, none, 5, 0, 2, 1, 20) := ⟨zf_m46, zf_m13, ⟨by decide, by decide, by decide +kernel⟩, by decide +kernel, rfl, ⟨zf_m45, rfl, rfl⟩⟩
theorem zf_e36 : zf_okE (yX5_fits, cX5_fits, 2, (some .boolean), 5, 2, 1, 0, 0) := ⟨zf_m136, zf_m13, ⟨by decide, by decide, by decide +kernel⟩, by decide +kernel, rfl, ⟨zf_m135, by decide⟩⟩
theorem zf_e37 : zf_okE (yX5_has, cX5_has, 2, (some .boolean), 5, 1, 0, 0, 0) := ⟨zf_m146, zf_m13, ⟨by decide, by decide, by decide +kernel⟩, by decide +kernel, rfl, ⟨zf_m144, zf_m145, by decide⟩⟩
theorem zf_e38 : zf_okE (yX5_number, cX5_number, 3, (some .int), 5, 2, 0, 1, 21) := ⟨zf_m230, zf_m13, ⟨by decide, by decide, by decide +kernel⟩, by decide +kernel, rfl, ⟨zf_m228, zf_m229, by decide⟩⟩
theorem zf_e39 : zf_okE (yX5_change, cX5_change, 4, none, 5, 3, 0, 1, 21) := ⟨zf_m142, zf_m13, ⟨by decide, by decide, by decide +kernel⟩, by decide +kernel, rfl, ⟨zf_m140, zf_m141, by decide⟩⟩
theorem zf_e40 : zf_okE (yX6_init, cX6_init, 1, none, 6, 0, 2, 1, 20) := ⟨zf_m99, zf_m42, ⟨by decide, by decide, by decide +kernel⟩, by decide +kernel, rfl, ⟨zf_m98, rfl, rfl⟩⟩
theorem zf_e41 : zf_okE (yX6_become, cX6_become, 5, none, 6, 4, 0, 0, 0) := ⟨zf_m166, zf_m42, ⟨by decide, by decide, by decide +kernel⟩, by decide +kernel, rfl, ⟨zf_m164, zf_m165, by decide⟩⟩
theorem zf_e42 : zf_okE (yX6_who, cX6_who, 2, (some .int), 6, 1, 0, 1, 20) := ⟨zf_m220, zf_m42, ⟨by decide, by decide, by decide +kernel⟩, by decide +kernel, rfl, ⟨zf_m218, zf_m219, by decide⟩⟩
theorem zf_e43 : zf_okE (yX7_init, cX7_init, 1, none, 7, 0, 2, 1, 20) := ⟨zf_m111, zf_m44, ⟨by decide, by decide, by decide +kernel⟩, by decide +kernel, rfl, ⟨zf_m110, rfl, rfl⟩⟩
theorem zf_e44 : zf_okE (yX7_renew, cX7_renew, 4, none, 7, 2, 0, 0, 0) := ⟨zf_m191, zf_m44, ⟨by decide, by decide, by decide +kernel⟩, by decide +kernel, rfl, ⟨zf_m189, zf_m190, by decide⟩⟩
theorem zf_e45 : zf_okE (yX7_has, cX7_has, 2, (some .boolean), 7, 1, 0, 0, 0) := ⟨zf_m372, zf_m44, ⟨by decide, by decide, by decide +kernel⟩, by decide +kernel, rfl, ⟨zf_m370, zf_m371, by decide⟩⟩
theorem zf_e47 : zf_okE (yX7_item, cX7_item, 2, (some .int), 7, 1, 0, 1, 21) := ⟨zf_m403, zf_m44, ⟨by decide, by decide, by decide +kernel⟩, by decide +kernel, rfl, ⟨zf_m401, zf_m402, by decide⟩⟩
theorem zf_e48 : zf_okE (yX7_store, cX7_store, 3, none, 7, 2, 0, 1, 21) := ⟨zf_m368, zf_m44, ⟨by decide, by decide, by decide +kernel⟩, by decide +kernel, rfl, ⟨zf_m366, zf_m367, by decide⟩⟩
theorem zf_e49 : zf_okE (yX8_init, cX8_init, 2, none, 8, 0, 2, 3, 61) := ⟨zf_m7, zf_m2, ⟨by decide, by decide, by decide +kernel⟩, by decide +kernel, rfl, ⟨zf_m6, rfl, rfl⟩⟩
theorem zf_e50 : zf_okE (yX8_fighter, cX8_fighter, 9, (some .int), 8, 6, 0, 2, 44) := ⟨zf_m132, zf_m2, ⟨by decide, by decide, by decide +kernel⟩, by decide +kernel, rfl, ⟨zf_m130, zf_m131, by decide⟩⟩
theorem zf_e53 : zf_okE (yX8_side, cX8_side, 6, (some .int), 8, 4, 0, 3, 65) := ⟨zf_m150, zf_m2, ⟨by decide, by decide, by decide +kernel⟩, by decide +kernel, rfl, ⟨zf_m148, zf_m149, by decide⟩⟩
theorem zf_e55 : zf_okE (yX8_laws, cX8_laws, 5, (some .int), 8, 3, 0, 2, 40) := ⟨zf_m170, zf_m2, ⟨by decide, by decide, by decide +kernel⟩, by decide +kernel, rfl, ⟨zf_m168, zf_m169, by decide⟩⟩
theorem zf_e56 : zf_okE (yX8_slots, cX8_slots, 1, (some .int), 8, 0, 0, 0, 0) := ⟨zf_m343, zf_m2, ⟨by decide, by decide, by decide +kernel⟩, by decide +kernel, rfl, ⟨zf_m341, zf_m342, by decide⟩⟩
theorem zf_e57 : zf_okE (yX8_all, cX8_all, 1, (some .long), 8, 0, 0, 6, 160) := ⟨zf_m356, zf_m2, ⟨by decide, by decide, by decide +kernel⟩, by decide +kernel, rfl, ⟨zf_m354, zf_m355, by decide⟩⟩
theorem zf_e58 : zf_okE (yX8_ways, cX8_ways, 2, (some .long), 8, 1, 0, 6, 160) := ⟨zf_m347, zf_m2, ⟨by decide, by decide, by decide +kernel⟩, by decide +kernel, rfl, ⟨zf_m345, zf_m346, by decide⟩⟩
theorem zf_e60 : zf_okE (yX8_left, cX8_left, 6, (some .long), 8, 4, 0, 6, 160) := ⟨zf_m427, zf_m2, ⟨by decide, by decide, by decide +kernel⟩, by decide +kernel, rfl, ⟨zf_m425, zf_m426, by decide⟩⟩
theorem zf_e61 : zf_okE (yX8_states, cX8_states, 1, (some .int), 8, 0, 0, 6, 160) := ⟨zf_m195, zf_m2, ⟨by decide, by decide, by decide +kernel⟩, by decide +kernel, rfl, ⟨zf_m193, zf_m194, by decide⟩⟩
theorem zf_e62 : zf_okE (yX8_ends, cX8_ends, 2, (some .long), 8, 1, 0, 6, 160) := ⟨zf_m422, zf_m2, ⟨by decide, by decide, by decide +kernel⟩, by decide +kernel, rfl, ⟨zf_m420, zf_m421, by decide⟩⟩
theorem zf_e74 : zf_okE (yX8_play, cX8_play, 2, (some .int), 8, 1, 0, 5, 112) := ⟨zf_m385, zf_m2, ⟨by decide, by decide, by decide +kernel⟩, by decide +kernel, rfl, ⟨zf_m383, zf_m384, by decide⟩⟩
theorem zf_e75 : zf_okE (yX8_played, cX8_played, 2, (some .int), 8, 1, 0, 0, 0) := ⟨zf_m415, zf_m2, ⟨by decide, by decide, by decide +kernel⟩, by decide +kernel, rfl, ⟨zf_m413, zf_m414, by decide⟩⟩
theorem zf_e76 : zf_okE (yX8_sheet, cX8_sheet, 4, (some .int), 8, 3, 0, 1, 23) := ⟨zf_m177, zf_m2, ⟨by decide, by decide, by decide +kernel⟩, by decide +kernel, rfl, ⟨zf_m175, zf_m176, by decide⟩⟩
theorem zf_e78 : zf_okE (yX8_put, cX8_put, 6, (some .int), 8, 4, 0, 2, 43) := ⟨zf_m376, zf_m2, ⟨by decide, by decide, by decide +kernel⟩, by decide +kernel, rfl, ⟨zf_m374, zf_m375, by decide⟩⟩
theorem zf_e81 : zf_okE (yX8_shake, cX8_shake, 6, (some .int), 8, 2, 0, 2, 43) := ⟨zf_m361, zf_m2, ⟨by decide, by decide, by decide +kernel⟩, by decide +kernel, rfl, ⟨zf_m359, zf_m360, by decide⟩⟩
theorem zf_e84 : zf_okE (yX8_isSide, cX8_isSide, 1, (some .boolean), 8, 1, 1, 0, 0) := ⟨zf_m162, zf_m2, ⟨by decide, by decide, by decide +kernel⟩, by decide +kernel, rfl, ⟨zf_m161, by decide⟩⟩
theorem zf_e85 : zf_okE (yX8_isSideOrNone, cX8_isSideOrNone, 1, (some .boolean), 8, 1, 1, 1, 20) := ⟨zf_m173, zf_m2, ⟨by decide, by decide, by decide +kernel⟩, by decide +kernel, rfl, ⟨zf_m172, by decide⟩⟩
theorem zf_e86 : zf_okE (yX8_isPlace, cX8_isPlace, 1, (some .boolean), 8, 1, 1, 0, 0) := ⟨zf_m222, zf_m2, ⟨by decide, by decide, by decide +kernel⟩, by decide +kernel, rfl, ⟨zf_m221, by decide⟩⟩
theorem zf_e87 : zf_okE (yX8_isSheet, cX8_isSheet, 1, (some .boolean), 8, 1, 1, 0, 0) := ⟨zf_m180, zf_m2, ⟨by decide, by decide, by decide +kernel⟩, by decide +kernel, rfl, ⟨zf_m179, by decide⟩⟩
theorem zf_e88 : zf_okE (yX8_isForm, cX8_isForm, 1, (some .boolean), 8, 1, 1, 0, 0) := ⟨zf_m183, zf_m2, ⟨by decide, by decide, by decide +kernel⟩, by decide +kernel, rfl, ⟨zf_m182, by decide⟩⟩
theorem zf_e89 : zf_okE (yX8_seatOf, cX8_seatOf, 2, (some .int), 8, 2, 1, 0, 0) := ⟨zf_m216, zf_m2, ⟨by decide, by decide, by decide +kernel⟩, by decide +kernel, rfl, ⟨zf_m215, by decide⟩⟩
theorem zf_e90 : zf_okE (yX8_rowSize, cX8_rowSize, 4, (some .int), 8, 3, 0, 2, 42) := ⟨zf_m154, zf_m2, ⟨by decide, by decide, by decide +kernel⟩, by decide +kernel, rfl, ⟨zf_m152, zf_m153, by decide⟩⟩
theorem zf_e91 : zf_okE (yX8_isFighterOrNone, cX8_isFighterOrNone, 2, (some .boolean), 8, 1, 0, 1, 21) := ⟨zf_m158, zf_m2, ⟨by decide, by decide, by decide +kernel⟩, by decide +kernel, rfl, ⟨zf_m156, zf_m157, by decide⟩⟩
theorem zf_e92 : zf_okE (yX8_refusal, cX8_refusal, 1, (some .long), 8, 1, 1, 0, 0) := ⟨zf_m351, zf_m2, ⟨by decide, by decide, by decide +kernel⟩, by decide +kernel, rfl, ⟨zf_m350, by decide⟩⟩
theorem zf_e93 : zf_okE (yX8_found, cX8_found, 2, (some .int), 8, 1, 0, 0, 0) := ⟨zf_m187, zf_m2, ⟨by decide, by decide, by decide +kernel⟩, by decide +kernel, rfl, ⟨zf_m185, zf_m186, by decide⟩⟩
theorem zf_e94 : zf_okE (yX8_itemFault, cX8_itemFault, 3, (some .int), 8, 3, 1, 1, 21) := ⟨zf_m379, zf_m2, ⟨by decide, by decide, by decide +kernel⟩, by decide +kernel, rfl, ⟨zf_m378, by decide⟩⟩
theorem zf_e95 : zf_okE (yX8_seatFight, cX8_seatFight, 1, none, 8, 0, 0, 4, 92) := ⟨zf_m204, zf_m2, ⟨by decide, by decide, by decide +kernel⟩, by decide +kernel, rfl, ⟨zf_m202, zf_m203, by decide⟩⟩
theorem zf_e96 : zf_okE (yX8_seatHeroes, cX8_seatHeroes, 5, none, 8, 2, 0, 3, 68) := ⟨zf_m212, zf_m2, ⟨by decide, by decide, by decide +kernel⟩, by decide +kernel, rfl, ⟨zf_m210, zf_m211, by decide⟩⟩
theorem zf_e97 : zf_okE (yX8_seatFoes, cX8_seatFoes, 3, none, 8, 1, 0, 3, 68) := ⟨zf_m234, zf_m2, ⟨by decide, by decide, by decide +kernel⟩, by decide +kernel, rfl, ⟨zf_m232, zf_m233, by decide⟩⟩
theorem zf_e98 : zf_okE (yX8_reckonFight, cX8_reckonFight, 1, (some .boolean), 8, 0, 0, 5, 140) := ⟨zf_m200, zf_m2, ⟨by decide, by decide, by decide +kernel⟩, by decide +kernel, rfl, ⟨zf_m198, zf_m199, by decide⟩⟩
theorem zf_e166 : zf_okE (yL_cell, cL_cell, 2, (some .int), 10, 2, 1, 0, 0) := ⟨zf_m123, zf_m119, ⟨by decide, by decide, by decide +kernel⟩, by decide +kernel, rfl, ⟨zf_m122, by decide⟩⟩
theorem zf_e167 : zf_okE (yL_up, cL_up, 2, (some .int), 10, 2, 1, 0, 0) := ⟨zf_m127, zf_m119, ⟨by decide, by decide, by decide +kernel⟩, by decide +kernel, rfl, ⟨zf_m126, by decide⟩⟩
theorem zf_e168 : zf_okE (yL_build, cL_build, 13, (some .boolean), 10, 5, 1, 3, 72) := ⟨zf_m120, zf_m119, ⟨by decide, by decide, by decide +kernel⟩, by decide +kernel, rfl, ⟨zf_m118, by decide⟩⟩
theorem zf_et0 : ∀ e ∈ zf_mt0, zf_okE e := List.forall_mem_cons.mpr ⟨zf_e0, List.forall_mem_cons.mpr ⟨zf_e1, List.forall_mem_cons.mpr ⟨zf_e2, List.forall_mem_cons.mpr ⟨zf_e3, List.forall_mem_cons.mpr ⟨zf_e0, List.forall_mem_cons.mpr ⟨zf_e0, List.forall_mem_cons.mpr ⟨zf_e6, List.forall_mem_cons.mpr ⟨zf_e7, List.forall_mem_cons.mpr ⟨zf_e8, List.forall_mem_cons.mpr ⟨zf_e9, List.forall_mem_cons.mpr ⟨zf_e10, List.forall_mem_cons.mpr ⟨zf_e11, List.forall_mem_cons.mpr ⟨zf_e12, List.forall_mem_cons.mpr ⟨zf_e13, List.forall_mem_cons.mpr ⟨zf_e14, List.forall_mem_cons.mpr ⟨zf_e15, List.forall_mem_cons.mpr ⟨zf_e16, List.forall_mem_cons.mpr ⟨zf_e17, List.forall_mem_cons.mpr ⟨zf_e18, List.forall_mem_cons.mpr ⟨zf_e19, List.forall_mem_cons.mpr ⟨zf_e20, List.forall_mem_cons.mpr ⟨zf_e21, List.forall_mem_cons.mpr ⟨zf_e22, List.forall_mem_cons.mpr ⟨zf_e23, fun _ h => absurd h List.not_mem_nil⟩⟩⟩⟩⟩⟩⟩⟩⟩⟩⟩⟩⟩⟩⟩⟩⟩⟩⟩⟩⟩⟩⟩⟩
theorem zf_et1 : ∀ e ∈ zf_mt1, zf_okE e := List.forall_mem_cons.mpr ⟨zf_e24, List.forall_mem_cons.mpr ⟨zf_e25, List.forall_mem_cons.mpr ⟨zf_e26, List.forall_mem_cons.mpr ⟨zf_e27, List.forall_mem_cons.mpr ⟨zf_e28, List.forall_mem_cons.mpr ⟨zf_e0, List.forall_mem_cons.mpr ⟨zf_e30, List.forall_mem_cons.mpr ⟨zf_e31, List.forall_mem_cons.mpr ⟨zf_e32, List.forall_mem_cons.mpr ⟨zf_e33, List.forall_mem_cons.mpr ⟨zf_e34, List.forall_mem_cons.mpr ⟨zf_e35, List.forall_mem_cons.mpr ⟨zf_e36, List.forall_mem_cons.mpr ⟨zf_e37, List.forall_mem_cons.mpr ⟨zf_e38, List.forall_mem_cons.mpr ⟨zf_e39, List.forall_mem_cons.mpr ⟨zf_e40, List.forall_mem_cons.mpr ⟨zf_e41, List.forall_mem_cons.mpr ⟨zf_e42, List.forall_mem_cons.mpr ⟨zf_e43, List.forall_mem_cons.mpr ⟨zf_e44, List.forall_mem_cons.mpr ⟨zf_e45, List.forall_mem_cons.mpr ⟨zf_e0, List.forall_mem_cons.mpr ⟨zf_e47, fun _ h => absurd h List.not_mem_nil⟩⟩⟩⟩⟩⟩⟩⟩⟩⟩⟩⟩⟩⟩⟩⟩⟩⟩⟩⟩⟩⟩⟩⟩
theorem zf_et2 : ∀ e ∈ zf_mt2, zf_okE e := List.forall_mem_cons.mpr ⟨zf_e48, List.forall_mem_cons.mpr ⟨zf_e49, List.forall_mem_cons.mpr ⟨zf_e50, List.forall_mem_cons.mpr ⟨zf_e0, List.forall_mem_cons.mpr ⟨zf_e0, List.forall_mem_cons.mpr ⟨zf_e53, List.forall_mem_cons.mpr ⟨zf_e0, List.forall_mem_cons.mpr ⟨zf_e55, List.forall_mem_cons.mpr ⟨zf_e56, List.forall_mem_cons.mpr ⟨zf_e57, List.forall_mem_cons.mpr ⟨zf_e58, List.forall_mem_cons.mpr ⟨zf_e0, List.forall_mem_cons.mpr ⟨zf_e60, List.forall_mem_cons.mpr ⟨zf_e61, List.forall_mem_cons.mpr ⟨zf_e62, List.forall_mem_cons.mpr ⟨zf_e0, List.forall_mem_cons.mpr ⟨zf_e0, List.forall_mem_cons.mpr ⟨zf_e0, List.forall_mem_cons.mpr ⟨zf_e0, List.forall_mem_cons.mpr ⟨zf_e0, List.forall_mem_cons.mpr ⟨zf_e0, List.forall_mem_cons.mpr ⟨zf_e0, List.forall_mem_cons.mpr ⟨zf_e0, List.forall_mem_cons.mpr ⟨zf_e0, fun _ h => absurd h List.not_mem_nil⟩⟩⟩⟩⟩⟩⟩⟩⟩⟩⟩⟩⟩⟩⟩⟩⟩⟩⟩⟩⟩⟩⟩⟩
theorem zf_et3 : ∀ e ∈ zf_mt3, zf_okE e := List.forall_mem_cons.mpr ⟨zf_e0, List.forall_mem_cons.mpr ⟨zf_e0, List.forall_mem_cons.mpr ⟨zf_e74, List.forall_mem_cons.mpr ⟨zf_e75, List.forall_mem_cons.mpr ⟨zf_e76, List.forall_mem_cons.mpr ⟨zf_e0, List.forall_mem_cons.mpr ⟨zf_e78, List.forall_mem_cons.mpr ⟨zf_e0, List.forall_mem_cons.mpr ⟨zf_e0, List.forall_mem_cons.mpr ⟨zf_e81, List.forall_mem_cons.mpr ⟨zf_e0, List.forall_mem_cons.mpr ⟨zf_e0, List.forall_mem_cons.mpr ⟨zf_e84, List.forall_mem_cons.mpr ⟨zf_e85, List.forall_mem_cons.mpr ⟨zf_e86, List.forall_mem_cons.mpr ⟨zf_e87, List.forall_mem_cons.mpr ⟨zf_e88, List.forall_mem_cons.mpr ⟨zf_e89, List.forall_mem_cons.mpr ⟨zf_e90, List.forall_mem_cons.mpr ⟨zf_e91, List.forall_mem_cons.mpr ⟨zf_e92, List.forall_mem_cons.mpr ⟨zf_e93, List.forall_mem_cons.mpr ⟨zf_e94, List.forall_mem_cons.mpr ⟨zf_e95, fun _ h => absurd h List.not_mem_nil⟩⟩⟩⟩⟩⟩⟩⟩⟩⟩⟩⟩⟩⟩⟩⟩⟩⟩⟩⟩⟩⟩⟩⟩
theorem zf_et4 : ∀ e ∈ zf_mt4, zf_okE e := List.forall_mem_cons.mpr ⟨zf_e96, List.forall_mem_cons.mpr ⟨zf_e97, List.forall_mem_cons.mpr ⟨zf_e98, List.forall_mem_cons.mpr ⟨zf_e0, List.forall_mem_cons.mpr ⟨zf_e0, List.forall_mem_cons.mpr ⟨zf_e0, List.forall_mem_cons.mpr ⟨zf_e0, List.forall_mem_cons.mpr ⟨zf_e0, List.forall_mem_cons.mpr ⟨zf_e0, List.forall_mem_cons.mpr ⟨zf_e0, List.forall_mem_cons.mpr ⟨zf_e0, List.forall_mem_cons.mpr ⟨zf_e0, List.forall_mem_cons.mpr ⟨zf_e0, List.forall_mem_cons.mpr ⟨zf_e0, List.forall_mem_cons.mpr ⟨zf_e0, List.forall_mem_cons.mpr ⟨zf_e0, List.forall_mem_cons.mpr ⟨zf_e0, List.forall_mem_cons.mpr ⟨zf_e0, List.forall_mem_cons.mpr ⟨zf_e0, List.forall_mem_cons.mpr ⟨zf_e0, List.forall_mem_cons.mpr ⟨zf_e0, List.forall_mem_cons.mpr ⟨zf_e0, List.forall_mem_cons.mpr ⟨zf_e0, List.forall_mem_cons.mpr ⟨zf_e0, fun _ h => absurd h List.not_mem_nil⟩⟩⟩⟩⟩⟩⟩⟩⟩⟩⟩⟩⟩⟩⟩⟩⟩⟩⟩⟩⟩⟩⟩⟩
theorem zf_et5 : ∀ e ∈ zf_mt5, zf_okE e := List.forall_mem_cons.mpr ⟨zf_e0, List.forall_mem_cons.mpr ⟨zf_e0, List.forall_mem_cons.mpr ⟨zf_e0, List.forall_mem_cons.mpr ⟨zf_e0, List.forall_mem_cons.mpr ⟨zf_e0, List.forall_mem_cons.mpr ⟨zf_e0, List.forall_mem_cons.mpr ⟨zf_e0, List.forall_mem_cons.mpr ⟨zf_e0, List.forall_mem_cons.mpr ⟨zf_e0, List.forall_mem_cons.mpr ⟨zf_e0, List.forall_mem_cons.mpr ⟨zf_e0, List.forall_mem_cons.mpr ⟨zf_e0, List.forall_mem_cons.mpr ⟨zf_e0, List.forall_mem_cons.mpr ⟨zf_e0, List.forall_mem_cons.mpr ⟨zf_e0, List.forall_mem_cons.mpr ⟨zf_e0, List.forall_mem_cons.mpr ⟨zf_e0, List.forall_mem_cons.mpr ⟨zf_e0, List.forall_mem_cons.mpr ⟨zf_e0, List.forall_mem_cons.mpr ⟨zf_e0, List.forall_mem_cons.mpr ⟨zf_e0, List.forall_mem_cons.mpr ⟨zf_e0, List.forall_mem_cons.mpr ⟨zf_e0, List.forall_mem_cons.mpr ⟨zf_e0, fun _ h => absurd h List.not_mem_nil⟩⟩⟩⟩⟩⟩⟩⟩⟩⟩⟩⟩⟩⟩⟩⟩⟩⟩⟩⟩⟩⟩⟩⟩
theorem zf_et6 : ∀ e ∈ zf_mt6, zf_okE e := List.forall_mem_cons.mpr ⟨zf_e0, List.forall_mem_cons.mpr ⟨zf_e0, List.forall_mem_cons.mpr ⟨zf_e0, List.forall_mem_cons.mpr ⟨zf_e0, List.forall_mem_cons.mpr ⟨zf_e0, List.forall_mem_cons.mpr ⟨zf_e0, List.forall_mem_cons.mpr ⟨zf_e0, List.forall_mem_cons.mpr ⟨zf_e0, List.forall_mem_cons.mpr ⟨zf_e0, List.forall_mem_cons.mpr ⟨zf_e0, List.forall_mem_cons.mpr ⟨zf_e0, List.forall_mem_cons.mpr ⟨zf_e0, List.forall_mem_cons.mpr ⟨zf_e0, List.forall_mem_cons.mpr ⟨zf_e0, List.forall_mem_cons.mpr ⟨zf_e0, List.forall_mem_cons.mpr ⟨zf_e0, List.forall_mem_cons.mpr ⟨zf_e0, List.forall_mem_cons.mpr ⟨zf_e0, List.forall_mem_cons.mpr ⟨zf_e0, List.forall_mem_cons.mpr ⟨zf_e0, List.forall_mem_cons.mpr ⟨zf_e0, List.forall_mem_cons.mpr ⟨zf_e0, List.forall_mem_cons.mpr ⟨zf_e166, List.forall_mem_cons.mpr ⟨zf_e167, fun _ h => absurd h List.not_mem_nil⟩⟩⟩⟩⟩⟩⟩⟩⟩⟩⟩⟩⟩⟩⟩⟩⟩⟩⟩⟩⟩⟩⟩⟩
theorem zf_et7 : ∀ e ∈ zf_mt7, zf_okE e := List.forall_mem_cons.mpr ⟨zf_e168, fun _ h => absurd h List.not_mem_nil⟩
theorem zf_et : ∀ e ∈ zf_mt, zf_okE e := List.forall_mem_append.mpr ⟨zf_et0, List.forall_mem_append.mpr ⟨zf_et1, List.forall_mem_append.mpr ⟨zf_et2, List.forall_mem_append.mpr ⟨zf_et3, List.forall_mem_append.mpr ⟨zf_et4, List.forall_mem_append.mpr ⟨zf_et5, List.forall_mem_append.mpr ⟨zf_et6, zf_et7⟩⟩⟩⟩⟩⟩⟩
theorem zf_eok (k : Nat) (h : k ≠ 1000) : zf_okE (zf_g k) := by
  unfold zf_g
  rw [if_neg h]
  by_cases hk : k < zf_mt.length
  · rw [List.getD_eq_getElem?_getD, List.getElem?_eq_getElem hk]
    exact zf_et _ (List.getElem_mem hk)
  · rw [List.getD_eq_getElem?_getD, List.getElem?_eq_none (by omega)]
    exact zf_e0
/-- links to nest mates -/
def zf_nl : List (Nat × Nat × Nat) := [(1, 34, 40), (4, 31, 22), (6, 19, 86), (8, 9, 35), (8, 24, 6), (8, 31, 26), (8, 49, 0), (8, 76, 40), (8, 77, 43)]
theorem zf_nm0 : Cond.methodLinkNest (zf_oR 1) 34 (zf_g 40).1 "FairFight" ∈ lw_tbl := zf_it1 (List.mem_of_getElem? (i := 151) rfl)
theorem zf_nm1 : Cond.methodLinkNest (zf_oR 4) 31 (zf_g 22).1 "FairFight" ∈ lw_tbl := zf_it1 (List.mem_of_getElem? (i := 90) rfl)
theorem zf_nm2 : Cond.methodLinkNest (zf_oR 6) 19 (zf_g 86).1 "FairFight" ∈ lw_tbl := zf_it2 (List.mem_of_getElem? (i := 90) rfl)
theorem zf_nm3 : Cond.methodLinkNest (zf_oR 8) 9 (zf_g 35).1 "FairFight" ∈ lw_tbl := zf_it1 (List.mem_of_getElem? (i := 21) rfl)
theorem zf_nm4 : Cond.methodLinkNest (zf_oR 8) 24 (zf_g 6).1 "FairFight" ∈ lw_tbl := zf_it1 (List.mem_of_getElem? (i := 38) rfl)
theorem zf_nm5 : Cond.methodLinkNest (zf_oR 8) 31 (zf_g 26).1 "FairFight" ∈ lw_tbl := zf_it1 (List.mem_of_getElem? (i := 84) rfl)
theorem zf_nm6 : Cond.methodLinkNest (zf_oR 8) 49 (zf_g 0).1 "FairFight" ∈ lw_tbl := zf_it1 (List.mem_of_getElem? (i := 184) rfl)
theorem zf_nm7 : Cond.methodLinkNest (zf_oR 8) 76 (zf_g 40).1 "FairFight" ∈ lw_tbl := zf_it1 (List.mem_of_getElem? (i := 207) rfl)
theorem zf_nm8 : Cond.methodLinkNest (zf_oR 8) 77 (zf_g 43).1 "FairFight" ∈ lw_tbl := zf_it1 (List.mem_of_getElem? (i := 209) rfl)
theorem zf_nlt : ∀ e ∈ zf_nl, Cond.methodLinkNest (zf_oR e.1) e.2.1 (zf_g e.2.2).1 "FairFight" ∈ lw_tbl := List.forall_mem_cons.mpr ⟨zf_nm0, List.forall_mem_cons.mpr ⟨zf_nm1, List.forall_mem_cons.mpr ⟨zf_nm2, List.forall_mem_cons.mpr ⟨zf_nm3, List.forall_mem_cons.mpr ⟨zf_nm4, List.forall_mem_cons.mpr ⟨zf_nm5, List.forall_mem_cons.mpr ⟨zf_nm6, List.forall_mem_cons.mpr ⟨zf_nm7, List.forall_mem_cons.mpr ⟨zf_nm8, fun _ h => absurd h List.not_mem_nil⟩⟩⟩⟩⟩⟩⟩⟩⟩
def zf_ml0 : List (Nat × Nat × Nat × Nat) := [(0, 3, 3, 0), (0, 25, 0, 9), (0, 31, 1, 10), (0, 44, 0, 13), (0, 48, 0, 14), (0, 52, 0, 15), (0, 56, 0, 45), (0, 62, 0, 47), (0, 66, 0, 16), (0, 69, 0, 17), (0, 72, 0, 2), (0, 76, 1, 11), (0, 80, 1, 12), (1, 3, 3, 0), (1, 34, 7, 40), (2, 3, 3, 0), (2, 46, 0, 38), (2, 56, 1, 11), (2, 60, 1, 12), (2, 68, 0, 18), (2, 72, 1, 20), (2, 76, 0, 19), (2, 79, 0, 21), (2, 86, 5, 0)]
def zf_ml1 : List (Nat × Nat × Nat × Nat) := [(3, 3, 3, 0), (3, 31, 0, 25), (4, 3, 3, 0), (4, 31, 7, 22), (4, 50, 0, 30), (4, 53, 1, 31), (4, 57, 0, 9), (4, 61, 1, 10), (4, 65, 0, 34), (4, 69, 0, 24), (4, 74, 4, 0), (4, 86, 0, 32), (4, 92, 0, 23), (4, 101, 0, 13), (4, 105, 0, 33), (4, 109, 0, 14), (4, 113, 0, 15), (4, 117, 0, 16), (4, 121, 0, 17), (4, 124, 1, 11), (5, 3, 3, 0), (5, 25, 0, 37), (6, 3, 3, 0), (6, 19, 8, 86)]
def zf_ml2 : List (Nat × Nat × Nat × Nat) := [(7, 3, 3, 0), (7, 26, 0, 45), (8, 1, 3, 0), (8, 9, 7, 35), (8, 24, 7, 6), (8, 31, 7, 26), (8, 38, 2, 3), (8, 49, 7, 0), (8, 76, 7, 40), (8, 77, 7, 43), (8, 78, 1, 36), (8, 85, 0, 39), (8, 89, 0, 37), (8, 97, 0, 90), (8, 101, 1, 84), (8, 104, 0, 41), (8, 108, 1, 86), (8, 111, 0, 42), (8, 115, 1, 85), (8, 119, 0, 98), (8, 127, 1, 92), (8, 139, 1, 89), (8, 142, 0, 28), (8, 157, 0, 7)]
def zf_ml3 : List (Nat × Nat × Nat × Nat) := [(8, 160, 0, 96), (8, 164, 0, 97), (8, 168, 0, 27), (8, 204, 1, 87), (8, 211, 0, 93), (8, 214, 0, 95), (8, 217, 0, 1), (8, 233, 1, 88), (8, 236, 0, 44), (8, 240, 1, 94), (8, 244, 0, 48), (8, 282, 0, 91), (8, 287, 0, 45), (8, 288, 0, 8), (10, 9, 1, 166), (10, 15, 1, 167), (10, 19, 0, 50), (10, 25, 2, 49), (10, 26, 1, 168), (10, 30, 0, 53), (10, 34, 0, 55), (10, 38, 0, 76), (10, 41, 0, 61), (10, 45, 0, 56)]
def zf_ml4 : List (Nat × Nat × Nat × Nat) := [(10, 48, 0, 58), (10, 54, 0, 57), (10, 58, 0, 81), (10, 61, 0, 78), (10, 64, 0, 74), (10, 68, 0, 75), (10, 71, 0, 62), (10, 74, 0, 60)]
def zf_ml : List (Nat × Nat × Nat × Nat) := zf_ml0 ++ (zf_ml1 ++ (zf_ml2 ++ (zf_ml3 ++ (zf_ml4))))
def zf_mlO (e : (Nat × Nat × Nat × Nat)) : Prop := match e.2.2.1 with | 0 => Cond.methodLink (zf_oR e.1) e.2.1 (zf_g e.2.2.2).1 ∈ zf_T ∧ e.2.2.2 ≠ 1000 ∧ (zf_g e.2.2.2).2.2.2.2.2.2.1 = 0 | 1 => Cond.methodLink (zf_oR e.1) e.2.1 (zf_g e.2.2.2).1 ∈ zf_T ∧ e.2.2.2 ≠ 1000 ∧ (zf_g e.2.2.2).2.2.2.2.2.2.1 = 1 | 2 => Cond.methodLink (zf_oR e.1) e.2.1 (zf_g e.2.2.2).1 ∈ zf_T ∧ e.2.2.2 ≠ 1000 ∧ (zf_g e.2.2.2).2.2.2.2.2.2.1 = 2 | 3 => Cond.methodLink (zf_oR e.1) e.2.1 objectInit ∈ zf_T | 4 => Cond.methodLink (zf_oR e.1) e.2.1 Lib.Math.max.name ∈ zf_T | 5 => Cond.methodLink (zf_oR e.1) e.2.1 Lib.Math.min.name ∈ zf_T | 6 => False | 7 => (e.1, e.2.1, e.2.2.2) ∈ zf_nl ∧ e.2.2.2 ≠ 1000 ∧ (zf_g e.2.2.2).2.2.2.2.2.2.1 = 2 | 8 => (e.1, e.2.1, e.2.2.2) ∈ zf_nl ∧ e.2.2.2 ≠ 1000 ∧ (zf_g e.2.2.2).2.2.2.2.2.2.1 = 1 | _ => False
theorem zf_mle0 : zf_mlO (0, 3, 3, 0) := zf_m105
theorem zf_mle1 : zf_mlO (0, 25, 0, 9) := ⟨zf_m394, by decide, rfl⟩
theorem zf_mle2 : zf_mlO (0, 31, 1, 10) := ⟨zf_m395, by decide, rfl⟩
theorem zf_mle3 : zf_mlO (0, 44, 0, 13) := ⟨zf_m396, by decide, rfl⟩
theorem zf_mle4 : zf_mlO (0, 48, 0, 14) := ⟨zf_m397, by decide, rfl⟩
theorem zf_mle5 : zf_mlO (0, 52, 0, 15) := ⟨zf_m398, by decide, rfl⟩
theorem zf_mle6 : zf_mlO (0, 56, 0, 45) := ⟨zf_m399, by decide, rfl⟩
theorem zf_mle7 : zf_mlO (0, 62, 0, 47) := ⟨zf_m400, by decide, rfl⟩
theorem zf_mle8 : zf_mlO (0, 66, 0, 16) := ⟨zf_m404, by decide, rfl⟩
theorem zf_mle9 : zf_mlO (0, 69, 0, 17) := ⟨zf_m405, by decide, rfl⟩
theorem zf_mle10 : zf_mlO (0, 72, 0, 2) := ⟨zf_m406, by decide, rfl⟩
theorem zf_mle11 : zf_mlO (0, 76, 1, 11) := ⟨zf_m410, by decide, rfl⟩
theorem zf_mle12 : zf_mlO (0, 80, 1, 12) := ⟨zf_m411, by decide, rfl⟩
theorem zf_mle13 : zf_mlO (1, 3, 3, 0) := zf_m90
theorem zf_mle14 : zf_mlO (1, 34, 7, 40) := ⟨by decide, by decide, rfl⟩
theorem zf_mle15 : zf_mlO (2, 3, 3, 0) := zf_m52
theorem zf_mle16 : zf_mlO (2, 46, 0, 38) := ⟨zf_m227, by decide, rfl⟩
theorem zf_mle17 : zf_mlO (2, 56, 1, 11) := ⟨zf_m294, by decide, rfl⟩
theorem zf_mle18 : zf_mlO (2, 60, 1, 12) := ⟨zf_m303, by decide, rfl⟩
theorem zf_mle19 : zf_mlO (2, 68, 0, 18) := ⟨zf_m320, by decide, rfl⟩
theorem zf_mle20 : zf_mlO (2, 72, 1, 20) := ⟨zf_m324, by decide, rfl⟩
theorem zf_mle21 : zf_mlO (2, 76, 0, 19) := ⟨zf_m329, by decide, rfl⟩
theorem zf_mle22 : zf_mlO (2, 79, 0, 21) := ⟨zf_m333, by decide, rfl⟩
theorem zf_mle23 : zf_mlO (2, 86, 5, 0) := zf_m337
theorem zf_mle24 : zf_mlO (3, 3, 3, 0) := zf_m81
theorem zf_mle25 : zf_mlO (3, 31, 0, 25) := ⟨zf_m280, by decide, rfl⟩
theorem zf_mle26 : zf_mlO (4, 3, 3, 0) := zf_m66
theorem zf_mle27 : zf_mlO (4, 31, 7, 22) := ⟨by decide, by decide, rfl⟩
theorem zf_mle28 : zf_mlO (4, 50, 0, 30) := ⟨zf_m248, by decide, rfl⟩
theorem zf_mle29 : zf_mlO (4, 53, 1, 31) := ⟨zf_m256, by decide, rfl⟩
theorem zf_mle30 : zf_mlO (4, 57, 0, 9) := ⟨zf_m259, by decide, rfl⟩
theorem zf_mle31 : zf_mlO (4, 61, 1, 10) := ⟨zf_m263, by decide, rfl⟩
theorem zf_mle32 : zf_mlO (4, 65, 0, 34) := ⟨zf_m268, by decide, rfl⟩
theorem zf_mle33 : zf_mlO (4, 69, 0, 24) := ⟨zf_m275, by decide, rfl⟩
theorem zf_mle34 : zf_mlO (4, 74, 4, 0) := zf_m242
theorem zf_mle35 : zf_mlO (4, 86, 0, 32) := ⟨zf_m284, by decide, rfl⟩
theorem zf_mle36 : zf_mlO (4, 92, 0, 23) := ⟨zf_m252, by decide, rfl⟩
theorem zf_mle37 : zf_mlO (4, 101, 0, 13) := ⟨zf_m290, by decide, rfl⟩
theorem zf_mle38 : zf_mlO (4, 105, 0, 33) := ⟨zf_m295, by decide, rfl⟩
theorem zf_mle39 : zf_mlO (4, 109, 0, 14) := ⟨zf_m299, by decide, rfl⟩
theorem zf_mle40 : zf_mlO (4, 113, 0, 15) := ⟨zf_m306, by decide, rfl⟩
theorem zf_mle41 : zf_mlO (4, 117, 0, 16) := ⟨zf_m312, by decide, rfl⟩
theorem zf_mle42 : zf_mlO (4, 121, 0, 17) := ⟨zf_m316, by decide, rfl⟩
theorem zf_mle43 : zf_mlO (4, 124, 1, 11) := ⟨zf_m272, by decide, rfl⟩
theorem zf_mle44 : zf_mlO (5, 3, 3, 0) := zf_m47
theorem zf_mle45 : zf_mlO (5, 25, 0, 37) := ⟨zf_m143, by decide, rfl⟩
theorem zf_mle46 : zf_mlO (6, 3, 3, 0) := zf_m100
theorem zf_mle47 : zf_mlO (6, 19, 8, 86) := ⟨by decide, by decide, rfl⟩
theorem zf_mle48 : zf_mlO (7, 3, 3, 0) := zf_m112
theorem zf_mle49 : zf_mlO (7, 26, 0, 45) := ⟨zf_m369, by decide, rfl⟩
theorem zf_mle50 : zf_mlO (8, 1, 3, 0) := zf_m8
theorem zf_mle51 : zf_mlO (8, 9, 7, 35) := ⟨by decide, by decide, rfl⟩
theorem zf_mle52 : zf_mlO (8, 24, 7, 6) := ⟨by decide, by decide, rfl⟩
theorem zf_mle53 : zf_mlO (8, 31, 7, 26) := ⟨by decide, by decide, rfl⟩
theorem zf_mle54 : zf_mlO (8, 38, 2, 3) := ⟨zf_m87, by decide, rfl⟩
theorem zf_mle55 : zf_mlO (8, 49, 7, 0) := ⟨by decide, by decide, rfl⟩
theorem zf_mle56 : zf_mlO (8, 76, 7, 40) := ⟨by decide, by decide, rfl⟩
theorem zf_mle57 : zf_mlO (8, 77, 7, 43) := ⟨by decide, by decide, rfl⟩
theorem zf_mle58 : zf_mlO (8, 78, 1, 36) := ⟨zf_m134, by decide, rfl⟩
theorem zf_mle59 : zf_mlO (8, 85, 0, 39) := ⟨zf_m139, by decide, rfl⟩
theorem zf_mle60 : zf_mlO (8, 89, 0, 37) := ⟨zf_m159, by decide, rfl⟩
theorem zf_mle61 : zf_mlO (8, 97, 0, 90) := ⟨zf_m151, by decide, rfl⟩
theorem zf_mle62 : zf_mlO (8, 101, 1, 84) := ⟨zf_m160, by decide, rfl⟩
theorem zf_mle63 : zf_mlO (8, 104, 0, 41) := ⟨zf_m163, by decide, rfl⟩
theorem zf_mle64 : zf_mlO (8, 108, 1, 86) := ⟨zf_m428, by decide, rfl⟩
theorem zf_mle65 : zf_mlO (8, 111, 0, 42) := ⟨zf_m217, by decide, rfl⟩
theorem zf_mle66 : zf_mlO (8, 115, 1, 85) := ⟨zf_m171, by decide, rfl⟩
theorem zf_mle67 : zf_mlO (8, 119, 0, 98) := ⟨zf_m197, by decide, rfl⟩
theorem zf_mle68 : zf_mlO (8, 127, 1, 92) := ⟨zf_m349, by decide, rfl⟩
theorem zf_mle69 : zf_mlO (8, 139, 1, 89) := ⟨zf_m214, by decide, rfl⟩
theorem zf_mle70 : zf_mlO (8, 142, 0, 28) := ⟨zf_m429, by decide, rfl⟩
theorem zf_mle71 : zf_mlO (8, 157, 0, 7) := ⟨zf_m205, by decide, rfl⟩
theorem zf_mle72 : zf_mlO (8, 160, 0, 96) := ⟨zf_m209, by decide, rfl⟩
theorem zf_mle73 : zf_mlO (8, 164, 0, 97) := ⟨zf_m231, by decide, rfl⟩
theorem zf_mle74 : zf_mlO (8, 168, 0, 27) := ⟨zf_m235, by decide, rfl⟩
theorem zf_mle75 : zf_mlO (8, 204, 1, 87) := ⟨zf_m178, by decide, rfl⟩
theorem zf_mle76 : zf_mlO (8, 211, 0, 93) := ⟨zf_m184, by decide, rfl⟩
theorem zf_mle77 : zf_mlO (8, 214, 0, 95) := ⟨zf_m201, by decide, rfl⟩
theorem zf_mle78 : zf_mlO (8, 217, 0, 1) := ⟨zf_m387, by decide, rfl⟩
theorem zf_mle79 : zf_mlO (8, 233, 1, 88) := ⟨zf_m181, by decide, rfl⟩
theorem zf_mle80 : zf_mlO (8, 236, 0, 44) := ⟨zf_m188, by decide, rfl⟩
theorem zf_mle81 : zf_mlO (8, 240, 1, 94) := ⟨zf_m377, by decide, rfl⟩
theorem zf_mle82 : zf_mlO (8, 244, 0, 48) := ⟨zf_m365, by decide, rfl⟩
theorem zf_mle83 : zf_mlO (8, 282, 0, 91) := ⟨zf_m155, by decide, rfl⟩
theorem zf_mle84 : zf_mlO (8, 287, 0, 45) := ⟨zf_m381, by decide, rfl⟩
theorem zf_mle85 : zf_mlO (8, 288, 0, 8) := ⟨zf_m223, by decide, rfl⟩
theorem zf_mle86 : zf_mlO (10, 9, 1, 166) := ⟨zf_m121, by decide, rfl⟩
theorem zf_mle87 : zf_mlO (10, 15, 1, 167) := ⟨zf_m125, by decide, rfl⟩
theorem zf_mle88 : zf_mlO (10, 19, 0, 50) := ⟨zf_m129, by decide, rfl⟩
theorem zf_mle89 : zf_mlO (10, 25, 2, 49) := ⟨zf_m5, by decide, rfl⟩
theorem zf_mle90 : zf_mlO (10, 26, 1, 168) := ⟨zf_m117, by decide, rfl⟩
theorem zf_mle91 : zf_mlO (10, 30, 0, 53) := ⟨zf_m147, by decide, rfl⟩
theorem zf_mle92 : zf_mlO (10, 34, 0, 55) := ⟨zf_m167, by decide, rfl⟩
theorem zf_mle93 : zf_mlO (10, 38, 0, 76) := ⟨zf_m174, by decide, rfl⟩
theorem zf_mle94 : zf_mlO (10, 41, 0, 61) := ⟨zf_m192, by decide, rfl⟩
theorem zf_mle95 : zf_mlO (10, 45, 0, 56) := ⟨zf_m340, by decide, rfl⟩
theorem zf_mle96 : zf_mlO (10, 48, 0, 58) := ⟨zf_m344, by decide, rfl⟩
theorem zf_mle97 : zf_mlO (10, 54, 0, 57) := ⟨zf_m353, by decide, rfl⟩
theorem zf_mle98 : zf_mlO (10, 58, 0, 81) := ⟨zf_m358, by decide, rfl⟩
theorem zf_mle99 : zf_mlO (10, 61, 0, 78) := ⟨zf_m373, by decide, rfl⟩
theorem zf_mle100 : zf_mlO (10, 64, 0, 74) := ⟨zf_m382, by decide, rfl⟩
theorem zf_mle101 : zf_mlO (10, 68, 0, 75) := ⟨zf_m412, by decide, rfl⟩
theorem zf_mle102 : zf_mlO (10, 71, 0, 62) := ⟨zf_m419, by decide, rfl⟩
theorem zf_mle103 : zf_mlO (10, 74, 0, 60) := ⟨zf_m424, by decide, rfl⟩
theorem zf_mlt0 : ∀ e ∈ zf_ml0, zf_mlO e := List.forall_mem_cons.mpr ⟨zf_mle0, List.forall_mem_cons.mpr ⟨zf_mle1, List.forall_mem_cons.mpr ⟨zf_mle2, List.forall_mem_cons.mpr ⟨zf_mle3, List.forall_mem_cons.mpr ⟨zf_mle4, List.forall_mem_cons.mpr ⟨zf_mle5, List.forall_mem_cons.mpr ⟨zf_mle6, List.forall_mem_cons.mpr ⟨zf_mle7, List.forall_mem_cons.mpr ⟨zf_mle8, List.forall_mem_cons.mpr ⟨zf_mle9, List.forall_mem_cons.mpr ⟨zf_mle10, List.forall_mem_cons.mpr ⟨zf_mle11, List.forall_mem_cons.mpr ⟨zf_mle12, List.forall_mem_cons.mpr ⟨zf_mle13, List.forall_mem_cons.mpr ⟨zf_mle14, List.forall_mem_cons.mpr ⟨zf_mle15, List.forall_mem_cons.mpr ⟨zf_mle16, List.forall_mem_cons.mpr ⟨zf_mle17, List.forall_mem_cons.mpr ⟨zf_mle18, List.forall_mem_cons.mpr ⟨zf_mle19, List.forall_mem_cons.mpr ⟨zf_mle20, List.forall_mem_cons.mpr ⟨zf_mle21, List.forall_mem_cons.mpr ⟨zf_mle22, List.forall_mem_cons.mpr ⟨zf_mle23, fun _ h => absurd h List.not_mem_nil⟩⟩⟩⟩⟩⟩⟩⟩⟩⟩⟩⟩⟩⟩⟩⟩⟩⟩⟩⟩⟩⟩⟩⟩
theorem zf_mlt1 : ∀ e ∈ zf_ml1, zf_mlO e := List.forall_mem_cons.mpr ⟨zf_mle24, List.forall_mem_cons.mpr ⟨zf_mle25, List.forall_mem_cons.mpr ⟨zf_mle26, List.forall_mem_cons.mpr ⟨zf_mle27, List.forall_mem_cons.mpr ⟨zf_mle28, List.forall_mem_cons.mpr ⟨zf_mle29, List.forall_mem_cons.mpr ⟨zf_mle30, List.forall_mem_cons.mpr ⟨zf_mle31, List.forall_mem_cons.mpr ⟨zf_mle32, List.forall_mem_cons.mpr ⟨zf_mle33, List.forall_mem_cons.mpr ⟨zf_mle34, List.forall_mem_cons.mpr ⟨zf_mle35, List.forall_mem_cons.mpr ⟨zf_mle36, List.forall_mem_cons.mpr ⟨zf_mle37, List.forall_mem_cons.mpr ⟨zf_mle38, List.forall_mem_cons.mpr ⟨zf_mle39, List.forall_mem_cons.mpr ⟨zf_mle40, List.forall_mem_cons.mpr ⟨zf_mle41, List.forall_mem_cons.mpr ⟨zf_mle42, List.forall_mem_cons.mpr ⟨zf_mle43, List.forall_mem_cons.mpr ⟨zf_mle44, List.forall_mem_cons.mpr ⟨zf_mle45, List.forall_mem_cons.mpr ⟨zf_mle46, List.forall_mem_cons.mpr ⟨zf_mle47, fun _ h => absurd h List.not_mem_nil⟩⟩⟩⟩⟩⟩⟩⟩⟩⟩⟩⟩⟩⟩⟩⟩⟩⟩⟩⟩⟩⟩⟩⟩
theorem zf_mlt2 : ∀ e ∈ zf_ml2, zf_mlO e := List.forall_mem_cons.mpr ⟨zf_mle48, List.forall_mem_cons.mpr ⟨zf_mle49, List.forall_mem_cons.mpr ⟨zf_mle50, List.forall_mem_cons.mpr ⟨zf_mle51, List.forall_mem_cons.mpr ⟨zf_mle52, List.forall_mem_cons.mpr ⟨zf_mle53, List.forall_mem_cons.mpr ⟨zf_mle54, List.forall_mem_cons.mpr ⟨zf_mle55, List.forall_mem_cons.mpr ⟨zf_mle56, List.forall_mem_cons.mpr ⟨zf_mle57, List.forall_mem_cons.mpr ⟨zf_mle58, List.forall_mem_cons.mpr ⟨zf_mle59, List.forall_mem_cons.mpr ⟨zf_mle60, List.forall_mem_cons.mpr ⟨zf_mle61, List.forall_mem_cons.mpr ⟨zf_mle62, List.forall_mem_cons.mpr ⟨zf_mle63, List.forall_mem_cons.mpr ⟨zf_mle64, List.forall_mem_cons.mpr ⟨zf_mle65, List.forall_mem_cons.mpr ⟨zf_mle66, List.forall_mem_cons.mpr ⟨zf_mle67, List.forall_mem_cons.mpr ⟨zf_mle68, List.forall_mem_cons.mpr ⟨zf_mle69, List.forall_mem_cons.mpr ⟨zf_mle70, List.forall_mem_cons.mpr ⟨zf_mle71, fun _ h => absurd h List.not_mem_nil⟩⟩⟩⟩⟩⟩⟩⟩⟩⟩⟩⟩⟩⟩⟩⟩⟩⟩⟩⟩⟩⟩⟩⟩
theorem zf_mlt3 : ∀ e ∈ zf_ml3, zf_mlO e := List.forall_mem_cons.mpr ⟨zf_mle72, List.forall_mem_cons.mpr ⟨zf_mle73, List.forall_mem_cons.mpr ⟨zf_mle74, List.forall_mem_cons.mpr ⟨zf_mle75, List.forall_mem_cons.mpr ⟨zf_mle76, List.forall_mem_cons.mpr ⟨zf_mle77, List.forall_mem_cons.mpr ⟨zf_mle78, List.forall_mem_cons.mpr ⟨zf_mle79, List.forall_mem_cons.mpr ⟨zf_mle80, List.forall_mem_cons.mpr ⟨zf_mle81, List.forall_mem_cons.mpr ⟨zf_mle82, List.forall_mem_cons.mpr ⟨zf_mle83, List.forall_mem_cons.mpr ⟨zf_mle84, List.forall_mem_cons.mpr ⟨zf_mle85, List.forall_mem_cons.mpr ⟨zf_mle86, List.forall_mem_cons.mpr ⟨zf_mle87, List.forall_mem_cons.mpr ⟨zf_mle88, List.forall_mem_cons.mpr ⟨zf_mle89, List.forall_mem_cons.mpr ⟨zf_mle90, List.forall_mem_cons.mpr ⟨zf_mle91, List.forall_mem_cons.mpr ⟨zf_mle92, List.forall_mem_cons.mpr ⟨zf_mle93, List.forall_mem_cons.mpr ⟨zf_mle94, List.forall_mem_cons.mpr ⟨zf_mle95, fun _ h => absurd h List.not_mem_nil⟩⟩⟩⟩⟩⟩⟩⟩⟩⟩⟩⟩⟩⟩⟩⟩⟩⟩⟩⟩⟩⟩⟩⟩
theorem zf_mlt4 : ∀ e ∈ zf_ml4, zf_mlO e := List.forall_mem_cons.mpr ⟨zf_mle96, List.forall_mem_cons.mpr ⟨zf_mle97, List.forall_mem_cons.mpr ⟨zf_mle98, List.forall_mem_cons.mpr ⟨zf_mle99, List.forall_mem_cons.mpr ⟨zf_mle100, List.forall_mem_cons.mpr ⟨zf_mle101, List.forall_mem_cons.mpr ⟨zf_mle102, List.forall_mem_cons.mpr ⟨zf_mle103, fun _ h => absurd h List.not_mem_nil⟩⟩⟩⟩⟩⟩⟩⟩
theorem zf_mlt : ∀ e ∈ zf_ml, zf_mlO e := List.forall_mem_append.mpr ⟨zf_mlt0, List.forall_mem_append.mpr ⟨zf_mlt1, List.forall_mem_append.mpr ⟨zf_mlt2, List.forall_mem_append.mpr ⟨zf_mlt3, zf_mlt4⟩⟩⟩⟩
def zf_fl0 : List (Nat × Nat × Nat × Nat) := [(0, 9, 0, 0), (0, 15, 0, 1), (0, 18, 0, 2), (0, 21, 0, 3), (0, 35, 2, 8), (0, 38, 2, 7), (0, 41, 2, 6), (1, 11, 1, 0), (1, 17, 1, 1), (1, 21, 1, 2), (1, 24, 1, 3), (1, 28, 1, 4), (1, 31, 1, 5), (2, 9, 2, 0), (2, 15, 2, 1), (2, 18, 2, 2), (2, 21, 2, 3), (2, 24, 2, 4), (2, 27, 2, 5), (2, 30, 2, 6), (2, 33, 2, 7), (2, 37, 2, 8), (2, 40, 2, 9), (2, 43, 2, 10)]
def zf_fl1 : List (Nat × Nat × Nat × Nat) := [(3, 9, 3, 0), (3, 15, 3, 1), (3, 18, 3, 2), (3, 22, 3, 3), (3, 26, 3, 4), (4, 9, 4, 0), (4, 15, 4, 1), (4, 19, 4, 2), (4, 23, 4, 3), (4, 26, 4, 4), (4, 32, 4, 5), (4, 36, 4, 6), (4, 39, 4, 7), (4, 42, 2, 8), (4, 47, 2, 7), (4, 73, 3, 2), (4, 82, 2, 6), (4, 95, 3, 0), (4, 98, 3, 1), (5, 11, 5, 0), (5, 15, 5, 1), (6, 9, 6, 0), (6, 15, 6, 1), (7, 9, 7, 0)]
def zf_fl2 : List (Nat × Nat × Nat × Nat) := [(7, 15, 7, 1), (7, 19, 7, 2), (7, 22, 7, 3), (8, 10, 8, 0), (8, 18, 8, 1), (8, 25, 8, 2), (8, 32, 8, 3), (8, 39, 8, 4), (8, 43, 8, 5), (8, 50, 8, 6), (8, 56, 8, 7), (8, 60, 8, 8), (8, 64, 8, 9), (8, 67, 8, 10), (8, 70, 8, 11), (8, 73, 8, 12), (8, 82, 5, 1), (8, 118, 6, 1), (8, 123, 4, 0), (8, 131, 4, 2), (8, 146, 4, 1), (8, 149, 4, 3), (8, 207, 7, 3), (8, 221, 0, 0)]
def zf_fl3 : List (Nat × Nat × Nat × Nat) := [(8, 224, 0, 1), (8, 227, 0, 2), (8, 230, 0, 3), (8, 239, 7, 2), (8, 250, 7, 1)]
def zf_fl : List (Nat × Nat × Nat × Nat) := zf_fl0 ++ (zf_fl1 ++ (zf_fl2 ++ (zf_fl3)))
def zf_flO (e : (Nat × Nat × Nat × Nat)) : Prop := Cond.fieldLink (zf_oR e.1) e.2.1 (zf_cT e.2.2.1 e.2.2.2).1 (zf_cT e.2.2.1 e.2.2.2).2.1 (zf_cT e.2.2.1 e.2.2.2).2.2.1 ∈ zf_T ∧ e.2.2.1 < 10 ∧ e.2.2.2 < zf_cN e.2.2.1 ∧ (zf_cT e.2.2.1 e.2.2.2).1 = zf_cR e.2.2.1
theorem zf_fle0 : zf_flO (0, 9, 0, 0) := ⟨zf_m106, by decide, by decide, rfl⟩
theorem zf_fle1 : zf_flO (0, 15, 0, 1) := ⟨zf_m107, by decide, by decide, rfl⟩
theorem zf_fle2 : zf_flO (0, 18, 0, 2) := ⟨zf_m108, by decide, by decide, rfl⟩
theorem zf_fle3 : zf_flO (0, 21, 0, 3) := ⟨zf_m109, by decide, by decide, rfl⟩
theorem zf_fle4 : zf_flO (0, 35, 2, 8) := ⟨zf_m391, by decide, by decide, rfl⟩
theorem zf_fle5 : zf_flO (0, 38, 2, 7) := ⟨zf_m392, by decide, by decide, rfl⟩
theorem zf_fle6 : zf_flO (0, 41, 2, 6) := ⟨zf_m393, by decide, by decide, rfl⟩
theorem zf_fle7 : zf_flO (1, 11, 1, 0) := ⟨zf_m92, by decide, by decide, rfl⟩
theorem zf_fle8 : zf_flO (1, 17, 1, 1) := ⟨zf_m93, by decide, by decide, rfl⟩
theorem zf_fle9 : zf_flO (1, 21, 1, 2) := ⟨zf_m94, by decide, by decide, rfl⟩
theorem zf_fle10 : zf_flO (1, 24, 1, 3) := ⟨zf_m95, by decide, by decide, rfl⟩
theorem zf_fle11 : zf_flO (1, 28, 1, 4) := ⟨zf_m96, by decide, by decide, rfl⟩
theorem zf_fle12 : zf_flO (1, 31, 1, 5) := ⟨zf_m97, by decide, by decide, rfl⟩
theorem zf_fle13 : zf_flO (2, 9, 2, 0) := ⟨zf_m53, by decide, by decide, rfl⟩
theorem zf_fle14 : zf_flO (2, 15, 2, 1) := ⟨zf_m54, by decide, by decide, rfl⟩
theorem zf_fle15 : zf_flO (2, 18, 2, 2) := ⟨zf_m55, by decide, by decide, rfl⟩
theorem zf_fle16 : zf_flO (2, 21, 2, 3) := ⟨zf_m56, by decide, by decide, rfl⟩
theorem zf_fle17 : zf_flO (2, 24, 2, 4) := ⟨zf_m57, by decide, by decide, rfl⟩
theorem zf_fle18 : zf_flO (2, 27, 2, 5) := ⟨zf_m58, by decide, by decide, rfl⟩
theorem zf_fle19 : zf_flO (2, 30, 2, 6) := ⟨zf_m59, by decide, by decide, rfl⟩
theorem zf_fle20 : zf_flO (2, 33, 2, 7) := ⟨zf_m60, by decide, by decide, rfl⟩
theorem zf_fle21 : zf_flO (2, 37, 2, 8) := ⟨zf_m61, by decide, by decide, rfl⟩
theorem zf_fle22 : zf_flO (2, 40, 2, 9) := ⟨zf_m62, by decide, by decide, rfl⟩
theorem zf_fle23 : zf_flO (2, 43, 2, 10) := ⟨zf_m63, by decide, by decide, rfl⟩
theorem zf_fle24 : zf_flO (3, 9, 3, 0) := ⟨zf_m82, by decide, by decide, rfl⟩
theorem zf_fle25 : zf_flO (3, 15, 3, 1) := ⟨zf_m83, by decide, by decide, rfl⟩
theorem zf_fle26 : zf_flO (3, 18, 3, 2) := ⟨zf_m84, by decide, by decide, rfl⟩
theorem zf_fle27 : zf_flO (3, 22, 3, 3) := ⟨zf_m85, by decide, by decide, rfl⟩
theorem zf_fle28 : zf_flO (3, 26, 3, 4) := ⟨zf_m86, by decide, by decide, rfl⟩
theorem zf_fle29 : zf_flO (4, 9, 4, 0) := ⟨zf_m67, by decide, by decide, rfl⟩
theorem zf_fle30 : zf_flO (4, 15, 4, 1) := ⟨zf_m68, by decide, by decide, rfl⟩
theorem zf_fle31 : zf_flO (4, 19, 4, 2) := ⟨zf_m70, by decide, by decide, rfl⟩
theorem zf_fle32 : zf_flO (4, 23, 4, 3) := ⟨zf_m71, by decide, by decide, rfl⟩
theorem zf_fle33 : zf_flO (4, 26, 4, 4) := ⟨zf_m72, by decide, by decide, rfl⟩
theorem zf_fle34 : zf_flO (4, 32, 4, 5) := ⟨zf_m76, by decide, by decide, rfl⟩
theorem zf_fle35 : zf_flO (4, 36, 4, 6) := ⟨zf_m77, by decide, by decide, rfl⟩
theorem zf_fle36 : zf_flO (4, 39, 4, 7) := ⟨zf_m78, by decide, by decide, rfl⟩
theorem zf_fle37 : zf_flO (4, 42, 2, 8) := ⟨zf_m239, by decide, by decide, rfl⟩
theorem zf_fle38 : zf_flO (4, 47, 2, 7) := ⟨zf_m240, by decide, by decide, rfl⟩
theorem zf_fle39 : zf_flO (4, 73, 3, 2) := ⟨zf_m241, by decide, by decide, rfl⟩
theorem zf_fle40 : zf_flO (4, 82, 2, 6) := ⟨zf_m247, by decide, by decide, rfl⟩
theorem zf_fle41 : zf_flO (4, 95, 3, 0) := ⟨zf_m288, by decide, by decide, rfl⟩
theorem zf_fle42 : zf_flO (4, 98, 3, 1) := ⟨zf_m289, by decide, by decide, rfl⟩
theorem zf_fle43 : zf_flO (5, 11, 5, 0) := ⟨zf_m48, by decide, by decide, rfl⟩
theorem zf_fle44 : zf_flO (5, 15, 5, 1) := ⟨zf_m49, by decide, by decide, rfl⟩
theorem zf_fle45 : zf_flO (6, 9, 6, 0) := ⟨zf_m101, by decide, by decide, rfl⟩
theorem zf_fle46 : zf_flO (6, 15, 6, 1) := ⟨zf_m102, by decide, by decide, rfl⟩
theorem zf_fle47 : zf_flO (7, 9, 7, 0) := ⟨zf_m113, by decide, by decide, rfl⟩
theorem zf_fle48 : zf_flO (7, 15, 7, 1) := ⟨zf_m114, by decide, by decide, rfl⟩
theorem zf_fle49 : zf_flO (7, 19, 7, 2) := ⟨zf_m115, by decide, by decide, rfl⟩
theorem zf_fle50 : zf_flO (7, 22, 7, 3) := ⟨zf_m116, by decide, by decide, rfl⟩
theorem zf_fle51 : zf_flO (8, 10, 8, 0) := ⟨zf_m14, by decide, by decide, rfl⟩
theorem zf_fle52 : zf_flO (8, 18, 8, 1) := ⟨zf_m16, by decide, by decide, rfl⟩
theorem zf_fle53 : zf_flO (8, 25, 8, 2) := ⟨zf_m20, by decide, by decide, rfl⟩
theorem zf_fle54 : zf_flO (8, 32, 8, 3) := ⟨zf_m24, by decide, by decide, rfl⟩
theorem zf_fle55 : zf_flO (8, 39, 8, 4) := ⟨zf_m28, by decide, by decide, rfl⟩
theorem zf_fle56 : zf_flO (8, 43, 8, 5) := ⟨zf_m29, by decide, by decide, rfl⟩
theorem zf_fle57 : zf_flO (8, 50, 8, 6) := ⟨zf_m33, by decide, by decide, rfl⟩
theorem zf_fle58 : zf_flO (8, 56, 8, 7) := ⟨zf_m35, by decide, by decide, rfl⟩
theorem zf_fle59 : zf_flO (8, 60, 8, 8) := ⟨zf_m36, by decide, by decide, rfl⟩
theorem zf_fle60 : zf_flO (8, 64, 8, 9) := ⟨zf_m37, by decide, by decide, rfl⟩
theorem zf_fle61 : zf_flO (8, 67, 8, 10) := ⟨zf_m38, by decide, by decide, rfl⟩
theorem zf_fle62 : zf_flO (8, 70, 8, 11) := ⟨zf_m39, by decide, by decide, rfl⟩
theorem zf_fle63 : zf_flO (8, 73, 8, 12) := ⟨zf_m40, by decide, by decide, rfl⟩
theorem zf_fle64 : zf_flO (8, 82, 5, 1) := ⟨zf_m133, by decide, by decide, rfl⟩
theorem zf_fle65 : zf_flO (8, 118, 6, 1) := ⟨zf_m213, by decide, by decide, rfl⟩
theorem zf_fle66 : zf_flO (8, 123, 4, 0) := ⟨zf_m357, by decide, by decide, rfl⟩
theorem zf_fle67 : zf_flO (8, 131, 4, 2) := ⟨zf_m348, by decide, by decide, rfl⟩
theorem zf_fle68 : zf_flO (8, 146, 4, 1) := ⟨zf_m196, by decide, by decide, rfl⟩
theorem zf_fle69 : zf_flO (8, 149, 4, 3) := ⟨zf_m423, by decide, by decide, rfl⟩
theorem zf_fle70 : zf_flO (8, 207, 7, 3) := ⟨zf_m362, by decide, by decide, rfl⟩
theorem zf_fle71 : zf_flO (8, 221, 0, 0) := ⟨zf_m386, by decide, by decide, rfl⟩
theorem zf_fle72 : zf_flO (8, 224, 0, 1) := ⟨zf_m416, by decide, by decide, rfl⟩
theorem zf_fle73 : zf_flO (8, 227, 0, 2) := ⟨zf_m417, by decide, by decide, rfl⟩
theorem zf_fle74 : zf_flO (8, 230, 0, 3) := ⟨zf_m418, by decide, by decide, rfl⟩
theorem zf_fle75 : zf_flO (8, 239, 7, 2) := ⟨zf_m363, by decide, by decide, rfl⟩
theorem zf_fle76 : zf_flO (8, 250, 7, 1) := ⟨zf_m380, by decide, by decide, rfl⟩
theorem zf_flt0 : ∀ e ∈ zf_fl0, zf_flO e := List.forall_mem_cons.mpr ⟨zf_fle0, List.forall_mem_cons.mpr ⟨zf_fle1, List.forall_mem_cons.mpr ⟨zf_fle2, List.forall_mem_cons.mpr ⟨zf_fle3, List.forall_mem_cons.mpr ⟨zf_fle4, List.forall_mem_cons.mpr ⟨zf_fle5, List.forall_mem_cons.mpr ⟨zf_fle6, List.forall_mem_cons.mpr ⟨zf_fle7, List.forall_mem_cons.mpr ⟨zf_fle8, List.forall_mem_cons.mpr ⟨zf_fle9, List.forall_mem_cons.mpr ⟨zf_fle10, List.forall_mem_cons.mpr ⟨zf_fle11, List.forall_mem_cons.mpr ⟨zf_fle12, List.forall_mem_cons.mpr ⟨zf_fle13, List.forall_mem_cons.mpr ⟨zf_fle14, List.forall_mem_cons.mpr ⟨zf_fle15, List.forall_mem_cons.mpr ⟨zf_fle16, List.forall_mem_cons.mpr ⟨zf_fle17, List.forall_mem_cons.mpr ⟨zf_fle18, List.forall_mem_cons.mpr ⟨zf_fle19, List.forall_mem_cons.mpr ⟨zf_fle20, List.forall_mem_cons.mpr ⟨zf_fle21, List.forall_mem_cons.mpr ⟨zf_fle22, List.forall_mem_cons.mpr ⟨zf_fle23, fun _ h => absurd h List.not_mem_nil⟩⟩⟩⟩⟩⟩⟩⟩⟩⟩⟩⟩⟩⟩⟩⟩⟩⟩⟩⟩⟩⟩⟩⟩
theorem zf_flt1 : ∀ e ∈ zf_fl1, zf_flO e := List.forall_mem_cons.mpr ⟨zf_fle24, List.forall_mem_cons.mpr ⟨zf_fle25, List.forall_mem_cons.mpr ⟨zf_fle26, List.forall_mem_cons.mpr ⟨zf_fle27, List.forall_mem_cons.mpr ⟨zf_fle28, List.forall_mem_cons.mpr ⟨zf_fle29, List.forall_mem_cons.mpr ⟨zf_fle30, List.forall_mem_cons.mpr ⟨zf_fle31, List.forall_mem_cons.mpr ⟨zf_fle32, List.forall_mem_cons.mpr ⟨zf_fle33, List.forall_mem_cons.mpr ⟨zf_fle34, List.forall_mem_cons.mpr ⟨zf_fle35, List.forall_mem_cons.mpr ⟨zf_fle36, List.forall_mem_cons.mpr ⟨zf_fle37, List.forall_mem_cons.mpr ⟨zf_fle38, List.forall_mem_cons.mpr ⟨zf_fle39, List.forall_mem_cons.mpr ⟨zf_fle40, List.forall_mem_cons.mpr ⟨zf_fle41, List.forall_mem_cons.mpr ⟨zf_fle42, List.forall_mem_cons.mpr ⟨zf_fle43, List.forall_mem_cons.mpr ⟨zf_fle44, List.forall_mem_cons.mpr ⟨zf_fle45, List.forall_mem_cons.mpr ⟨zf_fle46, List.forall_mem_cons.mpr ⟨zf_fle47, fun _ h => absurd h List.not_mem_nil⟩⟩⟩⟩⟩⟩⟩⟩⟩⟩⟩⟩⟩⟩⟩⟩⟩⟩⟩⟩⟩⟩⟩⟩
theorem zf_flt2 : ∀ e ∈ zf_fl2, zf_flO e := List.forall_mem_cons.mpr ⟨zf_fle48, List.forall_mem_cons.mpr ⟨zf_fle49, List.forall_mem_cons.mpr ⟨zf_fle50, List.forall_mem_cons.mpr ⟨zf_fle51, List.forall_mem_cons.mpr ⟨zf_fle52, List.forall_mem_cons.mpr ⟨zf_fle53, List.forall_mem_cons.mpr ⟨zf_fle54, List.forall_mem_cons.mpr ⟨zf_fle55, List.forall_mem_cons.mpr ⟨zf_fle56, List.forall_mem_cons.mpr ⟨zf_fle57, List.forall_mem_cons.mpr ⟨zf_fle58, List.forall_mem_cons.mpr ⟨zf_fle59, List.forall_mem_cons.mpr ⟨zf_fle60, List.forall_mem_cons.mpr ⟨zf_fle61, List.forall_mem_cons.mpr ⟨zf_fle62, List.forall_mem_cons.mpr ⟨zf_fle63, List.forall_mem_cons.mpr ⟨zf_fle64, List.forall_mem_cons.mpr ⟨zf_fle65, List.forall_mem_cons.mpr ⟨zf_fle66, List.forall_mem_cons.mpr ⟨zf_fle67, List.forall_mem_cons.mpr ⟨zf_fle68, List.forall_mem_cons.mpr ⟨zf_fle69, List.forall_mem_cons.mpr ⟨zf_fle70, List.forall_mem_cons.mpr ⟨zf_fle71, fun _ h => absurd h List.not_mem_nil⟩⟩⟩⟩⟩⟩⟩⟩⟩⟩⟩⟩⟩⟩⟩⟩⟩⟩⟩⟩⟩⟩⟩⟩
theorem zf_flt3 : ∀ e ∈ zf_fl3, zf_flO e := List.forall_mem_cons.mpr ⟨zf_fle72, List.forall_mem_cons.mpr ⟨zf_fle73, List.forall_mem_cons.mpr ⟨zf_fle74, List.forall_mem_cons.mpr ⟨zf_fle75, List.forall_mem_cons.mpr ⟨zf_fle76, fun _ h => absurd h List.not_mem_nil⟩⟩⟩⟩⟩
theorem zf_flt : ∀ e ∈ zf_fl, zf_flO e := List.forall_mem_append.mpr ⟨zf_flt0, List.forall_mem_append.mpr ⟨zf_flt1, List.forall_mem_append.mpr ⟨zf_flt2, zf_flt3⟩⟩⟩
def zf_cl0 : List (Nat × Nat × Nat) := [(1, 9, 6), (4, 29, 3), (8, 7, 5), (8, 16, 6), (8, 22, 2), (8, 29, 4), (8, 36, 1), (8, 47, 0), (8, 54, 7), (10, 20, 8)]
def zf_cl : List (Nat × Nat × Nat) := zf_cl0
def zf_clO (e : (Nat × Nat × Nat)) : Prop := Cond.classLink (zf_oR e.1) e.2.1 (zf_cR e.2.2) ∈ zf_T ∧ e.2.2 < 10
theorem zf_cle0 : zf_clO (1, 9, 6) := ⟨zf_m91, by decide⟩
theorem zf_cle1 : zf_clO (4, 29, 3) := ⟨zf_m73, by decide⟩
theorem zf_cle2 : zf_clO (8, 7, 5) := ⟨zf_m11, by decide⟩
theorem zf_cle3 : zf_clO (8, 16, 6) := ⟨zf_m15, by decide⟩
theorem zf_cle4 : zf_clO (8, 22, 2) := ⟨zf_m17, by decide⟩
theorem zf_cle5 : zf_clO (8, 29, 4) := ⟨zf_m21, by decide⟩
theorem zf_cle6 : zf_clO (8, 36, 1) := ⟨zf_m25, by decide⟩
theorem zf_cle7 : zf_clO (8, 47, 0) := ⟨zf_m30, by decide⟩
theorem zf_cle8 : zf_clO (8, 54, 7) := ⟨zf_m34, by decide⟩
theorem zf_cle9 : zf_clO (10, 20, 8) := ⟨zf_m0, by decide⟩
theorem zf_clt0 : ∀ e ∈ zf_cl0, zf_clO e := List.forall_mem_cons.mpr ⟨zf_cle0, List.forall_mem_cons.mpr ⟨zf_cle1, List.forall_mem_cons.mpr ⟨zf_cle2, List.forall_mem_cons.mpr ⟨zf_cle3, List.forall_mem_cons.mpr ⟨zf_cle4, List.forall_mem_cons.mpr ⟨zf_cle5, List.forall_mem_cons.mpr ⟨zf_cle6, List.forall_mem_cons.mpr ⟨zf_cle7, List.forall_mem_cons.mpr ⟨zf_cle8, List.forall_mem_cons.mpr ⟨zf_cle9, fun _ h => absurd h List.not_mem_nil⟩⟩⟩⟩⟩⟩⟩⟩⟩⟩
theorem zf_clt : ∀ e ∈ zf_cl, zf_clO e := zf_clt0
def zf_sl0 : List (Nat × Nat × Nat) := [(5, 19, 1000000), (5, 22, 1000001)]
def zf_sl : List (Nat × Nat × Nat) := zf_sl0
def zf_slO (e : (Nat × Nat × Nat)) : Prop := Cond.fieldLink (zf_oR e.1) e.2.1 RX5 (if e.2.2 = 1000000 then "LOWEST" else "HIGHEST") "[I" ∈ zf_T ∧ (e.2.2 = 1000000 ∨ e.2.2 = 1000001)
theorem zf_sle0 : zf_slO (5, 19, 1000000) := ⟨zf_m137, by decide⟩
theorem zf_sle1 : zf_slO (5, 22, 1000001) := ⟨zf_m138, by decide⟩
theorem zf_slt0 : ∀ e ∈ zf_sl0, zf_slO e := List.forall_mem_cons.mpr ⟨zf_sle0, List.forall_mem_cons.mpr ⟨zf_sle1, fun _ h => absurd h List.not_mem_nil⟩⟩
theorem zf_slt : ∀ e ∈ zf_sl, zf_slO e := zf_slt0
def zf_k40 : List (Nat × Nat × Int32) := [(8, 265, 1103515245), (10, 7, 763049417), (10, 8, 2147483647)]
def zf_k4 : List (Nat × Nat × Int32) := zf_k40
def zf_k4O (e : (Nat × Nat × Int32)) : Prop := Cond.constant (zf_oR e.1) e.2.1 e.2.2 ∈ zf_T
theorem zf_k4e0 : zf_k4O (8, 265, 1103515245) := zf_m364
theorem zf_k4e1 : zf_k4O (10, 7, 763049417) := zf_m124
theorem zf_k4e2 : zf_k4O (10, 8, 2147483647) := zf_m128
theorem zf_k4t0 : ∀ e ∈ zf_k40, zf_k4O e := List.forall_mem_cons.mpr ⟨zf_k4e0, List.forall_mem_cons.mpr ⟨zf_k4e1, List.forall_mem_cons.mpr ⟨zf_k4e2, fun _ h => absurd h List.not_mem_nil⟩⟩⟩
theorem zf_k4t : ∀ e ∈ zf_k4, zf_k4O e := zf_k4t0
def zf_k80 : List (Nat × Nat × Int64) := [(2, 52, 133152), (2, 54, 34904997888), (2, 64, 32), (2, 66, -1), (2, 82, 31), (2, 84, 63), (3, 29, -7046029254386353131), (4, 80, 6), (8, 285, -9223372036854775808), (10, 52, -9223372036854775803)]
def zf_k8 : List (Nat × Nat × Int64) := zf_k80
def zf_k8O (e : (Nat × Nat × Int64)) : Prop := Cond.constantLong (zf_oR e.1) e.2.1 e.2.2 ∈ zf_T
theorem zf_k8e0 : zf_k8O (2, 52, 133152) := zf_m266
theorem zf_k8e1 : zf_k8O (2, 54, 34904997888) := zf_m267
theorem zf_k8e2 : zf_k8O (2, 64, 32) := zf_m310
theorem zf_k8e3 : zf_k8O (2, 66, -1) := zf_m311
theorem zf_k8e4 : zf_k8O (2, 82, 31) := zf_m327
theorem zf_k8e5 : zf_k8O (2, 84, 63) := zf_m328
theorem zf_k8e6 : zf_k8O (3, 29, -7046029254386353131) := zf_m279
theorem zf_k8e7 : zf_k8O (4, 80, 6) := zf_m246
theorem zf_k8e8 : zf_k8O (8, 285, -9223372036854775808) := zf_m352
theorem zf_k8e9 : zf_k8O (10, 52, -9223372036854775803) := zf_m4
theorem zf_k8t0 : ∀ e ∈ zf_k80, zf_k8O e := List.forall_mem_cons.mpr ⟨zf_k8e0, List.forall_mem_cons.mpr ⟨zf_k8e1, List.forall_mem_cons.mpr ⟨zf_k8e2, List.forall_mem_cons.mpr ⟨zf_k8e3, List.forall_mem_cons.mpr ⟨zf_k8e4, List.forall_mem_cons.mpr ⟨zf_k8e5, List.forall_mem_cons.mpr ⟨zf_k8e6, List.forall_mem_cons.mpr ⟨zf_k8e7, List.forall_mem_cons.mpr ⟨zf_k8e8, List.forall_mem_cons.mpr ⟨zf_k8e9, fun _ h => absurd h List.not_mem_nil⟩⟩⟩⟩⟩⟩⟩⟩⟩⟩
theorem zf_k8t : ∀ e ∈ zf_k8, zf_k8O e := zf_k8t0
/-- an entry by its class and its place in the pool -/
def zf_at {α : Type} (l : List (Nat × Nat × α)) (o i : Nat) : Option α := (l.find? (fun e => e.1 == o && e.2.1 == i)).map (fun e => e.2.2)
theorem zf_at_in {α : Type} {l : List (Nat × Nat × α)} {o i : Nat} {v : α} (h : zf_at l o i = some v) : (o, i, v) ∈ l := by
  unfold zf_at at h
  cases hf : l.find? (fun e => e.1 == o && e.2.1 == i) with
  | none => rw [hf] at h; cases h
  | some e =>
    rw [hf] at h
    have h1 := List.find?_some hf
    have h2 := List.mem_of_find?_eq_some hf
    obtain ⟨a, b, c⟩ := e
    simp only [Bool.and_eq_true, beq_iff_eq] at h1
    obtain ⟨rfl, rfl⟩ := h1
    cases h
    exact h2
theorem zf_ml_0_3 : zf_at zf_ml 0 3 = some (3, 0) := by decide +kernel
theorem zf_ml_0_25 : zf_at zf_ml 0 25 = some (0, 9) := by decide +kernel
theorem zf_ml_0_31 : zf_at zf_ml 0 31 = some (1, 10) := by decide +kernel
theorem zf_ml_0_44 : zf_at zf_ml 0 44 = some (0, 13) := by decide +kernel
theorem zf_ml_0_48 : zf_at zf_ml 0 48 = some (0, 14) := by decide +kernel
theorem zf_ml_0_52 : zf_at zf_ml 0 52 = some (0, 15) := by decide +kernel
theorem zf_ml_0_56 : zf_at zf_ml 0 56 = some (0, 45) := by decide +kernel
theorem zf_ml_0_62 : zf_at zf_ml 0 62 = some (0, 47) := by decide +kernel
theorem zf_ml_0_66 : zf_at zf_ml 0 66 = some (0, 16) := by decide +kernel
theorem zf_ml_0_69 : zf_at zf_ml 0 69 = some (0, 17) := by decide +kernel
theorem zf_ml_0_72 : zf_at zf_ml 0 72 = some (0, 2) := by decide +kernel
theorem zf_ml_0_76 : zf_at zf_ml 0 76 = some (1, 11) := by decide +kernel
theorem zf_ml_0_80 : zf_at zf_ml 0 80 = some (1, 12) := by decide +kernel
theorem zf_ml_1_3 : zf_at zf_ml 1 3 = some (3, 0) := by decide +kernel
theorem zf_ml_1_34 : zf_at zf_ml 1 34 = some (7, 40) := by decide +kernel
theorem zf_ml_2_3 : zf_at zf_ml 2 3 = some (3, 0) := by decide +kernel
theorem zf_ml_2_46 : zf_at zf_ml 2 46 = some (0, 38) := by decide +kernel
theorem zf_ml_2_56 : zf_at zf_ml 2 56 = some (1, 11) := by decide +kernel
theorem zf_ml_2_60 : zf_at zf_ml 2 60 = some (1, 12) := by decide +kernel
theorem zf_ml_2_68 : zf_at zf_ml 2 68 = some (0, 18) := by decide +kernel
theorem zf_ml_2_72 : zf_at zf_ml 2 72 = some (1, 20) := by decide +kernel
theorem zf_ml_2_76 : zf_at zf_ml 2 76 = some (0, 19) := by decide +kernel
theorem zf_ml_2_79 : zf_at zf_ml 2 79 = some (0, 21) := by decide +kernel
theorem zf_ml_2_86 : zf_at zf_ml 2 86 = some (5, 0) := by decide +kernel
theorem zf_ml_3_3 : zf_at zf_ml 3 3 = some (3, 0) := by decide +kernel
theorem zf_ml_3_31 : zf_at zf_ml 3 31 = some (0, 25) := by decide +kernel
theorem zf_ml_4_3 : zf_at zf_ml 4 3 = some (3, 0) := by decide +kernel
theorem zf_ml_4_31 : zf_at zf_ml 4 31 = some (7, 22) := by decide +kernel
theorem zf_ml_4_50 : zf_at zf_ml 4 50 = some (0, 30) := by decide +kernel
theorem zf_ml_4_53 : zf_at zf_ml 4 53 = some (1, 31) := by decide +kernel
theorem zf_ml_4_57 : zf_at zf_ml 4 57 = some (0, 9) := by decide +kernel
theorem zf_ml_4_61 : zf_at zf_ml 4 61 = some (1, 10) := by decide +kernel
theorem zf_ml_4_65 : zf_at zf_ml 4 65 = some (0, 34) := by decide +kernel
theorem zf_ml_4_69 : zf_at zf_ml 4 69 = some (0, 24) := by decide +kernel
theorem zf_ml_4_74 : zf_at zf_ml 4 74 = some (4, 0) := by decide +kernel
theorem zf_ml_4_86 : zf_at zf_ml 4 86 = some (0, 32) := by decide +kernel
theorem zf_ml_4_92 : zf_at zf_ml 4 92 = some (0, 23) := by decide +kernel
theorem zf_ml_4_101 : zf_at zf_ml 4 101 = some (0, 13) := by decide +kernel
theorem zf_ml_4_105 : zf_at zf_ml 4 105 = some (0, 33) := by decide +kernel
theorem zf_ml_4_109 : zf_at zf_ml 4 109 = some (0, 14) := by decide +kernel
theorem zf_ml_4_113 : zf_at zf_ml 4 113 = some (0, 15) := by decide +kernel
theorem zf_ml_4_117 : zf_at zf_ml 4 117 = some (0, 16) := by decide +kernel
theorem zf_ml_4_121 : zf_at zf_ml 4 121 = some (0, 17) := by decide +kernel
theorem zf_ml_4_124 : zf_at zf_ml 4 124 = some (1, 11) := by decide +kernel
theorem zf_ml_5_3 : zf_at zf_ml 5 3 = some (3, 0) := by decide +kernel
theorem zf_ml_5_25 : zf_at zf_ml 5 25 = some (0, 37) := by decide +kernel
theorem zf_ml_6_3 : zf_at zf_ml 6 3 = some (3, 0) := by decide +kernel
theorem zf_ml_6_19 : zf_at zf_ml 6 19 = some (8, 86) := by decide +kernel
theorem zf_ml_7_3 : zf_at zf_ml 7 3 = some (3, 0) := by decide +kernel
theorem zf_ml_7_26 : zf_at zf_ml 7 26 = some (0, 45) := by decide +kernel
theorem zf_ml_8_1 : zf_at zf_ml 8 1 = some (3, 0) := by decide +kernel
theorem zf_ml_8_9 : zf_at zf_ml 8 9 = some (7, 35) := by decide +kernel
theorem zf_ml_8_24 : zf_at zf_ml 8 24 = some (7, 6) := by decide +kernel
theorem zf_ml_8_31 : zf_at zf_ml 8 31 = some (7, 26) := by decide +kernel
theorem zf_ml_8_38 : zf_at zf_ml 8 38 = some (2, 3) := by decide +kernel
theorem zf_ml_8_49 : zf_at zf_ml 8 49 = some (7, 0) := by decide +kernel
theorem zf_ml_8_76 : zf_at zf_ml 8 76 = some (7, 40) := by decide +kernel
theorem zf_ml_8_77 : zf_at zf_ml 8 77 = some (7, 43) := by decide +kernel
theorem zf_ml_8_78 : zf_at zf_ml 8 78 = some (1, 36) := by decide +kernel
theorem zf_ml_8_85 : zf_at zf_ml 8 85 = some (0, 39) := by decide +kernel
theorem zf_ml_8_89 : zf_at zf_ml 8 89 = some (0, 37) := by decide +kernel
theorem zf_ml_8_97 : zf_at zf_ml 8 97 = some (0, 90) := by decide +kernel
theorem zf_ml_8_101 : zf_at zf_ml 8 101 = some (1, 84) := by decide +kernel
theorem zf_ml_8_104 : zf_at zf_ml 8 104 = some (0, 41) := by decide +kernel
theorem zf_ml_8_108 : zf_at zf_ml 8 108 = some (1, 86) := by decide +kernel
theorem zf_ml_8_111 : zf_at zf_ml 8 111 = some (0, 42) := by decide +kernel
theorem zf_ml_8_115 : zf_at zf_ml 8 115 = some (1, 85) := by decide +kernel
theorem zf_ml_8_119 : zf_at zf_ml 8 119 = some (0, 98) := by decide +kernel
theorem zf_ml_8_127 : zf_at zf_ml 8 127 = some (1, 92) := by decide +kernel
theorem zf_ml_8_139 : zf_at zf_ml 8 139 = some (1, 89) := by decide +kernel
theorem zf_ml_8_142 : zf_at zf_ml 8 142 = some (0, 28) := by decide +kernel
theorem zf_ml_8_157 : zf_at zf_ml 8 157 = some (0, 7) := by decide +kernel
theorem zf_ml_8_160 : zf_at zf_ml 8 160 = some (0, 96) := by decide +kernel
theorem zf_ml_8_164 : zf_at zf_ml 8 164 = some (0, 97) := by decide +kernel
theorem zf_ml_8_168 : zf_at zf_ml 8 168 = some (0, 27) := by decide +kernel
theorem zf_ml_8_204 : zf_at zf_ml 8 204 = some (1, 87) := by decide +kernel
theorem zf_ml_8_211 : zf_at zf_ml 8 211 = some (0, 93) := by decide +kernel
theorem zf_ml_8_214 : zf_at zf_ml 8 214 = some (0, 95) := by decide +kernel
theorem zf_ml_8_217 : zf_at zf_ml 8 217 = some (0, 1) := by decide +kernel
theorem zf_ml_8_233 : zf_at zf_ml 8 233 = some (1, 88) := by decide +kernel
theorem zf_ml_8_236 : zf_at zf_ml 8 236 = some (0, 44) := by decide +kernel
theorem zf_ml_8_240 : zf_at zf_ml 8 240 = some (1, 94) := by decide +kernel
theorem zf_ml_8_244 : zf_at zf_ml 8 244 = some (0, 48) := by decide +kernel
theorem zf_ml_8_282 : zf_at zf_ml 8 282 = some (0, 91) := by decide +kernel
theorem zf_ml_8_287 : zf_at zf_ml 8 287 = some (0, 45) := by decide +kernel
theorem zf_ml_8_288 : zf_at zf_ml 8 288 = some (0, 8) := by decide +kernel
theorem zf_ml_10_9 : zf_at zf_ml 10 9 = some (1, 166) := by decide +kernel
theorem zf_ml_10_15 : zf_at zf_ml 10 15 = some (1, 167) := by decide +kernel
theorem zf_ml_10_19 : zf_at zf_ml 10 19 = some (0, 50) := by decide +kernel
theorem zf_ml_10_25 : zf_at zf_ml 10 25 = some (2, 49) := by decide +kernel
theorem zf_ml_10_26 : zf_at zf_ml 10 26 = some (1, 168) := by decide +kernel
theorem zf_ml_10_30 : zf_at zf_ml 10 30 = some (0, 53) := by decide +kernel
theorem zf_ml_10_34 : zf_at zf_ml 10 34 = some (0, 55) := by decide +kernel
theorem zf_ml_10_38 : zf_at zf_ml 10 38 = some (0, 76) := by decide +kernel
theorem zf_ml_10_41 : zf_at zf_ml 10 41 = some (0, 61) := by decide +kernel
theorem zf_ml_10_45 : zf_at zf_ml 10 45 = some (0, 56) := by decide +kernel
theorem zf_ml_10_48 : zf_at zf_ml 10 48 = some (0, 58) := by decide +kernel
theorem zf_ml_10_54 : zf_at zf_ml 10 54 = some (0, 57) := by decide +kernel
theorem zf_ml_10_58 : zf_at zf_ml 10 58 = some (0, 81) := by decide +kernel
theorem zf_ml_10_61 : zf_at zf_ml 10 61 = some (0, 78) := by decide +kernel
theorem zf_ml_10_64 : zf_at zf_ml 10 64 = some (0, 74) := by decide +kernel
theorem zf_ml_10_68 : zf_at zf_ml 10 68 = some (0, 75) := by decide +kernel
theorem zf_ml_10_71 : zf_at zf_ml 10 71 = some (0, 62) := by decide +kernel
theorem zf_ml_10_74 : zf_at zf_ml 10 74 = some (0, 60) := by decide +kernel
theorem zf_fl_0_9 : zf_at zf_fl 0 9 = some (0, 0) := by decide +kernel
theorem zf_fl_0_15 : zf_at zf_fl 0 15 = some (0, 1) := by decide +kernel
theorem zf_fl_0_18 : zf_at zf_fl 0 18 = some (0, 2) := by decide +kernel
theorem zf_fl_0_21 : zf_at zf_fl 0 21 = some (0, 3) := by decide +kernel
theorem zf_fl_0_35 : zf_at zf_fl 0 35 = some (2, 8) := by decide +kernel
theorem zf_fl_0_38 : zf_at zf_fl 0 38 = some (2, 7) := by decide +kernel
theorem zf_fl_0_41 : zf_at zf_fl 0 41 = some (2, 6) := by decide +kernel
theorem zf_fl_1_11 : zf_at zf_fl 1 11 = some (1, 0) := by decide +kernel
theorem zf_fl_1_17 : zf_at zf_fl 1 17 = some (1, 1) := by decide +kernel
theorem zf_fl_1_21 : zf_at zf_fl 1 21 = some (1, 2) := by decide +kernel
theorem zf_fl_1_24 : zf_at zf_fl 1 24 = some (1, 3) := by decide +kernel
theorem zf_fl_1_28 : zf_at zf_fl 1 28 = some (1, 4) := by decide +kernel
theorem zf_fl_1_31 : zf_at zf_fl 1 31 = some (1, 5) := by decide +kernel
theorem zf_fl_2_9 : zf_at zf_fl 2 9 = some (2, 0) := by decide +kernel
theorem zf_fl_2_15 : zf_at zf_fl 2 15 = some (2, 1) := by decide +kernel
theorem zf_fl_2_18 : zf_at zf_fl 2 18 = some (2, 2) := by decide +kernel
theorem zf_fl_2_21 : zf_at zf_fl 2 21 = some (2, 3) := by decide +kernel
theorem zf_fl_2_24 : zf_at zf_fl 2 24 = some (2, 4) := by decide +kernel
theorem zf_fl_2_27 : zf_at zf_fl 2 27 = some (2, 5) := by decide +kernel
theorem zf_fl_2_30 : zf_at zf_fl 2 30 = some (2, 6) := by decide +kernel
theorem zf_fl_2_33 : zf_at zf_fl 2 33 = some (2, 7) := by decide +kernel
theorem zf_fl_2_37 : zf_at zf_fl 2 37 = some (2, 8) := by decide +kernel
theorem zf_fl_2_40 : zf_at zf_fl 2 40 = some (2, 9) := by decide +kernel
theorem zf_fl_2_43 : zf_at zf_fl 2 43 = some (2, 10) := by decide +kernel
theorem zf_fl_3_9 : zf_at zf_fl 3 9 = some (3, 0) := by decide +kernel
theorem zf_fl_3_15 : zf_at zf_fl 3 15 = some (3, 1) := by decide +kernel
theorem zf_fl_3_18 : zf_at zf_fl 3 18 = some (3, 2) := by decide +kernel
theorem zf_fl_3_22 : zf_at zf_fl 3 22 = some (3, 3) := by decide +kernel
theorem zf_fl_3_26 : zf_at zf_fl 3 26 = some (3, 4) := by decide +kernel
theorem zf_fl_4_9 : zf_at zf_fl 4 9 = some (4, 0) := by decide +kernel
theorem zf_fl_4_15 : zf_at zf_fl 4 15 = some (4, 1) := by decide +kernel
theorem zf_fl_4_19 : zf_at zf_fl 4 19 = some (4, 2) := by decide +kernel
theorem zf_fl_4_23 : zf_at zf_fl 4 23 = some (4, 3) := by decide +kernel
theorem zf_fl_4_26 : zf_at zf_fl 4 26 = some (4, 4) := by decide +kernel
theorem zf_fl_4_32 : zf_at zf_fl 4 32 = some (4, 5) := by decide +kernel
theorem zf_fl_4_36 : zf_at zf_fl 4 36 = some (4, 6) := by decide +kernel
theorem zf_fl_4_39 : zf_at zf_fl 4 39 = some (4, 7) := by decide +kernel
theorem zf_fl_4_42 : zf_at zf_fl 4 42 = some (2, 8) := by decide +kernel
theorem zf_fl_4_47 : zf_at zf_fl 4 47 = some (2, 7) := by decide +kernel
theorem zf_fl_4_73 : zf_at zf_fl 4 73 = some (3, 2) := by decide +kernel
theorem zf_fl_4_82 : zf_at zf_fl 4 82 = some (2, 6) := by decide +kernel
theorem zf_fl_4_95 : zf_at zf_fl 4 95 = some (3, 0) := by decide +kernel
theorem zf_fl_4_98 : zf_at zf_fl 4 98 = some (3, 1) := by decide +kernel
theorem zf_fl_5_11 : zf_at zf_fl 5 11 = some (5, 0) := by decide +kernel
theorem zf_fl_5_15 : zf_at zf_fl 5 15 = some (5, 1) := by decide +kernel
theorem zf_fl_6_9 : zf_at zf_fl 6 9 = some (6, 0) := by decide +kernel
theorem zf_fl_6_15 : zf_at zf_fl 6 15 = some (6, 1) := by decide +kernel
theorem zf_fl_7_9 : zf_at zf_fl 7 9 = some (7, 0) := by decide +kernel
theorem zf_fl_7_15 : zf_at zf_fl 7 15 = some (7, 1) := by decide +kernel
theorem zf_fl_7_19 : zf_at zf_fl 7 19 = some (7, 2) := by decide +kernel
theorem zf_fl_7_22 : zf_at zf_fl 7 22 = some (7, 3) := by decide +kernel
theorem zf_fl_8_10 : zf_at zf_fl 8 10 = some (8, 0) := by decide +kernel
theorem zf_fl_8_18 : zf_at zf_fl 8 18 = some (8, 1) := by decide +kernel
theorem zf_fl_8_25 : zf_at zf_fl 8 25 = some (8, 2) := by decide +kernel
theorem zf_fl_8_32 : zf_at zf_fl 8 32 = some (8, 3) := by decide +kernel
theorem zf_fl_8_39 : zf_at zf_fl 8 39 = some (8, 4) := by decide +kernel
theorem zf_fl_8_43 : zf_at zf_fl 8 43 = some (8, 5) := by decide +kernel
theorem zf_fl_8_50 : zf_at zf_fl 8 50 = some (8, 6) := by decide +kernel
theorem zf_fl_8_56 : zf_at zf_fl 8 56 = some (8, 7) := by decide +kernel
theorem zf_fl_8_60 : zf_at zf_fl 8 60 = some (8, 8) := by decide +kernel
theorem zf_fl_8_64 : zf_at zf_fl 8 64 = some (8, 9) := by decide +kernel
theorem zf_fl_8_67 : zf_at zf_fl 8 67 = some (8, 10) := by decide +kernel
theorem zf_fl_8_70 : zf_at zf_fl 8 70 = some (8, 11) := by decide +kernel
theorem zf_fl_8_73 : zf_at zf_fl 8 73 = some (8, 12) := by decide +kernel
theorem zf_fl_8_82 : zf_at zf_fl 8 82 = some (5, 1) := by decide +kernel
theorem zf_fl_8_118 : zf_at zf_fl 8 118 = some (6, 1) := by decide +kernel
theorem zf_fl_8_123 : zf_at zf_fl 8 123 = some (4, 0) := by decide +kernel
theorem zf_fl_8_131 : zf_at zf_fl 8 131 = some (4, 2) := by decide +kernel
theorem zf_fl_8_146 : zf_at zf_fl 8 146 = some (4, 1) := by decide +kernel
theorem zf_fl_8_149 : zf_at zf_fl 8 149 = some (4, 3) := by decide +kernel
theorem zf_fl_8_207 : zf_at zf_fl 8 207 = some (7, 3) := by decide +kernel
theorem zf_fl_8_221 : zf_at zf_fl 8 221 = some (0, 0) := by decide +kernel
theorem zf_fl_8_224 : zf_at zf_fl 8 224 = some (0, 1) := by decide +kernel
theorem zf_fl_8_227 : zf_at zf_fl 8 227 = some (0, 2) := by decide +kernel
theorem zf_fl_8_230 : zf_at zf_fl 8 230 = some (0, 3) := by decide +kernel
theorem zf_fl_8_239 : zf_at zf_fl 8 239 = some (7, 2) := by decide +kernel
theorem zf_fl_8_250 : zf_at zf_fl 8 250 = some (7, 1) := by decide +kernel
theorem zf_cl_1_9 : zf_at zf_cl 1 9 = some (6) := by decide +kernel
theorem zf_cl_4_29 : zf_at zf_cl 4 29 = some (3) := by decide +kernel
theorem zf_cl_8_7 : zf_at zf_cl 8 7 = some (5) := by decide +kernel
theorem zf_cl_8_16 : zf_at zf_cl 8 16 = some (6) := by decide +kernel
theorem zf_cl_8_22 : zf_at zf_cl 8 22 = some (2) := by decide +kernel
theorem zf_cl_8_29 : zf_at zf_cl 8 29 = some (4) := by decide +kernel
theorem zf_cl_8_36 : zf_at zf_cl 8 36 = some (1) := by decide +kernel
theorem zf_cl_8_47 : zf_at zf_cl 8 47 = some (0) := by decide +kernel
theorem zf_cl_8_54 : zf_at zf_cl 8 54 = some (7) := by decide +kernel
theorem zf_cl_10_20 : zf_at zf_cl 10 20 = some (8) := by decide +kernel
theorem zf_sl_5_19 : zf_at zf_sl 5 19 = some (1000000) := by decide +kernel
theorem zf_sl_5_22 : zf_at zf_sl 5 22 = some (1000001) := by decide +kernel
theorem zf_k4_8_265 : zf_at zf_k4 8 265 = some (1103515245) := by decide +kernel
theorem zf_k4_10_7 : zf_at zf_k4 10 7 = some (763049417) := by decide +kernel
theorem zf_k4_10_8 : zf_at zf_k4 10 8 = some (2147483647) := by decide +kernel
theorem zf_k8_2_52 : zf_at zf_k8 2 52 = some (133152) := by decide +kernel
theorem zf_k8_2_54 : zf_at zf_k8 2 54 = some (34904997888) := by decide +kernel
theorem zf_k8_2_64 : zf_at zf_k8 2 64 = some (32) := by decide +kernel
theorem zf_k8_2_66 : zf_at zf_k8 2 66 = some (-1) := by decide +kernel
theorem zf_k8_2_82 : zf_at zf_k8 2 82 = some (31) := by decide +kernel
theorem zf_k8_2_84 : zf_at zf_k8 2 84 = some (63) := by decide +kernel
theorem zf_k8_3_29 : zf_at zf_k8 3 29 = some (-7046029254386353131) := by decide +kernel
theorem zf_k8_4_80 : zf_at zf_k8 4 80 = some (6) := by decide +kernel
theorem zf_k8_8_285 : zf_at zf_k8 8 285 = some (-9223372036854775808) := by decide +kernel
theorem zf_k8_10_52 : zf_at zf_k8 10 52 = some (-9223372036854775803) := by decide +kernel
theorem zf_cI (c : Nat) (h : c < 10) : Cond.instantiable (zf_cR c) (zf_cN c) ∈ zf_T ∧ Cond.initialized (zf_cR c) ∈ zf_T := by
  rcases (show c = 0 ∨ c = 1 ∨ c = 2 ∨ c = 3 ∨ c = 4 ∨ c = 5 ∨ c = 6 ∨ c = 7 ∨ c = 8 ∨ c = 9 by omega) with rfl | rfl | rfl | rfl | rfl | rfl | rfl | rfl | rfl | rfl
  · exact ⟨zf_m31, zf_m32⟩
  · exact ⟨zf_m26, zf_m27⟩
  · exact ⟨zf_m18, zf_m19⟩
  · exact ⟨zf_m74, zf_m75⟩
  · exact ⟨zf_m22, zf_m23⟩
  · exact ⟨zf_m12, zf_m13⟩
  · exact ⟨zf_m41, zf_m42⟩
  · exact ⟨zf_m43, zf_m44⟩
  · exact ⟨zf_m1, zf_m2⟩
  · exact ⟨zf_m31, zf_m32⟩
