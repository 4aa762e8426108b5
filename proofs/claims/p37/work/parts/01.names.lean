/-! ===== BEGIN words of one list among another's, by their places ===== -/
theorem goodIn_r {big : List Cond} (ws : List Cond) (ps : List Nat) (hp : ws = ps.filterMap (fun i => big[i]?)) (h : ws.all goodWord = true) : GoodIn big ws := by
  intro w hw
  have h1 := List.all_eq_true.mp h w hw
  rw [hp] at hw
  obtain ⟨i, -, hi⟩ := List.mem_filterMap.mp hw
  have hm : w ∈ big := by first | exact List.mem_of_getElem? hi | exact List.getElem?_mem hi
  exact ⟨hm, good_of_word h1⟩
theorem goodIn_app {big a b : List Cond} (ha : GoodIn big a) (hb : GoodIn big b) : GoodIn big (a ++ b) := fun w h => (List.mem_append.mp h).elim (ha w) (hb w)
theorem goodIn_ca {big a b : List Cond} {c : Cond} (ha : GoodIn big (c :: a)) (hb : GoodIn big b) : GoodIn big (c :: (a ++ b)) := fun w h => (List.mem_cons.mp h).elim (fun e => ha w (List.mem_cons.mpr (Or.inl e))) (fun h => (List.mem_append.mp h).elim (fun h => ha w (List.mem_cons.mpr (Or.inr h))) (hb w))
theorem goodIn_sub {big ws : List Cond} (hm : ∀ w ∈ ws, w ∈ big) (h : ws.all goodWord = true) : GoodIn big ws := fun w hw => ⟨hm w hw, good_of_word (List.all_eq_true.mp h w hw)⟩
/-! ===== END ===== -/

/-! ===== BEGIN printed: names, fields, word lists, decode rows ===== -/
def RX0 : String := "FairFight$Bout"
def TX0 : u_T := fun k => match k with
  | 0 => ("FairFight$Bout", "end", "I", false)
  | 1 => ("FairFight$Bout", "rolls", "I", false)
  | 2 => ("FairFight$Bout", "round", "I", false)
  | _ => ("FairFight$Bout", "lives", "[I", true)
def tyX0 : Nat → FieldType := fun k => match k with
  | 0 => .int
  | 1 => .int
  | 2 => .int
  | _ => .array .int
abbrev wsX00 : List Cond := u_ws RX0 TX0 4
theorem nmX0 : ∀ a, a < 4 → ∀ b, b < 4 → a ≠ b → (TX0 a).2.1 ≠ (TX0 b).2.1 := by decide +kernel
theorem tyX0_ok : ∀ k, k < 4 → parseFieldDescriptor (TX0 k).2.2.1 = some (tyX0 k) := by decide +kernel
abbrev cX0_init : ByteArray := prog_2_method_1_code
def yX0_init : MethodName := ⟨RX0, "<init>", "()V"⟩
abbrev cX0_run : ByteArray := prog_2_method_2_code
def yX0_run : MethodName := ⟨RX0, "run", "(LFairFight$Fray;LFairFight$Sheet;)Z"⟩
abbrev cX0_keepLives : ByteArray := prog_2_method_3_code
def yX0_keepLives : MethodName := ⟨RX0, "keepLives", "(LFairFight$Fray;J)V"⟩
def RX1 : String := "FairFight$Day"
def TX1 : u_T := fun k => match k with
  | 0 => ("FairFight$Day", "foes", "[LFairFight$Row;", true)
  | 1 => ("FairFight$Day", "plain", "[I", true)
  | 2 => ("FairFight$Day", "aided", "[I", true)
  | 3 => ("FairFight$Day", "size", "I", false)
  | 4 => ("FairFight$Day", "purse", "I", false)
  | _ => ("FairFight$Day", "bonus", "I", false)
def tyX1 : Nat → FieldType := fun k => match k with
  | 0 => .array (.object "FairFight$Row")
  | 1 => .array .int
  | 2 => .array .int
  | 3 => .int
  | 4 => .int
  | _ => .int
abbrev wsX10 : List Cond := u_ws RX1 TX1 6
theorem nmX1 : ∀ a, a < 6 → ∀ b, b < 6 → a ≠ b → (TX1 a).2.1 ≠ (TX1 b).2.1 := by decide +kernel
theorem tyX1_ok : ∀ k, k < 6 → parseFieldDescriptor (TX1 k).2.2.1 = some (tyX1 k) := by decide +kernel
abbrev cX1_init : ByteArray := prog_3_method_1_code
def yX1_init : MethodName := ⟨RX1, "<init>", "()V"⟩
def RX2 : String := "FairFight$Fray"
def TX2 : u_T := fun k => match k with
  | 0 => ("FairFight$Fray", "kind", "[I", true)
  | 1 => ("FairFight$Fray", "life", "[I", true)
  | 2 => ("FairFight$Fray", "hit", "[I", true)
  | 3 => ("FairFight$Fray", "force", "[I", true)
  | 4 => ("FairFight$Fray", "flee", "[I", true)
  | 5 => ("FairFight$Fray", "speed", "[I", true)
  | 6 => ("FairFight$Fray", "order", "[I", true)
  | 7 => ("FairFight$Fray", "size", "I", false)
  | 8 => ("FairFight$Fray", "rounds", "I", false)
  | 9 => ("FairFight$Fray", "aim", "I", false)
  | _ => ("FairFight$Fray", "surprise", "I", false)
def tyX2 : Nat → FieldType := fun k => match k with
  | 0 => .array .int
  | 1 => .array .int
  | 2 => .array .int
  | 3 => .array .int
  | 4 => .array .int
  | 5 => .array .int
  | 6 => .array .int
  | 7 => .int
  | 8 => .int
  | 9 => .int
  | _ => .int
abbrev wsX20 : List Cond := u_ws RX2 TX2 11
theorem nmX2 : ∀ a, a < 11 → ∀ b, b < 11 → a ≠ b → (TX2 a).2.1 ≠ (TX2 b).2.1 := by decide +kernel
theorem tyX2_ok : ∀ k, k < 11 → parseFieldDescriptor (TX2 k).2.2.1 = some (tyX2 k) := by decide +kernel
abbrev cX2_init : ByteArray := prog_4_method_1_code
def yX2_init : MethodName := ⟨RX2, "<init>", "()V"⟩
abbrev cX2_open : ByteArray := prog_4_method_2_code
def yX2_open : MethodName := ⟨RX2, "open", "(III)V"⟩
abbrev cX2_seat : ByteArray := prog_4_method_3_code
def yX2_seat : MethodName := ⟨RX2, "seat", "(ILFairFight$Roster;II)V"⟩
abbrev cX2_beginning : ByteArray := prog_4_method_4_code
def yX2_beginning : MethodName := ⟨RX2, "beginning", "()J"⟩
abbrev cX2_winner : ByteArray := prog_4_method_5_code
def yX2_winner : MethodName := ⟨RX2, "winner", "(J)I"⟩
abbrev cX2_part : ByteArray := prog_4_method_6_code
def yX2_part : MethodName := ⟨RX2, "part", "(JI)I"⟩
abbrev cX2_lifeOf : ByteArray := prog_4_method_7_code
def yX2_lifeOf : MethodName := ⟨RX2, "lifeOf", "(I)I"⟩
abbrev cX2_hasTurn : ByteArray := prog_4_method_8_code
def yX2_hasTurn : MethodName := ⟨RX2, "hasTurn", "(JII)Z"⟩
abbrev cX2_flees : ByteArray := prog_4_method_9_code
def yX2_flees : MethodName := ⟨RX2, "flees", "(JI)Z"⟩
abbrev cX2_afterFlight : ByteArray := prog_4_method_10_code
def yX2_afterFlight : MethodName := ⟨RX2, "afterFlight", "(JI)J"⟩
abbrev cX2_hits : ByteArray := prog_4_method_11_code
def yX2_hits : MethodName := ⟨RX2, "hits", "(I)I"⟩
abbrev cX2_afterHit : ByteArray := prog_4_method_12_code
def yX2_afterHit : MethodName := ⟨RX2, "afterHit", "(JI)J"⟩
abbrev cX2_chosen : ByteArray := prog_4_method_13_code
def yX2_chosen : MethodName := ⟨RX2, "chosen", "(JIZ)I"⟩
abbrev cX2_allStruck : ByteArray := prog_4_method_14_code
def yX2_allStruck : MethodName := ⟨RX2, "allStruck", "(JII)J"⟩
abbrev cX2_struck : ByteArray := prog_4_method_15_code
def yX2_struck : MethodName := ⟨RX2, "struck", "(JII)J"⟩
abbrev cX2_healed : ByteArray := prog_4_method_16_code
def yX2_healed : MethodName := ⟨RX2, "healed", "(JII)J"⟩
def RX3 : String := "FairFight$Layer"
def TX3 : u_T := fun k => match k with
  | 0 => ("FairFight$Layer", "states", "[J", true)
  | 1 => ("FairFight$Layer", "ways", "[J", true)
  | 2 => ("FairFight$Layer", "size", "I", false)
  | 3 => ("FairFight$Layer", "spots", "[I", true)
  | _ => ("FairFight$Layer", "table", "[I", true)
def tyX3 : Nat → FieldType := fun k => match k with
  | 0 => .array .long
  | 1 => .array .long
  | 2 => .int
  | 3 => .array .int
  | _ => .array .int
abbrev wsX30 : List Cond := u_ws RX3 TX3 5
theorem nmX3 : ∀ a, a < 5 → ∀ b, b < 5 → a ≠ b → (TX3 a).2.1 ≠ (TX3 b).2.1 := by decide +kernel
theorem tyX3_ok : ∀ k, k < 5 → parseFieldDescriptor (TX3 k).2.2.1 = some (tyX3 k) := by decide +kernel
abbrev cX3_init : ByteArray := prog_5_method_1_code
def yX3_init : MethodName := ⟨RX3, "<init>", "()V"⟩
abbrev cX3_empty : ByteArray := prog_5_method_2_code
def yX3_empty : MethodName := ⟨RX3, "empty", "()V"⟩
abbrev cX3_join : ByteArray := prog_5_method_3_code
def yX3_join : MethodName := ⟨RX3, "join", "(JJ)Z"⟩
abbrev cX3_joinNew : ByteArray := prog_5_method_4_code
def yX3_joinNew : MethodName := ⟨RX3, "joinNew", "(IJJ)Z"⟩
def RX4 : String := "FairFight$Odds"
def TX4 : u_T := fun k => match k with
  | 0 => ("FairFight$Odds", "total", "J", false)
  | 1 => ("FairFight$Odds", "widest", "I", false)
  | 2 => ("FairFight$Odds", "byEnd", "[J", true)
  | 3 => ("FairFight$Odds", "byRound", "[J", true)
  | 4 => ("FairFight$Odds", "byPart", "[J", true)
  | 5 => ("FairFight$Odds", "now", "LFairFight$Layer;", false)
  | 6 => ("FairFight$Odds", "next", "LFairFight$Layer;", false)
  | _ => ("FairFight$Odds", "behind", "J", false)
def tyX4 : Nat → FieldType := fun k => match k with
  | 0 => .long
  | 1 => .int
  | 2 => .array .long
  | 3 => .array .long
  | 4 => .array .long
  | 5 => .object "FairFight$Layer"
  | 6 => .object "FairFight$Layer"
  | _ => .long
abbrev wsX40 : List Cond := u_ws RX4 TX4 8
theorem nmX4 : ∀ a, a < 8 → ∀ b, b < 8 → a ≠ b → (TX4 a).2.1 ≠ (TX4 b).2.1 := by decide +kernel
theorem tyX4_ok : ∀ k, k < 8 → parseFieldDescriptor (TX4 k).2.2.1 = some (tyX4 k) := by decide +kernel
abbrev cX4_init : ByteArray := prog_6_method_1_code
def yX4_init : MethodName := ⟨RX4, "<init>", "()V"⟩
abbrev cX4_reckon : ByteArray := prog_6_method_2_code
def yX4_reckon : MethodName := ⟨RX4, "reckon", "(LFairFight$Fray;)Z"⟩
abbrev cX4_waysLeft : ByteArray := prog_6_method_3_code
def yX4_waysLeft : MethodName := ⟨RX4, "waysLeft", "(IIZ)J"⟩
abbrev cX4_clear : ByteArray := prog_6_method_5_code
def yX4_clear : MethodName := ⟨RX4, "clear", "()V"⟩
abbrev cX4_powerOfSix : ByteArray := prog_6_method_6_code
def yX4_powerOfSix : MethodName := ⟨RX4, "powerOfSix", "(I)J"⟩
abbrev cX4_reckonSlot : ByteArray := prog_6_method_7_code
def yX4_reckonSlot : MethodName := ⟨RX4, "reckonSlot", "(LFairFight$Fray;IIZ)Z"⟩
abbrev cX4_pass : ByteArray := prog_6_method_8_code
def yX4_pass : MethodName := ⟨RX4, "pass", "(LFairFight$Fray;JJIZ)Z"⟩
abbrev cX4_tally : ByteArray := prog_6_method_9_code
def yX4_tally : MethodName := ⟨RX4, "tally", "(LFairFight$Fray;JJII)V"⟩
def RX5 : String := "FairFight$Roster"
def TX5 : u_T := fun k => match k with
  | 0 => ("FairFight$Roster", "numbers", "[I", true)
  | _ => ("FairFight$Roster", "size", "I", false)
def tyX5 : Nat → FieldType := fun k => match k with
  | 0 => .array .int
  | _ => .int
abbrev wsX50 : List Cond := u_ws RX5 TX5 2
theorem nmX5 : ∀ a, a < 2 → ∀ b, b < 2 → a ≠ b → (TX5 a).2.1 ≠ (TX5 b).2.1 := by decide +kernel
theorem tyX5_ok : ∀ k, k < 2 → parseFieldDescriptor (TX5 k).2.2.1 = some (tyX5 k) := by decide +kernel
abbrev cX5_init : ByteArray := prog_7_method_1_code
def yX5_init : MethodName := ⟨RX5, "<init>", "()V"⟩
abbrev cX5_fits : ByteArray := prog_7_method_2_code
def yX5_fits : MethodName := ⟨RX5, "fits", "(II)Z"⟩
abbrev cX5_has : ByteArray := prog_7_method_3_code
def yX5_has : MethodName := ⟨RX5, "has", "(I)Z"⟩
abbrev cX5_number : ByteArray := prog_7_method_4_code
def yX5_number : MethodName := ⟨RX5, "number", "(II)I"⟩
abbrev cX5_change : ByteArray := prog_7_method_5_code
def yX5_change : MethodName := ⟨RX5, "change", "(III)V"⟩
def RX6 : String := "FairFight$Row"
def TX6 : u_T := fun k => match k with
  | 0 => ("FairFight$Row", "fighters", "[I", true)
  | _ => ("FairFight$Row", "size", "I", false)
def tyX6 : Nat → FieldType := fun k => match k with
  | 0 => .array .int
  | _ => .int
abbrev wsX60 : List Cond := u_ws RX6 TX6 2
theorem nmX6 : ∀ a, a < 2 → ∀ b, b < 2 → a ≠ b → (TX6 a).2.1 ≠ (TX6 b).2.1 := by decide +kernel
theorem tyX6_ok : ∀ k, k < 2 → parseFieldDescriptor (TX6 k).2.2.1 = some (tyX6 k) := by decide +kernel
abbrev cX6_init : ByteArray := prog_8_method_1_code
def yX6_init : MethodName := ⟨RX6, "<init>", "()V"⟩
abbrev cX6_become : ByteArray := prog_8_method_2_code
def yX6_become : MethodName := ⟨RX6, "become", "(IIII)V"⟩
abbrev cX6_who : ByteArray := prog_8_method_3_code
def yX6_who : MethodName := ⟨RX6, "who", "(I)I"⟩
def RX7 : String := "FairFight$Sheet"
def TX7 : u_T := fun k => match k with
  | 0 => ("FairFight$Sheet", "items", "[I", true)
  | 1 => ("FairFight$Sheet", "form", "I", false)
  | 2 => ("FairFight$Sheet", "size", "I", false)
  | _ => ("FairFight$Sheet", "lost", "Z", false)
def tyX7 : Nat → FieldType := fun k => match k with
  | 0 => .array .int
  | 1 => .int
  | 2 => .int
  | _ => .boolean
abbrev wsX70 : List Cond := u_ws RX7 TX7 4
theorem nmX7 : ∀ a, a < 4 → ∀ b, b < 4 → a ≠ b → (TX7 a).2.1 ≠ (TX7 b).2.1 := by decide +kernel
theorem tyX7_ok : ∀ k, k < 4 → parseFieldDescriptor (TX7 k).2.2.1 = some (tyX7 k) := by decide +kernel
abbrev cX7_init : ByteArray := prog_9_method_1_code
def yX7_init : MethodName := ⟨RX7, "<init>", "()V"⟩
abbrev cX7_renew : ByteArray := prog_9_method_2_code
def yX7_renew : MethodName := ⟨RX7, "renew", "(II)V"⟩
abbrev cX7_has : ByteArray := prog_9_method_3_code
def yX7_has : MethodName := ⟨RX7, "has", "(I)Z"⟩
abbrev cX7_item : ByteArray := prog_9_method_5_code
def yX7_item : MethodName := ⟨RX7, "item", "(I)I"⟩
abbrev cX7_store : ByteArray := prog_9_method_6_code
def yX7_store : MethodName := ⟨RX7, "store", "(II)V"⟩
def RX8 : String := "FairFight"
def TX8 : u_T := fun k => match k with
  | 0 => ("FairFight", "roster", "LFairFight$Roster;", true)
  | 1 => ("FairFight", "sides", "[LFairFight$Row;", true)
  | 2 => ("FairFight", "fray", "LFairFight$Fray;", true)
  | 3 => ("FairFight", "odds", "LFairFight$Odds;", true)
  | 4 => ("FairFight", "today", "LFairFight$Day;", true)
  | 5 => ("FairFight", "bands", "[I", true)
  | 6 => ("FairFight", "bout", "LFairFight$Bout;", true)
  | 7 => ("FairFight", "sheets", "[LFairFight$Sheet;", true)
  | 8 => ("FairFight", "rounds", "I", false)
  | 9 => ("FairFight", "aim", "I", false)
  | 10 => ("FairFight", "surprise", "I", false)
  | 11 => ("FairFight", "bandCount", "I", false)
  | _ => ("FairFight", "finding", "I", false)
def tyX8 : Nat → FieldType := fun k => match k with
  | 0 => .object "FairFight$Roster"
  | 1 => .array (.object "FairFight$Row")
  | 2 => .object "FairFight$Fray"
  | 3 => .object "FairFight$Odds"
  | 4 => .object "FairFight$Day"
  | 5 => .array .int
  | 6 => .object "FairFight$Bout"
  | 7 => .array (.object "FairFight$Sheet")
  | 8 => .int
  | 9 => .int
  | 10 => .int
  | 11 => .int
  | _ => .int
abbrev wsX80 : List Cond := u_ws RX8 TX8 13
theorem nmX8 : ∀ a, a < 13 → ∀ b, b < 13 → a ≠ b → (TX8 a).2.1 ≠ (TX8 b).2.1 := by decide +kernel
theorem tyX8_ok : ∀ k, k < 13 → parseFieldDescriptor (TX8 k).2.2.1 = some (tyX8 k) := by decide +kernel
abbrev cX8_init : ByteArray := prog_1_method_1_code
def yX8_init : MethodName := ⟨RX8, "<init>", "()V"⟩
abbrev cX8_fighter : ByteArray := prog_1_method_2_code
def yX8_fighter : MethodName := ⟨RX8, "fighter", "(IIIIII)I"⟩
abbrev cX8_side : ByteArray := prog_1_method_5_code
def yX8_side : MethodName := ⟨RX8, "side", "(IIII)I"⟩
abbrev cX8_laws : ByteArray := prog_1_method_7_code
def yX8_laws : MethodName := ⟨RX8, "laws", "(III)I"⟩
abbrev cX8_slots : ByteArray := prog_1_method_8_code
def yX8_slots : MethodName := ⟨RX8, "slots", "()I"⟩
abbrev cX8_all : ByteArray := prog_1_method_9_code
def yX8_all : MethodName := ⟨RX8, "all", "()J"⟩
abbrev cX8_ways : ByteArray := prog_1_method_10_code
def yX8_ways : MethodName := ⟨RX8, "ways", "(I)J"⟩
abbrev cX8_left : ByteArray := prog_1_method_12_code
def yX8_left : MethodName := ⟨RX8, "left", "(IIII)J"⟩
abbrev cX8_states : ByteArray := prog_1_method_13_code
def yX8_states : MethodName := ⟨RX8, "states", "()I"⟩
abbrev cX8_ends : ByteArray := prog_1_method_14_code
def yX8_ends : MethodName := ⟨RX8, "ends", "(I)J"⟩
abbrev cX8_play : ByteArray := prog_1_method_26_code
def yX8_play : MethodName := ⟨RX8, "play", "(I)I"⟩
abbrev cX8_played : ByteArray := prog_1_method_27_code
def yX8_played : MethodName := ⟨RX8, "played", "(I)I"⟩
abbrev cX8_sheet : ByteArray := prog_1_method_28_code
def yX8_sheet : MethodName := ⟨RX8, "sheet", "(III)I"⟩
abbrev cX8_put : ByteArray := prog_1_method_30_code
def yX8_put : MethodName := ⟨RX8, "put", "(IIII)I"⟩
abbrev cX8_shake : ByteArray := prog_1_method_33_code
def yX8_shake : MethodName := ⟨RX8, "shake", "(II)I"⟩
abbrev cX8_isSide : ByteArray := prog_1_method_36_code
def yX8_isSide : MethodName := ⟨RX8, "isSide", "(I)Z"⟩
abbrev cX8_isSideOrNone : ByteArray := prog_1_method_37_code
def yX8_isSideOrNone : MethodName := ⟨RX8, "isSideOrNone", "(I)Z"⟩
abbrev cX8_isPlace : ByteArray := prog_1_method_38_code
def yX8_isPlace : MethodName := ⟨RX8, "isPlace", "(I)Z"⟩
abbrev cX8_isSheet : ByteArray := prog_1_method_39_code
def yX8_isSheet : MethodName := ⟨RX8, "isSheet", "(I)Z"⟩
abbrev cX8_isForm : ByteArray := prog_1_method_40_code
def yX8_isForm : MethodName := ⟨RX8, "isForm", "(I)Z"⟩
abbrev cX8_seatOf : ByteArray := prog_1_method_41_code
def yX8_seatOf : MethodName := ⟨RX8, "seatOf", "(II)I"⟩
abbrev cX8_rowSize : ByteArray := prog_1_method_42_code
def yX8_rowSize : MethodName := ⟨RX8, "rowSize", "(III)I"⟩
abbrev cX8_isFighterOrNone : ByteArray := prog_1_method_43_code
def yX8_isFighterOrNone : MethodName := ⟨RX8, "isFighterOrNone", "(I)Z"⟩
abbrev cX8_refusal : ByteArray := prog_1_method_44_code
def yX8_refusal : MethodName := ⟨RX8, "refusal", "(I)J"⟩
abbrev cX8_found : ByteArray := prog_1_method_45_code
def yX8_found : MethodName := ⟨RX8, "found", "(I)I"⟩
abbrev cX8_itemFault : ByteArray := prog_1_method_46_code
def yX8_itemFault : MethodName := ⟨RX8, "itemFault", "(LFairFight$Sheet;II)I"⟩
abbrev cX8_seatFight : ByteArray := prog_1_method_47_code
def yX8_seatFight : MethodName := ⟨RX8, "seatFight", "()V"⟩
abbrev cX8_seatHeroes : ByteArray := prog_1_method_48_code
def yX8_seatHeroes : MethodName := ⟨RX8, "seatHeroes", "(II)V"⟩
abbrev cX8_seatFoes : ByteArray := prog_1_method_49_code
def yX8_seatFoes : MethodName := ⟨RX8, "seatFoes", "(LFairFight$Row;)V"⟩
abbrev cX8_reckonFight : ByteArray := prog_1_method_50_code
def yX8_reckonFight : MethodName := ⟨RX8, "reckonFight", "()Z"⟩
def RX9 : String := "FairFightModel"
def TX9 : u_T := fun k => match k with
  | _ => ("", "", "", false)
def tyX9 : Nat → FieldType := fun k => match k with
  | _ => .int
abbrev wsX90 : List Cond := u_ws RX9 TX9 0
theorem nmX9 : ∀ a, a < 0 → ∀ b, b < 0 → a ≠ b → (TX9 a).2.1 ≠ (TX9 b).2.1 := by decide +kernel
theorem tyX9_ok : ∀ k, k < 0 → parseFieldDescriptor (TX9 k).2.2.1 = some (tyX9 k) := by decide +kernel
def RJ9 : String := "java/lang/Math"
def TJ9 : u_T := fun k => match k with
  | _ => ("", "", "", false)
def tyJ9 : Nat → FieldType := fun k => match k with
  | _ => .int
abbrev wsJ90 : List Cond := u_ws RJ9 TJ9 0
theorem nmJ9 : ∀ a, a < 0 → ∀ b, b < 0 → a ≠ b → (TJ9 a).2.1 ≠ (TJ9 b).2.1 := by decide +kernel
theorem tyJ9_ok : ∀ k, k < 0 → parseFieldDescriptor (TJ9 k).2.2.1 = some (tyJ9 k) := by decide +kernel
abbrev cJ9_max_7cf53 : ByteArray := prog_12_method_65_code
def yJ9_max_7cf53 : MethodName := ⟨RJ9, "max", "(II)I"⟩
abbrev cJ9_min_7cf53 : ByteArray := prog_12_method_69_code
def yJ9_min_7cf53 : MethodName := ⟨RJ9, "min", "(II)I"⟩
def RL : String := "FairFightLaw"
abbrev cL_cell : ByteArray := method_2_code
def yL_cell : MethodName := ⟨RL, "cell", "([II)I"⟩
abbrev cL_up : ByteArray := method_3_code
def yL_up : MethodName := ⟨RL, "up", "(II)I"⟩
abbrev cL_build : ByteArray := method_4_code
def yL_build : MethodName := ⟨RL, "build", "(LFairFight;[I[III)Z"⟩
abbrev cL_law : ByteArray := code
def yL_law : MethodName := ⟨RL, "law", "([I)Z"⟩
def wsL_cell : List Cond := .code yL_cell cL_cell 2 (some .int) :: ([.constant RL 7 (763049417)])
def wsL_up : List Cond := .code yL_up cL_up 2 (some .int) :: ([.constant RL 8 (2147483647)])
def wsL_build_r1 : List Cond := [Cond.methodLink RL 9 yL_cell, Cond.static yL_cell, Cond.initialized RL, Cond.code yL_cell cL_cell 2 (some .int), Cond.constant RL 7 (763049417), Cond.methodLink RL 15 yL_up, Cond.static yL_up, Cond.code yL_up cL_up 2 (some .int), Cond.constant RL 8 (2147483647), Cond.methodLink RL 19 yX8_fighter, Cond.instanceMethod yX8_fighter, Cond.selects RX8 yX8_fighter yX8_fighter, Cond.initialized RX8, Cond.code yX8_fighter cX8_fighter 9 (some .int), Cond.fieldLink RX8 10 "FairFight" "roster" "LFairFight$Roster;", Cond.fieldLink RX8 82 "FairFight$Roster" "size" "I", Cond.methodLink RX8 78 yX5_fits, Cond.static yX5_fits, Cond.initialized RX5, Cond.code yX5_fits cX5_fits 2 (some .boolean), Cond.fieldLink RX5 19 "FairFight$Roster" "LOWEST" "[I", Cond.fieldLink RX5 22 "FairFight$Roster" "HIGHEST" "[I", Cond.methodLink RX8 85 yX5_change, Cond.instanceMethod yX5_change]
def wsL_build_r2 : List Cond := [Cond.selects RX5 yX5_change yX5_change, Cond.code yX5_change cX5_change 4 none, Cond.fieldLink RX5 11 "FairFight$Roster" "numbers" "[I", Cond.methodLink RX5 25 yX5_has, Cond.instanceMethod yX5_has, Cond.selects RX5 yX5_has yX5_has, Cond.code yX5_has cX5_has 2 (some .boolean), Cond.fieldLink RX5 15 "FairFight$Roster" "size" "I"]
def wsL_build : List Cond := .code yL_build cL_build 13 (some .boolean) :: ((wsL_build_r1 ++ wsL_build_r2) ++ wsX80 ++ wsX50)
abbrev vwCl : List vw_C := [(RX0, TX0, 4), (RX1, TX1, 6), (RX2, TX2, 11), (RX3, TX3, 5), (RX4, TX4, 8), (RX5, TX5, 2), (RX6, TX6, 2), (RX7, TX7, 4), (RX8, TX8, 13), (RX0, TX0, 4)]
