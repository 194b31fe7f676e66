/-! methods, links, decode rows (by program: wip/gen/g03.py) -/
def mk_F_init : mt_K := (⟨"FeedAxis", "<init>", "()V"⟩, prog_1_method_1_code, 2, (none : Option FieldType), ({ frames := 5, cells := 125, slots := 1065, locals := 104 } : Room))
def mk_A_init : mt_K := (⟨"FeedAxis$Axis", "<init>", "()V"⟩, prog_2_method_1_code, 1, (none : Option FieldType), ({ frames := 3, cells := 11, slots := 81, locals := 63 } : Room))
def mk_P_init : mt_K := (⟨"FeedAxis$Points", "<init>", "()V"⟩, prog_5_method_1_code, 1, (none : Option FieldType), ({ frames := 2, cells := 2, slots := 20, locals := 43 } : Room))
def mk_Q_init : mt_K := (⟨"FeedAxis$Placed", "<init>", "(I)V"⟩, prog_4_method_1_code, 3, (none : Option FieldType), ({ frames := 1, cells := 2, slots := 20, locals := 21 } : Room))
def mk_J_max : mt_K := (⟨"java/lang/Math", "max", "(II)I"⟩, prog_12_method_65_code, 2, (some .int : Option FieldType), ({ frames := 0, cells := 0, slots := 0, locals := 0 } : Room))
def mk_C_init : mt_K := (⟨"FeedAxis$Commands", "<init>", "()V"⟩, prog_3_method_1_code, 1, (none : Option FieldType), ({ frames := 2, cells := 2, slots := 20, locals := 43 } : Room))
def mk_S_init : mt_K := (⟨"FeedAxis$Saved", "<init>", "()V"⟩, prog_7_method_1_code, 2, (none : Option FieldType), ({ frames := 4, cells := 73, slots := 576, locals := 83 } : Room))
def mk_T_init : mt_K := (⟨"FeedAxis$TableText", "<init>", "()V"⟩, prog_8_method_1_code, 1, (none : Option FieldType), ({ frames := 1, cells := 1, slots := 100, locals := 12 } : Room))
def mk_F_keep : mt_K := (⟨"FeedAxis", "keep", "(I)I"⟩, prog_1_method_15_code, 3, (some .int : Option FieldType), ({ frames := 4, cells := 0, slots := 0, locals := 84 } : Room))
def mk_F_imageNumbered : mt_K := (⟨"FeedAxis", "imageNumbered", "(I)LFeedAxis$Axis;"⟩, prog_1_method_32_code, 2, (some (.object "FeedAxis$Axis") : Option FieldType), ({ frames := 0, cells := 0, slots := 0, locals := 0 } : Room))
def mk_A_copyFrom : mt_K := (⟨"FeedAxis$Axis", "copyFrom", "(LFeedAxis$Axis;)V"⟩, prog_2_method_2_code, 2, (none : Option FieldType), ({ frames := 3, cells := 0, slots := 0, locals := 63 } : Room))
def mk_R_copy : mt_K := (⟨"FeedAxis$Rows", "copy", "([I[I)V"⟩, prog_6_method_4_code, 2, (none : Option FieldType), ({ frames := 1, cells := 0, slots := 0, locals := 21 } : Room))
def mk_J_min : mt_K := (⟨"java/lang/Math", "min", "(II)I"⟩, prog_12_method_69_code, 2, (some .int : Option FieldType), ({ frames := 0, cells := 0, slots := 0, locals := 0 } : Room))
def mk_Q_copyFrom : mt_K := (⟨"FeedAxis$Placed", "copyFrom", "(LFeedAxis$Placed;)V"⟩, prog_4_method_2_code, 2, (none : Option FieldType), ({ frames := 2, cells := 0, slots := 0, locals := 42 } : Room))
def mk_F_undo : mt_K := (⟨"FeedAxis", "undo", "()I"⟩, prog_1_method_17_code, 1, (some .int : Option FieldType), ({ frames := 5, cells := 0, slots := 0, locals := 107 } : Room))
def mk_S_popInto : mt_K := (⟨"FeedAxis$Saved", "popInto", "(LFeedAxis$Axis;)Z"⟩, prog_7_method_3_code, 4, (some .boolean : Option FieldType), ({ frames := 4, cells := 0, slots := 0, locals := 84 } : Room))
def mk_S_rowAt : mt_K := (⟨"FeedAxis$Saved", "rowAt", "(I)LFeedAxis$Axis;"⟩, prog_7_method_4_code, 2, (some (.object "FeedAxis$Axis") : Option FieldType), ({ frames := 0, cells := 0, slots := 0, locals := 0 } : Room))
def mk_F_count : mt_K := (⟨"FeedAxis", "count", "(I)I"⟩, prog_1_method_18_code, 2, (some .int : Option FieldType), ({ frames := 4, cells := 0, slots := 0, locals := 88 } : Room))
def mk_A_isReading : mt_K := (⟨"FeedAxis$Axis", "isReading", "(I)Z"⟩, prog_2_method_7_code, 1, (some .boolean : Option FieldType), ({ frames := 0, cells := 0, slots := 0, locals := 0 } : Room))
def mk_A_reading : mt_K := (⟨"FeedAxis$Axis", "reading", "(I)I"⟩, prog_2_method_8_code, 2, (some .int : Option FieldType), ({ frames := 3, cells := 0, slots := 0, locals := 67 } : Room))
def mk_A_number : mt_K := (⟨"FeedAxis$Axis", "number", "(I)I"⟩, prog_2_method_4_code, 2, (some .int : Option FieldType), ({ frames := 0, cells := 0, slots := 0, locals := 0 } : Room))
def mk_A_torqueAt : mt_K := (⟨"FeedAxis$Axis", "torqueAt", "(I)I"⟩, prog_2_method_9_code, 2, (some .int : Option FieldType), ({ frames := 1, cells := 0, slots := 0, locals := 21 } : Room))
def mk_A_loadOn : mt_K := (⟨"FeedAxis$Axis", "loadOn", "(I)I"⟩, prog_2_method_10_code, 2, (some .int : Option FieldType), ({ frames := 2, cells := 0, slots := 0, locals := 46 } : Room))
def mk_P_valueUpTo : mt_K := (⟨"FeedAxis$Points", "valueUpTo", "(II)I"⟩, prog_5_method_3_code, 4, (some .int : Option FieldType), ({ frames := 1, cells := 0, slots := 0, locals := 23 } : Room))
def mk_P_lastUpTo : mt_K := (⟨"FeedAxis$Points", "lastUpTo", "(I)I"⟩, prog_5_method_11_code, 4, (some .int : Option FieldType), ({ frames := 0, cells := 0, slots := 0, locals := 0 } : Room))
def mk_R_at : mt_K := (⟨"FeedAxis$Rows", "at", "([II)I"⟩, prog_6_method_2_code, 2, (some .int : Option FieldType), ({ frames := 0, cells := 0, slots := 0, locals := 0 } : Room))
def mk_F_account : mt_K := (⟨"FeedAxis", "account", "(I)I"⟩, prog_1_method_19_code, 2, (some .int : Option FieldType), ({ frames := 1, cells := 0, slots := 0, locals := 21 } : Room))
def mk_F_command : mt_K := (⟨"FeedAxis", "command", "(II)I"⟩, prog_1_method_22_code, 3, (some .int : Option FieldType), ({ frames := 2, cells := 0, slots := 0, locals := 42 } : Room))
def mk_C_placeOf : mt_K := (⟨"FeedAxis$Commands", "placeOf", "(I)I"⟩, prog_3_method_2_code, 2, (some .int : Option FieldType), ({ frames := 1, cells := 0, slots := 0, locals := 21 } : Room))
def mk_C_priorityOf : mt_K := (⟨"FeedAxis$Commands", "priorityOf", "(I)I"⟩, prog_3_method_3_code, 2, (some .int : Option FieldType), ({ frames := 1, cells := 0, slots := 0, locals := 21 } : Room))
def mk_F_losses : mt_K := (⟨"FeedAxis", "losses", "(II)I"⟩, prog_1_method_25_code, 3, (some .int : Option FieldType), ({ frames := 5, cells := 0, slots := 0, locals := 117 } : Room))
def mk_F_isPlace : mt_K := (⟨"FeedAxis", "isPlace", "(I)Z"⟩, prog_1_method_28_code, 1, (some .boolean : Option FieldType), ({ frames := 0, cells := 0, slots := 0, locals := 0 } : Room))
def mk_A_isNumberInRange : mt_K := (⟨"FeedAxis$Axis", "isNumberInRange", "(II)Z"⟩, prog_2_method_3_code, 2, (some .boolean : Option FieldType), ({ frames := 1, cells := 0, slots := 0, locals := 21 } : Room))
def mk_J_bitCount : mt_K := (⟨"java/lang/Integer", "bitCount", "(I)I"⟩, prog_11_method_49_code, 1, (some .int : Option FieldType), ({ frames := 0, cells := 0, slots := 0, locals := 0 } : Room))
def mk_A_refuses : mt_K := (⟨"FeedAxis$Axis", "refuses", "(I)Z"⟩, prog_2_method_12_code, 2, (some .boolean : Option FieldType), ({ frames := 3, cells := 0, slots := 0, locals := 70 } : Room))
def mk_A_target : mt_K := (⟨"FeedAxis$Axis", "target", "(I)I"⟩, prog_2_method_11_code, 2, (some .int : Option FieldType), ({ frames := 2, cells := 0, slots := 0, locals := 49 } : Room))
def mk_P_valueBetween : mt_K := (⟨"FeedAxis$Points", "valueBetween", "(I)I"⟩, prog_5_method_6_code, 7, (some .int : Option FieldType), ({ frames := 1, cells := 0, slots := 0, locals := 23 } : Room))
def mk_J_floorDiv : mt_K := (⟨"java/lang/Math", "floorDiv", "(II)I"⟩, prog_12_method_47_code, 3, (some .int : Option FieldType), ({ frames := 0, cells := 0, slots := 0, locals := 0 } : Room))
def mk_A_changeNumber : mt_K := (⟨"FeedAxis$Axis", "changeNumber", "(II)V"⟩, prog_2_method_5_code, 3, (none : Option FieldType), ({ frames := 1, cells := 0, slots := 0, locals := 22 } : Room))
def mk_R_put : mt_K := (⟨"FeedAxis$Rows", "put", "([III)V"⟩, prog_6_method_3_code, 3, (none : Option FieldType), ({ frames := 0, cells := 0, slots := 0, locals := 0 } : Room))
def mk_A_travel : mt_K := (⟨"FeedAxis$Axis", "travel", "(I)I"⟩, prog_2_method_13_code, 7, (some .int : Option FieldType), ({ frames := 4, cells := 0, slots := 0, locals := 91 } : Room))
def mk_A_microstepsTo : mt_K := (⟨"FeedAxis$Axis", "microstepsTo", "(I)I"⟩, prog_2_method_22_code, 3, (some .int : Option FieldType), ({ frames := 1, cells := 0, slots := 0, locals := 21 } : Room))
def mk_J_signum : mt_K := (⟨"java/lang/Integer", "signum", "(I)I"⟩, prog_11_method_56_code, 1, (some .int : Option FieldType), ({ frames := 0, cells := 0, slots := 0, locals := 0 } : Room))
def mk_J_abs : mt_K := (⟨"java/lang/Math", "abs", "(I)I"⟩, prog_12_method_59_code, 1, (some .int : Option FieldType), ({ frames := 0, cells := 0, slots := 0, locals := 0 } : Room))
def mk_A_microstepsAlike : mt_K := (⟨"FeedAxis$Axis", "microstepsAlike", "(I)I"⟩, prog_2_method_24_code, 5, (some .int : Option FieldType), ({ frames := 3, cells := 0, slots := 0, locals := 66 } : Room))
def mk_A_stalls : mt_K := (⟨"FeedAxis$Axis", "stalls", "()Z"⟩, prog_2_method_23_code, 1, (some .boolean : Option FieldType), ({ frames := 2, cells := 0, slots := 0, locals := 46 } : Room))
def mk_P_placeAbove : mt_K := (⟨"FeedAxis$Points", "placeAbove", "(I)I"⟩, prog_5_method_5_code, 3, (some .int : Option FieldType), ({ frames := 1, cells := 0, slots := 0, locals := 23 } : Room))
def mk_P_placeUpTo : mt_K := (⟨"FeedAxis$Points", "placeUpTo", "(I)I"⟩, prog_5_method_4_code, 3, (some .int : Option FieldType), ({ frames := 1, cells := 0, slots := 0, locals := 23 } : Room))
def mk_A_makeMicrosteps : mt_K := (⟨"FeedAxis$Axis", "makeMicrosteps", "(II)V"⟩, prog_2_method_25_code, 5, (none : Option FieldType), ({ frames := 3, cells := 0, slots := 0, locals := 66 } : Room))
def mk_A_tally : mt_K := (⟨"FeedAxis$Axis", "tally", "(II)V"⟩, prog_2_method_28_code, 3, (none : Option FieldType), ({ frames := 1, cells := 0, slots := 0, locals := 22 } : Room))
def mk_A_slip : mt_K := (⟨"FeedAxis$Axis", "slip", "()V"⟩, prog_2_method_27_code, 2, (none : Option FieldType), ({ frames := 2, cells := 0, slots := 0, locals := 44 } : Room))
def mk_A_turnMotor : mt_K := (⟨"FeedAxis$Axis", "turnMotor", "()V"⟩, prog_2_method_26_code, 1, (none : Option FieldType), ({ frames := 2, cells := 0, slots := 0, locals := 44 } : Room))
def mk_F_fastest : mt_K := (⟨"FeedAxis", "fastest", "(I)I"⟩, prog_1_method_26_code, 4, (some .int : Option FieldType), ({ frames := 6, cells := 0, slots := 0, locals := 138 } : Room))
def mk_A_travelUnstalled : mt_K := (⟨"FeedAxis$Axis", "travelUnstalled", "(I)I"⟩, prog_2_method_14_code, 2, (some .int : Option FieldType), ({ frames := 5, cells := 0, slots := 0, locals := 117 } : Room))
def mk_F_counter : mt_K := (⟨"FeedAxis", "counter", "(I)I"⟩, prog_1_method_27_code, 2, (some .int : Option FieldType), ({ frames := 0, cells := 0, slots := 0, locals := 0 } : Room))
def mk_L_cell : mt_K := (⟨"FeedAxisLaw", "cell", "([II)I"⟩, method_2_code, 2, (some .int : Option FieldType), ({ frames := 0, cells := 0, slots := 0, locals := 0 } : Room))
def mk_L_low : mt_K := (⟨"FeedAxisLaw", "low", "(II)I"⟩, method_3_code, 2, (some .int : Option FieldType), ({ frames := 0, cells := 0, slots := 0, locals := 0 } : Room))
def mk_L_tale : mt_K := (⟨"FeedAxisLaw", "tale", "(LFeedAxis;)J"⟩, method_4_code, 4, (some .long : Option FieldType), ({ frames := 5, cells := 0, slots := 0, locals := 109 } : Room))
def mk_F_loadAt : mt_K := (⟨"FeedAxis", "loadAt", "(I)I"⟩, prog_1_method_20_code, 2, (some .int : Option FieldType), ({ frames := 3, cells := 0, slots := 0, locals := 67 } : Room))
def mk_F_errorAt : mt_K := (⟨"FeedAxis", "errorAt", "(I)I"⟩, prog_1_method_21_code, 2, (some .int : Option FieldType), ({ frames := 2, cells := 0, slots := 0, locals := 49 } : Room))
def mk_F_flag : mt_K := (⟨"FeedAxis", "flag", "(I)I"⟩, prog_1_method_23_code, 2, (some .int : Option FieldType), ({ frames := 0, cells := 0, slots := 0, locals := 0 } : Room))
def mk_L_does : mt_K := (⟨"FeedAxisLaw", "does", "(LFeedAxis;I)I"⟩, method_5_code, 3, (some .int : Option FieldType), ({ frames := 7, cells := 0, slots := 0, locals := 162 } : Room))
def mk_F_setNumber : mt_K := (⟨"FeedAxis", "setNumber", "(II)I"⟩, prog_1_method_2_code, 4, (some .int : Option FieldType), ({ frames := 5, cells := 0, slots := 0, locals := 106 } : Room))
def mk_S_push : mt_K := (⟨"FeedAxis$Saved", "push", "(LFeedAxis$Axis;)V"⟩, prog_7_method_2_code, 3, (none : Option FieldType), ({ frames := 4, cells := 0, slots := 0, locals := 84 } : Room))
def mk_F_setLoad : mt_K := (⟨"FeedAxis", "setLoad", "(II)I"⟩, prog_1_method_3_code, 3, (some .int : Option FieldType), ({ frames := 6, cells := 0, slots := 0, locals := 131 } : Room))
def mk_F_setPoint : mt_K := (⟨"FeedAxis", "setPoint", "(LFeedAxis$Points;III)I"⟩, prog_1_method_30_code, 6, (some .int : Option FieldType), ({ frames := 5, cells := 0, slots := 0, locals := 106 } : Room))
def mk_P_valueAt : mt_K := (⟨"FeedAxis$Points", "valueAt", "(II)I"⟩, prog_5_method_2_code, 4, (some .int : Option FieldType), ({ frames := 2, cells := 0, slots := 0, locals := 43 } : Room))
def mk_P_isAt : mt_K := (⟨"FeedAxis$Points", "isAt", "(II)Z"⟩, prog_5_method_10_code, 3, (some .boolean : Option FieldType), ({ frames := 1, cells := 0, slots := 0, locals := 21 } : Room))
def mk_P_remove : mt_K := (⟨"FeedAxis$Points", "remove", "(I)V"⟩, prog_5_method_9_code, 3, (none : Option FieldType), ({ frames := 2, cells := 0, slots := 0, locals := 44 } : Room))
def mk_Q_removeAt : mt_K := (⟨"FeedAxis$Placed", "removeAt", "(I)V"⟩, prog_4_method_5_code, 3, (none : Option FieldType), ({ frames := 1, cells := 0, slots := 0, locals := 22 } : Room))
def mk_P_hasRoomFor : mt_K := (⟨"FeedAxis$Points", "hasRoomFor", "(I)Z"⟩, prog_5_method_7_code, 2, (some .boolean : Option FieldType), ({ frames := 2, cells := 0, slots := 0, locals := 43 } : Room))
def mk_Q_isFull : mt_K := (⟨"FeedAxis$Placed", "isFull", "()Z"⟩, prog_4_method_3_code, 1, (some .boolean : Option FieldType), ({ frames := 0, cells := 0, slots := 0, locals := 0 } : Room))
def mk_P_put : mt_K := (⟨"FeedAxis$Points", "put", "(II)V"⟩, prog_5_method_8_code, 4, (none : Option FieldType), ({ frames := 2, cells := 0, slots := 0, locals := 46 } : Room))
def mk_Q_insertAt : mt_K := (⟨"FeedAxis$Placed", "insertAt", "(III)V"⟩, prog_4_method_4_code, 5, (none : Option FieldType), ({ frames := 1, cells := 0, slots := 0, locals := 22 } : Room))
def mk_F_setComb : mt_K := (⟨"FeedAxis", "setComb", "(II)I"⟩, prog_1_method_4_code, 3, (some .int : Option FieldType), ({ frames := 6, cells := 0, slots := 0, locals := 131 } : Room))
def mk_F_setFlag : mt_K := (⟨"FeedAxis", "setFlag", "(II)I"⟩, prog_1_method_5_code, 4, (some .int : Option FieldType), ({ frames := 5, cells := 0, slots := 0, locals := 106 } : Room))
def mk_A_placeFlag : mt_K := (⟨"FeedAxis$Axis", "placeFlag", "(II)V"⟩, prog_2_method_6_code, 3, (none : Option FieldType), ({ frames := 0, cells := 0, slots := 0, locals := 0 } : Room))
def mk_F_home : mt_K := (⟨"FeedAxis", "home", "(I)I"⟩, prog_1_method_12_code, 3, (some .int : Option FieldType), ({ frames := 6, cells := 0, slots := 0, locals := 140 } : Room))
def mk_F_isSide : mt_K := (⟨"FeedAxis", "isSide", "(I)Z"⟩, prog_1_method_29_code, 1, (some .boolean : Option FieldType), ({ frames := 0, cells := 0, slots := 0, locals := 0 } : Room))
def mk_A_seek : mt_K := (⟨"FeedAxis$Axis", "seek", "(I)Z"⟩, prog_2_method_16_code, 5, (some .boolean : Option FieldType), ({ frames := 5, cells := 0, slots := 0, locals := 116 } : Room))
def mk_A_approach : mt_K := (⟨"FeedAxis$Axis", "approach", "(III)I"⟩, prog_2_method_20_code, 7, (some .int : Option FieldType), ({ frames := 4, cells := 0, slots := 0, locals := 90 } : Room))
def mk_A_microstepsOfTable : mt_K := (⟨"FeedAxis$Axis", "microstepsOfTable", "(II)I"⟩, prog_2_method_21_code, 5, (some .int : Option FieldType), ({ frames := 1, cells := 0, slots := 0, locals := 21 } : Room))
def mk_A_counterDue : mt_K := (⟨"FeedAxis$Axis", "counterDue", "(I)I"⟩, prog_2_method_17_code, 2, (some .int : Option FieldType), ({ frames := 1, cells := 0, slots := 0, locals := 21 } : Room))
def mk_A_moveCounterAlone : mt_K := (⟨"FeedAxis$Axis", "moveCounterAlone", "(I)V"⟩, prog_2_method_18_code, 2, (none : Option FieldType), ({ frames := 0, cells := 0, slots := 0, locals := 0 } : Room))
def mk_F_adoptTrial : mt_K := (⟨"FeedAxis", "adoptTrial", "()V"⟩, prog_1_method_31_code, 1, (none : Option FieldType), ({ frames := 5, cells := 0, slots := 0, locals := 106 } : Room))
def mk_F_check : mt_K := (⟨"FeedAxis", "check", "(I)I"⟩, prog_1_method_13_code, 2, (some .int : Option FieldType), ({ frames := 6, cells := 0, slots := 0, locals := 140 } : Room))
def mk_F_correct : mt_K := (⟨"FeedAxis", "correct", "(I)I"⟩, prog_1_method_14_code, 3, (some .int : Option FieldType), ({ frames := 5, cells := 0, slots := 0, locals := 106 } : Room))
def mk_F_addCommand : mt_K := (⟨"FeedAxis", "addCommand", "(II)I"⟩, prog_1_method_10_code, 3, (some .int : Option FieldType), ({ frames := 5, cells := 0, slots := 0, locals := 106 } : Room))
def mk_C_insert : mt_K := (⟨"FeedAxis$Commands", "insert", "(II)V"⟩, prog_3_method_4_code, 4, (none : Option FieldType), ({ frames := 2, cells := 0, slots := 0, locals := 46 } : Room))
def mk_F_run : mt_K := (⟨"FeedAxis", "run", "(I)I"⟩, prog_1_method_11_code, 3, (some .int : Option FieldType), ({ frames := 6, cells := 0, slots := 0, locals := 137 } : Room))
def mk_A_carryOutNext : mt_K := (⟨"FeedAxis$Axis", "carryOutNext", "()V"⟩, prog_2_method_15_code, 1, (none : Option FieldType), ({ frames := 5, cells := 0, slots := 0, locals := 117 } : Room))
def mk_C_takeNext : mt_K := (⟨"FeedAxis$Commands", "takeNext", "()I"⟩, prog_3_method_5_code, 2, (some .int : Option FieldType), ({ frames := 2, cells := 0, slots := 0, locals := 44 } : Room))
def mk_F_back : mt_K := (⟨"FeedAxis", "back", "(I)I"⟩, prog_1_method_16_code, 3, (some .int : Option FieldType), ({ frames := 5, cells := 0, slots := 0, locals := 106 } : Room))
def mk_F_moveTo : mt_K := (⟨"FeedAxis", "moveTo", "(I)I"⟩, prog_1_method_9_code, 3, (some .int : Option FieldType), ({ frames := 5, cells := 0, slots := 0, locals := 117 } : Room))
def mk_L_law : mt_K := (⟨"FeedAxisLaw", "law", "([I)Z"⟩, code, 11, (some .boolean : Option FieldType), room_1)
theorem ce_A_init : ce_I mk_A_init 0 := ⟨rfl, rfl, wd_i 38 (by decide +kernel), wd_i 17 (by decide +kernel), wd_i 39 (by decide +kernel), by decide +kernel, by decide +kernel, by decide +kernel⟩
theorem ce_S_init : ce_I mk_S_init 0 := ⟨rfl, rfl, wd_i 148 (by decide +kernel), wd_i 22 (by decide +kernel), wd_i 149 (by decide +kernel), by decide +kernel, by decide +kernel, by decide +kernel⟩
theorem ce_T_init : ce_I mk_T_init 0 := ⟨rfl, rfl, wd_i 167 (by decide +kernel), wd_i 23 (by decide +kernel), wd_i 168 (by decide +kernel), by decide +kernel, by decide +kernel, by decide +kernel⟩
theorem ce_P_init : ce_I mk_P_init 0 := ⟨rfl, rfl, wd_i 44 (by decide +kernel), wd_i 19 (by decide +kernel), wd_i 45 (by decide +kernel), by decide +kernel, by decide +kernel, by decide +kernel⟩
theorem ce_C_init : ce_I mk_C_init 0 := ⟨rfl, rfl, wd_i 82 (by decide +kernel), wd_i 21 (by decide +kernel), wd_i 83 (by decide +kernel), by decide +kernel, by decide +kernel, by decide +kernel⟩
theorem ce_Q_init : ce_I mk_Q_init 1 := ⟨rfl, rfl, wd_i 47 (by decide +kernel), wd_i 18 (by decide +kernel), wd_i 48 (by decide +kernel), by decide +kernel, by decide +kernel, by decide +kernel⟩
theorem ce_J_max : ce_S mk_J_max 2 := ⟨wd_i 51 (by decide +kernel), wd_i 20 (by decide +kernel), wd_i 52 (by decide +kernel), by decide +kernel, by decide +kernel, by decide +kernel⟩
theorem ce_F_imageNumbered : ce_V mk_F_imageNumbered 1 := ⟨wd_i 209 (by decide +kernel), wd_i 0 (by decide +kernel), wd_i 16 (by decide +kernel), wd_i 210 (by decide +kernel), by decide +kernel, by decide +kernel, by decide +kernel⟩
theorem ce_A_copyFrom : ce_V mk_A_copyFrom 1 := ⟨wd_i 213 (by decide +kernel), wd_i 214 (by decide +kernel), wd_i 17 (by decide +kernel), wd_i 215 (by decide +kernel), by decide +kernel, by decide +kernel, by decide +kernel⟩
theorem ce_R_copy : ce_S mk_R_copy 2 := ⟨wd_i 217 (by decide +kernel), wd_i 24 (by decide +kernel), wd_i 218 (by decide +kernel), by decide +kernel, by decide +kernel, by decide +kernel⟩
theorem ce_Q_copyFrom_C : ce_U mk_Q_copyFrom "FeedAxis$Commands" 1 := ⟨wd_i 233 (by decide +kernel), wd_i 234 (by decide +kernel), wd_i 229 (by decide +kernel), wd_i 18 (by decide +kernel), wd_i 230 (by decide +kernel), by decide +kernel, by decide +kernel, by decide +kernel⟩
theorem ce_Q_copyFrom_P : ce_U mk_Q_copyFrom "FeedAxis$Points" 1 := ⟨wd_i 226 (by decide +kernel), wd_i 228 (by decide +kernel), wd_i 229 (by decide +kernel), wd_i 18 (by decide +kernel), wd_i 230 (by decide +kernel), by decide +kernel, by decide +kernel, by decide +kernel⟩
theorem ce_J_min : ce_S mk_J_min 2 := ⟨wd_i 220 (by decide +kernel), wd_i 20 (by decide +kernel), wd_i 221 (by decide +kernel), by decide +kernel, by decide +kernel, by decide +kernel⟩
theorem ce_S_popInto : ce_V mk_S_popInto 1 := ⟨wd_i 240 (by decide +kernel), wd_i 241 (by decide +kernel), wd_i 22 (by decide +kernel), wd_i 242 (by decide +kernel), by decide +kernel, by decide +kernel, by decide +kernel⟩
theorem ce_S_rowAt : ce_V mk_S_rowAt 1 := ⟨wd_i 245 (by decide +kernel), wd_i 1 (by decide +kernel), wd_i 22 (by decide +kernel), wd_i 246 (by decide +kernel), by decide +kernel, by decide +kernel, by decide +kernel⟩
theorem ce_A_isReading : ce_S mk_A_isReading 1 := ⟨wd_i 254 (by decide +kernel), wd_i 17 (by decide +kernel), wd_i 255 (by decide +kernel), by decide +kernel, by decide +kernel, by decide +kernel⟩
theorem ce_A_reading : ce_V mk_A_reading 1 := ⟨wd_i 257 (by decide +kernel), wd_i 258 (by decide +kernel), wd_i 17 (by decide +kernel), wd_i 259 (by decide +kernel), by decide +kernel, by decide +kernel, by decide +kernel⟩
theorem ce_A_number : ce_V mk_A_number 1 := ⟨wd_i 261 (by decide +kernel), wd_i 262 (by decide +kernel), wd_i 17 (by decide +kernel), wd_i 263 (by decide +kernel), by decide +kernel, by decide +kernel, by decide +kernel⟩
theorem ce_A_torqueAt : ce_V mk_A_torqueAt 1 := ⟨wd_i 265 (by decide +kernel), wd_i 266 (by decide +kernel), wd_i 17 (by decide +kernel), wd_i 267 (by decide +kernel), by decide +kernel, by decide +kernel, by decide +kernel⟩
theorem ce_A_loadOn : ce_V mk_A_loadOn 1 := ⟨wd_i 270 (by decide +kernel), wd_i 271 (by decide +kernel), wd_i 17 (by decide +kernel), wd_i 272 (by decide +kernel), by decide +kernel, by decide +kernel, by decide +kernel⟩
theorem ce_P_valueUpTo : ce_V mk_P_valueUpTo 2 := ⟨wd_i 274 (by decide +kernel), wd_i 275 (by decide +kernel), wd_i 19 (by decide +kernel), wd_i 276 (by decide +kernel), by decide +kernel, by decide +kernel, by decide +kernel⟩
theorem ce_P_lastUpTo : ce_V mk_P_lastUpTo 1 := ⟨wd_i 279 (by decide +kernel), wd_i 2 (by decide +kernel), wd_i 19 (by decide +kernel), wd_i 280 (by decide +kernel), by decide +kernel, by decide +kernel, by decide +kernel⟩
theorem ce_R_at : ce_S mk_R_at 2 := ⟨wd_i 282 (by decide +kernel), wd_i 24 (by decide +kernel), wd_i 283 (by decide +kernel), by decide +kernel, by decide +kernel, by decide +kernel⟩
theorem ce_C_placeOf : ce_V mk_C_placeOf 1 := ⟨wd_i 295 (by decide +kernel), wd_i 296 (by decide +kernel), wd_i 21 (by decide +kernel), wd_i 297 (by decide +kernel), by decide +kernel, by decide +kernel, by decide +kernel⟩
theorem ce_C_priorityOf : ce_V mk_C_priorityOf 1 := ⟨wd_i 300 (by decide +kernel), wd_i 301 (by decide +kernel), wd_i 21 (by decide +kernel), wd_i 302 (by decide +kernel), by decide +kernel, by decide +kernel, by decide +kernel⟩
theorem ce_F_isPlace : ce_S mk_F_isPlace 1 := ⟨wd_i 308 (by decide +kernel), wd_i 16 (by decide +kernel), wd_i 309 (by decide +kernel), by decide +kernel, by decide +kernel, by decide +kernel⟩
theorem ce_A_isNumberInRange : ce_S mk_A_isNumberInRange 2 := ⟨wd_i 311 (by decide +kernel), wd_i 17 (by decide +kernel), wd_i 312 (by decide +kernel), by decide +kernel, by decide +kernel, by decide +kernel⟩
theorem ce_A_refuses : ce_V mk_A_refuses 1 := ⟨wd_i 325 (by decide +kernel), wd_i 326 (by decide +kernel), wd_i 17 (by decide +kernel), wd_i 327 (by decide +kernel), by decide +kernel, by decide +kernel, by decide +kernel⟩
theorem ce_A_changeNumber : ce_V mk_A_changeNumber 2 := ⟨wd_i 341 (by decide +kernel), wd_i 342 (by decide +kernel), wd_i 17 (by decide +kernel), wd_i 343 (by decide +kernel), by decide +kernel, by decide +kernel, by decide +kernel⟩
theorem ce_A_travel : ce_V mk_A_travel 1 := ⟨wd_i 348 (by decide +kernel), wd_i 349 (by decide +kernel), wd_i 17 (by decide +kernel), wd_i 350 (by decide +kernel), by decide +kernel, by decide +kernel, by decide +kernel⟩
theorem ce_J_bitCount : ce_S mk_J_bitCount 1 := ⟨wd_i 319 (by decide +kernel), wd_i 25 (by decide +kernel), wd_i 320 (by decide +kernel), by decide +kernel, by decide +kernel, by decide +kernel⟩
theorem ce_A_target : ce_V mk_A_target 1 := ⟨wd_i 329 (by decide +kernel), wd_i 330 (by decide +kernel), wd_i 17 (by decide +kernel), wd_i 331 (by decide +kernel), by decide +kernel, by decide +kernel, by decide +kernel⟩
theorem ce_P_valueBetween : ce_V mk_P_valueBetween 1 := ⟨wd_i 333 (by decide +kernel), wd_i 334 (by decide +kernel), wd_i 19 (by decide +kernel), wd_i 335 (by decide +kernel), by decide +kernel, by decide +kernel, by decide +kernel⟩
theorem ce_J_floorDiv : ce_S mk_J_floorDiv 2 := ⟨wd_i 337 (by decide +kernel), wd_i 20 (by decide +kernel), wd_i 338 (by decide +kernel), by decide +kernel, by decide +kernel, by decide +kernel⟩
theorem ce_R_put : ce_S mk_R_put 3 := ⟨wd_i 345 (by decide +kernel), wd_i 24 (by decide +kernel), wd_i 346 (by decide +kernel), by decide +kernel, by decide +kernel, by decide +kernel⟩
theorem ce_A_microstepsTo : ce_V mk_A_microstepsTo 1 := ⟨wd_i 354 (by decide +kernel), wd_i 3 (by decide +kernel), wd_i 17 (by decide +kernel), wd_i 355 (by decide +kernel), by decide +kernel, by decide +kernel, by decide +kernel⟩
theorem ce_J_signum : ce_S mk_J_signum 1 := ⟨wd_i 357 (by decide +kernel), wd_i 25 (by decide +kernel), wd_i 358 (by decide +kernel), by decide +kernel, by decide +kernel, by decide +kernel⟩
theorem ce_J_abs : ce_S mk_J_abs 1 := ⟨wd_i 360 (by decide +kernel), wd_i 20 (by decide +kernel), wd_i 361 (by decide +kernel), by decide +kernel, by decide +kernel, by decide +kernel⟩
theorem ce_A_microstepsAlike : ce_V mk_A_microstepsAlike 1 := ⟨wd_i 364 (by decide +kernel), wd_i 4 (by decide +kernel), wd_i 17 (by decide +kernel), wd_i 365 (by decide +kernel), by decide +kernel, by decide +kernel, by decide +kernel⟩
theorem ce_A_makeMicrosteps : ce_V mk_A_makeMicrosteps 2 := ⟨wd_i 384 (by decide +kernel), wd_i 6 (by decide +kernel), wd_i 17 (by decide +kernel), wd_i 385 (by decide +kernel), by decide +kernel, by decide +kernel, by decide +kernel⟩
theorem ce_A_stalls : ce_V mk_A_stalls 0 := ⟨wd_i 368 (by decide +kernel), wd_i 5 (by decide +kernel), wd_i 17 (by decide +kernel), wd_i 369 (by decide +kernel), by decide +kernel, by decide +kernel, by decide +kernel⟩
theorem ce_P_placeAbove : ce_V mk_P_placeAbove 1 := ⟨wd_i 372 (by decide +kernel), wd_i 373 (by decide +kernel), wd_i 19 (by decide +kernel), wd_i 374 (by decide +kernel), by decide +kernel, by decide +kernel, by decide +kernel⟩
theorem ce_P_placeUpTo : ce_V mk_P_placeUpTo 1 := ⟨wd_i 377 (by decide +kernel), wd_i 378 (by decide +kernel), wd_i 19 (by decide +kernel), wd_i 379 (by decide +kernel), by decide +kernel, by decide +kernel, by decide +kernel⟩
theorem ce_A_tally : ce_V mk_A_tally 2 := ⟨wd_i 388 (by decide +kernel), wd_i 7 (by decide +kernel), wd_i 17 (by decide +kernel), wd_i 389 (by decide +kernel), by decide +kernel, by decide +kernel, by decide +kernel⟩
theorem ce_A_slip : ce_V mk_A_slip 0 := ⟨wd_i 392 (by decide +kernel), wd_i 8 (by decide +kernel), wd_i 17 (by decide +kernel), wd_i 393 (by decide +kernel), by decide +kernel, by decide +kernel, by decide +kernel⟩
theorem ce_A_turnMotor : ce_V mk_A_turnMotor 0 := ⟨wd_i 396 (by decide +kernel), wd_i 9 (by decide +kernel), wd_i 17 (by decide +kernel), wd_i 397 (by decide +kernel), by decide +kernel, by decide +kernel, by decide +kernel⟩
theorem ce_A_travelUnstalled : ce_V mk_A_travelUnstalled 1 := ⟨wd_i 403 (by decide +kernel), wd_i 404 (by decide +kernel), wd_i 17 (by decide +kernel), wd_i 405 (by decide +kernel), by decide +kernel, by decide +kernel, by decide +kernel⟩
theorem ce_F_count : ce_V mk_F_count 1 := ⟨wd_i 250 (by decide +kernel), wd_i 251 (by decide +kernel), wd_i 16 (by decide +kernel), wd_i 252 (by decide +kernel), by decide +kernel, by decide +kernel, by decide +kernel⟩
theorem ce_F_account : ce_V mk_F_account 1 := ⟨wd_i 285 (by decide +kernel), wd_i 286 (by decide +kernel), wd_i 16 (by decide +kernel), wd_i 287 (by decide +kernel), by decide +kernel, by decide +kernel, by decide +kernel⟩
theorem ce_F_loadAt : ce_V mk_F_loadAt 1 := ⟨wd_i 428 (by decide +kernel), wd_i 429 (by decide +kernel), wd_i 16 (by decide +kernel), wd_i 430 (by decide +kernel), by decide +kernel, by decide +kernel, by decide +kernel⟩
theorem ce_F_errorAt : ce_V mk_F_errorAt 1 := ⟨wd_i 433 (by decide +kernel), wd_i 434 (by decide +kernel), wd_i 16 (by decide +kernel), wd_i 435 (by decide +kernel), by decide +kernel, by decide +kernel, by decide +kernel⟩
theorem ce_F_command : ce_V mk_F_command 2 := ⟨wd_i 290 (by decide +kernel), wd_i 291 (by decide +kernel), wd_i 16 (by decide +kernel), wd_i 292 (by decide +kernel), by decide +kernel, by decide +kernel, by decide +kernel⟩
theorem ce_F_flag : ce_V mk_F_flag 1 := ⟨wd_i 440 (by decide +kernel), wd_i 441 (by decide +kernel), wd_i 16 (by decide +kernel), wd_i 442 (by decide +kernel), by decide +kernel, by decide +kernel, by decide +kernel⟩
theorem ce_L_low : ce_S mk_L_low 2 := ⟨wd_i 417 (by decide +kernel), wd_i 15 (by decide +kernel), wd_i 418 (by decide +kernel), by decide +kernel, by decide +kernel, by decide +kernel⟩
theorem ce_F_setNumber : ce_V mk_F_setNumber 2 := ⟨wd_i 447 (by decide +kernel), wd_i 448 (by decide +kernel), wd_i 16 (by decide +kernel), wd_i 449 (by decide +kernel), by decide +kernel, by decide +kernel, by decide +kernel⟩
theorem ce_F_setLoad : ce_V mk_F_setLoad 2 := ⟨wd_i 457 (by decide +kernel), wd_i 458 (by decide +kernel), wd_i 16 (by decide +kernel), wd_i 459 (by decide +kernel), by decide +kernel, by decide +kernel, by decide +kernel⟩
theorem ce_F_setComb : ce_V mk_F_setComb 2 := ⟨wd_i 507 (by decide +kernel), wd_i 508 (by decide +kernel), wd_i 16 (by decide +kernel), wd_i 509 (by decide +kernel), by decide +kernel, by decide +kernel, by decide +kernel⟩
theorem ce_F_setFlag : ce_V mk_F_setFlag 2 := ⟨wd_i 511 (by decide +kernel), wd_i 512 (by decide +kernel), wd_i 16 (by decide +kernel), wd_i 513 (by decide +kernel), by decide +kernel, by decide +kernel, by decide +kernel⟩
theorem ce_F_home : ce_V mk_F_home 1 := ⟨wd_i 519 (by decide +kernel), wd_i 520 (by decide +kernel), wd_i 16 (by decide +kernel), wd_i 521 (by decide +kernel), by decide +kernel, by decide +kernel, by decide +kernel⟩
theorem ce_F_check : ce_V mk_F_check 1 := ⟨wd_i 551 (by decide +kernel), wd_i 552 (by decide +kernel), wd_i 16 (by decide +kernel), wd_i 553 (by decide +kernel), by decide +kernel, by decide +kernel, by decide +kernel⟩
theorem ce_F_correct : ce_V mk_F_correct 1 := ⟨wd_i 555 (by decide +kernel), wd_i 556 (by decide +kernel), wd_i 16 (by decide +kernel), wd_i 557 (by decide +kernel), by decide +kernel, by decide +kernel, by decide +kernel⟩
theorem ce_F_addCommand : ce_V mk_F_addCommand 2 := ⟨wd_i 562 (by decide +kernel), wd_i 563 (by decide +kernel), wd_i 16 (by decide +kernel), wd_i 564 (by decide +kernel), by decide +kernel, by decide +kernel, by decide +kernel⟩
theorem ce_F_run : ce_V mk_F_run 1 := ⟨wd_i 577 (by decide +kernel), wd_i 578 (by decide +kernel), wd_i 16 (by decide +kernel), wd_i 579 (by decide +kernel), by decide +kernel, by decide +kernel, by decide +kernel⟩
theorem ce_F_back : ce_V mk_F_back 1 := ⟨wd_i 593 (by decide +kernel), wd_i 594 (by decide +kernel), wd_i 16 (by decide +kernel), wd_i 595 (by decide +kernel), by decide +kernel, by decide +kernel, by decide +kernel⟩
theorem ce_F_moveTo : ce_V mk_F_moveTo 1 := ⟨wd_i 597 (by decide +kernel), wd_i 598 (by decide +kernel), wd_i 16 (by decide +kernel), wd_i 599 (by decide +kernel), by decide +kernel, by decide +kernel, by decide +kernel⟩
theorem ce_S_push : ce_V mk_S_push 1 := ⟨wd_i 452 (by decide +kernel), wd_i 453 (by decide +kernel), wd_i 22 (by decide +kernel), wd_i 454 (by decide +kernel), by decide +kernel, by decide +kernel, by decide +kernel⟩
theorem ce_F_setPoint : ce_V mk_F_setPoint 4 := ⟨wd_i 462 (by decide +kernel), wd_i 10 (by decide +kernel), wd_i 16 (by decide +kernel), wd_i 463 (by decide +kernel), by decide +kernel, by decide +kernel, by decide +kernel⟩
theorem ce_P_valueAt : ce_V mk_P_valueAt 2 := ⟨wd_i 465 (by decide +kernel), wd_i 466 (by decide +kernel), wd_i 19 (by decide +kernel), wd_i 467 (by decide +kernel), by decide +kernel, by decide +kernel, by decide +kernel⟩
theorem ce_P_remove : ce_V mk_P_remove 1 := ⟨wd_i 473 (by decide +kernel), wd_i 474 (by decide +kernel), wd_i 19 (by decide +kernel), wd_i 475 (by decide +kernel), by decide +kernel, by decide +kernel, by decide +kernel⟩
theorem ce_P_hasRoomFor : ce_V mk_P_hasRoomFor 1 := ⟨wd_i 485 (by decide +kernel), wd_i 486 (by decide +kernel), wd_i 19 (by decide +kernel), wd_i 487 (by decide +kernel), by decide +kernel, by decide +kernel, by decide +kernel⟩
theorem ce_P_put : ce_V mk_P_put 2 := ⟨wd_i 496 (by decide +kernel), wd_i 497 (by decide +kernel), wd_i 19 (by decide +kernel), wd_i 498 (by decide +kernel), by decide +kernel, by decide +kernel, by decide +kernel⟩
theorem ce_P_isAt : ce_V mk_P_isAt 2 := ⟨wd_i 470 (by decide +kernel), wd_i 11 (by decide +kernel), wd_i 19 (by decide +kernel), wd_i 471 (by decide +kernel), by decide +kernel, by decide +kernel, by decide +kernel⟩
theorem ce_Q_removeAt_C : ce_U mk_Q_removeAt "FeedAxis$Commands" 1 := ⟨wd_i 590 (by decide +kernel), wd_i 591 (by decide +kernel), wd_i 480 (by decide +kernel), wd_i 18 (by decide +kernel), wd_i 481 (by decide +kernel), by decide +kernel, by decide +kernel, by decide +kernel⟩
theorem ce_Q_removeAt_P : ce_U mk_Q_removeAt "FeedAxis$Points" 1 := ⟨wd_i 477 (by decide +kernel), wd_i 479 (by decide +kernel), wd_i 480 (by decide +kernel), wd_i 18 (by decide +kernel), wd_i 481 (by decide +kernel), by decide +kernel, by decide +kernel, by decide +kernel⟩
theorem ce_Q_isFull_C : ce_U mk_Q_isFull "FeedAxis$Commands" 0 := ⟨wd_i 566 (by decide +kernel), wd_i 567 (by decide +kernel), wd_i 492 (by decide +kernel), wd_i 18 (by decide +kernel), wd_i 493 (by decide +kernel), by decide +kernel, by decide +kernel, by decide +kernel⟩
theorem ce_Q_isFull_P : ce_U mk_Q_isFull "FeedAxis$Points" 0 := ⟨wd_i 489 (by decide +kernel), wd_i 491 (by decide +kernel), wd_i 492 (by decide +kernel), wd_i 18 (by decide +kernel), wd_i 493 (by decide +kernel), by decide +kernel, by decide +kernel, by decide +kernel⟩
theorem ce_Q_insertAt_C : ce_U mk_Q_insertAt "FeedAxis$Commands" 3 := ⟨wd_i 574 (by decide +kernel), wd_i 575 (by decide +kernel), wd_i 504 (by decide +kernel), wd_i 18 (by decide +kernel), wd_i 505 (by decide +kernel), by decide +kernel, by decide +kernel, by decide +kernel⟩
theorem ce_Q_insertAt_P : ce_U mk_Q_insertAt "FeedAxis$Points" 3 := ⟨wd_i 501 (by decide +kernel), wd_i 503 (by decide +kernel), wd_i 504 (by decide +kernel), wd_i 18 (by decide +kernel), wd_i 505 (by decide +kernel), by decide +kernel, by decide +kernel, by decide +kernel⟩
theorem ce_A_placeFlag : ce_V mk_A_placeFlag 2 := ⟨wd_i 515 (by decide +kernel), wd_i 516 (by decide +kernel), wd_i 17 (by decide +kernel), wd_i 517 (by decide +kernel), by decide +kernel, by decide +kernel, by decide +kernel⟩
theorem ce_F_isSide : ce_S mk_F_isSide 1 := ⟨wd_i 523 (by decide +kernel), wd_i 16 (by decide +kernel), wd_i 524 (by decide +kernel), by decide +kernel, by decide +kernel, by decide +kernel⟩
theorem ce_A_seek : ce_V mk_A_seek 1 := ⟨wd_i 526 (by decide +kernel), wd_i 527 (by decide +kernel), wd_i 17 (by decide +kernel), wd_i 528 (by decide +kernel), by decide +kernel, by decide +kernel, by decide +kernel⟩
theorem ce_A_counterDue : ce_V mk_A_counterDue 1 := ⟨wd_i 538 (by decide +kernel), wd_i 539 (by decide +kernel), wd_i 17 (by decide +kernel), wd_i 540 (by decide +kernel), by decide +kernel, by decide +kernel, by decide +kernel⟩
theorem ce_A_moveCounterAlone : ce_V mk_A_moveCounterAlone 1 := ⟨wd_i 542 (by decide +kernel), wd_i 543 (by decide +kernel), wd_i 17 (by decide +kernel), wd_i 544 (by decide +kernel), by decide +kernel, by decide +kernel, by decide +kernel⟩
theorem ce_F_adoptTrial : ce_V mk_F_adoptTrial 0 := ⟨wd_i 547 (by decide +kernel), wd_i 14 (by decide +kernel), wd_i 16 (by decide +kernel), wd_i 548 (by decide +kernel), by decide +kernel, by decide +kernel, by decide +kernel⟩
theorem ce_A_approach : ce_V mk_A_approach 3 := ⟨wd_i 531 (by decide +kernel), wd_i 12 (by decide +kernel), wd_i 17 (by decide +kernel), wd_i 532 (by decide +kernel), by decide +kernel, by decide +kernel, by decide +kernel⟩
theorem ce_A_microstepsOfTable : ce_V mk_A_microstepsOfTable 2 := ⟨wd_i 535 (by decide +kernel), wd_i 13 (by decide +kernel), wd_i 17 (by decide +kernel), wd_i 536 (by decide +kernel), by decide +kernel, by decide +kernel, by decide +kernel⟩
theorem ce_C_insert : ce_V mk_C_insert 2 := ⟨wd_i 569 (by decide +kernel), wd_i 570 (by decide +kernel), wd_i 21 (by decide +kernel), wd_i 571 (by decide +kernel), by decide +kernel, by decide +kernel, by decide +kernel⟩
theorem ce_A_carryOutNext : ce_V mk_A_carryOutNext 0 := ⟨wd_i 581 (by decide +kernel), wd_i 582 (by decide +kernel), wd_i 17 (by decide +kernel), wd_i 583 (by decide +kernel), by decide +kernel, by decide +kernel, by decide +kernel⟩
theorem ce_C_takeNext : ce_V mk_C_takeNext 0 := ⟨wd_i 585 (by decide +kernel), wd_i 586 (by decide +kernel), wd_i 21 (by decide +kernel), wd_i 587 (by decide +kernel), by decide +kernel, by decide +kernel, by decide +kernel⟩
theorem ce_F_init : ce_I mk_F_init 0 := ⟨rfl, rfl, wd_i 30 (by decide +kernel), wd_i 16 (by decide +kernel), wd_i 31 (by decide +kernel), by decide +kernel, by decide +kernel, by decide +kernel⟩
theorem ce_L_cell : ce_S mk_L_cell 2 := ⟨wd_i 414 (by decide +kernel), wd_i 15 (by decide +kernel), wd_i 415 (by decide +kernel), by decide +kernel, by decide +kernel, by decide +kernel⟩
theorem ce_L_tale : ce_S mk_L_tale 1 := ⟨wd_i 421 (by decide +kernel), wd_i 15 (by decide +kernel), wd_i 422 (by decide +kernel), by decide +kernel, by decide +kernel, by decide +kernel⟩
theorem ce_L_does : ce_S mk_L_does 2 := ⟨wd_i 444 (by decide +kernel), wd_i 15 (by decide +kernel), wd_i 445 (by decide +kernel), by decide +kernel, by decide +kernel, by decide +kernel⟩
theorem ce_F_undo : ce_V mk_F_undo 0 := ⟨wd_i 236 (by decide +kernel), wd_i 237 (by decide +kernel), wd_i 16 (by decide +kernel), wd_i 238 (by decide +kernel), by decide +kernel, by decide +kernel, by decide +kernel⟩
theorem ce_F_keep : ce_V mk_F_keep 1 := ⟨wd_i 204 (by decide +kernel), wd_i 205 (by decide +kernel), wd_i 16 (by decide +kernel), wd_i 206 (by decide +kernel), by decide +kernel, by decide +kernel, by decide +kernel⟩
theorem ce_F_counter : ce_V mk_F_counter 1 := ⟨wd_i 410 (by decide +kernel), wd_i 411 (by decide +kernel), wd_i 16 (by decide +kernel), wd_i 412 (by decide +kernel), by decide +kernel, by decide +kernel, by decide +kernel⟩
theorem ce_F_fastest : ce_V mk_F_fastest 1 := ⟨wd_i 399 (by decide +kernel), wd_i 400 (by decide +kernel), wd_i 16 (by decide +kernel), wd_i 401 (by decide +kernel), by decide +kernel, by decide +kernel, by decide +kernel⟩
theorem ce_F_losses : ce_V mk_F_losses 2 := ⟨wd_i 304 (by decide +kernel), wd_i 305 (by decide +kernel), wd_i 16 (by decide +kernel), wd_i 306 (by decide +kernel), by decide +kernel, by decide +kernel, by decide +kernel⟩
theorem ml_L_82 : Cond.methodLink "FeedAxisLaw" 82 (mk_F_init).1 ∈ wd_all := wd_i 29 (by decide +kernel)
theorem ml_F_9 : Cond.methodLink "FeedAxis" 9 (mk_A_init).1 ∈ wd_all := wd_i 37 (by decide +kernel)
theorem ml_A_20 : Cond.methodLink "FeedAxis$Axis" 20 (mk_P_init).1 ∈ wd_all := wd_i 43 (by decide +kernel)
theorem ml_P_5 : Cond.methodLink "FeedAxis$Points" 5 (mk_Q_init).1 ∈ wd_all := wd_i 46 (by decide +kernel)
theorem ml_Q_7 : Cond.methodLink "FeedAxis$Placed" 7 (mk_J_max).1 ∈ wd_all := wd_i 50 (by decide +kernel)
theorem ml_A_30 : Cond.methodLink "FeedAxis$Axis" 30 (mk_C_init).1 ∈ wd_all := wd_i 81 (by decide +kernel)
theorem ml_C_3 : Cond.methodLink "FeedAxis$Commands" 3 (mk_Q_init).1 ∈ wd_all := wd_i 84 (by decide +kernel)
theorem ml_F_29 : Cond.methodLink "FeedAxis" 29 (mk_S_init).1 ∈ wd_all := wd_i 147 (by decide +kernel)
theorem ml_S_15 : Cond.methodLink "FeedAxis$Saved" 15 (mk_A_init).1 ∈ wd_all := wd_i 152 (by decide +kernel)
theorem ml_F_36 : Cond.methodLink "FeedAxis" 36 (mk_T_init).1 ∈ wd_all := wd_i 166 (by decide +kernel)
theorem ml_L_100 : Cond.methodLink "FeedAxisLaw" 100 (mk_F_keep).1 ∈ wd_all := wd_i 203 (by decide +kernel)
theorem ml_F_145 : Cond.methodLink "FeedAxis" 145 (mk_F_imageNumbered).1 ∈ wd_all := wd_i 207 (by decide +kernel)
theorem ml_F_87 : Cond.methodLink "FeedAxis" 87 (mk_A_copyFrom).1 ∈ wd_all := wd_i 212 (by decide +kernel)
theorem ml_A_35 : Cond.methodLink "FeedAxis$Axis" 35 (mk_R_copy).1 ∈ wd_all := wd_i 216 (by decide +kernel)
theorem ml_R_7 : Cond.methodLink "FeedAxis$Rows" 7 (mk_J_min).1 ∈ wd_all := wd_i 219 (by decide +kernel)
theorem ml_A_41 : Cond.methodLink "FeedAxis$Axis" 41 ⟨"FeedAxis$Points", mk_Q_copyFrom.1.name, mk_Q_copyFrom.1.desc⟩ ∈ wd_all := wd_i 225 (by decide +kernel)
theorem ml_Q_26 : Cond.methodLink "FeedAxis$Placed" 26 (mk_R_copy).1 ∈ wd_all := wd_i 231 (by decide +kernel)
theorem ml_A_45 : Cond.methodLink "FeedAxis$Axis" 45 ⟨"FeedAxis$Commands", mk_Q_copyFrom.1.name, mk_Q_copyFrom.1.desc⟩ ∈ wd_all := wd_i 232 (by decide +kernel)
theorem ml_L_96 : Cond.methodLink "FeedAxisLaw" 96 (mk_F_undo).1 ∈ wd_all := wd_i 235 (by decide +kernel)
theorem ml_F_149 : Cond.methodLink "FeedAxis" 149 (mk_S_popInto).1 ∈ wd_all := wd_i 239 (by decide +kernel)
theorem ml_S_23 : Cond.methodLink "FeedAxis$Saved" 23 (mk_S_rowAt).1 ∈ wd_all := wd_i 243 (by decide +kernel)
theorem ml_S_27 : Cond.methodLink "FeedAxis$Saved" 27 (mk_A_copyFrom).1 ∈ wd_all := wd_i 247 (by decide +kernel)
theorem ml_L_12 : Cond.methodLink "FeedAxisLaw" 12 (mk_F_count).1 ∈ wd_all := wd_i 249 (by decide +kernel)
theorem ml_F_154 : Cond.methodLink "FeedAxis" 154 (mk_A_isReading).1 ∈ wd_all := wd_i 253 (by decide +kernel)
theorem ml_F_157 : Cond.methodLink "FeedAxis" 157 (mk_A_reading).1 ∈ wd_all := wd_i 256 (by decide +kernel)
theorem ml_A_95 : Cond.methodLink "FeedAxis$Axis" 95 (mk_A_number).1 ∈ wd_all := wd_i 260 (by decide +kernel)
theorem ml_A_98 : Cond.methodLink "FeedAxis$Axis" 98 (mk_A_torqueAt).1 ∈ wd_all := wd_i 264 (by decide +kernel)
theorem ml_A_108 : Cond.methodLink "FeedAxis$Axis" 108 (mk_J_max).1 ∈ wd_all := wd_i 268 (by decide +kernel)
theorem ml_A_101 : Cond.methodLink "FeedAxis$Axis" 101 (mk_A_loadOn).1 ∈ wd_all := wd_i 269 (by decide +kernel)
theorem ml_A_114 : Cond.methodLink "FeedAxis$Axis" 114 (mk_P_valueUpTo).1 ∈ wd_all := wd_i 273 (by decide +kernel)
theorem ml_P_11 : Cond.methodLink "FeedAxis$Points" 11 (mk_P_lastUpTo).1 ∈ wd_all := wd_i 277 (by decide +kernel)
theorem ml_P_23 : Cond.methodLink "FeedAxis$Points" 23 (mk_R_at).1 ∈ wd_all := wd_i 281 (by decide +kernel)
theorem ml_L_20 : Cond.methodLink "FeedAxisLaw" 20 (mk_F_account).1 ∈ wd_all := wd_i 284 (by decide +kernel)
theorem ml_F_164 : Cond.methodLink "FeedAxis" 164 (mk_R_at).1 ∈ wd_all := wd_i 288 (by decide +kernel)
theorem ml_L_33 : Cond.methodLink "FeedAxisLaw" 33 (mk_F_command).1 ∈ wd_all := wd_i 289 (by decide +kernel)
theorem ml_F_178 : Cond.methodLink "FeedAxis" 178 (mk_C_placeOf).1 ∈ wd_all := wd_i 294 (by decide +kernel)
theorem ml_C_13 : Cond.methodLink "FeedAxis$Commands" 13 (mk_R_at).1 ∈ wd_all := wd_i 298 (by decide +kernel)
theorem ml_F_181 : Cond.methodLink "FeedAxis" 181 (mk_C_priorityOf).1 ∈ wd_all := wd_i 299 (by decide +kernel)
theorem ml_L_109 : Cond.methodLink "FeedAxisLaw" 109 (mk_F_losses).1 ∈ wd_all := wd_i 303 (by decide +kernel)
theorem ml_F_58 : Cond.methodLink "FeedAxis" 58 (mk_F_isPlace).1 ∈ wd_all := wd_i 307 (by decide +kernel)
theorem ml_F_41 : Cond.methodLink "FeedAxis" 41 (mk_A_isNumberInRange).1 ∈ wd_all := wd_i 310 (by decide +kernel)
theorem ml_A_78 : Cond.methodLink "FeedAxis$Axis" 78 (mk_R_at).1 ∈ wd_all := wd_i 315 (by decide +kernel)
theorem ml_A_85 : Cond.methodLink "FeedAxis$Axis" 85 (mk_J_bitCount).1 ∈ wd_all := wd_i 318 (by decide +kernel)
theorem ml_F_97 : Cond.methodLink "FeedAxis" 97 (mk_A_refuses).1 ∈ wd_all := wd_i 324 (by decide +kernel)
theorem ml_A_120 : Cond.methodLink "FeedAxis$Axis" 120 (mk_A_target).1 ∈ wd_all := wd_i 328 (by decide +kernel)
theorem ml_A_117 : Cond.methodLink "FeedAxis$Axis" 117 (mk_P_valueBetween).1 ∈ wd_all := wd_i 332 (by decide +kernel)
theorem ml_P_38 : Cond.methodLink "FeedAxis$Points" 38 (mk_J_floorDiv).1 ∈ wd_all := wd_i 336 (by decide +kernel)
theorem ml_F_54 : Cond.methodLink "FeedAxis" 54 (mk_A_changeNumber).1 ∈ wd_all := wd_i 340 (by decide +kernel)
theorem ml_A_91 : Cond.methodLink "FeedAxis$Axis" 91 (mk_R_put).1 ∈ wd_all := wd_i 344 (by decide +kernel)
theorem ml_F_104 : Cond.methodLink "FeedAxis" 104 (mk_A_travel).1 ∈ wd_all := wd_i 347 (by decide +kernel)
theorem ml_A_127 : Cond.methodLink "FeedAxis$Axis" 127 (mk_A_refuses).1 ∈ wd_all := wd_i 351 (by decide +kernel)
theorem ml_A_130 : Cond.methodLink "FeedAxis$Axis" 130 (mk_A_microstepsTo).1 ∈ wd_all := wd_i 352 (by decide +kernel)
theorem ml_A_133 : Cond.methodLink "FeedAxis$Axis" 133 (mk_J_signum).1 ∈ wd_all := wd_i 356 (by decide +kernel)
theorem ml_A_136 : Cond.methodLink "FeedAxis$Axis" 136 (mk_J_abs).1 ∈ wd_all := wd_i 359 (by decide +kernel)
theorem ml_A_139 : Cond.methodLink "FeedAxis$Axis" 139 (mk_A_microstepsAlike).1 ∈ wd_all := wd_i 362 (by decide +kernel)
theorem ml_A_166 : Cond.methodLink "FeedAxis$Axis" 166 (mk_A_stalls).1 ∈ wd_all := wd_i 366 (by decide +kernel)
theorem ml_A_174 : Cond.methodLink "FeedAxis$Axis" 174 (mk_P_placeAbove).1 ∈ wd_all := wd_i 371 (by decide +kernel)
theorem ml_A_177 : Cond.methodLink "FeedAxis$Axis" 177 (mk_P_placeUpTo).1 ∈ wd_all := wd_i 376 (by decide +kernel)
theorem ml_A_142 : Cond.methodLink "FeedAxis$Axis" 142 (mk_J_min).1 ∈ wd_all := wd_i 381 (by decide +kernel)
theorem ml_A_145 : Cond.methodLink "FeedAxis$Axis" 145 (mk_A_makeMicrosteps).1 ∈ wd_all := wd_i 382 (by decide +kernel)
theorem ml_A_163 : Cond.methodLink "FeedAxis$Axis" 163 (mk_A_tally).1 ∈ wd_all := wd_i 386 (by decide +kernel)
theorem ml_A_180 : Cond.methodLink "FeedAxis$Axis" 180 (mk_A_slip).1 ∈ wd_all := wd_i 390 (by decide +kernel)
theorem ml_A_183 : Cond.methodLink "FeedAxis$Axis" 183 (mk_A_turnMotor).1 ∈ wd_all := wd_i 394 (by decide +kernel)
theorem ml_L_106 : Cond.methodLink "FeedAxisLaw" 106 (mk_F_fastest).1 ∈ wd_all := wd_i 398 (by decide +kernel)
theorem ml_F_196 : Cond.methodLink "FeedAxis" 196 (mk_A_travelUnstalled).1 ∈ wd_all := wd_i 402 (by decide +kernel)
theorem ml_A_149 : Cond.methodLink "FeedAxis$Axis" 149 (mk_A_changeNumber).1 ∈ wd_all := wd_i 406 (by decide +kernel)
theorem ml_A_152 : Cond.methodLink "FeedAxis$Axis" 152 (mk_A_travel).1 ∈ wd_all := wd_i 407 (by decide +kernel)
theorem ml_F_199 : Cond.methodLink "FeedAxis" 199 (mk_A_torqueAt).1 ∈ wd_all := wd_i 408 (by decide +kernel)
theorem ml_L_103 : Cond.methodLink "FeedAxisLaw" 103 (mk_F_counter).1 ∈ wd_all := wd_i 409 (by decide +kernel)
theorem ml_L_83 : Cond.methodLink "FeedAxisLaw" 83 (mk_L_cell).1 ∈ wd_all := wd_i 413 (by decide +kernel)
theorem ml_L_42 : Cond.methodLink "FeedAxisLaw" 42 (mk_L_low).1 ∈ wd_all := wd_i 416 (by decide +kernel)
theorem ml_L_87 : Cond.methodLink "FeedAxisLaw" 87 (mk_L_tale).1 ∈ wd_all := wd_i 420 (by decide +kernel)
theorem ml_L_25 : Cond.methodLink "FeedAxisLaw" 25 (mk_F_loadAt).1 ∈ wd_all := wd_i 427 (by decide +kernel)
theorem ml_F_170 : Cond.methodLink "FeedAxis" 170 (mk_A_loadOn).1 ∈ wd_all := wd_i 431 (by decide +kernel)
theorem ml_L_28 : Cond.methodLink "FeedAxisLaw" 28 (mk_F_errorAt).1 ∈ wd_all := wd_i 432 (by decide +kernel)
theorem ml_F_173 : Cond.methodLink "FeedAxis" 173 (mk_P_valueBetween).1 ∈ wd_all := wd_i 436 (by decide +kernel)
theorem ml_L_39 : Cond.methodLink "FeedAxisLaw" 39 (mk_F_flag).1 ∈ wd_all := wd_i 439 (by decide +kernel)
theorem ml_L_91 : Cond.methodLink "FeedAxisLaw" 91 (mk_L_does).1 ∈ wd_all := wd_i 443 (by decide +kernel)
theorem ml_L_47 : Cond.methodLink "FeedAxisLaw" 47 (mk_F_setNumber).1 ∈ wd_all := wd_i 446 (by decide +kernel)
theorem ml_F_46 : Cond.methodLink "FeedAxis" 46 (mk_A_number).1 ∈ wd_all := wd_i 450 (by decide +kernel)
theorem ml_F_50 : Cond.methodLink "FeedAxis" 50 (mk_S_push).1 ∈ wd_all := wd_i 451 (by decide +kernel)
theorem ml_S_31 : Cond.methodLink "FeedAxis$Saved" 31 (mk_J_min).1 ∈ wd_all := wd_i 455 (by decide +kernel)
theorem ml_L_50 : Cond.methodLink "FeedAxisLaw" 50 (mk_F_setLoad).1 ∈ wd_all := wd_i 456 (by decide +kernel)
theorem ml_F_66 : Cond.methodLink "FeedAxis" 66 (mk_F_setPoint).1 ∈ wd_all := wd_i 460 (by decide +kernel)
theorem ml_F_211 : Cond.methodLink "FeedAxis" 211 (mk_P_valueAt).1 ∈ wd_all := wd_i 464 (by decide +kernel)
theorem ml_P_15 : Cond.methodLink "FeedAxis$Points" 15 (mk_P_isAt).1 ∈ wd_all := wd_i 468 (by decide +kernel)
theorem ml_F_215 : Cond.methodLink "FeedAxis" 215 (mk_P_remove).1 ∈ wd_all := wd_i 472 (by decide +kernel)
theorem ml_P_56 : Cond.methodLink "FeedAxis$Points" 56 ⟨"FeedAxis$Points", mk_Q_removeAt.1.name, mk_Q_removeAt.1.desc⟩ ∈ wd_all := wd_i 476 (by decide +kernel)
theorem ml_Q_32 : Cond.methodLink "FeedAxis$Placed" 32 (mk_R_at).1 ∈ wd_all := wd_i 482 (by decide +kernel)
theorem ml_Q_36 : Cond.methodLink "FeedAxis$Placed" 36 (mk_R_put).1 ∈ wd_all := wd_i 483 (by decide +kernel)
theorem ml_F_218 : Cond.methodLink "FeedAxis" 218 (mk_P_hasRoomFor).1 ∈ wd_all := wd_i 484 (by decide +kernel)
theorem ml_P_44 : Cond.methodLink "FeedAxis$Points" 44 ⟨"FeedAxis$Points", mk_Q_isFull.1.name, mk_Q_isFull.1.desc⟩ ∈ wd_all := wd_i 488 (by decide +kernel)
theorem ml_F_221 : Cond.methodLink "FeedAxis" 221 (mk_P_put).1 ∈ wd_all := wd_i 495 (by decide +kernel)
theorem ml_P_48 : Cond.methodLink "FeedAxis$Points" 48 (mk_R_put).1 ∈ wd_all := wd_i 499 (by decide +kernel)
theorem ml_P_52 : Cond.methodLink "FeedAxis$Points" 52 ⟨"FeedAxis$Points", mk_Q_insertAt.1.name, mk_Q_insertAt.1.desc⟩ ∈ wd_all := wd_i 500 (by decide +kernel)
theorem ml_L_53 : Cond.methodLink "FeedAxisLaw" 53 (mk_F_setComb).1 ∈ wd_all := wd_i 506 (by decide +kernel)
theorem ml_L_56 : Cond.methodLink "FeedAxisLaw" 56 (mk_F_setFlag).1 ∈ wd_all := wd_i 510 (by decide +kernel)
theorem ml_F_77 : Cond.methodLink "FeedAxis" 77 (mk_A_placeFlag).1 ∈ wd_all := wd_i 514 (by decide +kernel)
theorem ml_L_59 : Cond.methodLink "FeedAxisLaw" 59 (mk_F_home).1 ∈ wd_all := wd_i 518 (by decide +kernel)
theorem ml_F_126 : Cond.methodLink "FeedAxis" 126 (mk_F_isSide).1 ∈ wd_all := wd_i 522 (by decide +kernel)
theorem ml_F_129 : Cond.methodLink "FeedAxis" 129 (mk_A_seek).1 ∈ wd_all := wd_i 525 (by decide +kernel)
theorem ml_A_159 : Cond.methodLink "FeedAxis$Axis" 159 (mk_A_approach).1 ∈ wd_all := wd_i 529 (by decide +kernel)
theorem ml_A_170 : Cond.methodLink "FeedAxis$Axis" 170 (mk_A_microstepsOfTable).1 ∈ wd_all := wd_i 533 (by decide +kernel)
theorem ml_F_133 : Cond.methodLink "FeedAxis" 133 (mk_A_counterDue).1 ∈ wd_all := wd_i 537 (by decide +kernel)
theorem ml_F_139 : Cond.methodLink "FeedAxis" 139 (mk_A_moveCounterAlone).1 ∈ wd_all := wd_i 541 (by decide +kernel)
theorem ml_F_94 : Cond.methodLink "FeedAxis" 94 (mk_F_adoptTrial).1 ∈ wd_all := wd_i 545 (by decide +kernel)
theorem ml_L_63 : Cond.methodLink "FeedAxisLaw" 63 (mk_F_check).1 ∈ wd_all := wd_i 550 (by decide +kernel)
theorem ml_L_66 : Cond.methodLink "FeedAxisLaw" 66 (mk_F_correct).1 ∈ wd_all := wd_i 554 (by decide +kernel)
theorem ml_L_70 : Cond.methodLink "FeedAxisLaw" 70 (mk_F_addCommand).1 ∈ wd_all := wd_i 561 (by decide +kernel)
theorem ml_F_111 : Cond.methodLink "FeedAxis" 111 ⟨"FeedAxis$Commands", mk_Q_isFull.1.name, mk_Q_isFull.1.desc⟩ ∈ wd_all := wd_i 565 (by decide +kernel)
theorem ml_F_117 : Cond.methodLink "FeedAxis" 117 (mk_C_insert).1 ∈ wd_all := wd_i 568 (by decide +kernel)
theorem ml_C_26 : Cond.methodLink "FeedAxis$Commands" 26 (mk_C_priorityOf).1 ∈ wd_all := wd_i 572 (by decide +kernel)
theorem ml_C_30 : Cond.methodLink "FeedAxis$Commands" 30 ⟨"FeedAxis$Commands", mk_Q_insertAt.1.name, mk_Q_insertAt.1.desc⟩ ∈ wd_all := wd_i 573 (by decide +kernel)
theorem ml_L_73 : Cond.methodLink "FeedAxisLaw" 73 (mk_F_run).1 ∈ wd_all := wd_i 576 (by decide +kernel)
theorem ml_F_123 : Cond.methodLink "FeedAxis" 123 (mk_A_carryOutNext).1 ∈ wd_all := wd_i 580 (by decide +kernel)
theorem ml_A_155 : Cond.methodLink "FeedAxis$Axis" 155 (mk_C_takeNext).1 ∈ wd_all := wd_i 584 (by decide +kernel)
theorem ml_C_34 : Cond.methodLink "FeedAxis$Commands" 34 (mk_C_placeOf).1 ∈ wd_all := wd_i 588 (by decide +kernel)
theorem ml_C_37 : Cond.methodLink "FeedAxis$Commands" 37 ⟨"FeedAxis$Commands", mk_Q_removeAt.1.name, mk_Q_removeAt.1.desc⟩ ∈ wd_all := wd_i 589 (by decide +kernel)
theorem ml_L_76 : Cond.methodLink "FeedAxisLaw" 76 (mk_F_back).1 ∈ wd_all := wd_i 592 (by decide +kernel)
theorem ml_L_79 : Cond.methodLink "FeedAxisLaw" 79 (mk_F_moveTo).1 ∈ wd_all := wd_i 596 (by decide +kernel)
theorem lf_Q_13 {ci : Nat} (h : ci = 1 ∨ ci = 2) : lf_P "FeedAxis$Placed" 13 ci 0 := by
  rcases h with rfl | rfl
  · exact ⟨_, rfl, by decide, "FeedAxis$Placed", wd_i 53 (by decide +kernel), Or.inl rfl⟩
  · exact ⟨_, rfl, by decide, "FeedAxis$Placed", wd_i 53 (by decide +kernel), Or.inl rfl⟩
theorem lr_Q_13 {ci : Nat} (h : ci = 1 ∨ ci = 2) : lr_P "FeedAxis$Placed" 13 ci 0 := by
  rcases h with rfl | rfl
  · exact ⟨_, rfl, by decide, wd_i 53 (by decide +kernel), rfl, rfl, _, (by decide +kernel : _ = some (tyX1 0)), fun _ => ⟨rfl, rfl⟩⟩
  · exact ⟨_, rfl, by decide, wd_i 53 (by decide +kernel), rfl, rfl, _, (by decide +kernel : _ = some (tyX3 0)), fun _ => ⟨rfl, rfl⟩⟩
theorem lf_C_9 : lf_P "FeedAxis$Commands" 9 1 0 := ⟨_, rfl, by decide, "FeedAxis$Commands", wd_i 54 (by decide +kernel), Or.inr (wd_i 55 (by decide +kernel))⟩
theorem lf_P_29 : lf_P "FeedAxis$Points" 29 2 0 := ⟨_, rfl, by decide, "FeedAxis$Points", wd_i 56 (by decide +kernel), Or.inr (wd_i 57 (by decide +kernel))⟩
theorem lf_Q_19 {ci : Nat} (h : ci = 1 ∨ ci = 2) : lf_P "FeedAxis$Placed" 19 ci 1 := by
  rcases h with rfl | rfl
  · exact ⟨_, rfl, by decide, "FeedAxis$Placed", wd_i 58 (by decide +kernel), Or.inl rfl⟩
  · exact ⟨_, rfl, by decide, "FeedAxis$Placed", wd_i 58 (by decide +kernel), Or.inl rfl⟩
theorem lr_Q_19 {ci : Nat} (h : ci = 1 ∨ ci = 2) : lr_P "FeedAxis$Placed" 19 ci 1 := by
  rcases h with rfl | rfl
  · exact ⟨_, rfl, by decide, wd_i 58 (by decide +kernel), rfl, rfl, _, (by decide +kernel : _ = some (tyX1 1)), fun _ => ⟨rfl, rfl⟩⟩
  · exact ⟨_, rfl, by decide, wd_i 58 (by decide +kernel), rfl, rfl, _, (by decide +kernel : _ = some (tyX3 1)), fun _ => ⟨rfl, rfl⟩⟩
theorem lf_P_19 : lf_P "FeedAxis$Points" 19 2 1 := ⟨_, rfl, by decide, "FeedAxis$Points", wd_i 59 (by decide +kernel), Or.inr (wd_i 60 (by decide +kernel))⟩
theorem lf_C_19 : lf_P "FeedAxis$Commands" 19 1 1 := ⟨_, rfl, by decide, "FeedAxis$Commands", wd_i 61 (by decide +kernel), Or.inr (wd_i 62 (by decide +kernel))⟩
theorem lf_Q_22 {ci : Nat} (h : ci = 1 ∨ ci = 2) : lf_P "FeedAxis$Placed" 22 ci 2 := by
  rcases h with rfl | rfl
  · exact ⟨_, rfl, by decide, "FeedAxis$Placed", wd_i 63 (by decide +kernel), Or.inl rfl⟩
  · exact ⟨_, rfl, by decide, "FeedAxis$Placed", wd_i 63 (by decide +kernel), Or.inl rfl⟩
theorem lp_Q_22 {ci : Nat} (h : ci = 1 ∨ ci = 2) : lp_P "FeedAxis$Placed" 22 ci 2 false := by
  rcases h with rfl | rfl
  · exact ⟨_, rfl, by decide, wd_i 63 (by decide +kernel), rfl, rfl⟩
  · exact ⟨_, rfl, by decide, wd_i 63 (by decide +kernel), rfl, rfl⟩
theorem lf_C_22 : lf_P "FeedAxis$Commands" 22 1 2 := ⟨_, rfl, by decide, "FeedAxis$Commands", wd_i 64 (by decide +kernel), Or.inr (wd_i 65 (by decide +kernel))⟩
theorem lf_P_33 : lf_P "FeedAxis$Points" 33 2 2 := ⟨_, rfl, by decide, "FeedAxis$Points", wd_i 66 (by decide +kernel), Or.inr (wd_i 67 (by decide +kernel))⟩
theorem lf_A_104 : lf_P "FeedAxis$Axis" 104 2 2 := ⟨_, rfl, by decide, "FeedAxis$Points", wd_i 68 (by decide +kernel), Or.inr (wd_i 67 (by decide +kernel))⟩
theorem lf_A_107 : lf_P "FeedAxis$Axis" 107 1 2 := ⟨_, rfl, by decide, "FeedAxis$Commands", wd_i 69 (by decide +kernel), Or.inr (wd_i 65 (by decide +kernel))⟩
theorem lf_F_120 : lf_P "FeedAxis" 120 1 2 := ⟨_, rfl, by decide, "FeedAxis$Commands", wd_i 70 (by decide +kernel), Or.inr (wd_i 65 (by decide +kernel))⟩
theorem lf_A_9 : lf_P "FeedAxis$Axis" 9 0 0 := ⟨_, rfl, by decide, "FeedAxis$Axis", wd_i 89 (by decide +kernel), Or.inl rfl⟩
theorem lr_A_9 : lr_P "FeedAxis$Axis" 9 0 0 := ⟨_, rfl, by decide, wd_i 89 (by decide +kernel), rfl, rfl, _, (by decide +kernel : _ = some (tyX0 0)), fun _ => ⟨rfl, rfl⟩⟩
theorem lf_A_15 : lf_P "FeedAxis$Axis" 15 0 1 := ⟨_, rfl, by decide, "FeedAxis$Axis", wd_i 90 (by decide +kernel), Or.inl rfl⟩
theorem lr_A_15 : lr_P "FeedAxis$Axis" 15 0 1 := ⟨_, rfl, by decide, wd_i 90 (by decide +kernel), rfl, rfl, _, (by decide +kernel : _ = some (tyX0 1)), fun _ => ⟨rfl, rfl⟩⟩
theorem lf_F_160 : lf_P "FeedAxis" 160 0 1 := ⟨_, rfl, by decide, "FeedAxis$Axis", wd_i 91 (by decide +kernel), Or.inl rfl⟩
theorem lf_A_21 : lf_P "FeedAxis$Axis" 21 0 2 := ⟨_, rfl, by decide, "FeedAxis$Axis", wd_i 92 (by decide +kernel), Or.inl rfl⟩
theorem lr_A_21 : lr_P "FeedAxis$Axis" 21 0 2 := ⟨_, rfl, by decide, wd_i 92 (by decide +kernel), rfl, rfl, _, (by decide +kernel : _ = some (tyX0 2)), fun _ => ⟨rfl, rfl⟩⟩
theorem lf_F_62 : lf_P "FeedAxis" 62 0 2 := ⟨_, rfl, by decide, "FeedAxis$Axis", wd_i 93 (by decide +kernel), Or.inl rfl⟩
theorem lf_A_25 : lf_P "FeedAxis$Axis" 25 0 3 := ⟨_, rfl, by decide, "FeedAxis$Axis", wd_i 94 (by decide +kernel), Or.inl rfl⟩
theorem lr_A_25 : lr_P "FeedAxis$Axis" 25 0 3 := ⟨_, rfl, by decide, wd_i 94 (by decide +kernel), rfl, rfl, _, (by decide +kernel : _ = some (tyX0 3)), fun _ => ⟨rfl, rfl⟩⟩
theorem lf_F_70 : lf_P "FeedAxis" 70 0 3 := ⟨_, rfl, by decide, "FeedAxis$Axis", wd_i 95 (by decide +kernel), Or.inl rfl⟩
theorem lf_A_31 : lf_P "FeedAxis$Axis" 31 0 4 := ⟨_, rfl, by decide, "FeedAxis$Axis", wd_i 96 (by decide +kernel), Or.inl rfl⟩
theorem lr_A_31 : lr_P "FeedAxis$Axis" 31 0 4 := ⟨_, rfl, by decide, wd_i 96 (by decide +kernel), rfl, rfl, _, (by decide +kernel : _ = some (tyX0 4)), fun _ => ⟨rfl, rfl⟩⟩
theorem lf_F_107 : lf_P "FeedAxis" 107 0 4 := ⟨_, rfl, by decide, "FeedAxis$Axis", wd_i 97 (by decide +kernel), Or.inl rfl⟩
theorem lf_A_46 : lf_P "FeedAxis$Axis" 46 0 5 := ⟨_, rfl, by decide, "FeedAxis$Axis", wd_i 98 (by decide +kernel), Or.inl rfl⟩
theorem lp_A_46 : lp_P "FeedAxis$Axis" 46 0 5 true := ⟨_, rfl, by decide, wd_i 98 (by decide +kernel), rfl, rfl⟩
theorem lf_F_73 : lf_P "FeedAxis" 73 0 5 := ⟨_, rfl, by decide, "FeedAxis$Axis", wd_i 99 (by decide +kernel), Or.inl rfl⟩
theorem lp_F_73 : lp_P "FeedAxis" 73 0 5 true := ⟨_, rfl, by decide, wd_i 99 (by decide +kernel), rfl, rfl⟩
theorem lf_A_50 : lf_P "FeedAxis$Axis" 50 0 6 := ⟨_, rfl, by decide, "FeedAxis$Axis", wd_i 100 (by decide +kernel), Or.inl rfl⟩
theorem lp_A_50 : lp_P "FeedAxis$Axis" 50 0 6 false := ⟨_, rfl, by decide, wd_i 100 (by decide +kernel), rfl, rfl⟩
theorem lf_F_184 : lf_P "FeedAxis" 184 0 6 := ⟨_, rfl, by decide, "FeedAxis$Axis", wd_i 101 (by decide +kernel), Or.inl rfl⟩
theorem lp_F_184 : lp_P "FeedAxis" 184 0 6 false := ⟨_, rfl, by decide, wd_i 101 (by decide +kernel), rfl, rfl⟩
theorem lf_A_54 : lf_P "FeedAxis$Axis" 54 0 7 := ⟨_, rfl, by decide, "FeedAxis$Axis", wd_i 102 (by decide +kernel), Or.inl rfl⟩
theorem lp_A_54 : lp_P "FeedAxis$Axis" 54 0 7 false := ⟨_, rfl, by decide, wd_i 102 (by decide +kernel), rfl, rfl⟩
theorem lf_F_187 : lf_P "FeedAxis" 187 0 7 := ⟨_, rfl, by decide, "FeedAxis$Axis", wd_i 103 (by decide +kernel), Or.inl rfl⟩
theorem lp_F_187 : lp_P "FeedAxis" 187 0 7 false := ⟨_, rfl, by decide, wd_i 103 (by decide +kernel), rfl, rfl⟩
theorem lf_A_57 : lf_P "FeedAxis$Axis" 57 0 8 := ⟨_, rfl, by decide, "FeedAxis$Axis", wd_i 104 (by decide +kernel), Or.inl rfl⟩
theorem lp_A_57 : lp_P "FeedAxis$Axis" 57 0 8 false := ⟨_, rfl, by decide, wd_i 104 (by decide +kernel), rfl, rfl⟩
theorem lf_F_136 : lf_P "FeedAxis" 136 0 8 := ⟨_, rfl, by decide, "FeedAxis$Axis", wd_i 105 (by decide +kernel), Or.inl rfl⟩
theorem lp_F_136 : lp_P "FeedAxis" 136 0 8 false := ⟨_, rfl, by decide, wd_i 105 (by decide +kernel), rfl, rfl⟩
theorem lf_A_60 : lf_P "FeedAxis$Axis" 60 0 9 := ⟨_, rfl, by decide, "FeedAxis$Axis", wd_i 106 (by decide +kernel), Or.inl rfl⟩
theorem lp_A_60 : lp_P "FeedAxis$Axis" 60 0 9 false := ⟨_, rfl, by decide, wd_i 106 (by decide +kernel), rfl, rfl⟩
theorem lf_F_202 : lf_P "FeedAxis" 202 0 9 := ⟨_, rfl, by decide, "FeedAxis$Axis", wd_i 107 (by decide +kernel), Or.inl rfl⟩
theorem lp_F_202 : lp_P "FeedAxis" 202 0 9 false := ⟨_, rfl, by decide, wd_i 107 (by decide +kernel), rfl, rfl⟩
theorem lf_A_63 : lf_P "FeedAxis$Axis" 63 0 10 := ⟨_, rfl, by decide, "FeedAxis$Axis", wd_i 108 (by decide +kernel), Or.inl rfl⟩
theorem lp_A_63 : lp_P "FeedAxis$Axis" 63 0 10 false := ⟨_, rfl, by decide, wd_i 108 (by decide +kernel), rfl, rfl⟩
theorem lf_A_66 : lf_P "FeedAxis$Axis" 66 0 11 := ⟨_, rfl, by decide, "FeedAxis$Axis", wd_i 109 (by decide +kernel), Or.inl rfl⟩
theorem lp_A_66 : lp_P "FeedAxis$Axis" 66 0 11 false := ⟨_, rfl, by decide, wd_i 109 (by decide +kernel), rfl, rfl⟩
theorem lf_F_205 : lf_P "FeedAxis" 205 0 11 := ⟨_, rfl, by decide, "FeedAxis$Axis", wd_i 110 (by decide +kernel), Or.inl rfl⟩
theorem lp_F_205 : lp_P "FeedAxis" 205 0 11 false := ⟨_, rfl, by decide, wd_i 110 (by decide +kernel), rfl, rfl⟩
theorem lf_A_69 : lf_P "FeedAxis$Axis" 69 0 12 := ⟨_, rfl, by decide, "FeedAxis$Axis", wd_i 111 (by decide +kernel), Or.inl rfl⟩
theorem lp_A_69 : lp_P "FeedAxis$Axis" 69 0 12 false := ⟨_, rfl, by decide, wd_i 111 (by decide +kernel), rfl, rfl⟩
theorem lf_F_101 : lf_P "FeedAxis" 101 0 12 := ⟨_, rfl, by decide, "FeedAxis$Axis", wd_i 112 (by decide +kernel), Or.inl rfl⟩
theorem lp_F_101 : lp_P "FeedAxis" 101 0 12 false := ⟨_, rfl, by decide, wd_i 112 (by decide +kernel), rfl, rfl⟩
theorem lf_A_72 : lf_P "FeedAxis$Axis" 72 0 13 := ⟨_, rfl, by decide, "FeedAxis$Axis", wd_i 113 (by decide +kernel), Or.inl rfl⟩
theorem lp_A_72 : lp_P "FeedAxis$Axis" 72 0 13 false := ⟨_, rfl, by decide, wd_i 113 (by decide +kernel), rfl, rfl⟩
theorem lf_F_208 : lf_P "FeedAxis" 208 0 13 := ⟨_, rfl, by decide, "FeedAxis$Axis", wd_i 114 (by decide +kernel), Or.inl rfl⟩
theorem lp_F_208 : lp_P "FeedAxis" 208 0 13 false := ⟨_, rfl, by decide, wd_i 114 (by decide +kernel), rfl, rfl⟩
theorem lf_S_11 : lf_P "FeedAxis$Saved" 11 3 0 := ⟨_, rfl, by decide, "FeedAxis$Saved", wd_i 153 (by decide +kernel), Or.inl rfl⟩
theorem lr_S_11 : lr_P "FeedAxis$Saved" 11 3 0 := ⟨_, rfl, by decide, wd_i 153 (by decide +kernel), rfl, rfl, _, (by decide +kernel : _ = some (tyX5 0)), fun _ => ⟨rfl, rfl⟩⟩
theorem lf_S_16 : lf_P "FeedAxis$Saved" 16 3 1 := ⟨_, rfl, by decide, "FeedAxis$Saved", wd_i 154 (by decide +kernel), Or.inl rfl⟩
theorem lp_S_16 : lp_P "FeedAxis$Saved" 16 3 1 false := ⟨_, rfl, by decide, wd_i 154 (by decide +kernel), rfl, rfl⟩
theorem lf_S_20 : lf_P "FeedAxis$Saved" 20 3 2 := ⟨_, rfl, by decide, "FeedAxis$Saved", wd_i 155 (by decide +kernel), Or.inl rfl⟩
theorem lp_S_20 : lp_P "FeedAxis$Saved" 20 3 2 false := ⟨_, rfl, by decide, wd_i 155 (by decide +kernel), rfl, rfl⟩
theorem lf_F_153 : lf_P "FeedAxis" 153 3 2 := ⟨_, rfl, by decide, "FeedAxis$Saved", wd_i 156 (by decide +kernel), Or.inl rfl⟩
theorem lp_F_153 : lp_P "FeedAxis" 153 3 2 false := ⟨_, rfl, by decide, wd_i 156 (by decide +kernel), rfl, rfl⟩
theorem lf_T_11 : lf_P "FeedAxis$TableText" 11 4 0 := ⟨_, rfl, by decide, "FeedAxis$TableText", wd_i 170 (by decide +kernel), Or.inl rfl⟩
theorem lr_T_11 : lr_P "FeedAxis$TableText" 11 4 0 := ⟨_, rfl, by decide, wd_i 170 (by decide +kernel), rfl, rfl, _, (by decide +kernel : _ = some (tyX6 0)), fun _ => ⟨rfl, rfl⟩⟩
theorem lf_T_15 : lf_P "FeedAxis$TableText" 15 4 1 := ⟨_, rfl, by decide, "FeedAxis$TableText", wd_i 171 (by decide +kernel), Or.inl rfl⟩
theorem lp_T_15 : lp_P "FeedAxis$TableText" 15 4 1 false := ⟨_, rfl, by decide, wd_i 171 (by decide +kernel), rfl, rfl⟩
theorem lf_F_84 : lf_P "FeedAxis" 84 4 1 := ⟨_, rfl, by decide, "FeedAxis$TableText", wd_i 172 (by decide +kernel), Or.inl rfl⟩
theorem lp_F_84 : lp_P "FeedAxis" 84 4 1 false := ⟨_, rfl, by decide, wd_i 172 (by decide +kernel), rfl, rfl⟩
theorem lf_T_19 : lf_P "FeedAxis$TableText" 19 4 2 := ⟨_, rfl, by decide, "FeedAxis$TableText", wd_i 173 (by decide +kernel), Or.inl rfl⟩
theorem lp_T_19 : lp_P "FeedAxis$TableText" 19 4 2 false := ⟨_, rfl, by decide, wd_i 173 (by decide +kernel), rfl, rfl⟩
theorem lf_T_22 : lf_P "FeedAxis$TableText" 22 4 3 := ⟨_, rfl, by decide, "FeedAxis$TableText", wd_i 174 (by decide +kernel), Or.inl rfl⟩
theorem lp_T_22 : lp_P "FeedAxis$TableText" 22 4 3 false := ⟨_, rfl, by decide, wd_i 174 (by decide +kernel), rfl, rfl⟩
theorem lf_F_10 : lf_P "FeedAxis" 10 5 0 := ⟨_, rfl, by decide, "FeedAxis", wd_i 184 (by decide +kernel), Or.inl rfl⟩
theorem lr_F_10 : lr_P "FeedAxis" 10 5 0 := ⟨_, rfl, by decide, wd_i 184 (by decide +kernel), rfl, rfl, _, (by decide +kernel : _ = some (tyX7 0)), fun _ => ⟨rfl, rfl⟩⟩
theorem lf_F_16 : lf_P "FeedAxis" 16 5 1 := ⟨_, rfl, by decide, "FeedAxis", wd_i 185 (by decide +kernel), Or.inl rfl⟩
theorem lr_F_16 : lr_P "FeedAxis" 16 5 1 := ⟨_, rfl, by decide, wd_i 185 (by decide +kernel), rfl, rfl, _, (by decide +kernel : _ = some (tyX7 1)), fun _ => ⟨rfl, rfl⟩⟩
theorem lf_F_19 : lf_P "FeedAxis" 19 5 2 := ⟨_, rfl, by decide, "FeedAxis", wd_i 186 (by decide +kernel), Or.inl rfl⟩
theorem lr_F_19 : lr_P "FeedAxis" 19 5 2 := ⟨_, rfl, by decide, wd_i 186 (by decide +kernel), rfl, rfl, _, (by decide +kernel : _ = some (tyX7 2)), fun _ => ⟨rfl, rfl⟩⟩
theorem lf_F_23 : lf_P "FeedAxis" 23 5 3 := ⟨_, rfl, by decide, "FeedAxis", wd_i 187 (by decide +kernel), Or.inl rfl⟩
theorem lp_F_23 : lp_P "FeedAxis" 23 5 3 false := ⟨_, rfl, by decide, wd_i 187 (by decide +kernel), rfl, rfl⟩
theorem lf_F_30 : lf_P "FeedAxis" 30 5 4 := ⟨_, rfl, by decide, "FeedAxis", wd_i 188 (by decide +kernel), Or.inl rfl⟩
theorem lr_F_30 : lr_P "FeedAxis" 30 5 4 := ⟨_, rfl, by decide, wd_i 188 (by decide +kernel), rfl, rfl, _, (by decide +kernel : _ = some (tyX7 4)), fun _ => ⟨rfl, rfl⟩⟩
theorem lf_F_37 : lf_P "FeedAxis" 37 5 5 := ⟨_, rfl, by decide, "FeedAxis", wd_i 189 (by decide +kernel), Or.inl rfl⟩
theorem lr_F_37 : lr_P "FeedAxis" 37 5 5 := ⟨_, rfl, by decide, wd_i 189 (by decide +kernel), rfl, rfl, _, (by decide +kernel : _ = some (tyX7 5)), fun _ => ⟨rfl, rfl⟩⟩
theorem fs_A_75 : Cond.fieldLink "FeedAxis$Axis" 75 "FeedAxis$Axis" "LEAST" "[I" ∈ wd_all := wd_i 313 (by decide +kernel)
theorem fs_A_82 : Cond.fieldLink "FeedAxis$Axis" 82 "FeedAxis$Axis" "GREATEST" "[I" ∈ wd_all := wd_i 316 (by decide +kernel)
theorem lk_F_45 : Cond.constant "FeedAxis" 45 (-1000001) ∈ wd_all := wd_i 211 (by decide +kernel)
theorem lk_F_100 : Cond.constant "FeedAxis" 100 (-1000002) ∈ wd_all := wd_i 248 (by decide +kernel)
theorem lk_F_132 : Cond.constant "FeedAxis" 132 (-1000009) ∈ wd_all := wd_i 293 (by decide +kernel)
theorem lk_J_265 : Cond.constant "java/lang/Integer" 265 (1431655765) ∈ wd_all := wd_i 321 (by decide +kernel)
theorem lk_J_266 : Cond.constant "java/lang/Integer" 266 (858993459) ∈ wd_all := wd_i 322 (by decide +kernel)
theorem lk_J_267 : Cond.constant "java/lang/Integer" 267 (252645135) ∈ wd_all := wd_i 323 (by decide +kernel)
theorem lk_A_173 : Cond.constant "FeedAxis$Axis" 173 (1000000000) ∈ wd_all := wd_i 370 (by decide +kernel)
theorem lk_P_37 : Cond.constant "FeedAxis$Points" 37 (1000000000) ∈ wd_all := wd_i 375 (by decide +kernel)
theorem lk_P_32 : Cond.constant "FeedAxis$Points" 32 (-1000000000) ∈ wd_all := wd_i 380 (by decide +kernel)
theorem lk_L_7 : Cond.constant "FeedAxisLaw" 7 (2147483647) ∈ wd_all := wd_i 419 (by decide +kernel)
theorem lk_F_83 : Cond.constant "FeedAxis" 83 (-1000003) ∈ wd_all := wd_i 494 (by decide +kernel)
theorem lk_L_62 : Cond.constant "FeedAxisLaw" 62 (100000) ∈ wd_all := wd_i 549 (by decide +kernel)
theorem lk_F_143 : Cond.constant "FeedAxis" 143 (-99999) ∈ wd_all := wd_i 558 (by decide +kernel)
theorem lk_F_144 : Cond.constant "FeedAxis" 144 (99999) ∈ wd_all := wd_i 559 (by decide +kernel)
theorem lk_L_69 : Cond.constant "FeedAxisLaw" 69 (200000) ∈ wd_all := wd_i 560 (by decide +kernel)
theorem lk_L_95 : Cond.constant "FeedAxisLaw" 95 (-500000) ∈ wd_all := wd_i 600 (by decide +kernel)
theorem lk_L_112 : Cond.constant "FeedAxisLaw" 112 (-1000002) ∈ wd_all := wd_i 601 (by decide +kernel)
theorem ll_L_8 : Cond.constantLong "FeedAxisLaw" 8 (3) ∈ wd_all := wd_i 423 (by decide +kernel)
theorem ll_L_10 : Cond.constantLong "FeedAxisLaw" 10 (31) ∈ wd_all := wd_i 424 (by decide +kernel)
theorem ll_L_18 : Cond.constantLong "FeedAxisLaw" 18 (37) ∈ wd_all := wd_i 425 (by decide +kernel)
theorem ll_L_23 : Cond.constantLong "FeedAxisLaw" 23 (41) ∈ wd_all := wd_i 426 (by decide +kernel)
theorem ll_L_31 : Cond.constantLong "FeedAxisLaw" 31 (43) ∈ wd_all := wd_i 437 (by decide +kernel)
theorem ll_L_37 : Cond.constantLong "FeedAxisLaw" 37 (47) ∈ wd_all := wd_i 438 (by decide +kernel)
theorem nw_L_13 : nw_P "FeedAxisLaw" 13 5 6 [some none, some none, some none, none, some none, some none] := ⟨_, tyX7, rfl, rfl, wd_i 27 (by decide +kernel), wd_i 28 (by decide +kernel), wd_i 16 (by decide +kernel), tyX7_ok, fun k hk => by
  have hk9 : k < 6 := hk
  rcases (show k = 0 ∨ k = 1 ∨ k = 2 ∨ k = 3 ∨ k = 4 ∨ k = 5 by omega) with rfl | rfl | rfl | rfl | rfl | rfl <;> rfl⟩
theorem cq_F_7 : Cond.classLink "FeedAxis" 7 "FeedAxis$Axis" ∈ wd_all := wd_i 35 (by decide +kernel)
theorem nw_F_7 : nw_P "FeedAxis" 7 0 14 [some none, some none, some none, some none, some none, none, none, none, none, none, none, none, none, none] := ⟨_, tyX0, rfl, rfl, wd_i 35 (by decide +kernel), wd_i 36 (by decide +kernel), wd_i 17 (by decide +kernel), tyX0_ok, fun k hk => by
  have hk9 : k < 14 := hk
  rcases (show k = 0 ∨ k = 1 ∨ k = 2 ∨ k = 3 ∨ k = 4 ∨ k = 5 ∨ k = 6 ∨ k = 7 ∨ k = 8 ∨ k = 9 ∨ k = 10 ∨ k = 11 ∨ k = 12 ∨ k = 13 by omega) with rfl | rfl | rfl | rfl | rfl | rfl | rfl | rfl | rfl | rfl | rfl | rfl | rfl | rfl <;> rfl⟩
theorem nw_A_18 : nw_P "FeedAxis$Axis" 18 2 3 [some none, some none, none] := ⟨_, tyX3, rfl, rfl, wd_i 41 (by decide +kernel), wd_i 42 (by decide +kernel), wd_i 19 (by decide +kernel), tyX3_ok, fun k hk => by
  have hk9 : k < 3 := hk
  rcases (show k = 0 ∨ k = 1 ∨ k = 2 by omega) with rfl | rfl | rfl <;> rfl⟩
theorem nw_A_28 : nw_P "FeedAxis$Axis" 28 1 3 [some none, some none, none] := ⟨_, tyX1, rfl, rfl, wd_i 79 (by decide +kernel), wd_i 80 (by decide +kernel), wd_i 21 (by decide +kernel), tyX1_ok, fun k hk => by
  have hk9 : k < 3 := hk
  rcases (show k = 0 ∨ k = 1 ∨ k = 2 by omega) with rfl | rfl | rfl <;> rfl⟩
theorem nw_F_27 : nw_P "FeedAxis" 27 3 3 [some none, none, none] := ⟨_, tyX5, rfl, rfl, wd_i 145 (by decide +kernel), wd_i 146 (by decide +kernel), wd_i 22 (by decide +kernel), tyX5_ok, fun k hk => by
  have hk9 : k < 3 := hk
  rcases (show k = 0 ∨ k = 1 ∨ k = 2 by omega) with rfl | rfl | rfl <;> rfl⟩
theorem cq_S_9 : Cond.classLink "FeedAxis$Saved" 9 "FeedAxis$Axis" ∈ wd_all := wd_i 151 (by decide +kernel)
theorem nw_S_9 : nw_P "FeedAxis$Saved" 9 0 14 [some none, some none, some none, some none, some none, none, none, none, none, none, none, none, none, none] := ⟨_, tyX0, rfl, rfl, wd_i 151 (by decide +kernel), wd_i 36 (by decide +kernel), wd_i 17 (by decide +kernel), tyX0_ok, fun k hk => by
  have hk9 : k < 14 := hk
  rcases (show k = 0 ∨ k = 1 ∨ k = 2 ∨ k = 3 ∨ k = 4 ∨ k = 5 ∨ k = 6 ∨ k = 7 ∨ k = 8 ∨ k = 9 ∨ k = 10 ∨ k = 11 ∨ k = 12 ∨ k = 13 by omega) with rfl | rfl | rfl | rfl | rfl | rfl | rfl | rfl | rfl | rfl | rfl | rfl | rfl | rfl <;> rfl⟩
theorem nw_F_34 : nw_P "FeedAxis" 34 4 4 [some none, none, none, none] := ⟨_, tyX6, rfl, rfl, wd_i 164 (by decide +kernel), wd_i 165 (by decide +kernel), wd_i 23 (by decide +kernel), tyX6_ok, fun k hk => by
  have hk9 : k < 4 := hk
  rcases (show k = 0 ∨ k = 1 ∨ k = 2 ∨ k = 3 by omega) with rfl | rfl | rfl | rfl <;> rfl⟩
theorem oi_F : Cond.methodLink "FeedAxis" 1 Lib.objectInit ∈ wd_all ∧ Cond.instanceMethod Lib.objectInit ∈ wd_all ∧ Cond.code Lib.objectInit ⟨#[0xb1]⟩ 1 none ∈ wd_all := ⟨wd_i 32 (by decide +kernel), wd_i 33 (by decide +kernel), wd_i 34 (by decide +kernel)⟩
theorem oi_A : Cond.methodLink "FeedAxis$Axis" 3 Lib.objectInit ∈ wd_all ∧ Cond.instanceMethod Lib.objectInit ∈ wd_all ∧ Cond.code Lib.objectInit ⟨#[0xb1]⟩ 1 none ∈ wd_all := ⟨wd_i 40 (by decide +kernel), wd_i 33 (by decide +kernel), wd_i 34 (by decide +kernel)⟩
theorem oi_Q : Cond.methodLink "FeedAxis$Placed" 1 Lib.objectInit ∈ wd_all ∧ Cond.instanceMethod Lib.objectInit ∈ wd_all ∧ Cond.code Lib.objectInit ⟨#[0xb1]⟩ 1 none ∈ wd_all := ⟨wd_i 49 (by decide +kernel), wd_i 33 (by decide +kernel), wd_i 34 (by decide +kernel)⟩
theorem oi_S : Cond.methodLink "FeedAxis$Saved" 1 Lib.objectInit ∈ wd_all ∧ Cond.instanceMethod Lib.objectInit ∈ wd_all ∧ Cond.code Lib.objectInit ⟨#[0xb1]⟩ 1 none ∈ wd_all := ⟨wd_i 150 (by decide +kernel), wd_i 33 (by decide +kernel), wd_i 34 (by decide +kernel)⟩
theorem oi_T : Cond.methodLink "FeedAxis$TableText" 3 Lib.objectInit ∈ wd_all ∧ Cond.instanceMethod Lib.objectInit ∈ wd_all ∧ Cond.code Lib.objectInit ⟨#[0xb1]⟩ 1 none ∈ wd_all := ⟨wd_i 169 (by decide +kernel), wd_i 33 (by decide +kernel), wd_i 34 (by decide +kernel)⟩
theorem ac_R : Cond.methodLink "FeedAxis$Rows" 13 arraycopyName ∈ wd_all ∧ Cond.native arraycopyName ∈ wd_all ∧ Cond.static arraycopyName ∈ wd_all ∧ Cond.initialized "java/lang/System" ∈ wd_all := ⟨wd_i 222 (by decide +kernel), wd_i 224 (by decide +kernel), wd_i 223 (by decide +kernel), wd_i 26 (by decide +kernel)⟩
theorem aw_int : Cond.arrayClass .int ∈ wd_all := wd_i 78 (by decide +kernel)
