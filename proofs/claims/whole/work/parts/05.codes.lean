/-! Printed by wip/whole/gen_names.py: the word of each method's code stands in the tables. -/
theorem xt_1 {w : Cond} (h : w ∈ tables_1_1) : w ∈ lw_tbl := List.mem_append_right _ (show w ∈ tables_1_1 ++ (tables_1_2 ++ (tables_1_3 ++ (tables_1_4 ++ (tables_1_5 ++ (tables_1_6 ++ (tables_1_7 ++ tables_1_8)))))) from List.mem_append_left _ h)
theorem xt_2 {w : Cond} (h : w ∈ tables_1_2) : w ∈ lw_tbl := List.mem_append_right _ (show w ∈ tables_1_1 ++ (tables_1_2 ++ (tables_1_3 ++ (tables_1_4 ++ (tables_1_5 ++ (tables_1_6 ++ (tables_1_7 ++ tables_1_8)))))) from List.mem_append_right _ (List.mem_append_left _ h))
theorem xt_3 {w : Cond} (h : w ∈ tables_1_3) : w ∈ lw_tbl := List.mem_append_right _ (show w ∈ tables_1_1 ++ (tables_1_2 ++ (tables_1_3 ++ (tables_1_4 ++ (tables_1_5 ++ (tables_1_6 ++ (tables_1_7 ++ tables_1_8)))))) from List.mem_append_right _ (List.mem_append_right _ (List.mem_append_left _ h)))
theorem xt_4 {w : Cond} (h : w ∈ tables_1_4) : w ∈ lw_tbl := List.mem_append_right _ (show w ∈ tables_1_1 ++ (tables_1_2 ++ (tables_1_3 ++ (tables_1_4 ++ (tables_1_5 ++ (tables_1_6 ++ (tables_1_7 ++ tables_1_8)))))) from List.mem_append_right _ (List.mem_append_right _ (List.mem_append_right _ (List.mem_append_left _ h))))
theorem xt_5 {w : Cond} (h : w ∈ tables_1_5) : w ∈ lw_tbl := List.mem_append_right _ (show w ∈ tables_1_1 ++ (tables_1_2 ++ (tables_1_3 ++ (tables_1_4 ++ (tables_1_5 ++ (tables_1_6 ++ (tables_1_7 ++ tables_1_8)))))) from List.mem_append_right _ (List.mem_append_right _ (List.mem_append_right _ (List.mem_append_right _ (List.mem_append_left _ h)))))
theorem xt_6 {w : Cond} (h : w ∈ tables_1_6) : w ∈ lw_tbl := List.mem_append_right _ (show w ∈ tables_1_1 ++ (tables_1_2 ++ (tables_1_3 ++ (tables_1_4 ++ (tables_1_5 ++ (tables_1_6 ++ (tables_1_7 ++ tables_1_8)))))) from List.mem_append_right _ (List.mem_append_right _ (List.mem_append_right _ (List.mem_append_right _ (List.mem_append_right _ (List.mem_append_left _ h))))))
theorem xt_7 {w : Cond} (h : w ∈ tables_1_7) : w ∈ lw_tbl := List.mem_append_right _ (show w ∈ tables_1_1 ++ (tables_1_2 ++ (tables_1_3 ++ (tables_1_4 ++ (tables_1_5 ++ (tables_1_6 ++ (tables_1_7 ++ tables_1_8)))))) from List.mem_append_right _ (List.mem_append_right _ (List.mem_append_right _ (List.mem_append_right _ (List.mem_append_right _ (List.mem_append_right _ (List.mem_append_left _ h)))))))
theorem xt_8 {w : Cond} (h : w ∈ tables_1_8) : w ∈ lw_tbl := List.mem_append_right _ (show w ∈ tables_1_1 ++ (tables_1_2 ++ (tables_1_3 ++ (tables_1_4 ++ (tables_1_5 ++ (tables_1_6 ++ (tables_1_7 ++ tables_1_8)))))) from List.mem_append_right _ (List.mem_append_right _ (List.mem_append_right _ (List.mem_append_right _ (List.mem_append_right _ (List.mem_append_right _ (List.mem_append_right _ (h))))))))
def xCode (M : mT) : Prop := Cond.code (mY M) (mCd M) (mLo M) (mRt M) ∈ lw_tbl
set_option maxRecDepth 20000 in
theorem cw_X_init : xCode M_X_init := xt_1 (List.mem_of_getElem? (i := 32) rfl)
set_option maxRecDepth 20000 in
theorem cw_Object_init : xCode M_Object_init := xt_1 (List.mem_of_getElem? (i := 35) rfl)
set_option maxRecDepth 20000 in
theorem cw_Text_init : xCode M_Text_init := xt_1 (List.mem_of_getElem? (i := 40) rfl)
set_option maxRecDepth 20000 in
theorem cw_Told_init : xCode M_Told_init := xt_1 (List.mem_of_getElem? (i := 54) rfl)
set_option maxRecDepth 20000 in
theorem cw_Lake_init : xCode M_Lake_init := xt_1 (List.mem_of_getElem? (i := 70) rfl)
set_option maxRecDepth 20000 in
theorem cw_School_init : xCode M_School_init := xt_1 (List.mem_of_getElem? (i := 96) rfl)
set_option maxRecDepth 20000 in
theorem cw_Fog_init : xCode M_Fog_init := xt_1 (List.mem_of_getElem? (i := 119) rfl)
set_option maxRecDepth 20000 in
theorem cw_Tug_init : xCode M_Tug_init := xt_1 (List.mem_of_getElem? (i := 132) rfl)
set_option maxRecDepth 20000 in
theorem cw_Trip_init : xCode M_Trip_init := xt_1 (List.mem_of_getElem? (i := 163) rfl)
set_option maxRecDepth 20000 in
theorem cw_State_init : xCode M_State_init := xt_1 (List.mem_of_getElem? (i := 199) rfl)
set_option maxRecDepth 20000 in
theorem cw_Past_init : xCode M_Past_init := xt_2 (List.mem_of_getElem? (i := 21) rfl)
set_option maxRecDepth 20000 in
theorem cw_Sights_init : xCode M_Sights_init := xt_2 (List.mem_of_getElem? (i := 41) rfl)
set_option maxRecDepth 20000 in
theorem cw_Rule_init : xCode M_Rule_init := xt_2 (List.mem_of_getElem? (i := 63) rfl)
set_option maxRecDepth 20000 in
theorem cw_Rule_plain : xCode M_Rule_plain := xt_2 (List.mem_of_getElem? (i := 68) rfl)
set_option maxRecDepth 20000 in
theorem cw_Arrays_fill : xCode M_Arrays_fill := xt_2 (List.mem_of_getElem? (i := 76) rfl)
set_option maxRecDepth 20000 in
theorem cw_X_sign : xCode M_X_sign := xt_2 (List.mem_of_getElem? (i := 167) rfl)
set_option maxRecDepth 20000 in
theorem cw_Text_append : xCode M_Text_append := xt_2 (List.mem_of_getElem? (i := 171) rfl)
set_option maxRecDepth 20000 in
theorem cw_Text_length : xCode M_Text_length := xt_2 (List.mem_of_getElem? (i := 175) rfl)
set_option maxRecDepth 20000 in
theorem cw_X_end : xCode M_X_end := xt_2 (List.mem_of_getElem? (i := 179) rfl)
set_option maxRecDepth 20000 in
theorem cw_Text_shorten : xCode M_Text_shorten := xt_2 (List.mem_of_getElem? (i := 183) rfl)
set_option maxRecDepth 20000 in
theorem cw_X_lake : xCode M_X_lake := xt_2 (List.mem_of_getElem? (i := 187) rfl)
set_option maxRecDepth 20000 in
theorem cw_Lake_faultIn : xCode M_Lake_faultIn := xt_2 (List.mem_of_getElem? (i := 191) rfl)
set_option maxRecDepth 20000 in
theorem cw_Text_digit : xCode M_Text_digit := xt_2 (List.mem_of_getElem? (i := 195) rfl)
set_option maxRecDepth 20000 in
theorem cw_Text_at : xCode M_Text_at := xt_2 (List.mem_of_getElem? (i := 199) rfl)
set_option maxRecDepth 20000 in
theorem cw_Lake_take : xCode M_Lake_take := xt_2 (List.mem_of_getElem? (i := 205) rfl)
set_option maxRecDepth 20000 in
theorem cw_Past_clear : xCode M_Past_clear := xt_2 (List.mem_of_getElem? (i := 209) rfl)
set_option maxRecDepth 20000 in
theorem cw_Sights_clear : xCode M_Sights_clear := xt_2 (List.mem_of_getElem? (i := 213) rfl)
set_option maxRecDepth 20000 in
theorem cw_Text_clear : xCode M_Text_clear := xt_2 (List.mem_of_getElem? (i := 217) rfl)
set_option maxRecDepth 20000 in
theorem cw_Lake_fields : xCode M_Lake_fields := xt_2 (List.mem_of_getElem? (i := 221) rfl)
set_option maxRecDepth 20000 in
theorem cw_X_fish : xCode M_X_fish := xt_2 (List.mem_of_getElem? (i := 225) rfl)
set_option maxRecDepth 20000 in
theorem cw_X_fishFault : xCode M_X_fishFault := xt_2 (List.mem_of_getElem? (i := 229) rfl)
set_option maxRecDepth 20000 in
theorem cw_X_kindOf : xCode M_X_kindOf := xt_2 (List.mem_of_getElem? (i := 233) rfl)
set_option maxRecDepth 20000 in
theorem cw_X_addFish : xCode M_X_addFish := xt_2 (List.mem_of_getElem? (i := 238) rfl)
set_option maxRecDepth 20000 in
theorem cw_State_welcome : xCode M_State_welcome := xt_3 (List.mem_of_getElem? (i := 2) rfl)
set_option maxRecDepth 20000 in
theorem cw_School_add : xCode M_School_add := xt_3 (List.mem_of_getElem? (i := 6) rfl)
set_option maxRecDepth 20000 in
theorem cw_X_oar : xCode M_X_oar := xt_3 (List.mem_of_getElem? (i := 10) rfl)
set_option maxRecDepth 20000 in
theorem cw_X_oarFault : xCode M_X_oarFault := xt_3 (List.mem_of_getElem? (i := 14) rfl)
set_option maxRecDepth 20000 in
theorem cw_X_canBePromised : xCode M_X_canBePromised := xt_3 (List.mem_of_getElem? (i := 18) rfl)
set_option maxRecDepth 20000 in
theorem cw_School_has : xCode M_School_has := xt_3 (List.mem_of_getElem? (i := 22) rfl)
set_option maxRecDepth 20000 in
theorem cw_Past_push : xCode M_Past_push := xt_3 (List.mem_of_getElem? (i := 26) rfl)
set_option maxRecDepth 20000 in
theorem cw_State_copy : xCode M_State_copy := xt_3 (List.mem_of_getElem? (i := 30) rfl)
set_option maxRecDepth 20000 in
theorem cw_Math_min : xCode M_Math_min := xt_3 (List.mem_of_getElem? (i := 34) rfl)
set_option maxRecDepth 20000 in
theorem cw_X_addPromises : xCode M_X_addPromises := xt_3 (List.mem_of_getElem? (i := 38) rfl)
set_option maxRecDepth 20000 in
theorem cw_Lake_fieldAt : xCode M_Lake_fieldAt := xt_3 (List.mem_of_getElem? (i := 42) rfl)
set_option maxRecDepth 20000 in
theorem cw_X_makePromise : xCode M_X_makePromise := xt_3 (List.mem_of_getElem? (i := 46) rfl)
set_option maxRecDepth 20000 in
theorem cw_Lake_has : xCode M_Lake_has := xt_3 (List.mem_of_getElem? (i := 50) rfl)
set_option maxRecDepth 20000 in
theorem cw_State_promised : xCode M_State_promised := xt_3 (List.mem_of_getElem? (i := 55) rfl)
set_option maxRecDepth 20000 in
theorem cw_Integer_bitCount : xCode M_Integer_bitCount := xt_3 (List.mem_of_getElem? (i := 58) rfl)
set_option maxRecDepth 20000 in
theorem cw_X_fog : xCode M_X_fog := xt_3 (List.mem_of_getElem? (i := 65) rfl)
set_option maxRecDepth 20000 in
theorem cw_Fog_faultIn : xCode M_Fog_faultIn := xt_3 (List.mem_of_getElem? (i := 69) rfl)
set_option maxRecDepth 20000 in
theorem cw_Fog_take : xCode M_Fog_take := xt_3 (List.mem_of_getElem? (i := 75) rfl)
set_option maxRecDepth 20000 in
theorem cw_Math_max : xCode M_Math_max := xt_3 (List.mem_of_getElem? (i := 79) rfl)
set_option maxRecDepth 20000 in
theorem cw_X_rule : xCode M_X_rule := xt_3 (List.mem_of_getElem? (i := 83) rfl)
set_option maxRecDepth 20000 in
theorem cw_Rule_read : xCode M_Rule_read := xt_3 (List.mem_of_getElem? (i := 87) rfl)
set_option maxRecDepth 20000 in
theorem cw_Rule_takeThing : xCode M_Rule_takeThing := xt_3 (List.mem_of_getElem? (i := 94) rfl)
set_option maxRecDepth 20000 in
theorem cw_Rule_await : xCode M_Rule_await := xt_3 (List.mem_of_getElem? (i := 98) rfl)
set_option maxRecDepth 20000 in
theorem cw_String_indexOf : xCode M_String_indexOf := xt_3 (List.mem_of_getElem? (i := 103) rfl)
set_option maxRecDepth 20000 in
theorem cw_String_indexOf_2 : xCode M_String_indexOf_2 := xt_3 (List.mem_of_getElem? (i := 107) rfl)
set_option maxRecDepth 20000 in
theorem cw_String_isLatin1 : xCode M_String_isLatin1 := xt_3 (List.mem_of_getElem? (i := 111) rfl)
set_option maxRecDepth 20000 in
theorem cw_String_length : xCode M_String_length := xt_3 (List.mem_of_getElem? (i := 117) rfl)
set_option maxRecDepth 20000 in
theorem cw_String_coder : xCode M_String_coder := xt_3 (List.mem_of_getElem? (i := 121) rfl)
set_option maxRecDepth 20000 in
theorem cw_StringLatin1_indexOf : xCode M_StringLatin1_indexOf := xt_3 (List.mem_of_getElem? (i := 124) rfl)
set_option maxRecDepth 20000 in
theorem cw_StringLatin1_canEncode : xCode M_StringLatin1_canEncode := xt_3 (List.mem_of_getElem? (i := 127) rfl)
set_option maxRecDepth 20000 in
theorem cw_StringLatin1_indexOfChar : xCode M_StringLatin1_indexOfChar := xt_3 (List.mem_of_getElem? (i := 132) rfl)
set_option maxRecDepth 20000 in
theorem cw_StringUTF16_indexOf : xCode M_StringUTF16_indexOf := xt_3 (List.mem_of_getElem? (i := 135) rfl)
set_option maxRecDepth 20000 in
theorem cw_StringUTF16_indexOfChar : xCode M_StringUTF16_indexOfChar := xt_3 (List.mem_of_getElem? (i := 141) rfl)
set_option maxRecDepth 20000 in
theorem cw_StringUTF16_checkBoundsBeginEnd : xCode M_StringUTF16_checkBoundsBeginEnd := xt_3 (List.mem_of_getElem? (i := 144) rfl)
set_option maxRecDepth 20000 in
theorem cw_StringUTF16_length : xCode M_StringUTF16_length := xt_3 (List.mem_of_getElem? (i := 147) rfl)
set_option maxRecDepth 20000 in
theorem cw_String_checkBoundsBeginEnd : xCode M_String_checkBoundsBeginEnd := xt_3 (List.mem_of_getElem? (i := 150) rfl)
set_option maxRecDepth 20000 in
theorem cw_Preconditions_checkFromToIndex : xCode M_Preconditions_checkFromToIndex := xt_3 (List.mem_of_getElem? (i := 155) rfl)
set_option maxRecDepth 20000 in
theorem cw_StringUTF16_indexOfCharUnsafe : xCode M_StringUTF16_indexOfCharUnsafe := xt_3 (List.mem_of_getElem? (i := 158) rfl)
set_option maxRecDepth 20000 in
theorem cw_StringUTF16_getChar : xCode M_StringUTF16_getChar := xt_3 (List.mem_of_getElem? (i := 161) rfl)
set_option maxRecDepth 20000 in
theorem cw_StringUTF16_indexOfSupplementary : xCode M_StringUTF16_indexOfSupplementary := xt_3 (List.mem_of_getElem? (i := 170) rfl)
set_option maxRecDepth 20000 in
theorem cw_Character_isValidCodePoint : xCode M_Character_isValidCodePoint := xt_3 (List.mem_of_getElem? (i := 173) rfl)
set_option maxRecDepth 20000 in
theorem cw_Character_highSurrogate : xCode M_Character_highSurrogate := xt_3 (List.mem_of_getElem? (i := 176) rfl)
set_option maxRecDepth 20000 in
theorem cw_Character_lowSurrogate : xCode M_Character_lowSurrogate := xt_3 (List.mem_of_getElem? (i := 180) rfl)
set_option maxRecDepth 20000 in
theorem cw_Rule_emit : xCode M_Rule_emit := xt_3 (List.mem_of_getElem? (i := 185) rfl)
set_option maxRecDepth 20000 in
theorem cw_Rule_takeBehind : xCode M_Rule_takeBehind := xt_3 (List.mem_of_getElem? (i := 189) rfl)
set_option maxRecDepth 20000 in
theorem cw_Rule_takeDigit : xCode M_Rule_takeDigit := xt_3 (List.mem_of_getElem? (i := 193) rfl)
set_option maxRecDepth 20000 in
theorem cw_Rule_closeOne : xCode M_Rule_closeOne := xt_3 (List.mem_of_getElem? (i := 197) rfl)
set_option maxRecDepth 20000 in
theorem cw_Rule_settle : xCode M_Rule_settle := xt_3 (List.mem_of_getElem? (i := 201) rfl)
set_option maxRecDepth 20000 in
theorem cw_Rule_bindingOf : xCode M_Rule_bindingOf := xt_3 (List.mem_of_getElem? (i := 204) rfl)
set_option maxRecDepth 20000 in
theorem cw_X_sheet : xCode M_X_sheet := xt_3 (List.mem_of_getElem? (i := 208) rfl)
set_option maxRecDepth 20000 in
theorem cw_School_strengthen : xCode M_School_strengthen := xt_3 (List.mem_of_getElem? (i := 212) rfl)
set_option maxRecDepth 20000 in
theorem cw_X_hours : xCode M_X_hours := xt_3 (List.mem_of_getElem? (i := 218) rfl)
set_option maxRecDepth 20000 in
theorem cw_X_passHours : xCode M_X_passHours := xt_3 (List.mem_of_getElem? (i := 223) rfl)
set_option maxRecDepth 20000 in
theorem cw_Trip_pass : xCode M_Trip_pass := xt_3 (List.mem_of_getElem? (i := 227) rfl)
set_option maxRecDepth 20000 in
theorem cw_Tug_measure : xCode M_Tug_measure := xt_3 (List.mem_of_getElem? (i := 231) rfl)
set_option maxRecDepth 20000 in
theorem cw_Fog_in : xCode M_Fog_in := xt_3 (List.mem_of_getElem? (i := 235) rfl)
set_option maxRecDepth 20000 in
theorem cw_Math_floorMod : xCode M_Math_floorMod := xt_3 (List.mem_of_getElem? (i := 238) rfl)
set_option maxRecDepth 20000 in
theorem cw_State_holds : xCode M_State_holds := xt_4 (List.mem_of_getElem? (i := 3) rfl)
set_option maxRecDepth 20000 in
theorem cw_Lake_rowOf : xCode M_Lake_rowOf := xt_4 (List.mem_of_getElem? (i := 7) rfl)
set_option maxRecDepth 20000 in
theorem cw_Lake_columnOf : xCode M_Lake_columnOf := xt_4 (List.mem_of_getElem? (i := 11) rfl)
set_option maxRecDepth 20000 in
theorem cw_Math_abs : xCode M_Math_abs := xt_4 (List.mem_of_getElem? (i := 14) rfl)
set_option maxRecDepth 20000 in
theorem cw_Rule_pullBy : xCode M_Rule_pullBy := xt_4 (List.mem_of_getElem? (i := 18) rfl)
set_option maxRecDepth 20000 in
theorem cw_Rule_reckon : xCode M_Rule_reckon := xt_4 (List.mem_of_getElem? (i := 23) rfl)
set_option maxRecDepth 20000 in
theorem cw_Rule_joined : xCode M_Rule_joined := xt_4 (List.mem_of_getElem? (i := 30) rfl)
set_option maxRecDepth 20000 in
theorem cw_Tug_head : xCode M_Tug_head := xt_4 (List.mem_of_getElem? (i := 35) rfl)
set_option maxRecDepth 20000 in
theorem cw_Tug_weigh : xCode M_Tug_weigh := xt_4 (List.mem_of_getElem? (i := 39) rfl)
set_option maxRecDepth 20000 in
theorem cw_Tug_addTo : xCode M_Tug_addTo := xt_4 (List.mem_of_getElem? (i := 44) rfl)
set_option maxRecDepth 20000 in
theorem cw_Tug_goesFrom : xCode M_Tug_goesFrom := xt_4 (List.mem_of_getElem? (i := 48) rfl)
set_option maxRecDepth 20000 in
theorem cw_Lake_beside : xCode M_Lake_beside := xt_4 (List.mem_of_getElem? (i := 52) rfl)
set_option maxRecDepth 20000 in
theorem cw_Lake_isRock : xCode M_Lake_isRock := xt_4 (List.mem_of_getElem? (i := 59) rfl)
set_option maxRecDepth 20000 in
theorem cw_Trip_move : xCode M_Trip_move := xt_4 (List.mem_of_getElem? (i := 64) rfl)
set_option maxRecDepth 20000 in
theorem cw_Trip_tire : xCode M_Trip_tire := xt_4 (List.mem_of_getElem? (i := 69) rfl)
set_option maxRecDepth 20000 in
theorem cw_Trip_reward : xCode M_Trip_reward := xt_4 (List.mem_of_getElem? (i := 75) rfl)
set_option maxRecDepth 20000 in
theorem cw_X_noted : xCode M_X_noted := xt_4 (List.mem_of_getElem? (i := 79) rfl)
set_option maxRecDepth 20000 in
theorem cw_Told_start : xCode M_Told_start := xt_4 (List.mem_of_getElem? (i := 83) rfl)
set_option maxRecDepth 20000 in
theorem cw_Told_add : xCode M_Told_add := xt_4 (List.mem_of_getElem? (i := 87) rfl)
set_option maxRecDepth 20000 in
theorem cw_X_promise : xCode M_X_promise := xt_4 (List.mem_of_getElem? (i := 91) rfl)
set_option maxRecDepth 20000 in
theorem cw_X_takesBack : xCode M_X_takesBack := xt_4 (List.mem_of_getElem? (i := 95) rfl)
set_option maxRecDepth 20000 in
theorem cw_X_dropPromise : xCode M_X_dropPromise := xt_4 (List.mem_of_getElem? (i := 99) rfl)
set_option maxRecDepth 20000 in
theorem cw_X_letsGo : xCode M_X_letsGo := xt_4 (List.mem_of_getElem? (i := 104) rfl)
set_option maxRecDepth 20000 in
theorem cw_X_turnHold : xCode M_X_turnHold := xt_4 (List.mem_of_getElem? (i := 108) rfl)
set_option maxRecDepth 20000 in
theorem cw_X_buys : xCode M_X_buys := xt_4 (List.mem_of_getElem? (i := 112) rfl)
set_option maxRecDepth 20000 in
theorem cw_X_addCrumbs : xCode M_X_addCrumbs := xt_4 (List.mem_of_getElem? (i := 116) rfl)
set_option maxRecDepth 20000 in
theorem cw_X_day : xCode M_X_day := xt_4 (List.mem_of_getElem? (i := 120) rfl)
set_option maxRecDepth 20000 in
theorem cw_X_dayFault : xCode M_X_dayFault := xt_4 (List.mem_of_getElem? (i := 124) rfl)
set_option maxRecDepth 20000 in
theorem cw_X_digitsBehind : xCode M_X_digitsBehind := xt_4 (List.mem_of_getElem? (i := 127) rfl)
set_option maxRecDepth 20000 in
theorem cw_X_doAct : xCode M_X_doAct := xt_4 (List.mem_of_getElem? (i := 131) rfl)
set_option maxRecDepth 20000 in
theorem cw_X_undo : xCode M_X_undo := xt_4 (List.mem_of_getElem? (i := 135) rfl)
set_option maxRecDepth 20000 in
theorem cw_Past_pop : xCode M_Past_pop := xt_4 (List.mem_of_getElem? (i := 139) rfl)
set_option maxRecDepth 20000 in
theorem cw_X_towed : xCode M_X_towed := xt_4 (List.mem_of_getElem? (i := 143) rfl)
set_option maxRecDepth 20000 in
theorem cw_X_ahead : xCode M_X_ahead := xt_4 (List.mem_of_getElem? (i := 150) rfl)
set_option maxRecDepth 20000 in
theorem cw_X_comes : xCode M_X_comes := xt_4 (List.mem_of_getElem? (i := 154) rfl)
set_option maxRecDepth 20000 in
theorem cw_X_arrivesBy : xCode M_X_arrivesBy := xt_4 (List.mem_of_getElem? (i := 158) rfl)
set_option maxRecDepth 20000 in
theorem cw_Lake_gap : xCode M_Lake_gap := xt_4 (List.mem_of_getElem? (i := 162) rfl)
set_option maxRecDepth 20000 in
theorem cw_X_sticks : xCode M_X_sticks := xt_4 (List.mem_of_getElem? (i := 167) rfl)
set_option maxRecDepth 20000 in
theorem cw_X_track : xCode M_X_track := xt_4 (List.mem_of_getElem? (i := 171) rfl)
set_option maxRecDepth 20000 in
theorem cw_Long_bitCount : xCode M_Long_bitCount := xt_4 (List.mem_of_getElem? (i := 175) rfl)
set_option maxRecDepth 20000 in
theorem cw_X_sends : xCode M_X_sends := xt_4 (List.mem_of_getElem? (i := 182) rfl)
set_option maxRecDepth 20000 in
theorem cw_X_canBeAskedFor : xCode M_X_canBeAskedFor := xt_4 (List.mem_of_getElem? (i := 186) rfl)
set_option maxRecDepth 20000 in
theorem cw_X_fewestBy : xCode M_X_fewestBy := xt_4 (List.mem_of_getElem? (i := 190) rfl)
set_option maxRecDepth 20000 in
theorem cw_Lake_measureFrom : xCode M_Lake_measureFrom := xt_4 (List.mem_of_getElem? (i := 194) rfl)
set_option maxRecDepth 20000 in
theorem cw_Lake_stepsTo : xCode M_Lake_stepsTo := xt_4 (List.mem_of_getElem? (i := 200) rfl)
set_option maxRecDepth 20000 in
theorem cw_X_cheapest : xCode M_X_cheapest := xt_4 (List.mem_of_getElem? (i := 204) rfl)
set_option maxRecDepth 20000 in
theorem cw_Rule_asksForCrumbs : xCode M_Rule_asksForCrumbs := xt_4 (List.mem_of_getElem? (i := 208) rfl)
set_option maxRecDepth 20000 in
theorem cw_X_matters : xCode M_X_matters := xt_4 (List.mem_of_getElem? (i := 212) rfl)
set_option maxRecDepth 20000 in
theorem cw_X_keeps : xCode M_X_keeps := xt_4 (List.mem_of_getElem? (i := 217) rfl)
set_option maxRecDepth 20000 in
theorem cw_State_crumbsOf : xCode M_State_crumbsOf := xt_4 (List.mem_of_getElem? (i := 221) rfl)
set_option maxRecDepth 20000 in
theorem cw_X_owed : xCode M_X_owed := xt_4 (List.mem_of_getElem? (i := 225) rfl)
set_option maxRecDepth 20000 in
theorem cw_X_fates : xCode M_X_fates := xt_4 (List.mem_of_getElem? (i := 229) rfl)
set_option maxRecDepth 20000 in
theorem cw_X_minds : xCode M_X_minds := xt_4 (List.mem_of_getElem? (i := 233) rfl)
set_option maxRecDepth 20000 in
theorem cw_Lake_isDiagonal : xCode M_Lake_isDiagonal := xt_4 (List.mem_of_getElem? (i := 237) rfl)
set_option maxRecDepth 20000 in
theorem cw_X_evens : xCode M_X_evens := xt_5 (List.mem_of_getElem? (i := 1) rfl)
set_option maxRecDepth 20000 in
theorem cw_Tug_pullers : xCode M_Tug_pullers := xt_5 (List.mem_of_getElem? (i := 5) rfl)
set_option maxRecDepth 20000 in
theorem cw_Tug_pullOf : xCode M_Tug_pullOf := xt_5 (List.mem_of_getElem? (i := 9) rfl)
set_option maxRecDepth 20000 in
theorem cw_X_strongest : xCode M_X_strongest := xt_5 (List.mem_of_getElem? (i := 14) rfl)
set_option maxRecDepth 20000 in
theorem cw_X_sways : xCode M_X_sways := xt_5 (List.mem_of_getElem? (i := 18) rfl)
set_option maxRecDepth 20000 in
theorem cw_X_goesWith : xCode M_X_goesWith := xt_5 (List.mem_of_getElem? (i := 22) rfl)
set_option maxRecDepth 20000 in
theorem cw_X_seen : xCode M_X_seen := xt_5 (List.mem_of_getElem? (i := 26) rfl)
set_option maxRecDepth 20000 in
theorem cw_Sights_add : xCode M_Sights_add := xt_5 (List.mem_of_getElem? (i := 30) rfl)
set_option maxRecDepth 20000 in
theorem cw_X_forget : xCode M_X_forget := xt_5 (List.mem_of_getElem? (i := 34) rfl)
set_option maxRecDepth 20000 in
theorem cw_X_fits : xCode M_X_fits := xt_5 (List.mem_of_getElem? (i := 38) rfl)
set_option maxRecDepth 20000 in
theorem cw_X_fitting : xCode M_X_fitting := xt_5 (List.mem_of_getElem? (i := 42) rfl)
set_option maxRecDepth 20000 in
theorem cw_X_follow : xCode M_X_follow := xt_5 (List.mem_of_getElem? (i := 46) rfl)
set_option maxRecDepth 20000 in
theorem cw_Sights_agreeWith : xCode M_Sights_agreeWith := xt_5 (List.mem_of_getElem? (i := 50) rfl)
set_option maxRecDepth 20000 in
theorem cw_X_looks : xCode M_X_looks := xt_5 (List.mem_of_getElem? (i := 54) rfl)
set_option maxRecDepth 20000 in
theorem cw_X_mostTogether : xCode M_X_mostTogether := xt_5 (List.mem_of_getElem? (i := 58) rfl)
set_option maxRecDepth 20000 in
theorem cw_X_way : xCode M_X_way := xt_5 (List.mem_of_getElem? (i := 62) rfl)
set_option maxRecDepth 20000 in
theorem cw_Lake_nextBy : xCode M_Lake_nextBy := xt_5 (List.mem_of_getElem? (i := 67) rfl)
set_option maxRecDepth 20000 in
theorem cw_X_farthest : xCode M_X_farthest := xt_5 (List.mem_of_getElem? (i := 72) rfl)
set_option maxRecDepth 20000 in
theorem cw_X_drifts : xCode M_X_drifts := xt_5 (List.mem_of_getElem? (i := 76) rfl)
set_option maxRecDepth 20000 in
theorem cw_X_power : xCode M_X_power := xt_5 (List.mem_of_getElem? (i := 79) rfl)
set_option maxRecDepth 20000 in
theorem cw_X_sharedDivisor : xCode M_X_sharedDivisor := xt_5 (List.mem_of_getElem? (i := 82) rfl)
set_option maxRecDepth 20000 in
theorem cw_X_game : xCode M_X_game := xt_5 (List.mem_of_getElem? (i := 86) rfl)
set_option maxRecDepth 20000 in
theorem cw_X_leaves : xCode M_X_leaves := xt_5 (List.mem_of_getElem? (i := 89) rfl)
set_option maxRecDepth 20000 in
theorem cw_X_law : xCode M_X_law := xt_5 (List.mem_of_getElem? (i := 94) rfl)
set_option maxRecDepth 20000 in
theorem cw_X_rests : xCode M_X_rests := xt_5 (List.mem_of_getElem? (i := 98) rfl)
set_option maxRecDepth 20000 in
theorem cw_X_isContent : xCode M_X_isContent := xt_5 (List.mem_of_getElem? (i := 101) rfl)
set_option maxRecDepth 20000 in
theorem cw_X_gain : xCode M_X_gain := xt_5 (List.mem_of_getElem? (i := 104) rfl)
set_option maxRecDepth 20000 in
theorem cw_X_years : xCode M_X_years := xt_5 (List.mem_of_getElem? (i := 108) rfl)
set_option maxRecDepth 20000 in
theorem cw_X_nextDraw : xCode M_X_nextDraw := xt_5 (List.mem_of_getElem? (i := 111) rfl)
set_option maxRecDepth 20000 in
theorem cw_X_drawn : xCode M_X_drawn := xt_5 (List.mem_of_getElem? (i := 115) rfl)
set_option maxRecDepth 20000 in
theorem cw_X_drawAct : xCode M_X_drawAct := xt_5 (List.mem_of_getElem? (i := 119) rfl)
set_option maxRecDepth 20000 in
theorem cw_X_keep : xCode M_X_keep := xt_5 (List.mem_of_getElem? (i := 123) rfl)
set_option maxRecDepth 20000 in
theorem cw_X_again : xCode M_X_again := xt_5 (List.mem_of_getElem? (i := 127) rfl)
set_option maxRecDepth 20000 in
theorem cw_X_count : xCode M_X_count := xt_5 (List.mem_of_getElem? (i := 131) rfl)
set_option maxRecDepth 20000 in
theorem cw_X_one : xCode M_X_one := xt_5 (List.mem_of_getElem? (i := 140) rfl)
set_option maxRecDepth 20000 in
theorem cw_Throwable_init : xCode M_Throwable_init := xt_5 (List.mem_of_getElem? (i := 165) rfl)
set_option maxRecDepth 20000 in
theorem cw_NoSuchElementException_init : xCode M_NoSuchElementException_init := xt_5 (List.mem_of_getElem? (i := 182) rfl)
set_option maxRecDepth 20000 in
theorem cw_RuntimeException_init : xCode M_RuntimeException_init := xt_5 (List.mem_of_getElem? (i := 185) rfl)
set_option maxRecDepth 20000 in
theorem cw_Exception_init : xCode M_Exception_init := xt_5 (List.mem_of_getElem? (i := 188) rfl)
set_option maxRecDepth 20000 in
theorem cw_Tug_headingOf : xCode M_Tug_headingOf := xt_5 (List.mem_of_getElem? (i := 205) rfl)
set_option maxRecDepth 20000 in
theorem cw_X_field : xCode M_X_field := xt_5 (List.mem_of_getElem? (i := 213) rfl)
set_option maxRecDepth 20000 in
theorem cw_X_row : xCode M_X_row := xt_5 (List.mem_of_getElem? (i := 220) rfl)
set_option maxRecDepth 20000 in
theorem cw_Y_thrown : xCode M_Y_thrown := xt_5 (List.mem_of_getElem? (i := 224) rfl)
set_option maxRecDepth 20000 in
theorem cw_Y_init : xCode M_Y_init := xt_5 (List.mem_of_getElem? (i := 229) rfl)
set_option maxRecDepth 20000 in
theorem cw_Y_sign : xCode M_Y_sign := xt_6 (List.mem_of_getElem? (i := 160) rfl)
set_option maxRecDepth 20000 in
theorem cw_Y_end : xCode M_Y_end := xt_6 (List.mem_of_getElem? (i := 164) rfl)
set_option maxRecDepth 20000 in
theorem cw_Y_in : xCode M_Y_in := xt_6 (List.mem_of_getElem? (i := 167) rfl)
set_option maxRecDepth 20000 in
theorem cw_Y_lake : xCode M_Y_lake := xt_6 (List.mem_of_getElem? (i := 171) rfl)
set_option maxRecDepth 20000 in
theorem cw_Y_begins : xCode M_Y_begins := xt_6 (List.mem_of_getElem? (i := 175) rfl)
set_option maxRecDepth 20000 in
theorem cw_Y_digitIn : xCode M_Y_digitIn := xt_6 (List.mem_of_getElem? (i := 180) rfl)
set_option maxRecDepth 20000 in
theorem cw_Y_takesOf : xCode M_Y_takesOf := xt_6 (List.mem_of_getElem? (i := 185) rfl)
set_option maxRecDepth 20000 in
theorem cw_String_charAt : xCode M_String_charAt := xt_6 (List.mem_of_getElem? (i := 190) rfl)
set_option maxRecDepth 20000 in
theorem cw_StringLatin1_charAt : xCode M_StringLatin1_charAt := xt_6 (List.mem_of_getElem? (i := 193) rfl)
set_option maxRecDepth 20000 in
theorem cw_String_checkIndex : xCode M_String_checkIndex := xt_6 (List.mem_of_getElem? (i := 196) rfl)
set_option maxRecDepth 20000 in
theorem cw_Preconditions_checkIndex : xCode M_Preconditions_checkIndex := xt_6 (List.mem_of_getElem? (i := 199) rfl)
set_option maxRecDepth 20000 in
theorem cw_StringUTF16_charAt : xCode M_StringUTF16_charAt := xt_6 (List.mem_of_getElem? (i := 202) rfl)
set_option maxRecDepth 20000 in
theorem cw_StringUTF16_checkIndex : xCode M_StringUTF16_checkIndex := xt_6 (List.mem_of_getElem? (i := 205) rfl)
set_option maxRecDepth 20000 in
theorem cw_Y_fields : xCode M_Y_fields := xt_6 (List.mem_of_getElem? (i := 210) rfl)
set_option maxRecDepth 20000 in
theorem cw_Y_fish : xCode M_Y_fish := xt_6 (List.mem_of_getElem? (i := 214) rfl)
set_option maxRecDepth 20000 in
theorem cw_Y_readsFish : xCode M_Y_readsFish := xt_6 (List.mem_of_getElem? (i := 218) rfl)
set_option maxRecDepth 20000 in
theorem cw_Y_takes : xCode M_Y_takes := xt_6 (List.mem_of_getElem? (i := 223) rfl)
set_option maxRecDepth 20000 in
theorem cw_Y_flag : xCode M_Y_flag := xt_6 (List.mem_of_getElem? (i := 226) rfl)
set_option maxRecDepth 20000 in
theorem cw_Y_faultOf : xCode M_Y_faultOf := xt_6 (List.mem_of_getElem? (i := 230) rfl)
set_option maxRecDepth 20000 in
theorem cw_Y_oar : xCode M_Y_oar := xt_6 (List.mem_of_getElem? (i := 234) rfl)
set_option maxRecDepth 20000 in
theorem cw_Y_readsPromise : xCode M_Y_readsPromise := xt_6 (List.mem_of_getElem? (i := 238) rfl)
set_option maxRecDepth 20000 in
theorem cw_Y_canBePromised : xCode M_Y_canBePromised := xt_7 (List.mem_of_getElem? (i := 2) rfl)
set_option maxRecDepth 20000 in
theorem cw_Y_number : xCode M_Y_number := xt_7 (List.mem_of_getElem? (i := 6) rfl)
set_option maxRecDepth 20000 in
theorem cw_Y_isDigit : xCode M_Y_isDigit := xt_7 (List.mem_of_getElem? (i := 10) rfl)
set_option maxRecDepth 20000 in
theorem cw_Y_putsBy : xCode M_Y_putsBy := xt_7 (List.mem_of_getElem? (i := 16) rfl)
set_option maxRecDepth 20000 in
theorem cw_Y_adds : xCode M_Y_adds := xt_7 (List.mem_of_getElem? (i := 20) rfl)
set_option maxRecDepth 20000 in
theorem cw_Y_fog : xCode M_Y_fog := xt_7 (List.mem_of_getElem? (i := 24) rfl)
set_option maxRecDepth 20000 in
theorem cw_Y_rule : xCode M_Y_rule := xt_7 (List.mem_of_getElem? (i := 28) rfl)
set_option maxRecDepth 20000 in
theorem cw_Y_readsRule : xCode M_Y_readsRule := xt_7 (List.mem_of_getElem? (i := 32) rfl)
set_option maxRecDepth 20000 in
theorem cw_Y_readsRank : xCode M_Y_readsRank := xt_7 (List.mem_of_getElem? (i := 36) rfl)
set_option maxRecDepth 20000 in
theorem cw_Y_readsThing : xCode M_Y_readsThing := xt_7 (List.mem_of_getElem? (i := 40) rfl)
set_option maxRecDepth 20000 in
theorem cw_Y_codes : xCode M_Y_codes := xt_7 (List.mem_of_getElem? (i := 44) rfl)
set_option maxRecDepth 20000 in
theorem cw_Y_laysCode : xCode M_Y_laysCode := xt_7 (List.mem_of_getElem? (i := 52) rfl)
set_option maxRecDepth 20000 in
theorem cw_Y_one : xCode M_Y_one := xt_7 (List.mem_of_getElem? (i := 56) rfl)
set_option maxRecDepth 20000 in
theorem cw_Y_isFish : xCode M_Y_isFish := xt_7 (List.mem_of_getElem? (i := 60) rfl)
set_option maxRecDepth 20000 in
theorem cw_Y_refuse : xCode M_Y_refuse := xt_7 (List.mem_of_getElem? (i := 65) rfl)
set_option maxRecDepth 20000 in
theorem cw_Y_has : xCode M_Y_has := xt_7 (List.mem_of_getElem? (i := 68) rfl)
set_option maxRecDepth 20000 in
theorem cw_Y_pull : xCode M_Y_pull := xt_7 (List.mem_of_getElem? (i := 72) rfl)
set_option maxRecDepth 20000 in
theorem cw_Y_fogOn : xCode M_Y_fogOn := xt_7 (List.mem_of_getElem? (i := 76) rfl)
set_option maxRecDepth 20000 in
theorem cw_Y_far : xCode M_Y_far := xt_7 (List.mem_of_getElem? (i := 80) rfl)
set_option maxRecDepth 20000 in
theorem cw_Y_ruled : xCode M_Y_ruled := xt_7 (List.mem_of_getElem? (i := 85) rfl)
set_option maxRecDepth 20000 in
theorem cw_Y_worked : xCode M_Y_worked := xt_7 (List.mem_of_getElem? (i := 88) rfl)
set_option maxRecDepth 20000 in
theorem cw_Y_wayOf : xCode M_Y_wayOf := xt_7 (List.mem_of_getElem? (i := 93) rfl)
set_option maxRecDepth 20000 in
theorem cw_Y_isOfTwoMinds : xCode M_Y_isOfTwoMinds := xt_7 (List.mem_of_getElem? (i := 97) rfl)
set_option maxRecDepth 20000 in
theorem cw_Y_rowsBetween : xCode M_Y_rowsBetween := xt_7 (List.mem_of_getElem? (i := 101) rfl)
set_option maxRecDepth 20000 in
theorem cw_Y_columnsBetween : xCode M_Y_columnsBetween := xt_7 (List.mem_of_getElem? (i := 105) rfl)
set_option maxRecDepth 20000 in
theorem cw_Y_upOrDown : xCode M_Y_upOrDown := xt_7 (List.mem_of_getElem? (i := 109) rfl)
set_option maxRecDepth 20000 in
theorem cw_Y_rightOrLeft : xCode M_Y_rightOrLeft := xt_7 (List.mem_of_getElem? (i := 113) rfl)
set_option maxRecDepth 20000 in
theorem cw_Y_field : xCode M_Y_field := xt_7 (List.mem_of_getElem? (i := 117) rfl)
set_option maxRecDepth 20000 in
theorem cw_Y_isField : xCode M_Y_isField := xt_7 (List.mem_of_getElem? (i := 121) rfl)
set_option maxRecDepth 20000 in
theorem cw_Y_sheet : xCode M_Y_sheet := xt_7 (List.mem_of_getElem? (i := 126) rfl)
set_option maxRecDepth 20000 in
theorem cw_Y_undo : xCode M_Y_undo := xt_7 (List.mem_of_getElem? (i := 131) rfl)
set_option maxRecDepth 20000 in
theorem cw_Y_hours : xCode M_Y_hours := xt_7 (List.mem_of_getElem? (i := 135) rfl)
set_option maxRecDepth 20000 in
theorem cw_Y_goesOn : xCode M_Y_goesOn := xt_7 (List.mem_of_getElem? (i := 140) rfl)
set_option maxRecDepth 20000 in
theorem cw_Y_hourGoes : xCode M_Y_hourGoes := xt_7 (List.mem_of_getElem? (i := 144) rfl)
set_option maxRecDepth 20000 in
theorem cw_Y_goes : xCode M_Y_goes := xt_7 (List.mem_of_getElem? (i := 148) rfl)
set_option maxRecDepth 20000 in
theorem cw_Y_laysPulls : xCode M_Y_laysPulls := xt_7 (List.mem_of_getElem? (i := 152) rfl)
set_option maxRecDepth 20000 in
theorem cw_Y_goesBy : xCode M_Y_goesBy := xt_7 (List.mem_of_getElem? (i := 156) rfl)
set_option maxRecDepth 20000 in
theorem cw_Y_net : xCode M_Y_net := xt_7 (List.mem_of_getElem? (i := 160) rfl)
set_option maxRecDepth 20000 in
theorem cw_Y_beside : xCode M_Y_beside := xt_7 (List.mem_of_getElem? (i := 164) rfl)
set_option maxRecDepth 20000 in
theorem cw_Y_comesTrue : xCode M_Y_comesTrue := xt_7 (List.mem_of_getElem? (i := 168) rfl)
set_option maxRecDepth 20000 in
theorem cw_Y_enters : xCode M_Y_enters := xt_7 (List.mem_of_getElem? (i := 172) rfl)
set_option maxRecDepth 20000 in
theorem cw_Y_promise : xCode M_Y_promise := xt_7 (List.mem_of_getElem? (i := 176) rfl)
set_option maxRecDepth 20000 in
theorem cw_Y_promises : xCode M_Y_promises := xt_7 (List.mem_of_getElem? (i := 180) rfl)
set_option maxRecDepth 20000 in
theorem cw_Y_promised : xCode M_Y_promised := xt_7 (List.mem_of_getElem? (i := 185) rfl)
set_option maxRecDepth 20000 in
theorem cw_Y_counted : xCode M_Y_counted := xt_7 (List.mem_of_getElem? (i := 190) rfl)
set_option maxRecDepth 20000 in
theorem cw_Y_takesBack : xCode M_Y_takesBack := xt_7 (List.mem_of_getElem? (i := 194) rfl)
set_option maxRecDepth 20000 in
theorem cw_Y_takesOne : xCode M_Y_takesOne := xt_7 (List.mem_of_getElem? (i := 198) rfl)
set_option maxRecDepth 20000 in
theorem cw_Y_letsGo : xCode M_Y_letsGo := xt_7 (List.mem_of_getElem? (i := 202) rfl)
set_option maxRecDepth 20000 in
theorem cw_Y_letsOne : xCode M_Y_letsOne := xt_7 (List.mem_of_getElem? (i := 206) rfl)
set_option maxRecDepth 20000 in
theorem cw_Y_buys : xCode M_Y_buys := xt_7 (List.mem_of_getElem? (i := 210) rfl)
set_option maxRecDepth 20000 in
theorem cw_Y_buysSome : xCode M_Y_buysSome := xt_7 (List.mem_of_getElem? (i := 214) rfl)
set_option maxRecDepth 20000 in
theorem cw_Y_day : xCode M_Y_day := xt_7 (List.mem_of_getElem? (i := 219) rfl)
set_option maxRecDepth 20000 in
theorem cw_Y_readsAct : xCode M_Y_readsAct := xt_7 (List.mem_of_getElem? (i := 223) rfl)
set_option maxRecDepth 20000 in
theorem cw_Y_does : xCode M_Y_does := xt_7 (List.mem_of_getElem? (i := 228) rfl)
set_option maxRecDepth 20000 in
theorem cw_Y_towed : xCode M_Y_towed := xt_7 (List.mem_of_getElem? (i := 232) rfl)
set_option maxRecDepth 20000 in
theorem cw_Y_ahead : xCode M_Y_ahead := xt_7 (List.mem_of_getElem? (i := 236) rfl)
set_option maxRecDepth 20000 in
theorem cw_Y_copies : xCode M_Y_copies := xt_8 (List.mem_of_getElem? (i := 0) rfl)
set_option maxRecDepth 20000 in
theorem cw_Y_comes : xCode M_Y_comes := xt_8 (List.mem_of_getElem? (i := 4) rfl)
set_option maxRecDepth 20000 in
theorem cw_Y_comesIn : xCode M_Y_comesIn := xt_8 (List.mem_of_getElem? (i := 8) rfl)
set_option maxRecDepth 20000 in
theorem cw_Y_sticks : xCode M_Y_sticks := xt_8 (List.mem_of_getElem? (i := 12) rfl)
set_option maxRecDepth 20000 in
theorem cw_Y_track : xCode M_Y_track := xt_8 (List.mem_of_getElem? (i := 16) rfl)
set_option maxRecDepth 20000 in
theorem cw_Y_sends : xCode M_Y_sends := xt_8 (List.mem_of_getElem? (i := 22) rfl)
set_option maxRecDepth 20000 in
theorem cw_Y_able : xCode M_Y_able := xt_8 (List.mem_of_getElem? (i := 27) rfl)
set_option maxRecDepth 20000 in
theorem cw_Y_isFewer : xCode M_Y_isFewer := xt_8 (List.mem_of_getElem? (i := 30) rfl)
set_option maxRecDepth 20000 in
theorem cw_Y_sentIn : xCode M_Y_sentIn := xt_8 (List.mem_of_getElem? (i := 34) rfl)
set_option maxRecDepth 20000 in
theorem cw_Y_cheapest : xCode M_Y_cheapest := xt_8 (List.mem_of_getElem? (i := 38) rfl)
set_option maxRecDepth 20000 in
theorem cw_Y_matters : xCode M_Y_matters := xt_8 (List.mem_of_getElem? (i := 43) rfl)
set_option maxRecDepth 20000 in
theorem cw_Y_keeps : xCode M_Y_keeps := xt_8 (List.mem_of_getElem? (i := 47) rfl)
set_option maxRecDepth 20000 in
theorem cw_Y_crumbsOf : xCode M_Y_crumbsOf := xt_8 (List.mem_of_getElem? (i := 51) rfl)
set_option maxRecDepth 20000 in
theorem cw_Y_owed : xCode M_Y_owed := xt_8 (List.mem_of_getElem? (i := 55) rfl)
set_option maxRecDepth 20000 in
theorem cw_Y_fates : xCode M_Y_fates := xt_8 (List.mem_of_getElem? (i := 59) rfl)
set_option maxRecDepth 20000 in
theorem cw_Y_minds : xCode M_Y_minds := xt_8 (List.mem_of_getElem? (i := 63) rfl)
set_option maxRecDepth 20000 in
theorem cw_Y_evens : xCode M_Y_evens := xt_8 (List.mem_of_getElem? (i := 67) rfl)
set_option maxRecDepth 20000 in
theorem cw_Y_pulling : xCode M_Y_pulling := xt_8 (List.mem_of_getElem? (i := 71) rfl)
set_option maxRecDepth 20000 in
theorem cw_Y_pullOf : xCode M_Y_pullOf := xt_8 (List.mem_of_getElem? (i := 75) rfl)
set_option maxRecDepth 20000 in
theorem cw_Y_strongest : xCode M_Y_strongest := xt_8 (List.mem_of_getElem? (i := 79) rfl)
set_option maxRecDepth 20000 in
theorem cw_Y_sways : xCode M_Y_sways := xt_8 (List.mem_of_getElem? (i := 83) rfl)
set_option maxRecDepth 20000 in
theorem cw_Y_seen : xCode M_Y_seen := xt_8 (List.mem_of_getElem? (i := 87) rfl)
set_option maxRecDepth 20000 in
theorem cw_Y_forget : xCode M_Y_forget := xt_8 (List.mem_of_getElem? (i := 91) rfl)
set_option maxRecDepth 20000 in
theorem cw_Y_fits : xCode M_Y_fits := xt_8 (List.mem_of_getElem? (i := 95) rfl)
set_option maxRecDepth 20000 in
theorem cw_Y_fitting : xCode M_Y_fitting := xt_8 (List.mem_of_getElem? (i := 99) rfl)
set_option maxRecDepth 20000 in
theorem cw_Y_isAsSeen : xCode M_Y_isAsSeen := xt_8 (List.mem_of_getElem? (i := 103) rfl)
set_option maxRecDepth 20000 in
theorem cw_Y_place : xCode M_Y_place := xt_8 (List.mem_of_getElem? (i := 106) rfl)
set_option maxRecDepth 20000 in
theorem cw_Y_looks : xCode M_Y_looks := xt_8 (List.mem_of_getElem? (i := 110) rfl)
set_option maxRecDepth 20000 in
theorem cw_Y_way : xCode M_Y_way := xt_8 (List.mem_of_getElem? (i := 114) rfl)
set_option maxRecDepth 20000 in
theorem cw_Y_laysSteps : xCode M_Y_laysSteps := xt_8 (List.mem_of_getElem? (i := 118) rfl)
set_option maxRecDepth 20000 in
theorem cw_Y_farthest : xCode M_Y_farthest := xt_8 (List.mem_of_getElem? (i := 122) rfl)
set_option maxRecDepth 20000 in
theorem cw_Y_drifts : xCode M_Y_drifts := xt_8 (List.mem_of_getElem? (i := 126) rfl)
set_option maxRecDepth 20000 in
theorem cw_Y_tellsFraction : xCode M_Y_tellsFraction := xt_8 (List.mem_of_getElem? (i := 132) rfl)
set_option maxRecDepth 20000 in
theorem cw_Y_common : xCode M_Y_common := xt_8 (List.mem_of_getElem? (i := 135) rfl)
set_option maxRecDepth 20000 in
theorem cw_Y_game : xCode M_Y_game := xt_8 (List.mem_of_getElem? (i := 139) rfl)
set_option maxRecDepth 20000 in
theorem cw_Y_law : xCode M_Y_law := xt_8 (List.mem_of_getElem? (i := 143) rfl)
set_option maxRecDepth 20000 in
theorem cw_Y_rests : xCode M_Y_rests := xt_8 (List.mem_of_getElem? (i := 147) rfl)
set_option maxRecDepth 20000 in
theorem cw_Y_isRest : xCode M_Y_isRest := xt_8 (List.mem_of_getElem? (i := 150) rfl)
set_option maxRecDepth 20000 in
theorem cw_Y_gets : xCode M_Y_gets := xt_8 (List.mem_of_getElem? (i := 153) rfl)
set_option maxRecDepth 20000 in
theorem cw_Y_years : xCode M_Y_years := xt_8 (List.mem_of_getElem? (i := 157) rfl)
set_option maxRecDepth 20000 in
theorem cw_Y_draws : xCode M_Y_draws := xt_8 (List.mem_of_getElem? (i := 161) rfl)
set_option maxRecDepth 20000 in
theorem cw_Y_keep : xCode M_Y_keep := xt_8 (List.mem_of_getElem? (i := 166) rfl)
set_option maxRecDepth 20000 in
theorem cw_Y_again : xCode M_Y_again := xt_8 (List.mem_of_getElem? (i := 170) rfl)
set_option maxRecDepth 20000 in
theorem cw_Y_count : xCode M_Y_count := xt_8 (List.mem_of_getElem? (i := 174) rfl)
set_option maxRecDepth 20000 in
theorem cw_Y_row : xCode M_Y_row := xt_8 (List.mem_of_getElem? (i := 178) rfl)
