abbrev MXobj : Mx := (objectInit, ⟨#[0xb1]⟩, 1, none)
theorem ob_i : Cond.instanceMethod objectInit ∈ lw_tbl := List.mem_append_right _ (List.mem_of_getElem? (i := 19) (by decide +kernel))
theorem ob_c : Cond.code objectInit ⟨#[0xb1]⟩ 1 none ∈ lw_tbl := List.mem_append_right _ (List.mem_of_getElem? (i := 20) (by decide +kernel))
theorem fX0 : fK 0 RX0 TX0 3 tyX0 := ⟨rfl, by decide +kernel, tyX0_ok, nmX0⟩
theorem insX0 : Cond.instantiable RX0 3 ∈ lw_tbl := List.mem_append_right _ (List.mem_of_getElem? (i := 84) (by decide +kernel))
theorem iniX0 : Cond.initialized RX0 ∈ lw_tbl := List.mem_append_right _ (List.mem_of_getElem? (i := 5) (by decide +kernel))
theorem fX1 : fK 1 RX1 TX1 2 tyX1 := ⟨rfl, by decide +kernel, tyX1_ok, nmX1⟩
theorem insX1 : Cond.instantiable RX1 2 ∈ lw_tbl := List.mem_append_right _ (List.mem_of_getElem? (i := 45) (by decide +kernel))
theorem iniX1 : Cond.initialized RX1 ∈ lw_tbl := List.mem_append_right _ (List.mem_of_getElem? (i := 3) (by decide +kernel))
theorem fX2 : fK 2 RX2 TX2 4 tyX2 := ⟨rfl, by decide +kernel, tyX2_ok, nmX2⟩
theorem insX2 : Cond.instantiable RX2 4 ∈ lw_tbl := List.mem_append_right _ (List.mem_of_getElem? (i := 63) (by decide +kernel))
theorem iniX2 : Cond.initialized RX2 ∈ lw_tbl := List.mem_append_right _ (List.mem_of_getElem? (i := 4) (by decide +kernel))
theorem fX3 : fK 3 RX3 TX3 4 tyX3 := ⟨rfl, by decide +kernel, tyX3_ok, nmX3⟩
theorem insX3 : Cond.instantiable RX3 4 ∈ lw_tbl := List.mem_append_right _ (List.mem_of_getElem? (i := 401) (by decide +kernel))
theorem iniX3 : Cond.initialized RX3 ∈ lw_tbl := List.mem_append_right _ (List.mem_of_getElem? (i := 10) (by decide +kernel))
theorem fX4 : fK 4 RX4 TX4 5 tyX4 := ⟨rfl, by decide +kernel, tyX4_ok, nmX4⟩
theorem insX4 : Cond.instantiable RX4 5 ∈ lw_tbl := List.mem_append_right _ (List.mem_of_getElem? (i := 455) (by decide +kernel))
theorem iniX4 : Cond.initialized RX4 ∈ lw_tbl := List.mem_append_right _ (List.mem_of_getElem? (i := 11) (by decide +kernel))
theorem fX5 : fK 5 RX5 TX5 4 tyX5 := ⟨rfl, by decide +kernel, tyX5_ok, nmX5⟩
theorem insX5 : Cond.instantiable RX5 4 ∈ lw_tbl := List.mem_append_right _ (List.mem_of_getElem? (i := 22) (by decide +kernel))
theorem iniX5 : Cond.initialized RX5 ∈ lw_tbl := List.mem_append_right _ (List.mem_of_getElem? (i := 2) (by decide +kernel))
theorem fX6 : fK 6 RX6 TX6 9 tyX6 := ⟨rfl, by decide +kernel, tyX6_ok, nmX6⟩
theorem insX6 : Cond.instantiable RX6 9 ∈ lw_tbl := List.mem_append_right _ (List.mem_of_getElem? (i := 230) (by decide +kernel))
theorem iniX6 : Cond.initialized RX6 ∈ lw_tbl := List.mem_append_right _ (List.mem_of_getElem? (i := 9) (by decide +kernel))
theorem fX7 : fK 7 RX7 TX7 5 tyX7 := ⟨rfl, by decide +kernel, tyX7_ok, nmX7⟩
theorem insX7 : Cond.instantiable RX7 5 ∈ lw_tbl := List.mem_append_right _ (List.mem_of_getElem? (i := 103) (by decide +kernel))
theorem iniX7 : Cond.initialized RX7 ∈ lw_tbl := List.mem_append_right _ (List.mem_of_getElem? (i := 6) (by decide +kernel))
theorem fX8 : fK 8 RX8 TX8 11 tyX8 := ⟨rfl, by decide +kernel, tyX8_ok, nmX8⟩
theorem insX8 : Cond.instantiable RX8 11 ∈ lw_tbl := List.mem_append_right _ (List.mem_of_getElem? (i := 14) (by decide +kernel))
theorem iniX8 : Cond.initialized RX8 ∈ lw_tbl := List.mem_append_right _ (List.mem_of_getElem? (i := 1) (by decide +kernel))
theorem fX9 : fK 9 RX9 TX9 26 tyX9 := ⟨rfl, by decide +kernel, tyX9_ok, nmX9⟩
theorem insX9 : Cond.instantiable RX9 26 ∈ lw_tbl := List.mem_append_right _ (List.mem_of_getElem? (i := 546) (by decide +kernel))
theorem iniX9 : Cond.initialized RX9 ∈ lw_tbl := List.mem_append_right _ (List.mem_of_getElem? (i := 7) (by decide +kernel))
theorem iniJ9 : Cond.initialized RJ9 ∈ lw_tbl := List.mem_append_right _ (List.mem_of_getElem? (i := 8) (by decide +kernel))
theorem iniJ7 : Cond.initialized RJ7 ∈ lw_tbl := List.mem_append_right _ (List.mem_of_getElem? (i := 12) (by decide +kernel))
theorem iniL : Cond.initialized RL ∈ lw_tbl := List.mem_append_right _ (List.mem_of_getElem? (i := 0) (by decide +kernel))
abbrev MX8_init : Mx := (yX8_init, cX8_init, 1, none)
theorem okX8_init : iOK MX8_init 0 := ⟨List.mem_append_right _ (List.mem_of_getElem? (i := 17) (by decide +kernel)), List.mem_append_right _ (List.mem_of_getElem? (i := 16) (by decide +kernel)), iniX8, ⟨by decide +kernel, by decide +kernel⟩, by decide +kernel, by decide, rfl, rfl⟩
abbrev MX5_init : Mx := (yX5_init, cX5_init, 1, none)
theorem okX5_init : iOK MX5_init 0 := ⟨List.mem_append_right _ (List.mem_of_getElem? (i := 25) (by decide +kernel)), List.mem_append_right _ (List.mem_of_getElem? (i := 24) (by decide +kernel)), iniX5, ⟨by decide +kernel, by decide +kernel⟩, by decide +kernel, by decide, rfl, rfl⟩
abbrev MX1_init : Mx := (yX1_init, cX1_init, 1, none)
theorem okX1_init : iOK MX1_init 0 := ⟨List.mem_append_right _ (List.mem_of_getElem? (i := 48) (by decide +kernel)), List.mem_append_right _ (List.mem_of_getElem? (i := 47) (by decide +kernel)), iniX1, ⟨by decide +kernel, by decide +kernel⟩, by decide +kernel, by decide, rfl, rfl⟩
abbrev MX2_init : Mx := (yX2_init, cX2_init, 1, none)
theorem okX2_init : iOK MX2_init 0 := ⟨List.mem_append_right _ (List.mem_of_getElem? (i := 66) (by decide +kernel)), List.mem_append_right _ (List.mem_of_getElem? (i := 65) (by decide +kernel)), iniX2, ⟨by decide +kernel, by decide +kernel⟩, by decide +kernel, by decide, rfl, rfl⟩
abbrev MX0_init : Mx := (yX0_init, cX0_init, 1, none)
theorem okX0_init : iOK MX0_init 0 := ⟨List.mem_append_right _ (List.mem_of_getElem? (i := 87) (by decide +kernel)), List.mem_append_right _ (List.mem_of_getElem? (i := 86) (by decide +kernel)), iniX0, ⟨by decide +kernel, by decide +kernel⟩, by decide +kernel, by decide, rfl, rfl⟩
abbrev MX7_init : Mx := (yX7_init, cX7_init, 1, none)
theorem okX7_init : iOK MX7_init 0 := ⟨List.mem_append_right _ (List.mem_of_getElem? (i := 106) (by decide +kernel)), List.mem_append_right _ (List.mem_of_getElem? (i := 105) (by decide +kernel)), iniX7, ⟨by decide +kernel, by decide +kernel⟩, by decide +kernel, by decide, rfl, rfl⟩
abbrev MX8_go : Mx := (yX8_go, cX8_go, 4, (some .int))
theorem okX8_go : vOK MX8_go 1 := ⟨List.mem_append_right _ (List.mem_of_getElem? (i := 161) (by decide +kernel)), List.mem_append_right _ (List.mem_of_getElem? (i := 159) (by decide +kernel)), List.mem_append_right _ (List.mem_of_getElem? (i := 160) (by decide +kernel)), iniX8, ⟨by decide +kernel, by decide +kernel⟩, by decide +kernel, by decide⟩
abbrev MX8_isWithin : Mx := (yX8_isWithin, cX8_isWithin, 2, (some .boolean))
theorem okX8_isWithin : sOK MX8_isWithin 2 := ⟨List.mem_append_right _ (List.mem_of_getElem? (i := 164) (by decide +kernel)), List.mem_append_right _ (List.mem_of_getElem? (i := 163) (by decide +kernel)), iniX8, ⟨by decide +kernel, by decide +kernel⟩, by decide +kernel, by decide⟩
abbrev MJ9_min_7cf53 : Mx := (yJ9_min_7cf53, cJ9_min_7cf53, 2, (some .int))
theorem okJ9_min_7cf53 : sOK MJ9_min_7cf53 2 := ⟨List.mem_append_right _ (List.mem_of_getElem? (i := 167) (by decide +kernel)), List.mem_append_right _ (List.mem_of_getElem? (i := 166) (by decide +kernel)), iniJ9, ⟨by decide +kernel, by decide +kernel⟩, by decide +kernel, by decide⟩
abbrev MX2_letPass : Mx := (yX2_letPass, cX2_letPass, 4, none)
theorem okX2_letPass : vOK MX2_letPass 1 := ⟨List.mem_append_right _ (List.mem_of_getElem? (i := 171) (by decide +kernel)), List.mem_append_right _ (List.mem_of_getElem? (i := 169) (by decide +kernel)), List.mem_append_right _ (List.mem_of_getElem? (i := 170) (by decide +kernel)), iniX2, ⟨by decide +kernel, by decide +kernel⟩, by decide +kernel, by decide⟩
abbrev MX8_roles : Mx := (yX8_roles, cX8_roles, 3, (some .boolean))
theorem okX8_roles : vOK MX8_roles 2 := ⟨List.mem_append_right _ (List.mem_of_getElem? (i := 176) (by decide +kernel)), List.mem_append_right _ (List.mem_of_getElem? (i := 174) (by decide +kernel)), List.mem_append_right _ (List.mem_of_getElem? (i := 175) (by decide +kernel)), iniX8, ⟨by decide +kernel, by decide +kernel⟩, by decide +kernel, by decide⟩
abbrev MX8_isBelow : Mx := (yX8_isBelow, cX8_isBelow, 2, (some .boolean))
theorem okX8_isBelow : sOK MX8_isBelow 2 := ⟨List.mem_append_right _ (List.mem_of_getElem? (i := 179) (by decide +kernel)), List.mem_append_right _ (List.mem_of_getElem? (i := 178) (by decide +kernel)), iniX8, ⟨by decide +kernel, by decide +kernel⟩, by decide +kernel, by decide⟩
abbrev MX8_sendLetters : Mx := (yX8_sendLetters, cX8_sendLetters, 2, none)
theorem okX8_sendLetters : vOK MX8_sendLetters 0 := ⟨List.mem_append_right _ (List.mem_of_getElem? (i := 183) (by decide +kernel)), List.mem_append_right _ (List.mem_of_getElem? (i := 182) (by decide +kernel)), List.mem_append_left _ (List.mem_of_getElem? (i := 0) (by decide +kernel)), iniX8, ⟨by decide +kernel, by decide +kernel⟩, by decide +kernel, by decide⟩
abbrev MX2_sendLetter : Mx := (yX2_sendLetter, cX2_sendLetter, 1, none)
theorem okX2_sendLetter : vOK MX2_sendLetter 0 := ⟨List.mem_append_right _ (List.mem_of_getElem? (i := 187) (by decide +kernel)), List.mem_append_right _ (List.mem_of_getElem? (i := 185) (by decide +kernel)), List.mem_append_right _ (List.mem_of_getElem? (i := 186) (by decide +kernel)), iniX2, ⟨by decide +kernel, by decide +kernel⟩, by decide +kernel, by decide⟩
abbrev MX8_mark : Mx := (yX8_mark, cX8_mark, 4, (some .boolean))
theorem okX8_mark : vOK MX8_mark 3 := ⟨List.mem_append_right _ (List.mem_of_getElem? (i := 191) (by decide +kernel)), List.mem_append_right _ (List.mem_of_getElem? (i := 189) (by decide +kernel)), List.mem_append_right _ (List.mem_of_getElem? (i := 190) (by decide +kernel)), iniX8, ⟨by decide +kernel, by decide +kernel⟩, by decide +kernel, by decide⟩
abbrev MX5_tell : Mx := (yX5_tell, cX5_tell, 5, none)
theorem okX5_tell : vOK MX5_tell 4 := ⟨List.mem_append_right _ (List.mem_of_getElem? (i := 195) (by decide +kernel)), List.mem_append_right _ (List.mem_of_getElem? (i := 193) (by decide +kernel)), List.mem_append_right _ (List.mem_of_getElem? (i := 194) (by decide +kernel)), iniX5, ⟨by decide +kernel, by decide +kernel⟩, by decide +kernel, by decide⟩
abbrev MX8_thing : Mx := (yX8_thing, cX8_thing, 4, (some .boolean))
theorem okX8_thing : vOK MX8_thing 3 := ⟨List.mem_append_right _ (List.mem_of_getElem? (i := 199) (by decide +kernel)), List.mem_append_right _ (List.mem_of_getElem? (i := 197) (by decide +kernel)), List.mem_append_right _ (List.mem_of_getElem? (i := 198) (by decide +kernel)), iniX8, ⟨by decide +kernel, by decide +kernel⟩, by decide +kernel, by decide⟩
abbrev MX8_sort : Mx := (yX8_sort, cX8_sort, 4, (some .boolean))
theorem okX8_sort : vOK MX8_sort 3 := ⟨List.mem_append_right _ (List.mem_of_getElem? (i := 203) (by decide +kernel)), List.mem_append_right _ (List.mem_of_getElem? (i := 201) (by decide +kernel)), List.mem_append_right _ (List.mem_of_getElem? (i := 202) (by decide +kernel)), iniX8, ⟨by decide +kernel, by decide +kernel⟩, by decide +kernel, by decide⟩
abbrev MX5_regulate : Mx := (yX5_regulate, cX5_regulate, 4, none)
theorem okX5_regulate : vOK MX5_regulate 3 := ⟨List.mem_append_right _ (List.mem_of_getElem? (i := 207) (by decide +kernel)), List.mem_append_right _ (List.mem_of_getElem? (i := 205) (by decide +kernel)), List.mem_append_right _ (List.mem_of_getElem? (i := 206) (by decide +kernel)), iniX5, ⟨by decide +kernel, by decide +kernel⟩, by decide +kernel, by decide⟩
abbrev MX8_rule : Mx := (yX8_rule, cX8_rule, 6, (some .int))
theorem okX8_rule : vOK MX8_rule 4 := ⟨List.mem_append_right _ (List.mem_of_getElem? (i := 211) (by decide +kernel)), List.mem_append_right _ (List.mem_of_getElem? (i := 209) (by decide +kernel)), List.mem_append_right _ (List.mem_of_getElem? (i := 210) (by decide +kernel)), iniX8, ⟨by decide +kernel, by decide +kernel⟩, by decide +kernel, by decide⟩
abbrev MX8_heapAt : Mx := (yX8_heapAt, cX8_heapAt, 2, (some (.object "AskTrust$Heap")))
theorem okX8_heapAt : vOK MX8_heapAt 1 := ⟨List.mem_append_right _ (List.mem_of_getElem? (i := 215) (by decide +kernel)), List.mem_append_right _ (List.mem_of_getElem? (i := 214) (by decide +kernel)), List.mem_append_left _ (List.mem_of_getElem? (i := 1) (by decide +kernel)), iniX8, ⟨by decide +kernel, by decide +kernel⟩, by decide +kernel, by decide⟩
abbrev MX1_isFull : Mx := (yX1_isFull, cX1_isFull, 1, (some .boolean))
theorem okX1_isFull : vOK MX1_isFull 0 := ⟨List.mem_append_right _ (List.mem_of_getElem? (i := 219) (by decide +kernel)), List.mem_append_right _ (List.mem_of_getElem? (i := 217) (by decide +kernel)), List.mem_append_right _ (List.mem_of_getElem? (i := 218) (by decide +kernel)), iniX1, ⟨by decide +kernel, by decide +kernel⟩, by decide +kernel, by decide⟩
abbrev MX6_canBe : Mx := (yX6_canBe, cX6_canBe, 3, (some .boolean))
theorem okX6_canBe : sOK MX6_canBe 3 := ⟨List.mem_append_right _ (List.mem_of_getElem? (i := 222) (by decide +kernel)), List.mem_append_right _ (List.mem_of_getElem? (i := 221) (by decide +kernel)), iniX6, ⟨by decide +kernel, by decide +kernel⟩, by decide +kernel, by decide⟩
abbrev MX6_canAsk : Mx := (yX6_canAsk, cX6_canAsk, 1, (some .boolean))
theorem okX6_canAsk : sOK MX6_canAsk 1 := ⟨List.mem_append_right _ (List.mem_of_getElem? (i := 225) (by decide +kernel)), List.mem_append_right _ (List.mem_of_getElem? (i := 224) (by decide +kernel)), iniX6, ⟨by decide +kernel, by decide +kernel⟩, by decide +kernel, by decide⟩
abbrev MX6_canStand : Mx := (yX6_canStand, cX6_canStand, 1, (some .boolean))
theorem okX6_canStand : sOK MX6_canStand 1 := ⟨List.mem_append_right _ (List.mem_of_getElem? (i := 228) (by decide +kernel)), List.mem_append_right _ (List.mem_of_getElem? (i := 227) (by decide +kernel)), iniX6, ⟨by decide +kernel, by decide +kernel⟩, by decide +kernel, by decide⟩
abbrev MX6_init : Mx := (yX6_init, cX6_init, 4, none)
theorem okX6_init : iOK MX6_init 3 := ⟨List.mem_append_right _ (List.mem_of_getElem? (i := 233) (by decide +kernel)), List.mem_append_right _ (List.mem_of_getElem? (i := 232) (by decide +kernel)), iniX6, ⟨by decide +kernel, by decide +kernel⟩, by decide +kernel, by decide, rfl, rfl⟩
abbrev MX1_append : Mx := (yX1_append, cX1_append, 2, none)
theorem okX1_append : vOK MX1_append 1 := ⟨List.mem_append_right _ (List.mem_of_getElem? (i := 270) (by decide +kernel)), List.mem_append_right _ (List.mem_of_getElem? (i := 268) (by decide +kernel)), List.mem_append_right _ (List.mem_of_getElem? (i := 269) (by decide +kernel)), iniX1, ⟨by decide +kernel, by decide +kernel⟩, by decide +kernel, by decide⟩
abbrev MX8_unrule : Mx := (yX8_unrule, cX8_unrule, 4, (some .boolean))
theorem okX8_unrule : vOK MX8_unrule 2 := ⟨List.mem_append_right _ (List.mem_of_getElem? (i := 275) (by decide +kernel)), List.mem_append_right _ (List.mem_of_getElem? (i := 273) (by decide +kernel)), List.mem_append_right _ (List.mem_of_getElem? (i := 274) (by decide +kernel)), iniX8, ⟨by decide +kernel, by decide +kernel⟩, by decide +kernel, by decide⟩
abbrev MX1_drop : Mx := (yX1_drop, cX1_drop, 3, (some .boolean))
theorem okX1_drop : vOK MX1_drop 1 := ⟨List.mem_append_right _ (List.mem_of_getElem? (i := 279) (by decide +kernel)), List.mem_append_right _ (List.mem_of_getElem? (i := 277) (by decide +kernel)), List.mem_append_right _ (List.mem_of_getElem? (i := 278) (by decide +kernel)), iniX1, ⟨by decide +kernel, by decide +kernel⟩, by decide +kernel, by decide⟩
abbrev MX8_ask : Mx := (yX8_ask, cX8_ask, 4, (some .int))
theorem okX8_ask : vOK MX8_ask 1 := ⟨List.mem_append_right _ (List.mem_of_getElem? (i := 284) (by decide +kernel)), List.mem_append_right _ (List.mem_of_getElem? (i := 282) (by decide +kernel)), List.mem_append_right _ (List.mem_of_getElem? (i := 283) (by decide +kernel)), iniX8, ⟨by decide +kernel, by decide +kernel⟩, by decide +kernel, by decide⟩
abbrev MX8_isAsk : Mx := (yX8_isAsk, cX8_isAsk, 1, (some .boolean))
theorem okX8_isAsk : sOK MX8_isAsk 1 := ⟨List.mem_append_right _ (List.mem_of_getElem? (i := 287) (by decide +kernel)), List.mem_append_right _ (List.mem_of_getElem? (i := 286) (by decide +kernel)), iniX8, ⟨by decide +kernel, by decide +kernel⟩, by decide +kernel, by decide⟩
abbrev MX0_isFull : Mx := (yX0_isFull, cX0_isFull, 1, (some .boolean))
theorem okX0_isFull : vOK MX0_isFull 0 := ⟨List.mem_append_right _ (List.mem_of_getElem? (i := 291) (by decide +kernel)), List.mem_append_right _ (List.mem_of_getElem? (i := 289) (by decide +kernel)), List.mem_append_right _ (List.mem_of_getElem? (i := 290) (by decide +kernel)), iniX0, ⟨by decide +kernel, by decide +kernel⟩, by decide +kernel, by decide⟩
abbrev MX8_codeNow : Mx := (yX8_codeNow, cX8_codeNow, 6, (some .int))
theorem okX8_codeNow : vOK MX8_codeNow 1 := ⟨List.mem_append_right _ (List.mem_of_getElem? (i := 295) (by decide +kernel)), List.mem_append_right _ (List.mem_of_getElem? (i := 294) (by decide +kernel)), List.mem_append_left _ (List.mem_of_getElem? (i := 2) (by decide +kernel)), iniX8, ⟨by decide +kernel, by decide +kernel⟩, by decide +kernel, by decide⟩
abbrev MX5_valueOf : Mx := (yX5_valueOf, cX5_valueOf, 5, (some .int))
theorem okX5_valueOf : vOK MX5_valueOf 3 := ⟨List.mem_append_right _ (List.mem_of_getElem? (i := 299) (by decide +kernel)), List.mem_append_right _ (List.mem_of_getElem? (i := 297) (by decide +kernel)), List.mem_append_right _ (List.mem_of_getElem? (i := 298) (by decide +kernel)), iniX5, ⟨by decide +kernel, by decide +kernel⟩, by decide +kernel, by decide⟩
abbrev MX8_answerInForce : Mx := (yX8_answerInForce, cX8_answerInForce, 4, (some .int))
theorem okX8_answerInForce : vOK MX8_answerInForce 1 := ⟨List.mem_append_right _ (List.mem_of_getElem? (i := 303) (by decide +kernel)), List.mem_append_right _ (List.mem_of_getElem? (i := 302) (by decide +kernel)), List.mem_append_left _ (List.mem_of_getElem? (i := 3) (by decide +kernel)), iniX8, ⟨by decide +kernel, by decide +kernel⟩, by decide +kernel, by decide⟩
abbrev MX1_isLet : Mx := (yX1_isLet, cX1_isLet, 4, (some .boolean))
theorem okX1_isLet : vOK MX1_isLet 2 := ⟨List.mem_append_right _ (List.mem_of_getElem? (i := 307) (by decide +kernel)), List.mem_append_right _ (List.mem_of_getElem? (i := 305) (by decide +kernel)), List.mem_append_right _ (List.mem_of_getElem? (i := 306) (by decide +kernel)), iniX1, ⟨by decide +kernel, by decide +kernel⟩, by decide +kernel, by decide⟩
abbrev MX1_firstFit : Mx := (yX1_firstFit, cX1_firstFit, 6, (some .int))
theorem okX1_firstFit : vOK MX1_firstFit 2 := ⟨List.mem_append_right _ (List.mem_of_getElem? (i := 311) (by decide +kernel)), List.mem_append_right _ (List.mem_of_getElem? (i := 309) (by decide +kernel)), List.mem_append_right _ (List.mem_of_getElem? (i := 310) (by decide +kernel)), iniX1, ⟨by decide +kernel, by decide +kernel⟩, by decide +kernel, by decide⟩
abbrev MX8_marksIn : Mx := (yX8_marksIn, cX8_marksIn, 1, (some .int))
theorem okX8_marksIn : sOK MX8_marksIn 1 := ⟨List.mem_append_right _ (List.mem_of_getElem? (i := 314) (by decide +kernel)), List.mem_append_right _ (List.mem_of_getElem? (i := 313) (by decide +kernel)), iniX8, ⟨by decide +kernel, by decide +kernel⟩, by decide +kernel, by decide⟩
abbrev MX5_sureOf : Mx := (yX5_sureOf, cX5_sureOf, 4, (some .int))
theorem okX5_sureOf : vOK MX5_sureOf 1 := ⟨List.mem_append_right _ (List.mem_of_getElem? (i := 318) (by decide +kernel)), List.mem_append_right _ (List.mem_of_getElem? (i := 316) (by decide +kernel)), List.mem_append_right _ (List.mem_of_getElem? (i := 317) (by decide +kernel)), iniX5, ⟨by decide +kernel, by decide +kernel⟩, by decide +kernel, by decide⟩
abbrev MX8_valueIn : Mx := (yX8_valueIn, cX8_valueIn, 2, (some .int))
theorem okX8_valueIn : sOK MX8_valueIn 2 := ⟨List.mem_append_right _ (List.mem_of_getElem? (i := 321) (by decide +kernel)), List.mem_append_right _ (List.mem_of_getElem? (i := 320) (by decide +kernel)), iniX8, ⟨by decide +kernel, by decide +kernel⟩, by decide +kernel, by decide⟩
abbrev MX6_fits : Mx := (yX6_fits, cX6_fits, 3, (some .boolean))
theorem okX6_fits : vOK MX6_fits 2 := ⟨List.mem_append_right _ (List.mem_of_getElem? (i := 325) (by decide +kernel)), List.mem_append_right _ (List.mem_of_getElem? (i := 323) (by decide +kernel)), List.mem_append_right _ (List.mem_of_getElem? (i := 324) (by decide +kernel)), iniX6, ⟨by decide +kernel, by decide +kernel⟩, by decide +kernel, by decide⟩
abbrev MX8_rolesIn : Mx := (yX8_rolesIn, cX8_rolesIn, 1, (some .int))
theorem okX8_rolesIn : sOK MX8_rolesIn 1 := ⟨List.mem_append_right _ (List.mem_of_getElem? (i := 328) (by decide +kernel)), List.mem_append_right _ (List.mem_of_getElem? (i := 327) (by decide +kernel)), iniX8, ⟨by decide +kernel, by decide +kernel⟩, by decide +kernel, by decide⟩
abbrev MX6_fitsRoles : Mx := (yX6_fitsRoles, cX6_fitsRoles, 2, (some .boolean))
theorem okX6_fitsRoles : vOK MX6_fitsRoles 1 := ⟨List.mem_append_right _ (List.mem_of_getElem? (i := 332) (by decide +kernel)), List.mem_append_right _ (List.mem_of_getElem? (i := 330) (by decide +kernel)), List.mem_append_right _ (List.mem_of_getElem? (i := 331) (by decide +kernel)), iniX6, ⟨by decide +kernel, by decide +kernel⟩, by decide +kernel, by decide⟩
abbrev MX6_fitsMarks : Mx := (yX6_fitsMarks, cX6_fitsMarks, 3, (some .boolean))
theorem okX6_fitsMarks : vOK MX6_fitsMarks 2 := ⟨List.mem_append_right _ (List.mem_of_getElem? (i := 337) (by decide +kernel)), List.mem_append_right _ (List.mem_of_getElem? (i := 335) (by decide +kernel)), List.mem_append_right _ (List.mem_of_getElem? (i := 336) (by decide +kernel)), iniX6, ⟨by decide +kernel, by decide +kernel⟩, by decide +kernel, by decide⟩
abbrev MX8_spotIn : Mx := (yX8_spotIn, cX8_spotIn, 1, (some .int))
theorem okX8_spotIn : sOK MX8_spotIn 1 := ⟨List.mem_append_right _ (List.mem_of_getElem? (i := 341) (by decide +kernel)), List.mem_append_right _ (List.mem_of_getElem? (i := 340) (by decide +kernel)), iniX8, ⟨by decide +kernel, by decide +kernel⟩, by decide +kernel, by decide⟩
abbrev MX6_fitsSpot : Mx := (yX6_fitsSpot, cX6_fitsSpot, 3, (some .boolean))
theorem okX6_fitsSpot : vOK MX6_fitsSpot 1 := ⟨List.mem_append_right _ (List.mem_of_getElem? (i := 345) (by decide +kernel)), List.mem_append_right _ (List.mem_of_getElem? (i := 343) (by decide +kernel)), List.mem_append_right _ (List.mem_of_getElem? (i := 344) (by decide +kernel)), iniX6, ⟨by decide +kernel, by decide +kernel⟩, by decide +kernel, by decide⟩
abbrev MX8_hasBit : Mx := (yX8_hasBit, cX8_hasBit, 2, (some .boolean))
theorem okX8_hasBit : sOK MX8_hasBit 2 := ⟨List.mem_append_right _ (List.mem_of_getElem? (i := 348) (by decide +kernel)), List.mem_append_right _ (List.mem_of_getElem? (i := 347) (by decide +kernel)), iniX8, ⟨by decide +kernel, by decide +kernel⟩, by decide +kernel, by decide⟩
abbrev MX1_ruleAt : Mx := (yX1_ruleAt, cX1_ruleAt, 2, (some (.object "AskTrust$Rule")))
theorem okX1_ruleAt : vOK MX1_ruleAt 1 := ⟨List.mem_append_right _ (List.mem_of_getElem? (i := 352) (by decide +kernel)), List.mem_append_right _ (List.mem_of_getElem? (i := 350) (by decide +kernel)), List.mem_append_right _ (List.mem_of_getElem? (i := 351) (by decide +kernel)), iniX1, ⟨by decide +kernel, by decide +kernel⟩, by decide +kernel, by decide⟩
abbrev MX0_write : Mx := (yX0_write, cX0_write, 6, none)
theorem okX0_write : vOK MX0_write 5 := ⟨List.mem_append_right _ (List.mem_of_getElem? (i := 358) (by decide +kernel)), List.mem_append_right _ (List.mem_of_getElem? (i := 356) (by decide +kernel)), List.mem_append_right _ (List.mem_of_getElem? (i := 357) (by decide +kernel)), iniX0, ⟨by decide +kernel, by decide +kernel⟩, by decide +kernel, by decide⟩
abbrev MX8_behalf : Mx := (yX8_behalf, cX8_behalf, 6, (some .int))
theorem okX8_behalf : vOK MX8_behalf 2 := ⟨List.mem_append_right _ (List.mem_of_getElem? (i := 363) (by decide +kernel)), List.mem_append_right _ (List.mem_of_getElem? (i := 361) (by decide +kernel)), List.mem_append_right _ (List.mem_of_getElem? (i := 362) (by decide +kernel)), iniX8, ⟨by decide +kernel, by decide +kernel⟩, by decide +kernel, by decide⟩
abbrev MJ9_max_7cf53 : Mx := (yJ9_max_7cf53, cJ9_max_7cf53, 2, (some .int))
theorem okJ9_max_7cf53 : sOK MJ9_max_7cf53 2 := ⟨List.mem_append_right _ (List.mem_of_getElem? (i := 366) (by decide +kernel)), List.mem_append_right _ (List.mem_of_getElem? (i := 365) (by decide +kernel)), iniJ9, ⟨by decide +kernel, by decide +kernel⟩, by decide +kernel, by decide⟩
abbrev MX8_why : Mx := (yX8_why, cX8_why, 4, (some .int))
theorem okX8_why : vOK MX8_why 2 := ⟨List.mem_append_right _ (List.mem_of_getElem? (i := 370) (by decide +kernel)), List.mem_append_right _ (List.mem_of_getElem? (i := 368) (by decide +kernel)), List.mem_append_right _ (List.mem_of_getElem? (i := 369) (by decide +kernel)), iniX8, ⟨by decide +kernel, by decide +kernel⟩, by decide +kernel, by decide⟩
abbrev MX8_facts : Mx := (yX8_facts, cX8_facts, 2, (some .int))
theorem okX8_facts : vOK MX8_facts 1 := ⟨List.mem_append_right _ (List.mem_of_getElem? (i := 375) (by decide +kernel)), List.mem_append_right _ (List.mem_of_getElem? (i := 373) (by decide +kernel)), List.mem_append_right _ (List.mem_of_getElem? (i := 374) (by decide +kernel)), iniX8, ⟨by decide +kernel, by decide +kernel⟩, by decide +kernel, by decide⟩
abbrev MX8_judge : Mx := (yX8_judge, cX8_judge, 5, (some .boolean))
theorem okX8_judge : vOK MX8_judge 3 := ⟨List.mem_append_right _ (List.mem_of_getElem? (i := 379) (by decide +kernel)), List.mem_append_right _ (List.mem_of_getElem? (i := 377) (by decide +kernel)), List.mem_append_right _ (List.mem_of_getElem? (i := 378) (by decide +kernel)), iniX8, ⟨by decide +kernel, by decide +kernel⟩, by decide +kernel, by decide⟩
abbrev MX8_judgeAt : Mx := (yX8_judgeAt, cX8_judgeAt, 2, (some (.object "AskTrust$Judge")))
theorem okX8_judgeAt : vOK MX8_judgeAt 1 := ⟨List.mem_append_right _ (List.mem_of_getElem? (i := 383) (by decide +kernel)), List.mem_append_right _ (List.mem_of_getElem? (i := 382) (by decide +kernel)), List.mem_append_left _ (List.mem_of_getElem? (i := 4) (by decide +kernel)), iniX8, ⟨by decide +kernel, by decide +kernel⟩, by decide +kernel, by decide⟩
abbrev MX8_judged : Mx := (yX8_judged, cX8_judged, 6, (some .int))
theorem okX8_judged : vOK MX8_judged 2 := ⟨List.mem_append_right _ (List.mem_of_getElem? (i := 387) (by decide +kernel)), List.mem_append_right _ (List.mem_of_getElem? (i := 385) (by decide +kernel)), List.mem_append_right _ (List.mem_of_getElem? (i := 386) (by decide +kernel)), iniX8, ⟨by decide +kernel, by decide +kernel⟩, by decide +kernel, by decide⟩
abbrev MX2_keptFor : Mx := (yX2_keptFor, cX2_keptFor, 3, (some (.object "AskTrust$Kept")))
theorem okX2_keptFor : vOK MX2_keptFor 1 := ⟨List.mem_append_right _ (List.mem_of_getElem? (i := 391) (by decide +kernel)), List.mem_append_right _ (List.mem_of_getElem? (i := 389) (by decide +kernel)), List.mem_append_right _ (List.mem_of_getElem? (i := 390) (by decide +kernel)), iniX2, ⟨by decide +kernel, by decide +kernel⟩, by decide +kernel, by decide⟩
abbrev MX2_couldTell : Mx := (yX2_couldTell, cX2_couldTell, 3, (some .boolean))
theorem okX2_couldTell : vOK MX2_couldTell 2 := ⟨List.mem_append_right _ (List.mem_of_getElem? (i := 395) (by decide +kernel)), List.mem_append_right _ (List.mem_of_getElem? (i := 393) (by decide +kernel)), List.mem_append_right _ (List.mem_of_getElem? (i := 394) (by decide +kernel)), iniX2, ⟨by decide +kernel, by decide +kernel⟩, by decide +kernel, by decide⟩
abbrev MX2_keepMore : Mx := (yX2_keepMore, cX2_keepMore, 2, (some (.object "AskTrust$Kept")))
theorem okX2_keepMore : vOK MX2_keepMore 1 := ⟨List.mem_append_right _ (List.mem_of_getElem? (i := 399) (by decide +kernel)), List.mem_append_right _ (List.mem_of_getElem? (i := 397) (by decide +kernel)), List.mem_append_right _ (List.mem_of_getElem? (i := 398) (by decide +kernel)), iniX2, ⟨by decide +kernel, by decide +kernel⟩, by decide +kernel, by decide⟩
abbrev MX3_init : Mx := (yX3_init, cX3_init, 3, none)
theorem okX3_init : iOK MX3_init 2 := ⟨List.mem_append_right _ (List.mem_of_getElem? (i := 404) (by decide +kernel)), List.mem_append_right _ (List.mem_of_getElem? (i := 403) (by decide +kernel)), iniX3, ⟨by decide +kernel, by decide +kernel⟩, by decide +kernel, by decide, rfl, rfl⟩
abbrev MX8_keeps : Mx := (yX8_keeps, cX8_keeps, 3, (some .int))
theorem okX8_keeps : vOK MX8_keeps 1 := ⟨List.mem_append_right _ (List.mem_of_getElem? (i := 425) (by decide +kernel)), List.mem_append_right _ (List.mem_of_getElem? (i := 423) (by decide +kernel)), List.mem_append_right _ (List.mem_of_getElem? (i := 424) (by decide +kernel)), iniX8, ⟨by decide +kernel, by decide +kernel⟩, by decide +kernel, by decide⟩
abbrev MX2_tellable : Mx := (yX2_tellable, cX2_tellable, 4, (some .int))
theorem okX2_tellable : vOK MX2_tellable 1 := ⟨List.mem_append_right _ (List.mem_of_getElem? (i := 429) (by decide +kernel)), List.mem_append_right _ (List.mem_of_getElem? (i := 427) (by decide +kernel)), List.mem_append_right _ (List.mem_of_getElem? (i := 428) (by decide +kernel)), iniX2, ⟨by decide +kernel, by decide +kernel⟩, by decide +kernel, by decide⟩
abbrev MX8_law : Mx := (yX8_law, cX8_law, 4, (some .int))
theorem okX8_law : vOK MX8_law 2 := ⟨List.mem_append_right _ (List.mem_of_getElem? (i := 434) (by decide +kernel)), List.mem_append_right _ (List.mem_of_getElem? (i := 432) (by decide +kernel)), List.mem_append_right _ (List.mem_of_getElem? (i := 433) (by decide +kernel)), iniX8, ⟨by decide +kernel, by decide +kernel⟩, by decide +kernel, by decide⟩
abbrev MX4_canBe : Mx := (yX4_canBe, cX4_canBe, 1, (some .boolean))
theorem okX4_canBe : sOK MX4_canBe 1 := ⟨List.mem_append_right _ (List.mem_of_getElem? (i := 437) (by decide +kernel)), List.mem_append_right _ (List.mem_of_getElem? (i := 436) (by decide +kernel)), iniX4, ⟨by decide +kernel, by decide +kernel⟩, by decide +kernel, by decide⟩
abbrev MX7_sift : Mx := (yX7_sift, cX7_sift, 5, none)
theorem okX7_sift : vOK MX7_sift 2 := ⟨List.mem_append_right _ (List.mem_of_getElem? (i := 441) (by decide +kernel)), List.mem_append_right _ (List.mem_of_getElem? (i := 439) (by decide +kernel)), List.mem_append_right _ (List.mem_of_getElem? (i := 440) (by decide +kernel)), iniX7, ⟨by decide +kernel, by decide +kernel⟩, by decide +kernel, by decide⟩
abbrev MJ7_fill_53178 : Mx := (yJ7_fill_53178, cJ7_fill_53178, 4, none)
theorem okJ7_fill_53178 : sOK MJ7_fill_53178 2 := ⟨List.mem_append_right _ (List.mem_of_getElem? (i := 444) (by decide +kernel)), List.mem_append_right _ (List.mem_of_getElem? (i := 443) (by decide +kernel)), iniJ7, ⟨by decide +kernel, by decide +kernel⟩, by decide +kernel, by decide⟩
abbrev MX7_siftBy : Mx := (yX7_siftBy, cX7_siftBy, 4, none)
theorem okX7_siftBy : vOK MX7_siftBy 2 := ⟨List.mem_append_right _ (List.mem_of_getElem? (i := 450) (by decide +kernel)), List.mem_append_right _ (List.mem_of_getElem? (i := 449) (by decide +kernel)), List.mem_append_left _ (List.mem_of_getElem? (i := 5) (by decide +kernel)), iniX7, ⟨by decide +kernel, by decide +kernel⟩, by decide +kernel, by decide⟩
abbrev MX4_init : Mx := (yX4_init, cX4_init, 2, none)
theorem okX4_init : iOK MX4_init 1 := ⟨List.mem_append_right _ (List.mem_of_getElem? (i := 458) (by decide +kernel)), List.mem_append_right _ (List.mem_of_getElem? (i := 457) (by decide +kernel)), iniX4, ⟨by decide +kernel, by decide +kernel⟩, by decide +kernel, by decide, rfl, rfl⟩
abbrev MX7_leastBreaking : Mx := (yX7_leastBreaking, cX7_leastBreaking, 6, (some .int))
theorem okX7_leastBreaking : vOK MX7_leastBreaking 1 := ⟨List.mem_append_right _ (List.mem_of_getElem? (i := 481) (by decide +kernel)), List.mem_append_right _ (List.mem_of_getElem? (i := 479) (by decide +kernel)), List.mem_append_right _ (List.mem_of_getElem? (i := 480) (by decide +kernel)), iniX7, ⟨by decide +kernel, by decide +kernel⟩, by decide +kernel, by decide⟩
abbrev MX4_missesRole : Mx := (yX4_missesRole, cX4_missesRole, 2, (some .boolean))
theorem okX4_missesRole : vOK MX4_missesRole 1 := ⟨List.mem_append_right _ (List.mem_of_getElem? (i := 485) (by decide +kernel)), List.mem_append_right _ (List.mem_of_getElem? (i := 483) (by decide +kernel)), List.mem_append_right _ (List.mem_of_getElem? (i := 484) (by decide +kernel)), iniX4, ⟨by decide +kernel, by decide +kernel⟩, by decide +kernel, by decide⟩
abbrev MX4_missesMark : Mx := (yX4_missesMark, cX4_missesMark, 2, (some .boolean))
theorem okX4_missesMark : vOK MX4_missesMark 1 := ⟨List.mem_append_right _ (List.mem_of_getElem? (i := 490) (by decide +kernel)), List.mem_append_right _ (List.mem_of_getElem? (i := 488) (by decide +kernel)), List.mem_append_right _ (List.mem_of_getElem? (i := 489) (by decide +kernel)), iniX4, ⟨by decide +kernel, by decide +kernel⟩, by decide +kernel, by decide⟩
abbrev MX7_leastLetSpot : Mx := (yX7_leastLetSpot, cX7_leastLetSpot, 8, (some .int))
theorem okX7_leastLetSpot : vOK MX7_leastLetSpot 2 := ⟨List.mem_append_right _ (List.mem_of_getElem? (i := 495) (by decide +kernel)), List.mem_append_right _ (List.mem_of_getElem? (i := 494) (by decide +kernel)), List.mem_append_left _ (List.mem_of_getElem? (i := 6) (by decide +kernel)), iniX7, ⟨by decide +kernel, by decide +kernel⟩, by decide +kernel, by decide⟩
abbrev MX7_codeOf : Mx := (yX7_codeOf, cX7_codeOf, 3, (some .int))
theorem okX7_codeOf : sOK MX7_codeOf 3 := ⟨List.mem_append_right _ (List.mem_of_getElem? (i := 498) (by decide +kernel)), List.mem_append_right _ (List.mem_of_getElem? (i := 497) (by decide +kernel)), iniX7, ⟨by decide +kernel, by decide +kernel⟩, by decide +kernel, by decide⟩
abbrev MX8_idle : Mx := (yX8_idle, cX8_idle, 5, (some .boolean))
theorem okX8_idle : vOK MX8_idle 2 := ⟨List.mem_append_right _ (List.mem_of_getElem? (i := 502) (by decide +kernel)), List.mem_append_right _ (List.mem_of_getElem? (i := 500) (by decide +kernel)), List.mem_append_right _ (List.mem_of_getElem? (i := 501) (by decide +kernel)), iniX8, ⟨by decide +kernel, by decide +kernel⟩, by decide +kernel, by decide⟩
abbrev MX7_isEverFirst : Mx := (yX7_isEverFirst, cX7_isEverFirst, 8, (some .boolean))
theorem okX7_isEverFirst : vOK MX7_isEverFirst 2 := ⟨List.mem_append_right _ (List.mem_of_getElem? (i := 507) (by decide +kernel)), List.mem_append_right _ (List.mem_of_getElem? (i := 505) (by decide +kernel)), List.mem_append_right _ (List.mem_of_getElem? (i := 506) (by decide +kernel)), iniX7, ⟨by decide +kernel, by decide +kernel⟩, by decide +kernel, by decide⟩
abbrev MX7_isAnyJust : Mx := (yX7_isAnyJust, cX7_isAnyJust, 4, (some .boolean))
theorem okX7_isAnyJust : vOK MX7_isAnyJust 2 := ⟨List.mem_append_right _ (List.mem_of_getElem? (i := 511) (by decide +kernel)), List.mem_append_right _ (List.mem_of_getElem? (i := 510) (by decide +kernel)), List.mem_append_left _ (List.mem_of_getElem? (i := 7) (by decide +kernel)), iniX7, ⟨by decide +kernel, by decide +kernel⟩, by decide +kernel, by decide⟩
abbrev MX8_quarrel : Mx := (yX8_quarrel, cX8_quarrel, 7, (some .int))
theorem okX8_quarrel : vOK MX8_quarrel 3 := ⟨List.mem_append_right _ (List.mem_of_getElem? (i := 515) (by decide +kernel)), List.mem_append_right _ (List.mem_of_getElem? (i := 513) (by decide +kernel)), List.mem_append_right _ (List.mem_of_getElem? (i := 514) (by decide +kernel)), iniX8, ⟨by decide +kernel, by decide +kernel⟩, by decide +kernel, by decide⟩
abbrev MX7_leastFittingAll : Mx := (yX7_leastFittingAll, cX7_leastFittingAll, 5, (some .int))
theorem okX7_leastFittingAll : vOK MX7_leastFittingAll 1 := ⟨List.mem_append_right _ (List.mem_of_getElem? (i := 519) (by decide +kernel)), List.mem_append_right _ (List.mem_of_getElem? (i := 517) (by decide +kernel)), List.mem_append_right _ (List.mem_of_getElem? (i := 518) (by decide +kernel)), iniX7, ⟨by decide +kernel, by decide +kernel⟩, by decide +kernel, by decide⟩
abbrev MX7_leastWithAll : Mx := (yX7_leastWithAll, cX7_leastWithAll, 3, (some .int))
theorem okX7_leastWithAll : sOK MX7_leastWithAll 2 := ⟨List.mem_append_right _ (List.mem_of_getElem? (i := 522) (by decide +kernel)), List.mem_append_right _ (List.mem_of_getElem? (i := 521) (by decide +kernel)), iniX7, ⟨by decide +kernel, by decide +kernel⟩, by decide +kernel, by decide⟩
abbrev MX8_log : Mx := (yX8_log, cX8_log, 3, (some .int))
theorem okX8_log : vOK MX8_log 2 := ⟨List.mem_append_right _ (List.mem_of_getElem? (i := 526) (by decide +kernel)), List.mem_append_right _ (List.mem_of_getElem? (i := 524) (by decide +kernel)), List.mem_append_right _ (List.mem_of_getElem? (i := 525) (by decide +kernel)), iniX8, ⟨by decide +kernel, by decide +kernel⟩, by decide +kernel, by decide⟩
abbrev MX0_read : Mx := (yX0_read, cX0_read, 3, (some .int))
theorem okX0_read : vOK MX0_read 2 := ⟨List.mem_append_right _ (List.mem_of_getElem? (i := 530) (by decide +kernel)), List.mem_append_right _ (List.mem_of_getElem? (i := 528) (by decide +kernel)), List.mem_append_right _ (List.mem_of_getElem? (i := 529) (by decide +kernel)), iniX0, ⟨by decide +kernel, by decide +kernel⟩, by decide +kernel, by decide⟩
abbrev MX8_lost : Mx := (yX8_lost, cX8_lost, 5, (some .int))
theorem okX8_lost : vOK MX8_lost 0 := ⟨List.mem_append_right _ (List.mem_of_getElem? (i := 535) (by decide +kernel)), List.mem_append_right _ (List.mem_of_getElem? (i := 533) (by decide +kernel)), List.mem_append_right _ (List.mem_of_getElem? (i := 534) (by decide +kernel)), iniX8, ⟨by decide +kernel, by decide +kernel⟩, by decide +kernel, by decide⟩
abbrev MX8_move : Mx := (yX8_move, cX8_move, 2, (some .boolean))
theorem okX8_move : vOK MX8_move 1 := ⟨List.mem_append_right _ (List.mem_of_getElem? (i := 539) (by decide +kernel)), List.mem_append_right _ (List.mem_of_getElem? (i := 537) (by decide +kernel)), List.mem_append_right _ (List.mem_of_getElem? (i := 538) (by decide +kernel)), iniX8, ⟨by decide +kernel, by decide +kernel⟩, by decide +kernel, by decide⟩
abbrev MX8_count : Mx := (yX8_count, cX8_count, 2, (some .int))
theorem okX8_count : vOK MX8_count 1 := ⟨List.mem_append_right _ (List.mem_of_getElem? (i := 544) (by decide +kernel)), List.mem_append_right _ (List.mem_of_getElem? (i := 542) (by decide +kernel)), List.mem_append_right _ (List.mem_of_getElem? (i := 543) (by decide +kernel)), iniX8, ⟨by decide +kernel, by decide +kernel⟩, by decide +kernel, by decide⟩
abbrev MX9_init : Mx := (yX9_init, cX9_init, 2, none)
theorem okX9_init : iOK MX9_init 0 := ⟨List.mem_append_right _ (List.mem_of_getElem? (i := 549) (by decide +kernel)), List.mem_append_right _ (List.mem_of_getElem? (i := 548) (by decide +kernel)), iniX9, ⟨by decide +kernel, by decide +kernel⟩, by decide +kernel, by decide, rfl, rfl⟩
abbrev MX9_forgets : Mx := (yX9_forgets, cX9_forgets, 3, none)
theorem okX9_forgets : vOK MX9_forgets 1 := ⟨List.mem_append_right _ (List.mem_of_getElem? (i := 556) (by decide +kernel)), List.mem_append_right _ (List.mem_of_getElem? (i := 555) (by decide +kernel)), List.mem_append_left _ (List.mem_of_getElem? (i := 8) (by decide +kernel)), iniX9, ⟨by decide +kernel, by decide +kernel⟩, by decide +kernel, by decide⟩
abbrev MX9_go : Mx := (yX9_go, cX9_go, 4, (some .int))
theorem okX9_go : vOK MX9_go 1 := ⟨List.mem_append_right _ (List.mem_of_getElem? (i := 640) (by decide +kernel)), List.mem_append_right _ (List.mem_of_getElem? (i := 638) (by decide +kernel)), List.mem_append_right _ (List.mem_of_getElem? (i := 639) (by decide +kernel)), iniX9, ⟨by decide +kernel, by decide +kernel⟩, by decide +kernel, by decide⟩
abbrev MX9_in : Mx := (yX9_in, cX9_in, 3, (some .boolean))
theorem okX9_in : sOK MX9_in 3 := ⟨List.mem_append_right _ (List.mem_of_getElem? (i := 643) (by decide +kernel)), List.mem_append_right _ (List.mem_of_getElem? (i := 642) (by decide +kernel)), iniX9, ⟨by decide +kernel, by decide +kernel⟩, by decide +kernel, by decide⟩
abbrev MX9_roles : Mx := (yX9_roles, cX9_roles, 3, (some .boolean))
theorem okX9_roles : vOK MX9_roles 2 := ⟨List.mem_append_right _ (List.mem_of_getElem? (i := 647) (by decide +kernel)), List.mem_append_right _ (List.mem_of_getElem? (i := 645) (by decide +kernel)), List.mem_append_right _ (List.mem_of_getElem? (i := 646) (by decide +kernel)), iniX9, ⟨by decide +kernel, by decide +kernel⟩, by decide +kernel, by decide⟩
abbrev MX9_isOne : Mx := (yX9_isOne, cX9_isOne, 1, (some .boolean))
theorem okX9_isOne : sOK MX9_isOne 1 := ⟨List.mem_append_right _ (List.mem_of_getElem? (i := 650) (by decide +kernel)), List.mem_append_right _ (List.mem_of_getElem? (i := 649) (by decide +kernel)), iniX9, ⟨by decide +kernel, by decide +kernel⟩, by decide +kernel, by decide⟩
abbrev MX9_changes : Mx := (yX9_changes, cX9_changes, 2, none)
theorem okX9_changes : vOK MX9_changes 0 := ⟨List.mem_append_right _ (List.mem_of_getElem? (i := 654) (by decide +kernel)), List.mem_append_right _ (List.mem_of_getElem? (i := 653) (by decide +kernel)), List.mem_append_left _ (List.mem_of_getElem? (i := 9) (by decide +kernel)), iniX9, ⟨by decide +kernel, by decide +kernel⟩, by decide +kernel, by decide⟩
abbrev MX9_mark : Mx := (yX9_mark, cX9_mark, 4, (some .boolean))
theorem okX9_mark : vOK MX9_mark 3 := ⟨List.mem_append_right _ (List.mem_of_getElem? (i := 658) (by decide +kernel)), List.mem_append_right _ (List.mem_of_getElem? (i := 656) (by decide +kernel)), List.mem_append_right _ (List.mem_of_getElem? (i := 657) (by decide +kernel)), iniX9, ⟨by decide +kernel, by decide +kernel⟩, by decide +kernel, by decide⟩
abbrev MX9_thing : Mx := (yX9_thing, cX9_thing, 4, (some .boolean))
theorem okX9_thing : vOK MX9_thing 3 := ⟨List.mem_append_right _ (List.mem_of_getElem? (i := 662) (by decide +kernel)), List.mem_append_right _ (List.mem_of_getElem? (i := 660) (by decide +kernel)), List.mem_append_right _ (List.mem_of_getElem? (i := 661) (by decide +kernel)), iniX9, ⟨by decide +kernel, by decide +kernel⟩, by decide +kernel, by decide⟩
abbrev MX9_sort : Mx := (yX9_sort, cX9_sort, 4, (some .boolean))
theorem okX9_sort : vOK MX9_sort 3 := ⟨List.mem_append_right _ (List.mem_of_getElem? (i := 666) (by decide +kernel)), List.mem_append_right _ (List.mem_of_getElem? (i := 664) (by decide +kernel)), List.mem_append_right _ (List.mem_of_getElem? (i := 665) (by decide +kernel)), iniX9, ⟨by decide +kernel, by decide +kernel⟩, by decide +kernel, by decide⟩
abbrev MX9_rule : Mx := (yX9_rule, cX9_rule, 6, (some .int))
theorem okX9_rule : vOK MX9_rule 4 := ⟨List.mem_append_right _ (List.mem_of_getElem? (i := 670) (by decide +kernel)), List.mem_append_right _ (List.mem_of_getElem? (i := 668) (by decide +kernel)), List.mem_append_right _ (List.mem_of_getElem? (i := 669) (by decide +kernel)), iniX9, ⟨by decide +kernel, by decide +kernel⟩, by decide +kernel, by decide⟩
abbrev MX9_isHeap : Mx := (yX9_isHeap, cX9_isHeap, 1, (some .boolean))
theorem okX9_isHeap : sOK MX9_isHeap 1 := ⟨List.mem_append_right _ (List.mem_of_getElem? (i := 673) (by decide +kernel)), List.mem_append_right _ (List.mem_of_getElem? (i := 672) (by decide +kernel)), iniX9, ⟨by decide +kernel, by decide +kernel⟩, by decide +kernel, by decide⟩
abbrev MX9_unrule : Mx := (yX9_unrule, cX9_unrule, 5, (some .boolean))
theorem okX9_unrule : vOK MX9_unrule 2 := ⟨List.mem_append_right _ (List.mem_of_getElem? (i := 677) (by decide +kernel)), List.mem_append_right _ (List.mem_of_getElem? (i := 675) (by decide +kernel)), List.mem_append_right _ (List.mem_of_getElem? (i := 676) (by decide +kernel)), iniX9, ⟨by decide +kernel, by decide +kernel⟩, by decide +kernel, by decide⟩
abbrev MX9_ask : Mx := (yX9_ask, cX9_ask, 2, (some .int))
theorem okX9_ask : vOK MX9_ask 1 := ⟨List.mem_append_right _ (List.mem_of_getElem? (i := 681) (by decide +kernel)), List.mem_append_right _ (List.mem_of_getElem? (i := 679) (by decide +kernel)), List.mem_append_right _ (List.mem_of_getElem? (i := 680) (by decide +kernel)), iniX9, ⟨by decide +kernel, by decide +kernel⟩, by decide +kernel, by decide⟩
abbrev MX9_isAsk : Mx := (yX9_isAsk, cX9_isAsk, 1, (some .boolean))
theorem okX9_isAsk : sOK MX9_isAsk 1 := ⟨List.mem_append_right _ (List.mem_of_getElem? (i := 684) (by decide +kernel)), List.mem_append_right _ (List.mem_of_getElem? (i := 683) (by decide +kernel)), iniX9, ⟨by decide +kernel, by decide +kernel⟩, by decide +kernel, by decide⟩
abbrev MX9_factsOf : Mx := (yX9_factsOf, cX9_factsOf, 6, (some .int))
theorem okX9_factsOf : vOK MX9_factsOf 1 := ⟨List.mem_append_right _ (List.mem_of_getElem? (i := 688) (by decide +kernel)), List.mem_append_right _ (List.mem_of_getElem? (i := 687) (by decide +kernel)), List.mem_append_left _ (List.mem_of_getElem? (i := 10) (by decide +kernel)), iniX9, ⟨by decide +kernel, by decide +kernel⟩, by decide +kernel, by decide⟩
abbrev MX9_value : Mx := (yX9_value, cX9_value, 4, (some .int))
theorem okX9_value : vOK MX9_value 2 := ⟨List.mem_append_right _ (List.mem_of_getElem? (i := 692) (by decide +kernel)), List.mem_append_right _ (List.mem_of_getElem? (i := 691) (by decide +kernel)), List.mem_append_left _ (List.mem_of_getElem? (i := 11) (by decide +kernel)), iniX9, ⟨by decide +kernel, by decide +kernel⟩, by decide +kernel, by decide⟩
abbrev MX9_answer : Mx := (yX9_answer, cX9_answer, 3, (some .int))
theorem okX9_answer : vOK MX9_answer 2 := ⟨List.mem_append_right _ (List.mem_of_getElem? (i := 696) (by decide +kernel)), List.mem_append_right _ (List.mem_of_getElem? (i := 695) (by decide +kernel)), List.mem_append_left _ (List.mem_of_getElem? (i := 12) (by decide +kernel)), iniX9, ⟨by decide +kernel, by decide +kernel⟩, by decide +kernel, by decide⟩
abbrev MX9_isLet : Mx := (yX9_isLet, cX9_isLet, 4, (some .boolean))
theorem okX9_isLet : vOK MX9_isLet 2 := ⟨List.mem_append_right _ (List.mem_of_getElem? (i := 700) (by decide +kernel)), List.mem_append_right _ (List.mem_of_getElem? (i := 699) (by decide +kernel)), List.mem_append_left _ (List.mem_of_getElem? (i := 13) (by decide +kernel)), iniX9, ⟨by decide +kernel, by decide +kernel⟩, by decide +kernel, by decide⟩
abbrev MX9_decides : Mx := (yX9_decides, cX9_decides, 4, (some .int))
theorem okX9_decides : vOK MX9_decides 2 := ⟨List.mem_append_right _ (List.mem_of_getElem? (i := 704) (by decide +kernel)), List.mem_append_right _ (List.mem_of_getElem? (i := 703) (by decide +kernel)), List.mem_append_left _ (List.mem_of_getElem? (i := 14) (by decide +kernel)), iniX9, ⟨by decide +kernel, by decide +kernel⟩, by decide +kernel, by decide⟩
abbrev MX9_fits : Mx := (yX9_fits, cX9_fits, 7, (some .boolean))
theorem okX9_fits : vOK MX9_fits 2 := ⟨List.mem_append_right _ (List.mem_of_getElem? (i := 708) (by decide +kernel)), List.mem_append_right _ (List.mem_of_getElem? (i := 707) (by decide +kernel)), List.mem_append_left _ (List.mem_of_getElem? (i := 15) (by decide +kernel)), iniX9, ⟨by decide +kernel, by decide +kernel⟩, by decide +kernel, by decide⟩
abbrev MX9_rolesOf : Mx := (yX9_rolesOf, cX9_rolesOf, 1, (some .int))
theorem okX9_rolesOf : sOK MX9_rolesOf 1 := ⟨List.mem_append_right _ (List.mem_of_getElem? (i := 711) (by decide +kernel)), List.mem_append_right _ (List.mem_of_getElem? (i := 710) (by decide +kernel)), iniX9, ⟨by decide +kernel, by decide +kernel⟩, by decide +kernel, by decide⟩
abbrev MX9_markOf : Mx := (yX9_markOf, cX9_markOf, 2, (some .int))
theorem okX9_markOf : sOK MX9_markOf 2 := ⟨List.mem_append_right _ (List.mem_of_getElem? (i := 714) (by decide +kernel)), List.mem_append_right _ (List.mem_of_getElem? (i := 713) (by decide +kernel)), iniX9, ⟨by decide +kernel, by decide +kernel⟩, by decide +kernel, by decide⟩
abbrev MX9_sure : Mx := (yX9_sure, cX9_sure, 2, (some .int))
theorem okX9_sure : vOK MX9_sure 1 := ⟨List.mem_append_right _ (List.mem_of_getElem? (i := 718) (by decide +kernel)), List.mem_append_right _ (List.mem_of_getElem? (i := 717) (by decide +kernel)), List.mem_append_left _ (List.mem_of_getElem? (i := 16) (by decide +kernel)), iniX9, ⟨by decide +kernel, by decide +kernel⟩, by decide +kernel, by decide⟩
abbrev MX9_logs : Mx := (yX9_logs, cX9_logs, 4, (some .int))
theorem okX9_logs : vOK MX9_logs 3 := ⟨List.mem_append_right _ (List.mem_of_getElem? (i := 722) (by decide +kernel)), List.mem_append_right _ (List.mem_of_getElem? (i := 721) (by decide +kernel)), List.mem_append_left _ (List.mem_of_getElem? (i := 17) (by decide +kernel)), iniX9, ⟨by decide +kernel, by decide +kernel⟩, by decide +kernel, by decide⟩
abbrev MX9_behalf : Mx := (yX9_behalf, cX9_behalf, 5, (some .int))
theorem okX9_behalf : vOK MX9_behalf 2 := ⟨List.mem_append_right _ (List.mem_of_getElem? (i := 726) (by decide +kernel)), List.mem_append_right _ (List.mem_of_getElem? (i := 724) (by decide +kernel)), List.mem_append_right _ (List.mem_of_getElem? (i := 725) (by decide +kernel)), iniX9, ⟨by decide +kernel, by decide +kernel⟩, by decide +kernel, by decide⟩
abbrev MX9_why : Mx := (yX9_why, cX9_why, 3, (some .int))
theorem okX9_why : vOK MX9_why 2 := ⟨List.mem_append_right _ (List.mem_of_getElem? (i := 730) (by decide +kernel)), List.mem_append_right _ (List.mem_of_getElem? (i := 728) (by decide +kernel)), List.mem_append_right _ (List.mem_of_getElem? (i := 729) (by decide +kernel)), iniX9, ⟨by decide +kernel, by decide +kernel⟩, by decide +kernel, by decide⟩
abbrev MX9_facts : Mx := (yX9_facts, cX9_facts, 2, (some .int))
theorem okX9_facts : vOK MX9_facts 1 := ⟨List.mem_append_right _ (List.mem_of_getElem? (i := 734) (by decide +kernel)), List.mem_append_right _ (List.mem_of_getElem? (i := 732) (by decide +kernel)), List.mem_append_right _ (List.mem_of_getElem? (i := 733) (by decide +kernel)), iniX9, ⟨by decide +kernel, by decide +kernel⟩, by decide +kernel, by decide⟩
abbrev MX9_judge : Mx := (yX9_judge, cX9_judge, 4, (some .boolean))
theorem okX9_judge : vOK MX9_judge 3 := ⟨List.mem_append_right _ (List.mem_of_getElem? (i := 738) (by decide +kernel)), List.mem_append_right _ (List.mem_of_getElem? (i := 736) (by decide +kernel)), List.mem_append_right _ (List.mem_of_getElem? (i := 737) (by decide +kernel)), iniX9, ⟨by decide +kernel, by decide +kernel⟩, by decide +kernel, by decide⟩
abbrev MX9_isJudge : Mx := (yX9_isJudge, cX9_isJudge, 1, (some .boolean))
theorem okX9_isJudge : sOK MX9_isJudge 1 := ⟨List.mem_append_right _ (List.mem_of_getElem? (i := 741) (by decide +kernel)), List.mem_append_right _ (List.mem_of_getElem? (i := 740) (by decide +kernel)), iniX9, ⟨by decide +kernel, by decide +kernel⟩, by decide +kernel, by decide⟩
abbrev MX9_judged : Mx := (yX9_judged, cX9_judged, 4, (some .int))
theorem okX9_judged : vOK MX9_judged 2 := ⟨List.mem_append_right _ (List.mem_of_getElem? (i := 745) (by decide +kernel)), List.mem_append_right _ (List.mem_of_getElem? (i := 743) (by decide +kernel)), List.mem_append_right _ (List.mem_of_getElem? (i := 744) (by decide +kernel)), iniX9, ⟨by decide +kernel, by decide +kernel⟩, by decide +kernel, by decide⟩
abbrev MX9_keeps : Mx := (yX9_keeps, cX9_keeps, 4, (some .int))
theorem okX9_keeps : vOK MX9_keeps 1 := ⟨List.mem_append_right _ (List.mem_of_getElem? (i := 749) (by decide +kernel)), List.mem_append_right _ (List.mem_of_getElem? (i := 747) (by decide +kernel)), List.mem_append_right _ (List.mem_of_getElem? (i := 748) (by decide +kernel)), iniX9, ⟨by decide +kernel, by decide +kernel⟩, by decide +kernel, by decide⟩
abbrev MX9_law : Mx := (yX9_law, cX9_law, 8, (some .int))
theorem okX9_law : vOK MX9_law 2 := ⟨List.mem_append_right _ (List.mem_of_getElem? (i := 753) (by decide +kernel)), List.mem_append_right _ (List.mem_of_getElem? (i := 751) (by decide +kernel)), List.mem_append_right _ (List.mem_of_getElem? (i := 752) (by decide +kernel)), iniX9, ⟨by decide +kernel, by decide +kernel⟩, by decide +kernel, by decide⟩
abbrev MX9_idle : Mx := (yX9_idle, cX9_idle, 4, (some .boolean))
theorem okX9_idle : vOK MX9_idle 2 := ⟨List.mem_append_right _ (List.mem_of_getElem? (i := 758) (by decide +kernel)), List.mem_append_right _ (List.mem_of_getElem? (i := 756) (by decide +kernel)), List.mem_append_right _ (List.mem_of_getElem? (i := 757) (by decide +kernel)), iniX9, ⟨by decide +kernel, by decide +kernel⟩, by decide +kernel, by decide⟩
abbrev MX9_isRule : Mx := (yX9_isRule, cX9_isRule, 3, (some .boolean))
theorem okX9_isRule : vOK MX9_isRule 2 := ⟨List.mem_append_right _ (List.mem_of_getElem? (i := 762) (by decide +kernel)), List.mem_append_right _ (List.mem_of_getElem? (i := 761) (by decide +kernel)), List.mem_append_left _ (List.mem_of_getElem? (i := 18) (by decide +kernel)), iniX9, ⟨by decide +kernel, by decide +kernel⟩, by decide +kernel, by decide⟩
abbrev MX9_quarrel : Mx := (yX9_quarrel, cX9_quarrel, 5, (some .int))
theorem okX9_quarrel : vOK MX9_quarrel 3 := ⟨List.mem_append_right _ (List.mem_of_getElem? (i := 766) (by decide +kernel)), List.mem_append_right _ (List.mem_of_getElem? (i := 764) (by decide +kernel)), List.mem_append_right _ (List.mem_of_getElem? (i := 765) (by decide +kernel)), iniX9, ⟨by decide +kernel, by decide +kernel⟩, by decide +kernel, by decide⟩
abbrev MX9_log : Mx := (yX9_log, cX9_log, 3, (some .int))
theorem okX9_log : vOK MX9_log 2 := ⟨List.mem_append_right _ (List.mem_of_getElem? (i := 770) (by decide +kernel)), List.mem_append_right _ (List.mem_of_getElem? (i := 768) (by decide +kernel)), List.mem_append_right _ (List.mem_of_getElem? (i := 769) (by decide +kernel)), iniX9, ⟨by decide +kernel, by decide +kernel⟩, by decide +kernel, by decide⟩
abbrev MX9_lost : Mx := (yX9_lost, cX9_lost, 3, (some .int))
theorem okX9_lost : vOK MX9_lost 0 := ⟨List.mem_append_right _ (List.mem_of_getElem? (i := 774) (by decide +kernel)), List.mem_append_right _ (List.mem_of_getElem? (i := 772) (by decide +kernel)), List.mem_append_right _ (List.mem_of_getElem? (i := 773) (by decide +kernel)), iniX9, ⟨by decide +kernel, by decide +kernel⟩, by decide +kernel, by decide⟩
abbrev MX9_move : Mx := (yX9_move, cX9_move, 2, (some .boolean))
theorem okX9_move : vOK MX9_move 1 := ⟨List.mem_append_right _ (List.mem_of_getElem? (i := 778) (by decide +kernel)), List.mem_append_right _ (List.mem_of_getElem? (i := 776) (by decide +kernel)), List.mem_append_right _ (List.mem_of_getElem? (i := 777) (by decide +kernel)), iniX9, ⟨by decide +kernel, by decide +kernel⟩, by decide +kernel, by decide⟩
abbrev MX9_count : Mx := (yX9_count, cX9_count, 2, (some .int))
theorem okX9_count : vOK MX9_count 1 := ⟨List.mem_append_right _ (List.mem_of_getElem? (i := 783) (by decide +kernel)), List.mem_append_right _ (List.mem_of_getElem? (i := 781) (by decide +kernel)), List.mem_append_right _ (List.mem_of_getElem? (i := 782) (by decide +kernel)), iniX9, ⟨by decide +kernel, by decide +kernel⟩, by decide +kernel, by decide⟩
theorem lc_L_7 : Cond.classLink RL 7 RX8 ∈ lw_tbl := List.mem_append_right _ (List.mem_of_getElem? (i := 13) (by decide +kernel))
theorem lm_L_9 : Cond.methodLink RL 9 yX8_init ∈ lw_tbl := List.mem_append_right _ (List.mem_of_getElem? (i := 15) (by decide +kernel))
theorem lm_X8_1 : Cond.methodLink RX8 1 objectInit ∈ lw_tbl := List.mem_append_right _ (List.mem_of_getElem? (i := 18) (by decide +kernel))
theorem lc_X8_19 : Cond.classLink RX8 19 RX5 ∈ lw_tbl := List.mem_append_right _ (List.mem_of_getElem? (i := 21) (by decide +kernel))
theorem lm_X8_21 : Cond.methodLink RX8 21 yX5_init ∈ lw_tbl := List.mem_append_right _ (List.mem_of_getElem? (i := 23) (by decide +kernel))
theorem lm_X5_3 : Cond.methodLink RX5 3 objectInit ∈ lw_tbl := List.mem_append_right _ (List.mem_of_getElem? (i := 26) (by decide +kernel))
theorem lc_X5_9 : Cond.classLink RX5 9 "[[I" ∈ lw_tbl := List.mem_append_right _ (List.mem_of_getElem? (i := 27) (by decide +kernel))
theorem ao_arr : Cond.arrayOver (.array .int) ∈ lw_tbl := List.mem_append_right _ (List.mem_of_getElem? (i := 28) (by decide +kernel))
theorem lf_X5_11 : Cond.fieldLink RX5 11 (TX5 0).1 (TX5 0).2.1 (TX5 0).2.2.1 ∈ lw_tbl := List.mem_append_right _ (List.mem_of_getElem? (i := 29) (by decide +kernel))
theorem lf_X5_16 : Cond.fieldLink RX5 16 (TX5 1).1 (TX5 1).2.1 (TX5 1).2.2.1 ∈ lw_tbl := List.mem_append_right _ (List.mem_of_getElem? (i := 30) (by decide +kernel))
theorem lf_X5_19 : Cond.fieldLink RX5 19 (TX5 2).1 (TX5 2).2.1 (TX5 2).2.2.1 ∈ lw_tbl := List.mem_append_right _ (List.mem_of_getElem? (i := 31) (by decide +kernel))
theorem lf_X5_23 : Cond.fieldLink RX5 23 (TX5 3).1 (TX5 3).2.1 (TX5 3).2.2.1 ∈ lw_tbl := List.mem_append_right _ (List.mem_of_getElem? (i := 32) (by decide +kernel))
theorem ac_int : Cond.arrayClass .int ∈ lw_tbl := List.mem_append_right _ (List.mem_of_getElem? (i := 42) (by decide +kernel))
theorem lc_X8_26 : Cond.classLink RX8 26 RX1 ∈ lw_tbl := List.mem_append_right _ (List.mem_of_getElem? (i := 43) (by decide +kernel))
theorem ao_X1 : Cond.arrayOver (.object "AskTrust$Heap") ∈ lw_tbl := List.mem_append_right _ (List.mem_of_getElem? (i := 44) (by decide +kernel))
theorem lm_X8_28 : Cond.methodLink RX8 28 yX1_init ∈ lw_tbl := List.mem_append_right _ (List.mem_of_getElem? (i := 46) (by decide +kernel))
theorem lm_X1_3 : Cond.methodLink RX1 3 objectInit ∈ lw_tbl := List.mem_append_right _ (List.mem_of_getElem? (i := 49) (by decide +kernel))
theorem lc_X1_9 : Cond.classLink RX1 9 RX6 ∈ lw_tbl := List.mem_append_right _ (List.mem_of_getElem? (i := 50) (by decide +kernel))
theorem ao_X6 : Cond.arrayOver (.object "AskTrust$Rule") ∈ lw_tbl := List.mem_append_right _ (List.mem_of_getElem? (i := 51) (by decide +kernel))
theorem lf_X1_11 : Cond.fieldLink RX1 11 (TX1 0).1 (TX1 0).2.1 (TX1 0).2.2.1 ∈ lw_tbl := List.mem_append_right _ (List.mem_of_getElem? (i := 52) (by decide +kernel))
theorem lf_X1_17 : Cond.fieldLink RX1 17 (TX1 1).1 (TX1 1).2.1 (TX1 1).2.2.1 ∈ lw_tbl := List.mem_append_right _ (List.mem_of_getElem? (i := 53) (by decide +kernel))
theorem lf_X7_40 : Cond.fieldLinkNest RX7 40 (TX1 1).1 (TX1 1).2.1 (TX1 1).2.2.1 "AskTrust" ∈ lw_tbl := List.mem_append_right _ (List.mem_of_getElem? (i := 54) (by decide +kernel))
theorem lf_X8_106 : Cond.fieldLinkNest RX8 106 (TX1 1).1 (TX1 1).2.1 (TX1 1).2.2.1 "AskTrust" ∈ lw_tbl := List.mem_append_right _ (List.mem_of_getElem? (i := 55) (by decide +kernel))
theorem lc_X8_33 : Cond.classLink RX8 33 RX2 ∈ lw_tbl := List.mem_append_right _ (List.mem_of_getElem? (i := 61) (by decide +kernel))
theorem ao_X2 : Cond.arrayOver (.object "AskTrust$Judge") ∈ lw_tbl := List.mem_append_right _ (List.mem_of_getElem? (i := 62) (by decide +kernel))
theorem lm_X8_35 : Cond.methodLink RX8 35 yX2_init ∈ lw_tbl := List.mem_append_right _ (List.mem_of_getElem? (i := 64) (by decide +kernel))
theorem lm_X2_3 : Cond.methodLink RX2 3 objectInit ∈ lw_tbl := List.mem_append_right _ (List.mem_of_getElem? (i := 67) (by decide +kernel))
theorem lf_X2_9 : Cond.fieldLink RX2 9 (TX2 0).1 (TX2 0).2.1 (TX2 0).2.2.1 ∈ lw_tbl := List.mem_append_right _ (List.mem_of_getElem? (i := 68) (by decide +kernel))
theorem lf_X8_139 : Cond.fieldLinkNest RX8 139 (TX2 0).1 (TX2 0).2.1 (TX2 0).2.2.1 "AskTrust" ∈ lw_tbl := List.mem_append_right _ (List.mem_of_getElem? (i := 69) (by decide +kernel))
theorem lf_X2_15 : Cond.fieldLink RX2 15 (TX2 1).1 (TX2 1).2.1 (TX2 1).2.2.1 ∈ lw_tbl := List.mem_append_right _ (List.mem_of_getElem? (i := 70) (by decide +kernel))
theorem lf_X8_142 : Cond.fieldLinkNest RX8 142 (TX2 1).1 (TX2 1).2.1 (TX2 1).2.2.1 "AskTrust" ∈ lw_tbl := List.mem_append_right _ (List.mem_of_getElem? (i := 71) (by decide +kernel))
theorem lf_X2_22 : Cond.fieldLink RX2 22 (TX2 2).1 (TX2 2).2.1 (TX2 2).2.2.1 ∈ lw_tbl := List.mem_append_right _ (List.mem_of_getElem? (i := 72) (by decide +kernel))
theorem lf_X2_18 : Cond.fieldLink RX2 18 (TX2 3).1 (TX2 3).2.1 (TX2 3).2.2.1 ∈ lw_tbl := List.mem_append_right _ (List.mem_of_getElem? (i := 73) (by decide +kernel))
theorem lc_X8_40 : Cond.classLink RX8 40 RX0 ∈ lw_tbl := List.mem_append_right _ (List.mem_of_getElem? (i := 83) (by decide +kernel))
theorem lm_X8_42 : Cond.methodLink RX8 42 yX0_init ∈ lw_tbl := List.mem_append_right _ (List.mem_of_getElem? (i := 85) (by decide +kernel))
theorem lm_X0_3 : Cond.methodLink RX0 3 objectInit ∈ lw_tbl := List.mem_append_right _ (List.mem_of_getElem? (i := 88) (by decide +kernel))
theorem lc_X0_11 : Cond.classLink RX0 11 "[[I" ∈ lw_tbl := List.mem_append_right _ (List.mem_of_getElem? (i := 89) (by decide +kernel))
theorem lf_X0_13 : Cond.fieldLink RX0 13 (TX0 0).1 (TX0 0).2.1 (TX0 0).2.2.1 ∈ lw_tbl := List.mem_append_right _ (List.mem_of_getElem? (i := 90) (by decide +kernel))
theorem lf_X0_16 : Cond.fieldLink RX0 16 (TX0 1).1 (TX0 1).2.1 (TX0 1).2.2.1 ∈ lw_tbl := List.mem_append_right _ (List.mem_of_getElem? (i := 91) (by decide +kernel))
theorem lf_X8_206 : Cond.fieldLinkNest RX8 206 (TX0 1).1 (TX0 1).2.1 (TX0 1).2.2.1 "AskTrust" ∈ lw_tbl := List.mem_append_right _ (List.mem_of_getElem? (i := 92) (by decide +kernel))
theorem lf_X0_24 : Cond.fieldLink RX0 24 (TX0 2).1 (TX0 2).2.1 (TX0 2).2.2.1 ∈ lw_tbl := List.mem_append_right _ (List.mem_of_getElem? (i := 93) (by decide +kernel))
theorem lf_X8_215 : Cond.fieldLinkNest RX8 215 (TX0 2).1 (TX0 2).2.1 (TX0 2).2.2.1 "AskTrust" ∈ lw_tbl := List.mem_append_right _ (List.mem_of_getElem? (i := 94) (by decide +kernel))
theorem lc_X8_47 : Cond.classLink RX8 47 RX7 ∈ lw_tbl := List.mem_append_right _ (List.mem_of_getElem? (i := 102) (by decide +kernel))
theorem lm_X8_49 : Cond.methodLink RX8 49 yX7_init ∈ lw_tbl := List.mem_append_right _ (List.mem_of_getElem? (i := 104) (by decide +kernel))
theorem lm_X7_3 : Cond.methodLink RX7 3 objectInit ∈ lw_tbl := List.mem_append_right _ (List.mem_of_getElem? (i := 107) (by decide +kernel))
theorem lf_X7_9 : Cond.fieldLink RX7 9 (TX7 0).1 (TX7 0).2.1 (TX7 0).2.2.1 ∈ lw_tbl := List.mem_append_right _ (List.mem_of_getElem? (i := 108) (by decide +kernel))
theorem lf_X7_15 : Cond.fieldLink RX7 15 (TX7 1).1 (TX7 1).2.1 (TX7 1).2.2.1 ∈ lw_tbl := List.mem_append_right _ (List.mem_of_getElem? (i := 109) (by decide +kernel))
theorem lf_X7_18 : Cond.fieldLink RX7 18 (TX7 2).1 (TX7 2).2.1 (TX7 2).2.2.1 ∈ lw_tbl := List.mem_append_right _ (List.mem_of_getElem? (i := 110) (by decide +kernel))
theorem lf_X7_21 : Cond.fieldLink RX7 21 (TX7 3).1 (TX7 3).2.1 (TX7 3).2.2.1 ∈ lw_tbl := List.mem_append_right _ (List.mem_of_getElem? (i := 111) (by decide +kernel))
theorem lf_X7_24 : Cond.fieldLink RX7 24 (TX7 4).1 (TX7 4).2.1 (TX7 4).2.2.1 ∈ lw_tbl := List.mem_append_right _ (List.mem_of_getElem? (i := 112) (by decide +kernel))
theorem lf_X8_9 : Cond.fieldLink RX8 9 (TX8 0).1 (TX8 0).2.1 (TX8 0).2.2.1 ∈ lw_tbl := List.mem_append_right _ (List.mem_of_getElem? (i := 124) (by decide +kernel))
theorem lf_X8_13 : Cond.fieldLink RX8 13 (TX8 1).1 (TX8 1).2.1 (TX8 1).2.2.1 ∈ lw_tbl := List.mem_append_right _ (List.mem_of_getElem? (i := 125) (by decide +kernel))
theorem lf_X8_16 : Cond.fieldLink RX8 16 (TX8 2).1 (TX8 2).2.1 (TX8 2).2.2.1 ∈ lw_tbl := List.mem_append_right _ (List.mem_of_getElem? (i := 126) (by decide +kernel))
theorem lf_X8_22 : Cond.fieldLink RX8 22 (TX8 3).1 (TX8 3).2.1 (TX8 3).2.2.1 ∈ lw_tbl := List.mem_append_right _ (List.mem_of_getElem? (i := 127) (by decide +kernel))
theorem lf_X8_29 : Cond.fieldLink RX8 29 (TX8 4).1 (TX8 4).2.1 (TX8 4).2.2.1 ∈ lw_tbl := List.mem_append_right _ (List.mem_of_getElem? (i := 128) (by decide +kernel))
theorem lf_X8_36 : Cond.fieldLink RX8 36 (TX8 5).1 (TX8 5).2.1 (TX8 5).2.2.1 ∈ lw_tbl := List.mem_append_right _ (List.mem_of_getElem? (i := 129) (by decide +kernel))
theorem lf_X8_43 : Cond.fieldLink RX8 43 (TX8 6).1 (TX8 6).2.1 (TX8 6).2.2.1 ∈ lw_tbl := List.mem_append_right _ (List.mem_of_getElem? (i := 130) (by decide +kernel))
theorem lf_X8_50 : Cond.fieldLink RX8 50 (TX8 7).1 (TX8 7).2.1 (TX8 7).2.2.1 ∈ lw_tbl := List.mem_append_right _ (List.mem_of_getElem? (i := 131) (by decide +kernel))
theorem lf_X8_58 : Cond.fieldLink RX8 58 (TX8 8).1 (TX8 8).2.1 (TX8 8).2.2.1 ∈ lw_tbl := List.mem_append_right _ (List.mem_of_getElem? (i := 132) (by decide +kernel))
theorem lf_X8_203 : Cond.fieldLink RX8 203 (TX8 9).1 (TX8 9).2.1 (TX8 9).2.2.1 ∈ lw_tbl := List.mem_append_right _ (List.mem_of_getElem? (i := 133) (by decide +kernel))
theorem lf_X8_153 : Cond.fieldLink RX8 153 (TX8 10).1 (TX8 10).2.1 (TX8 10).2.2.1 ∈ lw_tbl := List.mem_append_right _ (List.mem_of_getElem? (i := 134) (by decide +kernel))
theorem lm_L_13 : Cond.methodLink RL 13 yX8_go ∈ lw_tbl := List.mem_append_right _ (List.mem_of_getElem? (i := 158) (by decide +kernel))
theorem lm_X8_54 : Cond.methodLink RX8 54 yX8_isWithin ∈ lw_tbl := List.mem_append_right _ (List.mem_of_getElem? (i := 162) (by decide +kernel))
theorem lm_X8_62 : Cond.methodLink RX8 62 yJ9_min_7cf53 ∈ lw_tbl := List.mem_append_right _ (List.mem_of_getElem? (i := 165) (by decide +kernel))
theorem lm_X8_68 : Cond.methodLink RX8 68 yX2_letPass ∈ lw_tbl := List.mem_append_right _ (List.mem_of_getElem? (i := 168) (by decide +kernel))
theorem lm_X2_25 : Cond.methodLink RX2 25 yJ9_min_7cf53 ∈ lw_tbl := List.mem_append_right _ (List.mem_of_getElem? (i := 172) (by decide +kernel))
theorem lm_L_18 : Cond.methodLink RL 18 yX8_roles ∈ lw_tbl := List.mem_append_right _ (List.mem_of_getElem? (i := 173) (by decide +kernel))
theorem lm_X8_72 : Cond.methodLink RX8 72 yX8_isBelow ∈ lw_tbl := List.mem_append_right _ (List.mem_of_getElem? (i := 177) (by decide +kernel))
theorem lm_X8_75 : Cond.methodLink RX8 75 yX8_sendLetters ∈ lw_tbl := List.mem_append_right _ (List.mem_of_getElem? (i := 180) (by decide +kernel))
theorem lm_X8_218 : Cond.methodLink RX8 218 yX2_sendLetter ∈ lw_tbl := List.mem_append_right _ (List.mem_of_getElem? (i := 184) (by decide +kernel))
theorem lm_L_23 : Cond.methodLink RL 23 yX8_mark ∈ lw_tbl := List.mem_append_right _ (List.mem_of_getElem? (i := 188) (by decide +kernel))
theorem lm_X8_78 : Cond.methodLink RX8 78 yX5_tell ∈ lw_tbl := List.mem_append_right _ (List.mem_of_getElem? (i := 192) (by decide +kernel))
theorem lm_L_28 : Cond.methodLink RL 28 yX8_thing ∈ lw_tbl := List.mem_append_right _ (List.mem_of_getElem? (i := 196) (by decide +kernel))
theorem lm_L_32 : Cond.methodLink RL 32 yX8_sort ∈ lw_tbl := List.mem_append_right _ (List.mem_of_getElem? (i := 200) (by decide +kernel))
theorem lm_X8_82 : Cond.methodLink RX8 82 yX5_regulate ∈ lw_tbl := List.mem_append_right _ (List.mem_of_getElem? (i := 204) (by decide +kernel))
theorem lm_L_36 : Cond.methodLink RL 36 yX8_rule ∈ lw_tbl := List.mem_append_right _ (List.mem_of_getElem? (i := 208) (by decide +kernel))
theorem lm_X8_86 : Cond.methodLink RX8 86 yX8_heapAt ∈ lw_tbl := List.mem_append_right _ (List.mem_of_getElem? (i := 212) (by decide +kernel))
theorem lm_X8_90 : Cond.methodLink RX8 90 yX1_isFull ∈ lw_tbl := List.mem_append_right _ (List.mem_of_getElem? (i := 216) (by decide +kernel))
theorem lm_X8_94 : Cond.methodLink RX8 94 yX6_canBe ∈ lw_tbl := List.mem_append_right _ (List.mem_of_getElem? (i := 220) (by decide +kernel))
theorem lm_X6_39 : Cond.methodLink RX6 39 yX6_canAsk ∈ lw_tbl := List.mem_append_right _ (List.mem_of_getElem? (i := 223) (by decide +kernel))
theorem lm_X6_43 : Cond.methodLink RX6 43 yX6_canStand ∈ lw_tbl := List.mem_append_right _ (List.mem_of_getElem? (i := 226) (by decide +kernel))
theorem lc_X8_95 : Cond.classLink RX8 95 RX6 ∈ lw_tbl := List.mem_append_right _ (List.mem_of_getElem? (i := 229) (by decide +kernel))
theorem lm_X8_100 : Cond.methodLink RX8 100 yX6_init ∈ lw_tbl := List.mem_append_right _ (List.mem_of_getElem? (i := 231) (by decide +kernel))
theorem lm_X6_3 : Cond.methodLink RX6 3 objectInit ∈ lw_tbl := List.mem_append_right _ (List.mem_of_getElem? (i := 234) (by decide +kernel))
theorem lf_X6_9 : Cond.fieldLink RX6 9 (TX6 0).1 (TX6 0).2.1 (TX6 0).2.2.1 ∈ lw_tbl := List.mem_append_right _ (List.mem_of_getElem? (i := 235) (by decide +kernel))
theorem lf_X8_188 : Cond.fieldLinkNest RX8 188 (TX6 0).1 (TX6 0).2.1 (TX6 0).2.2.1 "AskTrust" ∈ lw_tbl := List.mem_append_right _ (List.mem_of_getElem? (i := 236) (by decide +kernel))
theorem lf_X6_15 : Cond.fieldLink RX6 15 (TX6 1).1 (TX6 1).2.1 (TX6 1).2.2.1 ∈ lw_tbl := List.mem_append_right _ (List.mem_of_getElem? (i := 237) (by decide +kernel))
theorem lf_X6_18 : Cond.fieldLink RX6 18 (TX6 2).1 (TX6 2).2.1 (TX6 2).2.2.1 ∈ lw_tbl := List.mem_append_right _ (List.mem_of_getElem? (i := 238) (by decide +kernel))
theorem lf_X6_21 : Cond.fieldLink RX6 21 (TX6 3).1 (TX6 3).2.1 (TX6 3).2.2.1 ∈ lw_tbl := List.mem_append_right _ (List.mem_of_getElem? (i := 239) (by decide +kernel))
theorem lf_X6_24 : Cond.fieldLink RX6 24 (TX6 4).1 (TX6 4).2.1 (TX6 4).2.2.1 ∈ lw_tbl := List.mem_append_right _ (List.mem_of_getElem? (i := 240) (by decide +kernel))
theorem lf_X6_27 : Cond.fieldLink RX6 27 (TX6 5).1 (TX6 5).2.1 (TX6 5).2.2.1 ∈ lw_tbl := List.mem_append_right _ (List.mem_of_getElem? (i := 241) (by decide +kernel))
theorem lf_X6_30 : Cond.fieldLink RX6 30 (TX6 6).1 (TX6 6).2.1 (TX6 6).2.2.1 ∈ lw_tbl := List.mem_append_right _ (List.mem_of_getElem? (i := 242) (by decide +kernel))
theorem lf_X6_33 : Cond.fieldLink RX6 33 (TX6 7).1 (TX6 7).2.1 (TX6 7).2.2.1 ∈ lw_tbl := List.mem_append_right _ (List.mem_of_getElem? (i := 243) (by decide +kernel))
theorem lf_X6_36 : Cond.fieldLink RX6 36 (TX6 8).1 (TX6 8).2.1 (TX6 8).2.2.1 ∈ lw_tbl := List.mem_append_right _ (List.mem_of_getElem? (i := 244) (by decide +kernel))
theorem lf_X7_53 : Cond.fieldLinkNest RX7 53 (TX6 8).1 (TX6 8).2.1 (TX6 8).2.2.1 "AskTrust" ∈ lw_tbl := List.mem_append_right _ (List.mem_of_getElem? (i := 245) (by decide +kernel))
theorem lf_X1_49 : Cond.fieldLinkNest RX1 49 (TX6 8).1 (TX6 8).2.1 (TX6 8).2.2.1 "AskTrust" ∈ lw_tbl := List.mem_append_right _ (List.mem_of_getElem? (i := 246) (by decide +kernel))
theorem lf_X8_194 : Cond.fieldLinkNest RX8 194 (TX6 8).1 (TX6 8).2.1 (TX6 8).2.2.1 "AskTrust" ∈ lw_tbl := List.mem_append_right _ (List.mem_of_getElem? (i := 247) (by decide +kernel))
theorem lm_X8_102 : Cond.methodLink RX8 102 yX1_append ∈ lw_tbl := List.mem_append_right _ (List.mem_of_getElem? (i := 267) (by decide +kernel))
theorem lm_X1_21 : Cond.methodLink RX1 21 yX1_isFull ∈ lw_tbl := List.mem_append_right _ (List.mem_of_getElem? (i := 271) (by decide +kernel))
theorem lm_L_41 : Cond.methodLink RL 41 yX8_unrule ∈ lw_tbl := List.mem_append_right _ (List.mem_of_getElem? (i := 272) (by decide +kernel))
theorem lm_X8_109 : Cond.methodLink RX8 109 yX1_drop ∈ lw_tbl := List.mem_append_right _ (List.mem_of_getElem? (i := 276) (by decide +kernel))
theorem lm_X1_25 : Cond.methodLinkNest RX1 25 yX8_isBelow "AskTrust" ∈ lw_tbl := List.mem_append_right _ (List.mem_of_getElem? (i := 280) (by decide +kernel))
theorem lm_L_45 : Cond.methodLink RL 45 yX8_ask ∈ lw_tbl := List.mem_append_right _ (List.mem_of_getElem? (i := 281) (by decide +kernel))
theorem lm_X8_113 : Cond.methodLink RX8 113 yX8_isAsk ∈ lw_tbl := List.mem_append_right _ (List.mem_of_getElem? (i := 285) (by decide +kernel))
theorem lm_X8_116 : Cond.methodLink RX8 116 yX0_isFull ∈ lw_tbl := List.mem_append_right _ (List.mem_of_getElem? (i := 288) (by decide +kernel))
theorem lm_X8_117 : Cond.methodLink RX8 117 yX8_codeNow ∈ lw_tbl := List.mem_append_right _ (List.mem_of_getElem? (i := 292) (by decide +kernel))
theorem lm_X8_221 : Cond.methodLink RX8 221 yX5_valueOf ∈ lw_tbl := List.mem_append_right _ (List.mem_of_getElem? (i := 296) (by decide +kernel))
theorem lm_X8_121 : Cond.methodLink RX8 121 yX8_answerInForce ∈ lw_tbl := List.mem_append_right _ (List.mem_of_getElem? (i := 300) (by decide +kernel))
theorem lm_X8_207 : Cond.methodLink RX8 207 yX1_isLet ∈ lw_tbl := List.mem_append_right _ (List.mem_of_getElem? (i := 304) (by decide +kernel))
theorem lm_X1_41 : Cond.methodLink RX1 41 yX1_firstFit ∈ lw_tbl := List.mem_append_right _ (List.mem_of_getElem? (i := 308) (by decide +kernel))
theorem lm_X1_29 : Cond.methodLinkNest RX1 29 yX8_marksIn "AskTrust" ∈ lw_tbl := List.mem_append_right _ (List.mem_of_getElem? (i := 312) (by decide +kernel))
theorem lm_X1_33 : Cond.methodLink RX1 33 yX5_sureOf ∈ lw_tbl := List.mem_append_right _ (List.mem_of_getElem? (i := 315) (by decide +kernel))
theorem lm_X5_26 : Cond.methodLinkNest RX5 26 yX8_valueIn "AskTrust" ∈ lw_tbl := List.mem_append_right _ (List.mem_of_getElem? (i := 319) (by decide +kernel))
theorem lm_X1_38 : Cond.methodLink RX1 38 yX6_fits ∈ lw_tbl := List.mem_append_right _ (List.mem_of_getElem? (i := 322) (by decide +kernel))
theorem lm_X6_46 : Cond.methodLinkNest RX6 46 yX8_rolesIn "AskTrust" ∈ lw_tbl := List.mem_append_right _ (List.mem_of_getElem? (i := 326) (by decide +kernel))
theorem lm_X6_50 : Cond.methodLink RX6 50 yX6_fitsRoles ∈ lw_tbl := List.mem_append_right _ (List.mem_of_getElem? (i := 329) (by decide +kernel))
theorem lm_X6_53 : Cond.methodLinkNest RX6 53 yX8_marksIn "AskTrust" ∈ lw_tbl := List.mem_append_right _ (List.mem_of_getElem? (i := 333) (by decide +kernel))
theorem lm_X6_56 : Cond.methodLink RX6 56 yX6_fitsMarks ∈ lw_tbl := List.mem_append_right _ (List.mem_of_getElem? (i := 334) (by decide +kernel))
theorem lm_X6_66 : Cond.methodLinkNest RX6 66 yX8_valueIn "AskTrust" ∈ lw_tbl := List.mem_append_right _ (List.mem_of_getElem? (i := 338) (by decide +kernel))
theorem lm_X6_60 : Cond.methodLinkNest RX6 60 yX8_spotIn "AskTrust" ∈ lw_tbl := List.mem_append_right _ (List.mem_of_getElem? (i := 339) (by decide +kernel))
theorem lm_X6_63 : Cond.methodLink RX6 63 yX6_fitsSpot ∈ lw_tbl := List.mem_append_right _ (List.mem_of_getElem? (i := 342) (by decide +kernel))
theorem lm_X6_70 : Cond.methodLinkNest RX6 70 yX8_hasBit "AskTrust" ∈ lw_tbl := List.mem_append_right _ (List.mem_of_getElem? (i := 346) (by decide +kernel))
theorem lm_X1_45 : Cond.methodLink RX1 45 yX1_ruleAt ∈ lw_tbl := List.mem_append_right _ (List.mem_of_getElem? (i := 349) (by decide +kernel))
theorem lm_X8_225 : Cond.methodLink RX8 225 yX8_marksIn ∈ lw_tbl := List.mem_append_right _ (List.mem_of_getElem? (i := 353) (by decide +kernel))
theorem lm_X8_228 : Cond.methodLink RX8 228 yX8_valueIn ∈ lw_tbl := List.mem_append_right _ (List.mem_of_getElem? (i := 354) (by decide +kernel))
theorem lm_X8_124 : Cond.methodLink RX8 124 yX0_write ∈ lw_tbl := List.mem_append_right _ (List.mem_of_getElem? (i := 355) (by decide +kernel))
theorem lm_X0_20 : Cond.methodLink RX0 20 yX0_isFull ∈ lw_tbl := List.mem_append_right _ (List.mem_of_getElem? (i := 359) (by decide +kernel))
theorem lm_L_49 : Cond.methodLink RL 49 yX8_behalf ∈ lw_tbl := List.mem_append_right _ (List.mem_of_getElem? (i := 360) (by decide +kernel))
theorem lm_X8_128 : Cond.methodLink RX8 128 yJ9_max_7cf53 ∈ lw_tbl := List.mem_append_right _ (List.mem_of_getElem? (i := 364) (by decide +kernel))
theorem lm_L_54 : Cond.methodLink RL 54 yX8_why ∈ lw_tbl := List.mem_append_right _ (List.mem_of_getElem? (i := 367) (by decide +kernel))
theorem lm_X8_131 : Cond.methodLink RX8 131 yX1_firstFit ∈ lw_tbl := List.mem_append_right _ (List.mem_of_getElem? (i := 371) (by decide +kernel))
theorem lm_L_58 : Cond.methodLink RL 58 yX8_facts ∈ lw_tbl := List.mem_append_right _ (List.mem_of_getElem? (i := 372) (by decide +kernel))
theorem lm_L_62 : Cond.methodLink RL 62 yX8_judge ∈ lw_tbl := List.mem_append_right _ (List.mem_of_getElem? (i := 376) (by decide +kernel))
theorem lm_X8_135 : Cond.methodLink RX8 135 yX8_judgeAt ∈ lw_tbl := List.mem_append_right _ (List.mem_of_getElem? (i := 380) (by decide +kernel))
theorem lm_L_66 : Cond.methodLink RL 66 yX8_judged ∈ lw_tbl := List.mem_append_right _ (List.mem_of_getElem? (i := 384) (by decide +kernel))
theorem lm_X8_145 : Cond.methodLink RX8 145 yX2_keptFor ∈ lw_tbl := List.mem_append_right _ (List.mem_of_getElem? (i := 388) (by decide +kernel))
theorem lm_X8_149 : Cond.methodLink RX8 149 yX2_couldTell ∈ lw_tbl := List.mem_append_right _ (List.mem_of_getElem? (i := 392) (by decide +kernel))
theorem lm_X8_161 : Cond.methodLink RX8 161 yX2_keepMore ∈ lw_tbl := List.mem_append_right _ (List.mem_of_getElem? (i := 396) (by decide +kernel))
theorem lc_X2_32 : Cond.classLink RX2 32 RX3 ∈ lw_tbl := List.mem_append_right _ (List.mem_of_getElem? (i := 400) (by decide +kernel))
theorem lm_X2_39 : Cond.methodLink RX2 39 yX3_init ∈ lw_tbl := List.mem_append_right _ (List.mem_of_getElem? (i := 402) (by decide +kernel))
theorem lm_X3_1 : Cond.methodLink RX3 1 objectInit ∈ lw_tbl := List.mem_append_right _ (List.mem_of_getElem? (i := 405) (by decide +kernel))
theorem lf_X3_7 : Cond.fieldLink RX3 7 (TX3 0).1 (TX3 0).2.1 (TX3 0).2.2.1 ∈ lw_tbl := List.mem_append_right _ (List.mem_of_getElem? (i := 406) (by decide +kernel))
theorem lf_X2_31 : Cond.fieldLinkNest RX2 31 (TX3 0).1 (TX3 0).2.1 (TX3 0).2.2.1 "AskTrust" ∈ lw_tbl := List.mem_append_right _ (List.mem_of_getElem? (i := 407) (by decide +kernel))
theorem lf_X3_13 : Cond.fieldLink RX3 13 (TX3 1).1 (TX3 1).2.1 (TX3 1).2.2.1 ∈ lw_tbl := List.mem_append_right _ (List.mem_of_getElem? (i := 408) (by decide +kernel))
theorem lf_X2_36 : Cond.fieldLinkNest RX2 36 (TX3 1).1 (TX3 1).2.1 (TX3 1).2.2.1 "AskTrust" ∈ lw_tbl := List.mem_append_right _ (List.mem_of_getElem? (i := 409) (by decide +kernel))
theorem lf_X2_42 : Cond.fieldLinkNest RX2 42 (TX3 2).1 (TX3 2).2.1 (TX3 2).2.2.1 "AskTrust" ∈ lw_tbl := List.mem_append_right _ (List.mem_of_getElem? (i := 410) (by decide +kernel))
theorem lf_X8_164 : Cond.fieldLinkNest RX8 164 (TX3 2).1 (TX3 2).2.1 (TX3 2).2.2.1 "AskTrust" ∈ lw_tbl := List.mem_append_right _ (List.mem_of_getElem? (i := 411) (by decide +kernel))
theorem lf_X8_156 : Cond.fieldLinkNest RX8 156 (TX3 3).1 (TX3 3).2.1 (TX3 3).2.2.1 "AskTrust" ∈ lw_tbl := List.mem_append_right _ (List.mem_of_getElem? (i := 412) (by decide +kernel))
theorem lm_L_70 : Cond.methodLink RL 70 yX8_keeps ∈ lw_tbl := List.mem_append_right _ (List.mem_of_getElem? (i := 422) (by decide +kernel))
theorem lm_X8_167 : Cond.methodLink RX8 167 yX2_tellable ∈ lw_tbl := List.mem_append_right _ (List.mem_of_getElem? (i := 426) (by decide +kernel))
theorem lm_X2_45 : Cond.methodLink RX2 45 yX2_couldTell ∈ lw_tbl := List.mem_append_right _ (List.mem_of_getElem? (i := 430) (by decide +kernel))
theorem lm_L_74 : Cond.methodLink RL 74 yX8_law ∈ lw_tbl := List.mem_append_right _ (List.mem_of_getElem? (i := 431) (by decide +kernel))
theorem lm_X8_170 : Cond.methodLink RX8 170 yX4_canBe ∈ lw_tbl := List.mem_append_right _ (List.mem_of_getElem? (i := 435) (by decide +kernel))
theorem lm_X8_174 : Cond.methodLink RX8 174 yX7_sift ∈ lw_tbl := List.mem_append_right _ (List.mem_of_getElem? (i := 438) (by decide +kernel))
theorem lm_X7_28 : Cond.methodLink RX7 28 yJ7_fill_53178 ∈ lw_tbl := List.mem_append_right _ (List.mem_of_getElem? (i := 442) (by decide +kernel))
theorem lm_X7_34 : Cond.methodLink RX7 34 yX5_sureOf ∈ lw_tbl := List.mem_append_right _ (List.mem_of_getElem? (i := 445) (by decide +kernel))
theorem lm_X7_45 : Cond.methodLink RX7 45 yX1_ruleAt ∈ lw_tbl := List.mem_append_right _ (List.mem_of_getElem? (i := 446) (by decide +kernel))
theorem lm_X7_49 : Cond.methodLink RX7 49 yX7_siftBy ∈ lw_tbl := List.mem_append_right _ (List.mem_of_getElem? (i := 447) (by decide +kernel))
theorem lm_X7_58 : Cond.methodLink RX7 58 yX6_fitsRoles ∈ lw_tbl := List.mem_append_right _ (List.mem_of_getElem? (i := 451) (by decide +kernel))
theorem lm_X7_62 : Cond.methodLink RX7 62 yX6_fitsMarks ∈ lw_tbl := List.mem_append_right _ (List.mem_of_getElem? (i := 452) (by decide +kernel))
theorem lm_X7_66 : Cond.methodLink RX7 66 yX6_fitsSpot ∈ lw_tbl := List.mem_append_right _ (List.mem_of_getElem? (i := 453) (by decide +kernel))
theorem lc_X8_171 : Cond.classLink RX8 171 RX4 ∈ lw_tbl := List.mem_append_right _ (List.mem_of_getElem? (i := 454) (by decide +kernel))
theorem lm_X8_178 : Cond.methodLink RX8 178 yX4_init ∈ lw_tbl := List.mem_append_right _ (List.mem_of_getElem? (i := 456) (by decide +kernel))
theorem lm_X4_3 : Cond.methodLink RX4 3 objectInit ∈ lw_tbl := List.mem_append_right _ (List.mem_of_getElem? (i := 459) (by decide +kernel))
theorem lf_X4_9 : Cond.fieldLink RX4 9 (TX4 0).1 (TX4 0).2.1 (TX4 0).2.2.1 ∈ lw_tbl := List.mem_append_right _ (List.mem_of_getElem? (i := 460) (by decide +kernel))
theorem lf_X7_88 : Cond.fieldLinkNest RX7 88 (TX4 0).1 (TX4 0).2.1 (TX4 0).2.2.1 "AskTrust" ∈ lw_tbl := List.mem_append_right _ (List.mem_of_getElem? (i := 461) (by decide +kernel))
theorem lf_X4_15 : Cond.fieldLink RX4 15 (TX4 1).1 (TX4 1).2.1 (TX4 1).2.2.1 ∈ lw_tbl := List.mem_append_right _ (List.mem_of_getElem? (i := 462) (by decide +kernel))
theorem lf_X7_85 : Cond.fieldLinkNest RX7 85 (TX4 1).1 (TX4 1).2.1 (TX4 1).2.2.1 "AskTrust" ∈ lw_tbl := List.mem_append_right _ (List.mem_of_getElem? (i := 463) (by decide +kernel))
theorem lf_X4_18 : Cond.fieldLink RX4 18 (TX4 2).1 (TX4 2).2.1 (TX4 2).2.2.1 ∈ lw_tbl := List.mem_append_right _ (List.mem_of_getElem? (i := 464) (by decide +kernel))
theorem lf_X4_21 : Cond.fieldLink RX4 21 (TX4 3).1 (TX4 3).2.1 (TX4 3).2.2.1 ∈ lw_tbl := List.mem_append_right _ (List.mem_of_getElem? (i := 465) (by decide +kernel))
theorem lf_X4_24 : Cond.fieldLink RX4 24 (TX4 4).1 (TX4 4).2.1 (TX4 4).2.2.1 ∈ lw_tbl := List.mem_append_right _ (List.mem_of_getElem? (i := 466) (by decide +kernel))
theorem lm_X8_180 : Cond.methodLink RX8 180 yX7_leastBreaking ∈ lw_tbl := List.mem_append_right _ (List.mem_of_getElem? (i := 478) (by decide +kernel))
theorem lm_X7_69 : Cond.methodLink RX7 69 yX4_missesRole ∈ lw_tbl := List.mem_append_right _ (List.mem_of_getElem? (i := 482) (by decide +kernel))
theorem lm_X4_27 : Cond.methodLinkNest RX4 27 yX8_hasBit "AskTrust" ∈ lw_tbl := List.mem_append_right _ (List.mem_of_getElem? (i := 486) (by decide +kernel))
theorem lm_X7_74 : Cond.methodLink RX7 74 yX4_missesMark ∈ lw_tbl := List.mem_append_right _ (List.mem_of_getElem? (i := 487) (by decide +kernel))
theorem lm_X4_31 : Cond.methodLinkNest RX4 31 yX8_valueIn "AskTrust" ∈ lw_tbl := List.mem_append_right _ (List.mem_of_getElem? (i := 491) (by decide +kernel))
theorem lm_X7_77 : Cond.methodLink RX7 77 yX7_leastLetSpot ∈ lw_tbl := List.mem_append_right _ (List.mem_of_getElem? (i := 492) (by decide +kernel))
theorem lm_X7_81 : Cond.methodLink RX7 81 yX7_codeOf ∈ lw_tbl := List.mem_append_right _ (List.mem_of_getElem? (i := 496) (by decide +kernel))
theorem lm_L_78 : Cond.methodLink RL 78 yX8_idle ∈ lw_tbl := List.mem_append_right _ (List.mem_of_getElem? (i := 499) (by decide +kernel))
theorem lm_X8_184 : Cond.methodLink RX8 184 yX1_ruleAt ∈ lw_tbl := List.mem_append_right _ (List.mem_of_getElem? (i := 503) (by decide +kernel))
theorem lm_X8_191 : Cond.methodLink RX8 191 yX7_isEverFirst ∈ lw_tbl := List.mem_append_right _ (List.mem_of_getElem? (i := 504) (by decide +kernel))
theorem lm_X7_91 : Cond.methodLink RX7 91 yX7_isAnyJust ∈ lw_tbl := List.mem_append_right _ (List.mem_of_getElem? (i := 508) (by decide +kernel))
theorem lm_L_82 : Cond.methodLink RL 82 yX8_quarrel ∈ lw_tbl := List.mem_append_right _ (List.mem_of_getElem? (i := 512) (by decide +kernel))
theorem lm_X8_197 : Cond.methodLink RX8 197 yX7_leastFittingAll ∈ lw_tbl := List.mem_append_right _ (List.mem_of_getElem? (i := 516) (by decide +kernel))
theorem lm_X7_94 : Cond.methodLink RX7 94 yX7_leastWithAll ∈ lw_tbl := List.mem_append_right _ (List.mem_of_getElem? (i := 520) (by decide +kernel))
theorem lm_L_87 : Cond.methodLink RL 87 yX8_log ∈ lw_tbl := List.mem_append_right _ (List.mem_of_getElem? (i := 523) (by decide +kernel))
theorem lm_X8_200 : Cond.methodLink RX8 200 yX0_read ∈ lw_tbl := List.mem_append_right _ (List.mem_of_getElem? (i := 527) (by decide +kernel))
theorem lm_X0_27 : Cond.methodLinkNest RX0 27 yX8_isBelow "AskTrust" ∈ lw_tbl := List.mem_append_right _ (List.mem_of_getElem? (i := 531) (by decide +kernel))
theorem lm_L_91 : Cond.methodLink RL 91 yX8_lost ∈ lw_tbl := List.mem_append_right _ (List.mem_of_getElem? (i := 532) (by decide +kernel))
theorem lm_L_96 : Cond.methodLink RL 96 yX8_move ∈ lw_tbl := List.mem_append_right _ (List.mem_of_getElem? (i := 536) (by decide +kernel))
theorem lm_X8_211 : Cond.methodLink RX8 211 yX8_lost ∈ lw_tbl := List.mem_append_right _ (List.mem_of_getElem? (i := 540) (by decide +kernel))
theorem lm_L_101 : Cond.methodLink RL 101 yX8_count ∈ lw_tbl := List.mem_append_right _ (List.mem_of_getElem? (i := 541) (by decide +kernel))
theorem lc_L_10 : Cond.classLink RL 10 RX9 ∈ lw_tbl := List.mem_append_right _ (List.mem_of_getElem? (i := 545) (by decide +kernel))
theorem lm_L_12 : Cond.methodLink RL 12 yX9_init ∈ lw_tbl := List.mem_append_right _ (List.mem_of_getElem? (i := 547) (by decide +kernel))
theorem lm_X9_1 : Cond.methodLink RX9 1 objectInit ∈ lw_tbl := List.mem_append_right _ (List.mem_of_getElem? (i := 550) (by decide +kernel))
theorem lk_X9_49 : Cond.constant RX9 49 (40000) ∈ lw_tbl := List.mem_append_right _ (List.mem_of_getElem? (i := 551) (by decide +kernel))
theorem lk_X9_75 : Cond.constant RX9 75 (-100000) ∈ lw_tbl := List.mem_append_right _ (List.mem_of_getElem? (i := 552) (by decide +kernel))
theorem lm_X9_76 : Cond.methodLink RX9 76 yX9_forgets ∈ lw_tbl := List.mem_append_right _ (List.mem_of_getElem? (i := 553) (by decide +kernel))
theorem lf_X9_84 : Cond.fieldLink RX9 84 (TX9 0).1 (TX9 0).2.1 (TX9 0).2.2.1 ∈ lw_tbl := List.mem_append_right _ (List.mem_of_getElem? (i := 557) (by decide +kernel))
theorem lf_X9_9 : Cond.fieldLink RX9 9 (TX9 1).1 (TX9 1).2.1 (TX9 1).2.2.1 ∈ lw_tbl := List.mem_append_right _ (List.mem_of_getElem? (i := 558) (by decide +kernel))
theorem lf_X9_13 : Cond.fieldLink RX9 13 (TX9 2).1 (TX9 2).2.1 (TX9 2).2.2.1 ∈ lw_tbl := List.mem_append_right _ (List.mem_of_getElem? (i := 559) (by decide +kernel))
theorem lf_X9_16 : Cond.fieldLink RX9 16 (TX9 3).1 (TX9 3).2.1 (TX9 3).2.2.1 ∈ lw_tbl := List.mem_append_right _ (List.mem_of_getElem? (i := 560) (by decide +kernel))
theorem lf_X9_19 : Cond.fieldLink RX9 19 (TX9 4).1 (TX9 4).2.1 (TX9 4).2.2.1 ∈ lw_tbl := List.mem_append_right _ (List.mem_of_getElem? (i := 561) (by decide +kernel))
theorem lf_X9_22 : Cond.fieldLink RX9 22 (TX9 5).1 (TX9 5).2.1 (TX9 5).2.2.1 ∈ lw_tbl := List.mem_append_right _ (List.mem_of_getElem? (i := 562) (by decide +kernel))
theorem lf_X9_25 : Cond.fieldLink RX9 25 (TX9 6).1 (TX9 6).2.1 (TX9 6).2.2.1 ∈ lw_tbl := List.mem_append_right _ (List.mem_of_getElem? (i := 563) (by decide +kernel))
theorem lf_X9_28 : Cond.fieldLink RX9 28 (TX9 7).1 (TX9 7).2.1 (TX9 7).2.2.1 ∈ lw_tbl := List.mem_append_right _ (List.mem_of_getElem? (i := 564) (by decide +kernel))
theorem lf_X9_31 : Cond.fieldLink RX9 31 (TX9 8).1 (TX9 8).2.1 (TX9 8).2.2.1 ∈ lw_tbl := List.mem_append_right _ (List.mem_of_getElem? (i := 565) (by decide +kernel))
theorem lf_X9_34 : Cond.fieldLink RX9 34 (TX9 9).1 (TX9 9).2.1 (TX9 9).2.2.1 ∈ lw_tbl := List.mem_append_right _ (List.mem_of_getElem? (i := 566) (by decide +kernel))
theorem lf_X9_37 : Cond.fieldLink RX9 37 (TX9 10).1 (TX9 10).2.1 (TX9 10).2.2.1 ∈ lw_tbl := List.mem_append_right _ (List.mem_of_getElem? (i := 567) (by decide +kernel))
theorem lf_X9_40 : Cond.fieldLink RX9 40 (TX9 11).1 (TX9 11).2.1 (TX9 11).2.2.1 ∈ lw_tbl := List.mem_append_right _ (List.mem_of_getElem? (i := 568) (by decide +kernel))
theorem lf_X9_134 : Cond.fieldLink RX9 134 (TX9 12).1 (TX9 12).2.1 (TX9 12).2.2.1 ∈ lw_tbl := List.mem_append_right _ (List.mem_of_getElem? (i := 569) (by decide +kernel))
theorem lf_X9_43 : Cond.fieldLink RX9 43 (TX9 13).1 (TX9 13).2.1 (TX9 13).2.2.1 ∈ lw_tbl := List.mem_append_right _ (List.mem_of_getElem? (i := 570) (by decide +kernel))
theorem lf_X9_46 : Cond.fieldLink RX9 46 (TX9 14).1 (TX9 14).2.1 (TX9 14).2.2.1 ∈ lw_tbl := List.mem_append_right _ (List.mem_of_getElem? (i := 571) (by decide +kernel))
theorem lf_X9_50 : Cond.fieldLink RX9 50 (TX9 15).1 (TX9 15).2.1 (TX9 15).2.2.1 ∈ lw_tbl := List.mem_append_right _ (List.mem_of_getElem? (i := 572) (by decide +kernel))
theorem lf_X9_53 : Cond.fieldLink RX9 53 (TX9 16).1 (TX9 16).2.1 (TX9 16).2.2.1 ∈ lw_tbl := List.mem_append_right _ (List.mem_of_getElem? (i := 573) (by decide +kernel))
theorem lf_X9_56 : Cond.fieldLink RX9 56 (TX9 17).1 (TX9 17).2.1 (TX9 17).2.2.1 ∈ lw_tbl := List.mem_append_right _ (List.mem_of_getElem? (i := 574) (by decide +kernel))
theorem lf_X9_122 : Cond.fieldLink RX9 122 (TX9 18).1 (TX9 18).2.1 (TX9 18).2.2.1 ∈ lw_tbl := List.mem_append_right _ (List.mem_of_getElem? (i := 575) (by decide +kernel))
theorem lf_X9_60 : Cond.fieldLink RX9 60 (TX9 19).1 (TX9 19).2.1 (TX9 19).2.2.1 ∈ lw_tbl := List.mem_append_right _ (List.mem_of_getElem? (i := 576) (by decide +kernel))
theorem lf_X9_63 : Cond.fieldLink RX9 63 (TX9 20).1 (TX9 20).2.1 (TX9 20).2.2.1 ∈ lw_tbl := List.mem_append_right _ (List.mem_of_getElem? (i := 577) (by decide +kernel))
theorem lf_X9_66 : Cond.fieldLink RX9 66 (TX9 21).1 (TX9 21).2.1 (TX9 21).2.2.1 ∈ lw_tbl := List.mem_append_right _ (List.mem_of_getElem? (i := 578) (by decide +kernel))
theorem lf_X9_69 : Cond.fieldLink RX9 69 (TX9 22).1 (TX9 22).2.1 (TX9 22).2.2.1 ∈ lw_tbl := List.mem_append_right _ (List.mem_of_getElem? (i := 579) (by decide +kernel))
theorem lf_X9_72 : Cond.fieldLink RX9 72 (TX9 23).1 (TX9 23).2.1 (TX9 23).2.2.1 ∈ lw_tbl := List.mem_append_right _ (List.mem_of_getElem? (i := 580) (by decide +kernel))
theorem lf_X9_128 : Cond.fieldLink RX9 128 (TX9 24).1 (TX9 24).2.1 (TX9 24).2.2.1 ∈ lw_tbl := List.mem_append_right _ (List.mem_of_getElem? (i := 581) (by decide +kernel))
theorem lf_X9_147 : Cond.fieldLink RX9 147 (TX9 25).1 (TX9 25).2.1 (TX9 25).2.2.1 ∈ lw_tbl := List.mem_append_right _ (List.mem_of_getElem? (i := 582) (by decide +kernel))
theorem ac_boolean : Cond.arrayClass .boolean ∈ lw_tbl := List.mem_append_right _ (List.mem_of_getElem? (i := 636) (by decide +kernel))
theorem lm_L_17 : Cond.methodLink RL 17 yX9_go ∈ lw_tbl := List.mem_append_right _ (List.mem_of_getElem? (i := 637) (by decide +kernel))
theorem lm_X9_80 : Cond.methodLink RX9 80 yX9_in ∈ lw_tbl := List.mem_append_right _ (List.mem_of_getElem? (i := 641) (by decide +kernel))
theorem lm_L_22 : Cond.methodLink RL 22 yX9_roles ∈ lw_tbl := List.mem_append_right _ (List.mem_of_getElem? (i := 644) (by decide +kernel))
theorem lm_X9_88 : Cond.methodLink RX9 88 yX9_isOne ∈ lw_tbl := List.mem_append_right _ (List.mem_of_getElem? (i := 648) (by decide +kernel))
theorem lm_X9_92 : Cond.methodLink RX9 92 yX9_changes ∈ lw_tbl := List.mem_append_right _ (List.mem_of_getElem? (i := 651) (by decide +kernel))
theorem lm_L_27 : Cond.methodLink RL 27 yX9_mark ∈ lw_tbl := List.mem_append_right _ (List.mem_of_getElem? (i := 655) (by decide +kernel))
theorem lm_L_31 : Cond.methodLink RL 31 yX9_thing ∈ lw_tbl := List.mem_append_right _ (List.mem_of_getElem? (i := 659) (by decide +kernel))
theorem lm_L_35 : Cond.methodLink RL 35 yX9_sort ∈ lw_tbl := List.mem_append_right _ (List.mem_of_getElem? (i := 663) (by decide +kernel))
theorem lm_L_40 : Cond.methodLink RL 40 yX9_rule ∈ lw_tbl := List.mem_append_right _ (List.mem_of_getElem? (i := 667) (by decide +kernel))
theorem lm_X9_95 : Cond.methodLink RX9 95 yX9_isHeap ∈ lw_tbl := List.mem_append_right _ (List.mem_of_getElem? (i := 671) (by decide +kernel))
theorem lm_L_44 : Cond.methodLink RL 44 yX9_unrule ∈ lw_tbl := List.mem_append_right _ (List.mem_of_getElem? (i := 674) (by decide +kernel))
theorem lm_L_48 : Cond.methodLink RL 48 yX9_ask ∈ lw_tbl := List.mem_append_right _ (List.mem_of_getElem? (i := 678) (by decide +kernel))
theorem lm_X9_131 : Cond.methodLink RX9 131 yX9_isAsk ∈ lw_tbl := List.mem_append_right _ (List.mem_of_getElem? (i := 682) (by decide +kernel))
theorem lm_X9_125 : Cond.methodLink RX9 125 yX9_factsOf ∈ lw_tbl := List.mem_append_right _ (List.mem_of_getElem? (i := 685) (by decide +kernel))
theorem lm_X9_98 : Cond.methodLink RX9 98 yX9_value ∈ lw_tbl := List.mem_append_right _ (List.mem_of_getElem? (i := 689) (by decide +kernel))
theorem lm_X9_137 : Cond.methodLink RX9 137 yX9_answer ∈ lw_tbl := List.mem_append_right _ (List.mem_of_getElem? (i := 693) (by decide +kernel))
theorem lm_X9_119 : Cond.methodLink RX9 119 yX9_isLet ∈ lw_tbl := List.mem_append_right _ (List.mem_of_getElem? (i := 697) (by decide +kernel))
theorem lm_X9_116 : Cond.methodLink RX9 116 yX9_decides ∈ lw_tbl := List.mem_append_right _ (List.mem_of_getElem? (i := 701) (by decide +kernel))
theorem lm_X9_112 : Cond.methodLink RX9 112 yX9_fits ∈ lw_tbl := List.mem_append_right _ (List.mem_of_getElem? (i := 705) (by decide +kernel))
theorem lm_X9_105 : Cond.methodLink RX9 105 yX9_rolesOf ∈ lw_tbl := List.mem_append_right _ (List.mem_of_getElem? (i := 709) (by decide +kernel))
theorem lm_X9_102 : Cond.methodLink RX9 102 yX9_markOf ∈ lw_tbl := List.mem_append_right _ (List.mem_of_getElem? (i := 712) (by decide +kernel))
theorem lm_X9_109 : Cond.methodLink RX9 109 yX9_sure ∈ lw_tbl := List.mem_append_right _ (List.mem_of_getElem? (i := 715) (by decide +kernel))
theorem lm_X9_140 : Cond.methodLink RX9 140 yX9_logs ∈ lw_tbl := List.mem_append_right _ (List.mem_of_getElem? (i := 719) (by decide +kernel))
theorem lm_L_53 : Cond.methodLink RL 53 yX9_behalf ∈ lw_tbl := List.mem_append_right _ (List.mem_of_getElem? (i := 723) (by decide +kernel))
theorem lm_L_57 : Cond.methodLink RL 57 yX9_why ∈ lw_tbl := List.mem_append_right _ (List.mem_of_getElem? (i := 727) (by decide +kernel))
theorem lm_L_61 : Cond.methodLink RL 61 yX9_facts ∈ lw_tbl := List.mem_append_right _ (List.mem_of_getElem? (i := 731) (by decide +kernel))
theorem lm_L_65 : Cond.methodLink RL 65 yX9_judge ∈ lw_tbl := List.mem_append_right _ (List.mem_of_getElem? (i := 735) (by decide +kernel))
theorem lm_X9_144 : Cond.methodLink RX9 144 yX9_isJudge ∈ lw_tbl := List.mem_append_right _ (List.mem_of_getElem? (i := 739) (by decide +kernel))
theorem lm_L_69 : Cond.methodLink RL 69 yX9_judged ∈ lw_tbl := List.mem_append_right _ (List.mem_of_getElem? (i := 742) (by decide +kernel))
theorem lm_L_73 : Cond.methodLink RL 73 yX9_keeps ∈ lw_tbl := List.mem_append_right _ (List.mem_of_getElem? (i := 746) (by decide +kernel))
theorem lm_L_77 : Cond.methodLink RL 77 yX9_law ∈ lw_tbl := List.mem_append_right _ (List.mem_of_getElem? (i := 750) (by decide +kernel))
theorem lk_X9_150 : Cond.constant RX9 150 (81920) ∈ lw_tbl := List.mem_append_right _ (List.mem_of_getElem? (i := 754) (by decide +kernel))
theorem lm_L_81 : Cond.methodLink RL 81 yX9_idle ∈ lw_tbl := List.mem_append_right _ (List.mem_of_getElem? (i := 755) (by decide +kernel))
theorem lm_X9_151 : Cond.methodLink RX9 151 yX9_isRule ∈ lw_tbl := List.mem_append_right _ (List.mem_of_getElem? (i := 759) (by decide +kernel))
theorem lm_L_86 : Cond.methodLink RL 86 yX9_quarrel ∈ lw_tbl := List.mem_append_right _ (List.mem_of_getElem? (i := 763) (by decide +kernel))
theorem lm_L_90 : Cond.methodLink RL 90 yX9_log ∈ lw_tbl := List.mem_append_right _ (List.mem_of_getElem? (i := 767) (by decide +kernel))
theorem lm_L_95 : Cond.methodLink RL 95 yX9_lost ∈ lw_tbl := List.mem_append_right _ (List.mem_of_getElem? (i := 771) (by decide +kernel))
theorem lm_L_100 : Cond.methodLink RL 100 yX9_move ∈ lw_tbl := List.mem_append_right _ (List.mem_of_getElem? (i := 775) (by decide +kernel))
theorem lm_X9_154 : Cond.methodLink RX9 154 yX9_lost ∈ lw_tbl := List.mem_append_right _ (List.mem_of_getElem? (i := 779) (by decide +kernel))
theorem lm_L_104 : Cond.methodLink RL 104 yX9_count ∈ lw_tbl := List.mem_append_right _ (List.mem_of_getElem? (i := 780) (by decide +kernel))
