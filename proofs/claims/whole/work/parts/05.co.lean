theorem h_acopy : Cond.native arraycopyName ∈ TT ∧ Cond.static arraycopyName ∈ TT ∧ Cond.initialized "java/lang/System" ∈ TT := ⟨in_T (in_2 (List.mem_of_getElem? (i := 126) rfl)) rfl, in_T (in_2 (List.mem_of_getElem? (i := 125) rfl)) rfl, in_T (in_1 (List.mem_of_getElem? (i := 11) rfl)) rfl⟩
theorem co_M_in : CO y_M_in b_M_in 3 (some (.boolean)) 3 := ⟨in_T (in_3 (List.mem_of_getElem? (i := 173) rfl)) rfl, in_T (in_1 (List.mem_of_getElem? (i := 9) rfl)) rfl, by decide +kernel⟩
theorem cos_M_in : Cond.static y_M_in ∈ TT := in_T (in_3 (List.mem_of_getElem? (i := 172) rfl)) rfl
theorem co_M_type : CO y_M_type b_M_type 5 (some (.boolean)) 2 := ⟨in_T (in_3 (List.mem_of_getElem? (i := 170) rfl)) rfl, in_T (in_1 (List.mem_of_getElem? (i := 9) rfl)) rfl, by decide +kernel⟩
theorem cov_M_type : COV y_M_type := ⟨in_T (in_3 (List.mem_of_getElem? (i := 168) rfl)) rfl, in_T (in_3 (List.mem_of_getElem? (i := 169) rfl)) rfl⟩
theorem co_M_item : CO y_M_item b_M_item 3 none 2 := ⟨in_T (in_3 (List.mem_of_getElem? (i := 185) rfl)) rfl, in_T (in_1 (List.mem_of_getElem? (i := 9) rfl)) rfl, by decide +kernel⟩
theorem cov_M_item : COV y_M_item := ⟨in_T (in_3 (List.mem_of_getElem? (i := 184) rfl)) rfl, in_P (List.mem_of_getElem? (i := 23) rfl) rfl⟩
theorem co_M_setByte : CO y_M_setByte b_M_setByte 6 none 3 := ⟨in_T (in_3 (List.mem_of_getElem? (i := 208) rfl)) rfl, in_T (in_1 (List.mem_of_getElem? (i := 9) rfl)) rfl, by decide +kernel⟩
theorem cov_M_setByte : COV y_M_setByte := ⟨in_T (in_3 (List.mem_of_getElem? (i := 207) rfl)) rfl, in_P (List.mem_of_getElem? (i := 27) rfl) rfl⟩
theorem co_M_hasByte : CO y_M_hasByte b_M_hasByte 3 (some (.boolean)) 2 := ⟨in_T (in_4 (List.mem_of_getElem? (i := 12) rfl)) rfl, in_T (in_1 (List.mem_of_getElem? (i := 9) rfl)) rfl, by decide +kernel⟩
theorem cov_M_hasByte : COV y_M_hasByte := ⟨in_T (in_4 (List.mem_of_getElem? (i := 11) rfl)) rfl, in_P (List.mem_of_getElem? (i := 34) rfl) rfl⟩
theorem co_M_newPiece : CO y_M_newPiece b_M_newPiece 3 (some (.int)) 1 := ⟨in_T (in_3 (List.mem_of_getElem? (i := 200) rfl)) rfl, in_T (in_1 (List.mem_of_getElem? (i := 9) rfl)) rfl, by decide +kernel⟩
theorem cov_M_newPiece : COV y_M_newPiece := ⟨in_T (in_3 (List.mem_of_getElem? (i := 199) rfl)) rfl, in_P (List.mem_of_getElem? (i := 26) rfl) rfl⟩
theorem co_M_isElement : CO y_M_isElement b_M_isElement 1 (some (.boolean)) 1 := ⟨in_T (in_3 (List.mem_of_getElem? (i := 204) rfl)) rfl, in_T (in_1 (List.mem_of_getElem? (i := 9) rfl)) rfl, by decide +kernel⟩
theorem cos_M_isElement : Cond.static y_M_isElement ∈ TT := in_T (in_3 (List.mem_of_getElem? (i := 203) rfl)) rfl
theorem co_M_charAt : CO y_M_charAt b_M_charAt 4 (some (.int)) 4 := ⟨in_T (in_3 (List.mem_of_getElem? (i := 196) rfl)) rfl, in_T (in_1 (List.mem_of_getElem? (i := 9) rfl)) rfl, by decide +kernel⟩
theorem cos_M_charAt : Cond.static y_M_charAt ∈ TT := in_T (in_3 (List.mem_of_getElem? (i := 195) rfl)) rfl
theorem co_M_readClass : CO y_M_readClass b_M_readClass 11 (some (.int)) 4 := ⟨in_T (in_3 (List.mem_of_getElem? (i := 193) rfl)) rfl, in_T (in_1 (List.mem_of_getElem? (i := 9) rfl)) rfl, by decide +kernel⟩
theorem cov_M_readClass : COV y_M_readClass := ⟨in_T (in_3 (List.mem_of_getElem? (i := 192) rfl)) rfl, in_P (List.mem_of_getElem? (i := 25) rfl) rfl⟩
theorem co_M_readPiece : CO y_M_readPiece b_M_readPiece 9 (some (.int)) 4 := ⟨in_T (in_3 (List.mem_of_getElem? (i := 189) rfl)) rfl, in_T (in_1 (List.mem_of_getElem? (i := 9) rfl)) rfl, by decide +kernel⟩
theorem cov_M_readPiece : COV y_M_readPiece := ⟨in_T (in_3 (List.mem_of_getElem? (i := 188) rfl)) rfl, in_P (List.mem_of_getElem? (i := 24) rfl) rfl⟩
theorem co_M_read : CO y_M_read b_M_read 8 (some (.int)) 3 := ⟨in_T (in_3 (List.mem_of_getElem? (i := 181) rfl)) rfl, in_T (in_1 (List.mem_of_getElem? (i := 9) rfl)) rfl, by decide +kernel⟩
theorem cov_M_read : COV y_M_read := ⟨in_T (in_3 (List.mem_of_getElem? (i := 180) rfl)) rfl, in_P (List.mem_of_getElem? (i := 22) rfl) rfl⟩
theorem co_M_mark : CO y_M_mark b_M_mark 3 (some (.int)) 2 := ⟨in_T (in_4 (List.mem_of_getElem? (i := 0) rfl)) rfl, in_T (in_1 (List.mem_of_getElem? (i := 9) rfl)) rfl, by decide +kernel⟩
theorem cov_M_mark : COV y_M_mark := ⟨in_T (in_3 (List.mem_of_getElem? (i := 239) rfl)) rfl, in_P (List.mem_of_getElem? (i := 31) rfl) rfl⟩
theorem co_M_spread : CO y_M_spread b_M_spread 6 none 1 := ⟨in_T (in_3 (List.mem_of_getElem? (i := 236) rfl)) rfl, in_T (in_1 (List.mem_of_getElem? (i := 9) rfl)) rfl, by decide +kernel⟩
theorem cov_M_spread : COV y_M_spread := ⟨in_T (in_3 (List.mem_of_getElem? (i := 235) rfl)) rfl, in_P (List.mem_of_getElem? (i := 30) rfl) rfl⟩
theorem co_M_marked : CO y_M_marked b_M_marked 4 (some (.long)) 0 := ⟨in_T (in_4 (List.mem_of_getElem? (i := 4) rfl)) rfl, in_T (in_1 (List.mem_of_getElem? (i := 9) rfl)) rfl, by decide +kernel⟩
theorem cov_M_marked : COV y_M_marked := ⟨in_T (in_4 (List.mem_of_getElem? (i := 3) rfl)) rfl, in_P (List.mem_of_getElem? (i := 32) rfl) rfl⟩
theorem co_M_lay : CO y_M_lay b_M_lay 4 none 1 := ⟨in_T (in_3 (List.mem_of_getElem? (i := 232) rfl)) rfl, in_T (in_1 (List.mem_of_getElem? (i := 9) rfl)) rfl, by decide +kernel⟩
theorem cov_M_lay : COV y_M_lay := ⟨in_T (in_3 (List.mem_of_getElem? (i := 231) rfl)) rfl, in_P (List.mem_of_getElem? (i := 29) rfl) rfl⟩
theorem co_M_allPieces : CO y_M_allPieces b_M_allPieces 3 (some (.int)) 0 := ⟨in_T (in_3 (List.mem_of_getElem? (i := 212) rfl)) rfl, in_T (in_1 (List.mem_of_getElem? (i := 9) rfl)) rfl, by decide +kernel⟩
theorem cov_M_allPieces : COV y_M_allPieces := ⟨in_T (in_3 (List.mem_of_getElem? (i := 211) rfl)) rfl, in_P (List.mem_of_getElem? (i := 28) rfl) rfl⟩
theorem co_M_rule : CO y_M_rule b_M_rule 8 (some (.int)) 2 := ⟨in_T (in_3 (List.mem_of_getElem? (i := 177) rfl)) rfl, in_T (in_1 (List.mem_of_getElem? (i := 9) rfl)) rfl, by decide +kernel⟩
theorem cov_M_rule : COV y_M_rule := ⟨in_T (in_3 (List.mem_of_getElem? (i := 175) rfl)) rfl, in_T (in_3 (List.mem_of_getElem? (i := 176) rfl)) rfl⟩
theorem co_M_drop : CO y_M_drop b_M_drop 4 (some (.boolean)) 1 := ⟨in_T (in_3 (List.mem_of_getElem? (i := 216) rfl)) rfl, in_T (in_1 (List.mem_of_getElem? (i := 9) rfl)) rfl, by decide +kernel⟩
theorem cov_M_drop : COV y_M_drop := ⟨in_T (in_3 (List.mem_of_getElem? (i := 214) rfl)) rfl, in_T (in_3 (List.mem_of_getElem? (i := 215) rfl)) rfl⟩
theorem co_M_rules : CO y_M_rules b_M_rules 1 (some (.int)) 0 := ⟨in_T (in_3 (List.mem_of_getElem? (i := 220) rfl)) rfl, in_T (in_1 (List.mem_of_getElem? (i := 9) rfl)) rfl, by decide +kernel⟩
theorem cov_M_rules : COV y_M_rules := ⟨in_T (in_3 (List.mem_of_getElem? (i := 218) rfl)) rfl, in_T (in_3 (List.mem_of_getElem? (i := 219) rfl)) rfl⟩
theorem co_M_pieces : CO y_M_pieces b_M_pieces 2 (some (.int)) 1 := ⟨in_T (in_3 (List.mem_of_getElem? (i := 224) rfl)) rfl, in_T (in_1 (List.mem_of_getElem? (i := 9) rfl)) rfl, by decide +kernel⟩
theorem cov_M_pieces : COV y_M_pieces := ⟨in_T (in_3 (List.mem_of_getElem? (i := 222) rfl)) rfl, in_T (in_3 (List.mem_of_getElem? (i := 223) rfl)) rfl⟩
theorem co_M_classify : CO y_M_classify b_M_classify 6 none 0 := ⟨in_T (in_4 (List.mem_of_getElem? (i := 8) rfl)) rfl, in_T (in_1 (List.mem_of_getElem? (i := 9) rfl)) rfl, by decide +kernel⟩
theorem cov_M_classify : COV y_M_classify := ⟨in_T (in_4 (List.mem_of_getElem? (i := 7) rfl)) rfl, in_P (List.mem_of_getElem? (i := 33) rfl) rfl⟩
theorem co_M_permits : CO y_M_permits b_M_permits 7 (some (.int)) 1 := ⟨in_T (in_4 (List.mem_of_getElem? (i := 20) rfl)) rfl, in_T (in_1 (List.mem_of_getElem? (i := 9) rfl)) rfl, by decide +kernel⟩
theorem cov_M_permits : COV y_M_permits := ⟨in_T (in_4 (List.mem_of_getElem? (i := 19) rfl)) rfl, in_P (List.mem_of_getElem? (i := 36) rfl) rfl⟩
theorem co_M_led : CO y_M_led b_M_led 8 (some (.long)) 2 := ⟨in_T (in_4 (List.mem_of_getElem? (i := 24) rfl)) rfl, in_T (in_1 (List.mem_of_getElem? (i := 9) rfl)) rfl, by decide +kernel⟩
theorem cov_M_led : COV y_M_led := ⟨in_T (in_4 (List.mem_of_getElem? (i := 23) rfl)) rfl, in_P (List.mem_of_getElem? (i := 37) rfl) rfl⟩
theorem co_M_numbered : CO y_M_numbered b_M_numbered 4 (some (.int)) 1 := ⟨in_T (in_4 (List.mem_of_getElem? (i := 28) rfl)) rfl, in_T (in_1 (List.mem_of_getElem? (i := 9) rfl)) rfl, by decide +kernel⟩
theorem cov_M_numbered : COV y_M_numbered := ⟨in_T (in_4 (List.mem_of_getElem? (i := 27) rfl)) rfl, in_P (List.mem_of_getElem? (i := 38) rfl) rfl⟩
theorem co_M_findSets : CO y_M_findSets b_M_findSets 4 (some (.boolean)) 1 := ⟨in_T (in_4 (List.mem_of_getElem? (i := 16) rfl)) rfl, in_T (in_1 (List.mem_of_getElem? (i := 9) rfl)) rfl, by decide +kernel⟩
theorem cov_M_findSets : COV y_M_findSets := ⟨in_T (in_4 (List.mem_of_getElem? (i := 15) rfl)) rfl, in_P (List.mem_of_getElem? (i := 35) rfl) rfl⟩
theorem co_M_isAlike : CO y_M_isAlike b_M_isAlike 5 (some (.boolean)) 2 := ⟨in_T (in_4 (List.mem_of_getElem? (i := 36) rfl)) rfl, in_T (in_1 (List.mem_of_getElem? (i := 9) rfl)) rfl, by decide +kernel⟩
theorem cov_M_isAlike : COV y_M_isAlike := ⟨in_T (in_4 (List.mem_of_getElem? (i := 35) rfl)) rfl, in_P (List.mem_of_getElem? (i := 40) rfl) rfl⟩
theorem co_M_findKinds : CO y_M_findKinds b_M_findKinds 5 none 0 := ⟨in_T (in_4 (List.mem_of_getElem? (i := 32) rfl)) rfl, in_T (in_1 (List.mem_of_getElem? (i := 9) rfl)) rfl, by decide +kernel⟩
theorem cov_M_findKinds : COV y_M_findKinds := ⟨in_T (in_4 (List.mem_of_getElem? (i := 31) rfl)) rfl, in_P (List.mem_of_getElem? (i := 39) rfl) rfl⟩
theorem co_M_number : CO y_M_number b_M_number 4 none 0 := ⟨in_T (in_4 (List.mem_of_getElem? (i := 40) rfl)) rfl, in_T (in_1 (List.mem_of_getElem? (i := 9) rfl)) rfl, by decide +kernel⟩
theorem cov_M_number : COV y_M_number := ⟨in_T (in_4 (List.mem_of_getElem? (i := 39) rfl)) rfl, in_P (List.mem_of_getElem? (i := 41) rfl) rfl⟩
theorem co_M_compile : CO y_M_compile b_M_compile 3 (some (.int)) 1 := ⟨in_T (in_3 (List.mem_of_getElem? (i := 228) rfl)) rfl, in_T (in_1 (List.mem_of_getElem? (i := 9) rfl)) rfl, by decide +kernel⟩
theorem cov_M_compile : COV y_M_compile := ⟨in_T (in_3 (List.mem_of_getElem? (i := 226) rfl)) rfl, in_T (in_3 (List.mem_of_getElem? (i := 227) rfl)) rfl⟩
theorem co_M_lead : CO y_M_lead b_M_lead 3 (some (.int)) 2 := ⟨in_T (in_4 (List.mem_of_getElem? (i := 56) rfl)) rfl, in_T (in_1 (List.mem_of_getElem? (i := 9) rfl)) rfl, by decide +kernel⟩
theorem cov_M_lead : COV y_M_lead := ⟨in_T (in_4 (List.mem_of_getElem? (i := 55) rfl)) rfl, in_P (List.mem_of_getElem? (i := 42) rfl) rfl⟩
theorem co_M_sets : CO y_M_sets b_M_sets 1 (some (.int)) 0 := ⟨in_T (in_4 (List.mem_of_getElem? (i := 44) rfl)) rfl, in_T (in_1 (List.mem_of_getElem? (i := 9) rfl)) rfl, by decide +kernel⟩
theorem cov_M_sets : COV y_M_sets := ⟨in_T (in_4 (List.mem_of_getElem? (i := 42) rfl)) rfl, in_T (in_4 (List.mem_of_getElem? (i := 43) rfl)) rfl⟩
theorem co_M_states : CO y_M_states b_M_states 1 (some (.int)) 0 := ⟨in_T (in_4 (List.mem_of_getElem? (i := 48) rfl)) rfl, in_T (in_1 (List.mem_of_getElem? (i := 9) rfl)) rfl, by decide +kernel⟩
theorem cov_M_states : COV y_M_states := ⟨in_T (in_4 (List.mem_of_getElem? (i := 46) rfl)) rfl, in_T (in_4 (List.mem_of_getElem? (i := 47) rfl)) rfl⟩
theorem co_M_next : CO y_M_next b_M_next 3 (some (.int)) 2 := ⟨in_T (in_4 (List.mem_of_getElem? (i := 52) rfl)) rfl, in_T (in_1 (List.mem_of_getElem? (i := 9) rfl)) rfl, by decide +kernel⟩
theorem cov_M_next : COV y_M_next := ⟨in_T (in_4 (List.mem_of_getElem? (i := 50) rfl)) rfl, in_T (in_4 (List.mem_of_getElem? (i := 51) rfl)) rfl⟩
theorem co_M_gives : CO y_M_gives b_M_gives 2 (some (.int)) 1 := ⟨in_T (in_4 (List.mem_of_getElem? (i := 60) rfl)) rfl, in_T (in_1 (List.mem_of_getElem? (i := 9) rfl)) rfl, by decide +kernel⟩
theorem cov_M_gives : COV y_M_gives := ⟨in_T (in_4 (List.mem_of_getElem? (i := 58) rfl)) rfl, in_T (in_4 (List.mem_of_getElem? (i := 59) rfl)) rfl⟩
theorem co_M_match : CO y_M_match b_M_match 3 (some (.int)) 0 := ⟨in_T (in_4 (List.mem_of_getElem? (i := 64) rfl)) rfl, in_T (in_1 (List.mem_of_getElem? (i := 9) rfl)) rfl, by decide +kernel⟩
theorem cov_M_match : COV y_M_match := ⟨in_T (in_4 (List.mem_of_getElem? (i := 62) rfl)) rfl, in_T (in_4 (List.mem_of_getElem? (i := 63) rfl)) rfl⟩
theorem co_M_walk : CO y_M_walk b_M_walk 2 (some (.int)) 1 := ⟨in_T (in_4 (List.mem_of_getElem? (i := 69) rfl)) rfl, in_T (in_1 (List.mem_of_getElem? (i := 9) rfl)) rfl, by decide +kernel⟩
theorem cov_M_walk : COV y_M_walk := ⟨in_T (in_4 (List.mem_of_getElem? (i := 67) rfl)) rfl, in_T (in_4 (List.mem_of_getElem? (i := 68) rfl)) rfl⟩
theorem co_M_restart : CO y_M_restart b_M_restart 1 (some (.boolean)) 0 := ⟨in_T (in_4 (List.mem_of_getElem? (i := 73) rfl)) rfl, in_T (in_1 (List.mem_of_getElem? (i := 9) rfl)) rfl, by decide +kernel⟩
theorem cov_M_restart : COV y_M_restart := ⟨in_T (in_4 (List.mem_of_getElem? (i := 71) rfl)) rfl, in_T (in_4 (List.mem_of_getElem? (i := 72) rfl)) rfl⟩
theorem co_M_place : CO y_M_place b_M_place 1 (some (.int)) 0 := ⟨in_T (in_4 (List.mem_of_getElem? (i := 77) rfl)) rfl, in_T (in_1 (List.mem_of_getElem? (i := 9) rfl)) rfl, by decide +kernel⟩
theorem cov_M_place : COV y_M_place := ⟨in_T (in_4 (List.mem_of_getElem? (i := 75) rfl)) rfl, in_T (in_4 (List.mem_of_getElem? (i := 76) rfl)) rfl⟩
theorem co_M_way : CO y_M_way b_M_way 4 (some (.int)) 1 := ⟨in_T (in_4 (List.mem_of_getElem? (i := 81) rfl)) rfl, in_T (in_1 (List.mem_of_getElem? (i := 9) rfl)) rfl, by decide +kernel⟩
theorem cov_M_way : COV y_M_way := ⟨in_T (in_4 (List.mem_of_getElem? (i := 79) rfl)) rfl, in_T (in_4 (List.mem_of_getElem? (i := 80) rfl)) rfl⟩
