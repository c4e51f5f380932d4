theorem dv_Typed : ∀ j, j < 2 → defaultValue (ty_Typed j) = vp_V [.null, .int 0] j := fun j hj => match j, hj with
  | 0, _ => rfl
  | 1, _ => rfl
  | k + 2, hk => absurd hk (by omega)
theorem dv_Reader : ∀ j, j < 4 → defaultValue (ty_Reader j) = vp_V [.null, .null, .int 0, .int 0] j := fun j hj => match j, hj with
  | 0, _ => rfl
  | 1, _ => rfl
  | 2, _ => rfl
  | 3, _ => rfl
  | k + 4, hk => absurd hk (by omega)
theorem dv_Glob : ∀ j, j < 8 → defaultValue (ty_Glob j) = vp_V [.null, .null, .null, .null, .null, .int 0, .int 0, .long 0] j := fun j hj => match j, hj with
  | 0, _ => rfl
  | 1, _ => rfl
  | 2, _ => rfl
  | 3, _ => rfl
  | 4, _ => rfl
  | 5, _ => rfl
  | 6, _ => rfl
  | 7, _ => rfl
  | k + 8, hk => absurd hk (by omega)
theorem dv_Rule : ∀ j, j < 3 → defaultValue (ty_Rule j) = vp_V [.null, .int 0, .int 0] j := fun j hj => match j, hj with
  | 0, _ => rfl
  | 1, _ => rfl
  | 2, _ => rfl
  | k + 3, hk => absurd hk (by omega)
theorem dv_Union : ∀ j, j < 10 → defaultValue (ty_Union j) = vp_V [.null, .null, .null, .null, .null, .null, .null, .int 0, .int 0, .int 0] j := fun j hj => match j, hj with
  | 0, _ => rfl
  | 1, _ => rfl
  | 2, _ => rfl
  | 3, _ => rfl
  | 4, _ => rfl
  | 5, _ => rfl
  | 6, _ => rfl
  | 7, _ => rfl
  | 8, _ => rfl
  | 9, _ => rfl
  | k + 10, hk => absurd hk (by omega)
theorem dv_Graph : ∀ j, j < 5 → defaultValue (ty_Graph j) = vp_V [.null, .null, .null, .null, .int 0] j := fun j hj => match j, hj with
  | 0, _ => rfl
  | 1, _ => rfl
  | 2, _ => rfl
  | 3, _ => rfl
  | 4, _ => rfl
  | k + 5, hk => absurd hk (by omega)
theorem dv_Table : ∀ j, j < 10 → defaultValue (ty_Table j) = vp_V [.null, .null, .null, .null, .null, .null, .null, .null, .int 0, .int 0] j := fun j hj => match j, hj with
  | 0, _ => rfl
  | 1, _ => rfl
  | 2, _ => rfl
  | 3, _ => rfl
  | 4, _ => rfl
  | 5, _ => rfl
  | 6, _ => rfl
  | 7, _ => rfl
  | 8, _ => rfl
  | 9, _ => rfl
  | k + 10, hk => absurd hk (by omega)
theorem dv_G : ∀ j, j < 7 → defaultValue (ty_G j) = vp_V [.null, .null, .null, .null, .null, .int 0, .int 0] j := fun j hj => match j, hj with
  | 0, _ => rfl
  | 1, _ => rfl
  | 2, _ => rfl
  | 3, _ => rfl
  | 4, _ => rfl
  | 5, _ => rfl
  | 6, _ => rfl
  | k + 7, hk => absurd hk (by omega)
theorem dv_M : ∀ j, j < 36 → defaultValue (ty_M j) = vp_V [.null, .int 0, .int 0, .null, .null, .null, .null, .null, .int 0, .null, .null, .null, .null, .null, .null, .int 0, .null, .null, .null, .null, .null, .long 0, .int 0, .int 0, .null, .null, .int 0, .null, .null, .null, .null, .null, .int 0, .null, .null, .int 0] j := fun j hj => match j, hj with
  | 0, _ => rfl
  | 1, _ => rfl
  | 2, _ => rfl
  | 3, _ => rfl
  | 4, _ => rfl
  | 5, _ => rfl
  | 6, _ => rfl
  | 7, _ => rfl
  | 8, _ => rfl
  | 9, _ => rfl
  | 10, _ => rfl
  | 11, _ => rfl
  | 12, _ => rfl
  | 13, _ => rfl
  | 14, _ => rfl
  | 15, _ => rfl
  | 16, _ => rfl
  | 17, _ => rfl
  | 18, _ => rfl
  | 19, _ => rfl
  | 20, _ => rfl
  | 21, _ => rfl
  | 22, _ => rfl
  | 23, _ => rfl
  | 24, _ => rfl
  | 25, _ => rfl
  | 26, _ => rfl
  | 27, _ => rfl
  | 28, _ => rfl
  | 29, _ => rfl
  | 30, _ => rfl
  | 31, _ => rfl
  | 32, _ => rfl
  | 33, _ => rfl
  | 34, _ => rfl
  | 35, _ => rfl
  | k + 36, hk => absurd hk (by omega)
theorem h_obj : Cond.instanceMethod Lib.objectInit ∈ TT ∧ Cond.code Lib.objectInit ⟨#[0xb1]⟩ 1 none ∈ TT := ⟨in_T (in_1 (List.mem_of_getElem? (i := 18) rfl)) rfl, in_T (in_1 (List.mem_of_getElem? (i := 19) rfl)) rfl⟩
theorem h_acopy : Cond.native arraycopyName ∈ TT ∧ Cond.static arraycopyName ∈ TT ∧ Cond.initialized "java/lang/System" ∈ TT := ⟨in_T (in_2 (List.mem_of_getElem? (i := 126) rfl)) rfl, in_T (in_2 (List.mem_of_getElem? (i := 125) rfl)) rfl, in_T (in_1 (List.mem_of_getElem? (i := 11) rfl)) rfl⟩
theorem co_M_in : CO y_M_in b_M_in 3 (some (.boolean)) 3 := ⟨in_T (in_3 (List.mem_of_getElem? (i := 177) rfl)) rfl, in_T (in_1 (List.mem_of_getElem? (i := 9) rfl)) rfl, by decide +kernel⟩
theorem cos_M_in : Cond.static y_M_in ∈ TT := in_T (in_3 (List.mem_of_getElem? (i := 176) rfl)) rfl
theorem co_M_type : CO y_M_type b_M_type 5 (some (.boolean)) 2 := ⟨in_T (in_3 (List.mem_of_getElem? (i := 174) rfl)) rfl, in_T (in_1 (List.mem_of_getElem? (i := 9) rfl)) rfl, by decide +kernel⟩
theorem cov_M_type : COV y_M_type := ⟨in_T (in_3 (List.mem_of_getElem? (i := 172) rfl)) rfl, in_T (in_3 (List.mem_of_getElem? (i := 173) rfl)) rfl⟩
theorem co_M_item : CO y_M_item b_M_item 3 none 2 := ⟨in_T (in_3 (List.mem_of_getElem? (i := 189) rfl)) rfl, in_T (in_1 (List.mem_of_getElem? (i := 9) rfl)) rfl, by decide +kernel⟩
theorem cov_M_item : COV y_M_item := ⟨in_T (in_3 (List.mem_of_getElem? (i := 188) rfl)) rfl, in_P (List.mem_of_getElem? (i := 24) rfl) rfl⟩
theorem co_M_setByte : CO y_M_setByte b_M_setByte 6 none 3 := ⟨in_T (in_3 (List.mem_of_getElem? (i := 212) rfl)) rfl, in_T (in_1 (List.mem_of_getElem? (i := 9) rfl)) rfl, by decide +kernel⟩
theorem cov_M_setByte : COV y_M_setByte := ⟨in_T (in_3 (List.mem_of_getElem? (i := 211) rfl)) rfl, in_P (List.mem_of_getElem? (i := 28) rfl) rfl⟩
theorem co_M_hasByte : CO y_M_hasByte b_M_hasByte 3 (some (.boolean)) 2 := ⟨in_T (in_4 (List.mem_of_getElem? (i := 16) rfl)) rfl, in_T (in_1 (List.mem_of_getElem? (i := 9) rfl)) rfl, by decide +kernel⟩
theorem cov_M_hasByte : COV y_M_hasByte := ⟨in_T (in_4 (List.mem_of_getElem? (i := 15) rfl)) rfl, in_P (List.mem_of_getElem? (i := 35) rfl) rfl⟩
theorem co_M_newPiece : CO y_M_newPiece b_M_newPiece 3 (some (.int)) 1 := ⟨in_T (in_3 (List.mem_of_getElem? (i := 204) rfl)) rfl, in_T (in_1 (List.mem_of_getElem? (i := 9) rfl)) rfl, by decide +kernel⟩
theorem cov_M_newPiece : COV y_M_newPiece := ⟨in_T (in_3 (List.mem_of_getElem? (i := 203) rfl)) rfl, in_P (List.mem_of_getElem? (i := 27) rfl) rfl⟩
theorem co_M_isElement : CO y_M_isElement b_M_isElement 1 (some (.boolean)) 1 := ⟨in_T (in_3 (List.mem_of_getElem? (i := 208) rfl)) rfl, in_T (in_1 (List.mem_of_getElem? (i := 9) rfl)) rfl, by decide +kernel⟩
theorem cos_M_isElement : Cond.static y_M_isElement ∈ TT := in_T (in_3 (List.mem_of_getElem? (i := 207) rfl)) rfl
theorem co_M_charAt : CO y_M_charAt b_M_charAt 4 (some (.int)) 4 := ⟨in_T (in_3 (List.mem_of_getElem? (i := 200) rfl)) rfl, in_T (in_1 (List.mem_of_getElem? (i := 9) rfl)) rfl, by decide +kernel⟩
theorem cos_M_charAt : Cond.static y_M_charAt ∈ TT := in_T (in_3 (List.mem_of_getElem? (i := 199) rfl)) rfl
theorem co_M_readClass : CO y_M_readClass b_M_readClass 11 (some (.int)) 4 := ⟨in_T (in_3 (List.mem_of_getElem? (i := 197) rfl)) rfl, in_T (in_1 (List.mem_of_getElem? (i := 9) rfl)) rfl, by decide +kernel⟩
theorem cov_M_readClass : COV y_M_readClass := ⟨in_T (in_3 (List.mem_of_getElem? (i := 196) rfl)) rfl, in_P (List.mem_of_getElem? (i := 26) rfl) rfl⟩
theorem co_M_readPiece : CO y_M_readPiece b_M_readPiece 9 (some (.int)) 4 := ⟨in_T (in_3 (List.mem_of_getElem? (i := 193) rfl)) rfl, in_T (in_1 (List.mem_of_getElem? (i := 9) rfl)) rfl, by decide +kernel⟩
theorem cov_M_readPiece : COV y_M_readPiece := ⟨in_T (in_3 (List.mem_of_getElem? (i := 192) rfl)) rfl, in_P (List.mem_of_getElem? (i := 25) rfl) rfl⟩
theorem co_M_read : CO y_M_read b_M_read 8 (some (.int)) 3 := ⟨in_T (in_3 (List.mem_of_getElem? (i := 185) rfl)) rfl, in_T (in_1 (List.mem_of_getElem? (i := 9) rfl)) rfl, by decide +kernel⟩
theorem cov_M_read : COV y_M_read := ⟨in_T (in_3 (List.mem_of_getElem? (i := 184) rfl)) rfl, in_P (List.mem_of_getElem? (i := 23) rfl) rfl⟩
theorem co_M_mark : CO y_M_mark b_M_mark 3 (some (.int)) 2 := ⟨in_T (in_4 (List.mem_of_getElem? (i := 4) rfl)) rfl, in_T (in_1 (List.mem_of_getElem? (i := 9) rfl)) rfl, by decide +kernel⟩
theorem cov_M_mark : COV y_M_mark := ⟨in_T (in_4 (List.mem_of_getElem? (i := 3) rfl)) rfl, in_P (List.mem_of_getElem? (i := 32) rfl) rfl⟩
theorem co_M_spread : CO y_M_spread b_M_spread 6 none 1 := ⟨in_T (in_4 (List.mem_of_getElem? (i := 0) rfl)) rfl, in_T (in_1 (List.mem_of_getElem? (i := 9) rfl)) rfl, by decide +kernel⟩
theorem cov_M_spread : COV y_M_spread := ⟨in_T (in_3 (List.mem_of_getElem? (i := 239) rfl)) rfl, in_P (List.mem_of_getElem? (i := 31) rfl) rfl⟩
theorem co_M_marked : CO y_M_marked b_M_marked 4 (some (.long)) 0 := ⟨in_T (in_4 (List.mem_of_getElem? (i := 8) rfl)) rfl, in_T (in_1 (List.mem_of_getElem? (i := 9) rfl)) rfl, by decide +kernel⟩
theorem cov_M_marked : COV y_M_marked := ⟨in_T (in_4 (List.mem_of_getElem? (i := 7) rfl)) rfl, in_P (List.mem_of_getElem? (i := 33) rfl) rfl⟩
theorem co_M_lay : CO y_M_lay b_M_lay 4 none 1 := ⟨in_T (in_3 (List.mem_of_getElem? (i := 236) rfl)) rfl, in_T (in_1 (List.mem_of_getElem? (i := 9) rfl)) rfl, by decide +kernel⟩
theorem cov_M_lay : COV y_M_lay := ⟨in_T (in_3 (List.mem_of_getElem? (i := 235) rfl)) rfl, in_P (List.mem_of_getElem? (i := 30) rfl) rfl⟩
theorem co_M_allPieces : CO y_M_allPieces b_M_allPieces 3 (some (.int)) 0 := ⟨in_T (in_3 (List.mem_of_getElem? (i := 216) rfl)) rfl, in_T (in_1 (List.mem_of_getElem? (i := 9) rfl)) rfl, by decide +kernel⟩
theorem cov_M_allPieces : COV y_M_allPieces := ⟨in_T (in_3 (List.mem_of_getElem? (i := 215) rfl)) rfl, in_P (List.mem_of_getElem? (i := 29) rfl) rfl⟩
theorem co_M_rule : CO y_M_rule b_M_rule 8 (some (.int)) 2 := ⟨in_T (in_3 (List.mem_of_getElem? (i := 181) rfl)) rfl, in_T (in_1 (List.mem_of_getElem? (i := 9) rfl)) rfl, by decide +kernel⟩
theorem cov_M_rule : COV y_M_rule := ⟨in_T (in_3 (List.mem_of_getElem? (i := 179) rfl)) rfl, in_T (in_3 (List.mem_of_getElem? (i := 180) rfl)) rfl⟩
theorem co_M_drop : CO y_M_drop b_M_drop 4 (some (.boolean)) 1 := ⟨in_T (in_3 (List.mem_of_getElem? (i := 220) rfl)) rfl, in_T (in_1 (List.mem_of_getElem? (i := 9) rfl)) rfl, by decide +kernel⟩
theorem cov_M_drop : COV y_M_drop := ⟨in_T (in_3 (List.mem_of_getElem? (i := 218) rfl)) rfl, in_T (in_3 (List.mem_of_getElem? (i := 219) rfl)) rfl⟩
theorem co_M_rules : CO y_M_rules b_M_rules 1 (some (.int)) 0 := ⟨in_T (in_3 (List.mem_of_getElem? (i := 224) rfl)) rfl, in_T (in_1 (List.mem_of_getElem? (i := 9) rfl)) rfl, by decide +kernel⟩
theorem cov_M_rules : COV y_M_rules := ⟨in_T (in_3 (List.mem_of_getElem? (i := 222) rfl)) rfl, in_T (in_3 (List.mem_of_getElem? (i := 223) rfl)) rfl⟩
theorem co_M_pieces : CO y_M_pieces b_M_pieces 2 (some (.int)) 1 := ⟨in_T (in_3 (List.mem_of_getElem? (i := 228) rfl)) rfl, in_T (in_1 (List.mem_of_getElem? (i := 9) rfl)) rfl, by decide +kernel⟩
theorem cov_M_pieces : COV y_M_pieces := ⟨in_T (in_3 (List.mem_of_getElem? (i := 226) rfl)) rfl, in_T (in_3 (List.mem_of_getElem? (i := 227) rfl)) rfl⟩
theorem co_M_classify : CO y_M_classify b_M_classify 6 none 0 := ⟨in_T (in_4 (List.mem_of_getElem? (i := 12) rfl)) rfl, in_T (in_1 (List.mem_of_getElem? (i := 9) rfl)) rfl, by decide +kernel⟩
theorem cov_M_classify : COV y_M_classify := ⟨in_T (in_4 (List.mem_of_getElem? (i := 11) rfl)) rfl, in_P (List.mem_of_getElem? (i := 34) rfl) rfl⟩
theorem co_M_permits : CO y_M_permits b_M_permits 7 (some (.int)) 1 := ⟨in_T (in_4 (List.mem_of_getElem? (i := 24) rfl)) rfl, in_T (in_1 (List.mem_of_getElem? (i := 9) rfl)) rfl, by decide +kernel⟩
theorem cov_M_permits : COV y_M_permits := ⟨in_T (in_4 (List.mem_of_getElem? (i := 23) rfl)) rfl, in_P (List.mem_of_getElem? (i := 37) rfl) rfl⟩
theorem co_M_led : CO y_M_led b_M_led 8 (some (.long)) 2 := ⟨in_T (in_4 (List.mem_of_getElem? (i := 28) rfl)) rfl, in_T (in_1 (List.mem_of_getElem? (i := 9) rfl)) rfl, by decide +kernel⟩
theorem cov_M_led : COV y_M_led := ⟨in_T (in_4 (List.mem_of_getElem? (i := 27) rfl)) rfl, in_P (List.mem_of_getElem? (i := 38) rfl) rfl⟩
theorem co_M_numbered : CO y_M_numbered b_M_numbered 4 (some (.int)) 1 := ⟨in_T (in_4 (List.mem_of_getElem? (i := 32) rfl)) rfl, in_T (in_1 (List.mem_of_getElem? (i := 9) rfl)) rfl, by decide +kernel⟩
theorem cov_M_numbered : COV y_M_numbered := ⟨in_T (in_4 (List.mem_of_getElem? (i := 31) rfl)) rfl, in_P (List.mem_of_getElem? (i := 39) rfl) rfl⟩
theorem co_M_findSets : CO y_M_findSets b_M_findSets 4 (some (.boolean)) 1 := ⟨in_T (in_4 (List.mem_of_getElem? (i := 20) rfl)) rfl, in_T (in_1 (List.mem_of_getElem? (i := 9) rfl)) rfl, by decide +kernel⟩
theorem cov_M_findSets : COV y_M_findSets := ⟨in_T (in_4 (List.mem_of_getElem? (i := 19) rfl)) rfl, in_P (List.mem_of_getElem? (i := 36) rfl) rfl⟩
theorem co_M_isAlike : CO y_M_isAlike b_M_isAlike 5 (some (.boolean)) 2 := ⟨in_T (in_4 (List.mem_of_getElem? (i := 40) rfl)) rfl, in_T (in_1 (List.mem_of_getElem? (i := 9) rfl)) rfl, by decide +kernel⟩
theorem cov_M_isAlike : COV y_M_isAlike := ⟨in_T (in_4 (List.mem_of_getElem? (i := 39) rfl)) rfl, in_P (List.mem_of_getElem? (i := 41) rfl) rfl⟩
theorem co_M_findKinds : CO y_M_findKinds b_M_findKinds 5 none 0 := ⟨in_T (in_4 (List.mem_of_getElem? (i := 36) rfl)) rfl, in_T (in_1 (List.mem_of_getElem? (i := 9) rfl)) rfl, by decide +kernel⟩
theorem cov_M_findKinds : COV y_M_findKinds := ⟨in_T (in_4 (List.mem_of_getElem? (i := 35) rfl)) rfl, in_P (List.mem_of_getElem? (i := 40) rfl) rfl⟩
theorem co_M_number : CO y_M_number b_M_number 4 none 0 := ⟨in_T (in_4 (List.mem_of_getElem? (i := 44) rfl)) rfl, in_T (in_1 (List.mem_of_getElem? (i := 9) rfl)) rfl, by decide +kernel⟩
theorem cov_M_number : COV y_M_number := ⟨in_T (in_4 (List.mem_of_getElem? (i := 43) rfl)) rfl, in_P (List.mem_of_getElem? (i := 42) rfl) rfl⟩
theorem co_M_compile : CO y_M_compile b_M_compile 3 (some (.int)) 1 := ⟨in_T (in_3 (List.mem_of_getElem? (i := 232) rfl)) rfl, in_T (in_1 (List.mem_of_getElem? (i := 9) rfl)) rfl, by decide +kernel⟩
theorem cov_M_compile : COV y_M_compile := ⟨in_T (in_3 (List.mem_of_getElem? (i := 230) rfl)) rfl, in_T (in_3 (List.mem_of_getElem? (i := 231) rfl)) rfl⟩
theorem co_M_lead : CO y_M_lead b_M_lead 3 (some (.int)) 2 := ⟨in_T (in_4 (List.mem_of_getElem? (i := 60) rfl)) rfl, in_T (in_1 (List.mem_of_getElem? (i := 9) rfl)) rfl, by decide +kernel⟩
theorem cov_M_lead : COV y_M_lead := ⟨in_T (in_4 (List.mem_of_getElem? (i := 59) rfl)) rfl, in_P (List.mem_of_getElem? (i := 43) rfl) rfl⟩
theorem co_M_sets : CO y_M_sets b_M_sets 1 (some (.int)) 0 := ⟨in_T (in_4 (List.mem_of_getElem? (i := 48) rfl)) rfl, in_T (in_1 (List.mem_of_getElem? (i := 9) rfl)) rfl, by decide +kernel⟩
theorem cov_M_sets : COV y_M_sets := ⟨in_T (in_4 (List.mem_of_getElem? (i := 46) rfl)) rfl, in_T (in_4 (List.mem_of_getElem? (i := 47) rfl)) rfl⟩
theorem co_M_states : CO y_M_states b_M_states 1 (some (.int)) 0 := ⟨in_T (in_4 (List.mem_of_getElem? (i := 52) rfl)) rfl, in_T (in_1 (List.mem_of_getElem? (i := 9) rfl)) rfl, by decide +kernel⟩
theorem cov_M_states : COV y_M_states := ⟨in_T (in_4 (List.mem_of_getElem? (i := 50) rfl)) rfl, in_T (in_4 (List.mem_of_getElem? (i := 51) rfl)) rfl⟩
theorem co_M_next : CO y_M_next b_M_next 3 (some (.int)) 2 := ⟨in_T (in_4 (List.mem_of_getElem? (i := 56) rfl)) rfl, in_T (in_1 (List.mem_of_getElem? (i := 9) rfl)) rfl, by decide +kernel⟩
theorem cov_M_next : COV y_M_next := ⟨in_T (in_4 (List.mem_of_getElem? (i := 54) rfl)) rfl, in_T (in_4 (List.mem_of_getElem? (i := 55) rfl)) rfl⟩
theorem co_M_gives : CO y_M_gives b_M_gives 2 (some (.int)) 1 := ⟨in_T (in_4 (List.mem_of_getElem? (i := 64) rfl)) rfl, in_T (in_1 (List.mem_of_getElem? (i := 9) rfl)) rfl, by decide +kernel⟩
theorem cov_M_gives : COV y_M_gives := ⟨in_T (in_4 (List.mem_of_getElem? (i := 62) rfl)) rfl, in_T (in_4 (List.mem_of_getElem? (i := 63) rfl)) rfl⟩
theorem co_M_match : CO y_M_match b_M_match 3 (some (.int)) 0 := ⟨in_T (in_4 (List.mem_of_getElem? (i := 68) rfl)) rfl, in_T (in_1 (List.mem_of_getElem? (i := 9) rfl)) rfl, by decide +kernel⟩
theorem cov_M_match : COV y_M_match := ⟨in_T (in_4 (List.mem_of_getElem? (i := 66) rfl)) rfl, in_T (in_4 (List.mem_of_getElem? (i := 67) rfl)) rfl⟩
theorem co_M_walk : CO y_M_walk b_M_walk 2 (some (.int)) 1 := ⟨in_T (in_4 (List.mem_of_getElem? (i := 73) rfl)) rfl, in_T (in_1 (List.mem_of_getElem? (i := 9) rfl)) rfl, by decide +kernel⟩
theorem cov_M_walk : COV y_M_walk := ⟨in_T (in_4 (List.mem_of_getElem? (i := 71) rfl)) rfl, in_T (in_4 (List.mem_of_getElem? (i := 72) rfl)) rfl⟩
theorem co_M_restart : CO y_M_restart b_M_restart 1 (some (.boolean)) 0 := ⟨in_T (in_4 (List.mem_of_getElem? (i := 77) rfl)) rfl, in_T (in_1 (List.mem_of_getElem? (i := 9) rfl)) rfl, by decide +kernel⟩
theorem cov_M_restart : COV y_M_restart := ⟨in_T (in_4 (List.mem_of_getElem? (i := 75) rfl)) rfl, in_T (in_4 (List.mem_of_getElem? (i := 76) rfl)) rfl⟩
theorem co_M_place : CO y_M_place b_M_place 1 (some (.int)) 0 := ⟨in_T (in_4 (List.mem_of_getElem? (i := 81) rfl)) rfl, in_T (in_1 (List.mem_of_getElem? (i := 9) rfl)) rfl, by decide +kernel⟩
theorem cov_M_place : COV y_M_place := ⟨in_T (in_4 (List.mem_of_getElem? (i := 79) rfl)) rfl, in_T (in_4 (List.mem_of_getElem? (i := 80) rfl)) rfl⟩
theorem co_M_way : CO y_M_way b_M_way 4 (some (.int)) 1 := ⟨in_T (in_4 (List.mem_of_getElem? (i := 85) rfl)) rfl, in_T (in_1 (List.mem_of_getElem? (i := 9) rfl)) rfl, by decide +kernel⟩
theorem cov_M_way : COV y_M_way := ⟨in_T (in_4 (List.mem_of_getElem? (i := 83) rfl)) rfl, in_T (in_4 (List.mem_of_getElem? (i := 84) rfl)) rfl⟩
theorem co_Arrays_fillI : CO y_Arrays_fillI b_Arrays_fillI 4 none 2 := ⟨in_T (in_2 (List.mem_of_getElem? (i := 177) rfl)) rfl, in_T (in_1 (List.mem_of_getElem? (i := 10) rfl)) rfl, by decide +kernel⟩
theorem cos_Arrays_fillI : Cond.static y_Arrays_fillI ∈ TT := in_T (in_2 (List.mem_of_getElem? (i := 176) rfl)) rfl
theorem co_Arrays_fillJ : CO y_Arrays_fillJ b_Arrays_fillJ 5 none 2 := ⟨in_T (in_2 (List.mem_of_getElem? (i := 24) rfl)) rfl, in_T (in_1 (List.mem_of_getElem? (i := 10) rfl)) rfl, by decide +kernel⟩
theorem cos_Arrays_fillJ : Cond.static y_Arrays_fillJ ∈ TT := in_T (in_2 (List.mem_of_getElem? (i := 23) rfl)) rfl
theorem co_Typed_byteOf : CO y_Typed_byteOf b_Typed_byteOf 2 (some (.int)) 2 := ⟨in_T (in_2 (List.mem_of_getElem? (i := 9) rfl)) rfl, in_T (in_1 (List.mem_of_getElem? (i := 2) rfl)) rfl, by decide +kernel⟩
theorem cos_Typed_byteOf : Cond.static y_Typed_byteOf ∈ TT := in_T (in_2 (List.mem_of_getElem? (i := 8) rfl)) rfl
theorem co_Typed_append : CO y_Typed_append b_Typed_append 5 (some (.boolean)) 2 := ⟨in_T (in_2 (List.mem_of_getElem? (i := 6) rfl)) rfl, in_T (in_1 (List.mem_of_getElem? (i := 2) rfl)) rfl, by decide +kernel⟩
theorem cov_Typed_append : COV y_Typed_append := ⟨in_T (in_2 (List.mem_of_getElem? (i := 4) rfl)) rfl, in_T (in_2 (List.mem_of_getElem? (i := 5) rfl)) rfl⟩
theorem co_Typed_characterAt : CO y_Typed_characterAt b_Typed_characterAt 2 (some (.char)) 1 := ⟨in_T (in_2 (List.mem_of_getElem? (i := 32) rfl)) rfl, in_T (in_1 (List.mem_of_getElem? (i := 2) rfl)) rfl, by decide +kernel⟩
theorem cov_Typed_characterAt : COV y_Typed_characterAt := ⟨in_T (in_2 (List.mem_of_getElem? (i := 30) rfl)) rfl, in_T (in_2 (List.mem_of_getElem? (i := 31) rfl)) rfl⟩
theorem co_Typed_clear : CO y_Typed_clear b_Typed_clear 1 none 0 := ⟨in_T (in_2 (List.mem_of_getElem? (i := 99) rfl)) rfl, in_T (in_1 (List.mem_of_getElem? (i := 2) rfl)) rfl, by decide +kernel⟩
theorem cov_Typed_clear : COV y_Typed_clear := ⟨in_T (in_2 (List.mem_of_getElem? (i := 97) rfl)) rfl, in_T (in_2 (List.mem_of_getElem? (i := 98) rfl)) rfl⟩
theorem co_G_symbolOf : CO y_G_symbolOf b_G_symbolOf 1 (some (.int)) 1 := ⟨in_T (in_2 (List.mem_of_getElem? (i := 63) rfl)) rfl, in_T (in_1 (List.mem_of_getElem? (i := 1) rfl)) rfl, by decide +kernel⟩
theorem cos_G_symbolOf : Cond.static y_G_symbolOf ∈ TT := in_T (in_2 (List.mem_of_getElem? (i := 62) rfl)) rfl
theorem co_Glob_clear : CO y_Glob_clear b_Glob_clear 1 none 0 := ⟨in_T (in_2 (List.mem_of_getElem? (i := 21) rfl)) rfl, in_T (in_1 (List.mem_of_getElem? (i := 4) rfl)) rfl, by decide +kernel⟩
theorem cov_Glob_clear : COV y_Glob_clear := ⟨in_T (in_2 (List.mem_of_getElem? (i := 19) rfl)) rfl, in_T (in_2 (List.mem_of_getElem? (i := 20) rfl)) rfl⟩
theorem co_Glob_addPiece : CO y_Glob_addPiece b_Glob_addPiece 7 none 1 := ⟨in_T (in_2 (List.mem_of_getElem? (i := 56) rfl)) rfl, in_T (in_1 (List.mem_of_getElem? (i := 4) rfl)) rfl, by decide +kernel⟩
theorem cov_Glob_addPiece : COV y_Glob_addPiece := ⟨in_T (in_2 (List.mem_of_getElem? (i := 54) rfl)) rfl, in_T (in_2 (List.mem_of_getElem? (i := 55) rfl)) rfl⟩
theorem co_Glob_setReads : CO y_Glob_setReads b_Glob_setReads 7 none 3 := ⟨in_T (in_2 (List.mem_of_getElem? (i := 67) rfl)) rfl, in_T (in_1 (List.mem_of_getElem? (i := 4) rfl)) rfl, by decide +kernel⟩
theorem cov_Glob_setReads : COV y_Glob_setReads := ⟨in_T (in_2 (List.mem_of_getElem? (i := 65) rfl)) rfl, in_T (in_2 (List.mem_of_getElem? (i := 66) rfl)) rfl⟩
theorem co_Glob_isInChoice : CO y_Glob_isInChoice b_Glob_isInChoice 1 (some (.boolean)) 0 := ⟨in_T (in_2 (List.mem_of_getElem? (i := 95) rfl)) rfl, in_T (in_1 (List.mem_of_getElem? (i := 4) rfl)) rfl, by decide +kernel⟩
theorem cov_Glob_isInChoice : COV y_Glob_isInChoice := ⟨in_T (in_2 (List.mem_of_getElem? (i := 93) rfl)) rfl, in_T (in_2 (List.mem_of_getElem? (i := 94) rfl)) rfl⟩
theorem co_Glob_beginChoice : CO y_Glob_beginChoice b_Glob_beginChoice 1 (some (.boolean)) 0 := ⟨in_T (in_2 (List.mem_of_getElem? (i := 36) rfl)) rfl, in_T (in_1 (List.mem_of_getElem? (i := 4) rfl)) rfl, by decide +kernel⟩
theorem cov_Glob_beginChoice : COV y_Glob_beginChoice := ⟨in_T (in_2 (List.mem_of_getElem? (i := 34) rfl)) rfl, in_T (in_2 (List.mem_of_getElem? (i := 35) rfl)) rfl⟩
theorem co_Glob_beginRow : CO y_Glob_beginRow b_Glob_beginRow 2 (some (.boolean)) 0 := ⟨in_T (in_2 (List.mem_of_getElem? (i := 48) rfl)) rfl, in_T (in_1 (List.mem_of_getElem? (i := 4) rfl)) rfl, by decide +kernel⟩
theorem cov_Glob_beginRow : COV y_Glob_beginRow := ⟨in_T (in_2 (List.mem_of_getElem? (i := 46) rfl)) rfl, in_T (in_2 (List.mem_of_getElem? (i := 47) rfl)) rfl⟩
theorem co_Glob_endChoice : CO y_Glob_endChoice b_Glob_endChoice 2 (some (.boolean)) 0 := ⟨in_T (in_2 (List.mem_of_getElem? (i := 44) rfl)) rfl, in_T (in_1 (List.mem_of_getElem? (i := 4) rfl)) rfl, by decide +kernel⟩
theorem cov_Glob_endChoice : COV y_Glob_endChoice := ⟨in_T (in_2 (List.mem_of_getElem? (i := 42) rfl)) rfl, in_T (in_2 (List.mem_of_getElem? (i := 43) rfl)) rfl⟩
theorem co_Glob_copy : CO y_Glob_copy b_Glob_copy 2 none 1 := ⟨in_T (in_2 (List.mem_of_getElem? (i := 123) rfl)) rfl, in_T (in_1 (List.mem_of_getElem? (i := 4) rfl)) rfl, by decide +kernel⟩
theorem cov_Glob_copy : COV y_Glob_copy := ⟨in_T (in_2 (List.mem_of_getElem? (i := 121) rfl)) rfl, in_T (in_2 (List.mem_of_getElem? (i := 122) rfl)) rfl⟩
theorem co_Rule_fill : CO y_Rule_fill b_Rule_fill 4 none 3 := ⟨in_T (in_2 (List.mem_of_getElem? (i := 119) rfl)) rfl, in_T (in_1 (List.mem_of_getElem? (i := 5) rfl)) rfl, by decide +kernel⟩
theorem cov_Rule_fill : COV y_Rule_fill := ⟨in_T (in_2 (List.mem_of_getElem? (i := 117) rfl)) rfl, in_T (in_2 (List.mem_of_getElem? (i := 118) rfl)) rfl⟩
theorem co_Reader_isElement : CO y_Reader_isElement b_Reader_isElement 1 (some (.boolean)) 1 := ⟨in_T (in_2 (List.mem_of_getElem? (i := 91) rfl)) rfl, in_T (in_1 (List.mem_of_getElem? (i := 3) rfl)) rfl, by decide +kernel⟩
theorem cos_Reader_isElement : Cond.static y_Reader_isElement ∈ TT := in_T (in_2 (List.mem_of_getElem? (i := 90) rfl)) rfl
theorem co_Reader_pass : CO y_Reader_pass b_Reader_pass 2 none 1 := ⟨in_T (in_2 (List.mem_of_getElem? (i := 40) rfl)) rfl, in_T (in_1 (List.mem_of_getElem? (i := 3) rfl)) rfl, by decide +kernel⟩
theorem cov_Reader_pass : COV y_Reader_pass := ⟨in_T (in_2 (List.mem_of_getElem? (i := 39) rfl)) rfl, in_P (List.mem_of_getElem? (i := 1) rfl) rfl⟩
theorem co_Reader_setReads : CO y_Reader_setReads b_Reader_setReads 4 none 3 := ⟨in_T (in_2 (List.mem_of_getElem? (i := 60) rfl)) rfl, in_T (in_1 (List.mem_of_getElem? (i := 3) rfl)) rfl, by decide +kernel⟩
theorem cov_Reader_setReads : COV y_Reader_setReads := ⟨in_T (in_2 (List.mem_of_getElem? (i := 59) rfl)) rfl, in_P (List.mem_of_getElem? (i := 3) rfl) rfl⟩
theorem co_Reader_setReadsAll : CO y_Reader_setReadsAll b_Reader_setReadsAll 1 none 0 := ⟨in_T (in_2 (List.mem_of_getElem? (i := 76) rfl)) rfl, in_T (in_1 (List.mem_of_getElem? (i := 3) rfl)) rfl, by decide +kernel⟩
theorem cov_Reader_setReadsAll : COV y_Reader_setReadsAll := ⟨in_T (in_2 (List.mem_of_getElem? (i := 75) rfl)) rfl, in_P (List.mem_of_getElem? (i := 5) rfl) rfl⟩
theorem co_Reader_addAnyButSlash : CO y_Reader_addAnyButSlash b_Reader_addAnyButSlash 2 none 1 := ⟨in_T (in_2 (List.mem_of_getElem? (i := 72) rfl)) rfl, in_T (in_1 (List.mem_of_getElem? (i := 3) rfl)) rfl, by decide +kernel⟩
theorem cov_Reader_addAnyButSlash : COV y_Reader_addAnyButSlash := ⟨in_T (in_2 (List.mem_of_getElem? (i := 71) rfl)) rfl, in_P (List.mem_of_getElem? (i := 4) rfl) rfl⟩
theorem co_Reader_readByte : CO y_Reader_readByte b_Reader_readByte 2 none 0 := ⟨in_T (in_2 (List.mem_of_getElem? (i := 52) rfl)) rfl, in_T (in_1 (List.mem_of_getElem? (i := 3) rfl)) rfl, by decide +kernel⟩
theorem cov_Reader_readByte : COV y_Reader_readByte := ⟨in_T (in_2 (List.mem_of_getElem? (i := 51) rfl)) rfl, in_P (List.mem_of_getElem? (i := 2) rfl) rfl⟩
theorem co_Reader_readStars : CO y_Reader_readStars b_Reader_readStars 1 none 0 := ⟨in_T (in_2 (List.mem_of_getElem? (i := 80) rfl)) rfl, in_T (in_1 (List.mem_of_getElem? (i := 3) rfl)) rfl, by decide +kernel⟩
theorem cov_Reader_readStars : COV y_Reader_readStars := ⟨in_T (in_2 (List.mem_of_getElem? (i := 79) rfl)) rfl, in_P (List.mem_of_getElem? (i := 6) rfl) rfl⟩
theorem co_Reader_readElement : CO y_Reader_readElement b_Reader_readElement 4 none 1 := ⟨in_T (in_2 (List.mem_of_getElem? (i := 88) rfl)) rfl, in_T (in_1 (List.mem_of_getElem? (i := 3) rfl)) rfl, by decide +kernel⟩
theorem cov_Reader_readElement : COV y_Reader_readElement := ⟨in_T (in_2 (List.mem_of_getElem? (i := 87) rfl)) rfl, in_P (List.mem_of_getElem? (i := 8) rfl) rfl⟩
theorem co_Reader_readBrackets : CO y_Reader_readBrackets b_Reader_readBrackets 3 none 0 := ⟨in_T (in_2 (List.mem_of_getElem? (i := 84) rfl)) rfl, in_T (in_1 (List.mem_of_getElem? (i := 3) rfl)) rfl, by decide +kernel⟩
theorem cov_Reader_readBrackets : COV y_Reader_readBrackets := ⟨in_T (in_2 (List.mem_of_getElem? (i := 83) rfl)) rfl, in_P (List.mem_of_getElem? (i := 7) rfl) rfl⟩
theorem co_Reader_readPart : CO y_Reader_readPart b_Reader_readPart 2 none 0 := ⟨in_T (in_2 (List.mem_of_getElem? (i := 28) rfl)) rfl, in_T (in_1 (List.mem_of_getElem? (i := 3) rfl)) rfl, by decide +kernel⟩
theorem cov_Reader_readPart : COV y_Reader_readPart := ⟨in_T (in_2 (List.mem_of_getElem? (i := 27) rfl)) rfl, in_P (List.mem_of_getElem? (i := 0) rfl) rfl⟩
theorem co_Reader_read : CO y_Reader_read b_Reader_read 3 (some (.int)) 0 := ⟨in_T (in_2 (List.mem_of_getElem? (i := 17) rfl)) rfl, in_T (in_1 (List.mem_of_getElem? (i := 3) rfl)) rfl, by decide +kernel⟩
theorem cov_Reader_read : COV y_Reader_read := ⟨in_T (in_2 (List.mem_of_getElem? (i := 15) rfl)) rfl, in_T (in_2 (List.mem_of_getElem? (i := 16) rfl)) rfl⟩
theorem co_Union_clear : CO y_Union_clear b_Union_clear 1 none 0 := ⟨in_T (in_2 (List.mem_of_getElem? (i := 147) rfl)) rfl, in_T (in_1 (List.mem_of_getElem? (i := 6) rfl)) rfl, by decide +kernel⟩
theorem cov_Union_clear : COV y_Union_clear := ⟨in_T (in_2 (List.mem_of_getElem? (i := 145) rfl)) rfl, in_T (in_2 (List.mem_of_getElem? (i := 146) rfl)) rfl⟩
theorem co_Union_moved : CO y_Union_moved b_Union_moved 3 (some (.long)) 1 := ⟨in_T (in_2 (List.mem_of_getElem? (i := 156) rfl)) rfl, in_T (in_1 (List.mem_of_getElem? (i := 6) rfl)) rfl, by decide +kernel⟩
theorem cov_Union_moved : COV y_Union_moved := ⟨in_T (in_2 (List.mem_of_getElem? (i := 155) rfl)) rfl, in_P (List.mem_of_getElem? (i := 12) rfl) rfl⟩
theorem co_Union_add : CO y_Union_add b_Union_add 4 none 1 := ⟨in_T (in_2 (List.mem_of_getElem? (i := 152) rfl)) rfl, in_T (in_1 (List.mem_of_getElem? (i := 6) rfl)) rfl, by decide +kernel⟩
theorem cov_Union_add : COV y_Union_add := ⟨in_T (in_2 (List.mem_of_getElem? (i := 150) rfl)) rfl, in_T (in_2 (List.mem_of_getElem? (i := 151) rfl)) rfl⟩
theorem co_Union_columnFor : CO y_Union_columnFor b_Union_columnFor 4 (some (.int)) 1 := ⟨in_T (in_2 (List.mem_of_getElem? (i := 165) rfl)) rfl, in_T (in_1 (List.mem_of_getElem? (i := 6) rfl)) rfl, by decide +kernel⟩
theorem cov_Union_columnFor : COV y_Union_columnFor := ⟨in_T (in_2 (List.mem_of_getElem? (i := 164) rfl)) rfl, in_P (List.mem_of_getElem? (i := 13) rfl) rfl⟩
theorem co_Union_groupSymbols : CO y_Union_groupSymbols b_Union_groupSymbols 2 none 0 := ⟨in_T (in_2 (List.mem_of_getElem? (i := 161) rfl)) rfl, in_T (in_1 (List.mem_of_getElem? (i := 6) rfl)) rfl, by decide +kernel⟩
theorem cov_Union_groupSymbols : COV y_Union_groupSymbols := ⟨in_T (in_2 (List.mem_of_getElem? (i := 159) rfl)) rfl, in_T (in_2 (List.mem_of_getElem? (i := 160) rfl)) rfl⟩
theorem co_Union_columnOfByte : CO y_Union_columnOfByte b_Union_columnOfByte 2 (some (.int)) 1 := ⟨in_T (in_3 (List.mem_of_getElem? (i := 24) rfl)) rfl, in_T (in_1 (List.mem_of_getElem? (i := 6) rfl)) rfl, by decide +kernel⟩
theorem cov_Union_columnOfByte : COV y_Union_columnOfByte := ⟨in_T (in_3 (List.mem_of_getElem? (i := 22) rfl)) rfl, in_T (in_3 (List.mem_of_getElem? (i := 23) rfl)) rfl⟩
theorem co_Union_behindAll : CO y_Union_behindAll b_Union_behindAll 6 (some (.long)) 1 := ⟨in_T (in_2 (List.mem_of_getElem? (i := 194) rfl)) rfl, in_T (in_1 (List.mem_of_getElem? (i := 6) rfl)) rfl, by decide +kernel⟩
theorem cov_Union_behindAll : COV y_Union_behindAll := ⟨in_T (in_2 (List.mem_of_getElem? (i := 192) rfl)) rfl, in_T (in_2 (List.mem_of_getElem? (i := 193) rfl)) rfl⟩
theorem co_Union_readersOfColumn : CO y_Union_readersOfColumn b_Union_readersOfColumn 2 (some (.long)) 1 := ⟨in_T (in_2 (List.mem_of_getElem? (i := 198) rfl)) rfl, in_T (in_1 (List.mem_of_getElem? (i := 6) rfl)) rfl, by decide +kernel⟩
theorem cov_Union_readersOfColumn : COV y_Union_readersOfColumn := ⟨in_T (in_2 (List.mem_of_getElem? (i := 196) rfl)) rfl, in_T (in_2 (List.mem_of_getElem? (i := 197) rfl)) rfl⟩
theorem co_Union_permissionsOf : CO y_Union_permissionsOf b_Union_permissionsOf 6 (some (.int)) 1 := ⟨in_T (in_2 (List.mem_of_getElem? (i := 210) rfl)) rfl, in_T (in_1 (List.mem_of_getElem? (i := 6) rfl)) rfl, by decide +kernel⟩
theorem cov_Union_permissionsOf : COV y_Union_permissionsOf := ⟨in_T (in_2 (List.mem_of_getElem? (i := 208) rfl)) rfl, in_T (in_2 (List.mem_of_getElem? (i := 209) rfl)) rfl⟩
theorem co_Graph_add : CO y_Graph_add b_Graph_add 5 (some (.int)) 3 := ⟨in_T (in_2 (List.mem_of_getElem? (i := 186) rfl)) rfl, in_T (in_1 (List.mem_of_getElem? (i := 8) rfl)) rfl, by decide +kernel⟩
theorem cov_Graph_add : COV y_Graph_add := ⟨in_T (in_2 (List.mem_of_getElem? (i := 185) rfl)) rfl, in_P (List.mem_of_getElem? (i := 15) rfl) rfl⟩
theorem co_Graph_numberOf : CO y_Graph_numberOf b_Graph_numberOf 7 (some (.int)) 2 := ⟨in_T (in_2 (List.mem_of_getElem? (i := 181) rfl)) rfl, in_T (in_1 (List.mem_of_getElem? (i := 8) rfl)) rfl, by decide +kernel⟩
theorem cov_Graph_numberOf : COV y_Graph_numberOf := ⟨in_T (in_2 (List.mem_of_getElem? (i := 180) rfl)) rfl, in_P (List.mem_of_getElem? (i := 14) rfl) rfl⟩
theorem co_Graph_exploreFrom : CO y_Graph_exploreFrom b_Graph_exploreFrom 7 (some (.boolean)) 2 := ⟨in_T (in_2 (List.mem_of_getElem? (i := 190) rfl)) rfl, in_T (in_1 (List.mem_of_getElem? (i := 8) rfl)) rfl, by decide +kernel⟩
theorem cov_Graph_exploreFrom : COV y_Graph_exploreFrom := ⟨in_T (in_2 (List.mem_of_getElem? (i := 189) rfl)) rfl, in_P (List.mem_of_getElem? (i := 16) rfl) rfl⟩
theorem co_Graph_explore : CO y_Graph_explore b_Graph_explore 3 (some (.boolean)) 1 := ⟨in_T (in_2 (List.mem_of_getElem? (i := 174) rfl)) rfl, in_T (in_1 (List.mem_of_getElem? (i := 8) rfl)) rfl, by decide +kernel⟩
theorem cov_Graph_explore : COV y_Graph_explore := ⟨in_T (in_2 (List.mem_of_getElem? (i := 172) rfl)) rfl, in_T (in_2 (List.mem_of_getElem? (i := 173) rfl)) rfl⟩
theorem co_Graph_lead : CO y_Graph_lead b_Graph_lead 4 (some (.int)) 2 := ⟨in_T (in_2 (List.mem_of_getElem? (i := 226) rfl)) rfl, in_T (in_1 (List.mem_of_getElem? (i := 8) rfl)) rfl, by decide +kernel⟩
theorem cov_Graph_lead : COV y_Graph_lead := ⟨in_T (in_2 (List.mem_of_getElem? (i := 224) rfl)) rfl, in_T (in_2 (List.mem_of_getElem? (i := 225) rfl)) rfl⟩
theorem co_Graph_permissionsOf : CO y_Graph_permissionsOf b_Graph_permissionsOf 2 (some (.int)) 1 := ⟨in_T (in_2 (List.mem_of_getElem? (i := 206) rfl)) rfl, in_T (in_1 (List.mem_of_getElem? (i := 8) rfl)) rfl, by decide +kernel⟩
theorem cov_Graph_permissionsOf : COV y_Graph_permissionsOf := ⟨in_T (in_2 (List.mem_of_getElem? (i := 204) rfl)) rfl, in_T (in_2 (List.mem_of_getElem? (i := 205) rfl)) rfl⟩
theorem co_Table_isMade : CO y_Table_isMade b_Table_isMade 1 (some (.boolean)) 0 := ⟨in_T (in_3 (List.mem_of_getElem? (i := 4) rfl)) rfl, in_T (in_1 (List.mem_of_getElem? (i := 7) rfl)) rfl, by decide +kernel⟩
theorem cov_Table_isMade : COV y_Table_isMade := ⟨in_T (in_3 (List.mem_of_getElem? (i := 2) rfl)) rfl, in_T (in_3 (List.mem_of_getElem? (i := 3) rfl)) rfl⟩
theorem co_Table_clear : CO y_Table_clear b_Table_clear 1 none 0 := ⟨in_T (in_2 (List.mem_of_getElem? (i := 130) rfl)) rfl, in_T (in_1 (List.mem_of_getElem? (i := 7) rfl)) rfl, by decide +kernel⟩
theorem cov_Table_clear : COV y_Table_clear := ⟨in_T (in_2 (List.mem_of_getElem? (i := 128) rfl)) rfl, in_T (in_2 (List.mem_of_getElem? (i := 129) rfl)) rfl⟩
theorem co_Table_setCount : CO y_Table_setCount b_Table_setCount 1 (some (.int)) 0 := ⟨in_T (in_3 (List.mem_of_getElem? (i := 8) rfl)) rfl, in_T (in_1 (List.mem_of_getElem? (i := 7) rfl)) rfl, by decide +kernel⟩
theorem cov_Table_setCount : COV y_Table_setCount := ⟨in_T (in_3 (List.mem_of_getElem? (i := 6) rfl)) rfl, in_T (in_3 (List.mem_of_getElem? (i := 7) rfl)) rfl⟩
theorem co_Table_kindOfSet : CO y_Table_kindOfSet b_Table_kindOfSet 2 (some (.int)) 1 := ⟨in_T (in_2 (List.mem_of_getElem? (i := 222) rfl)) rfl, in_T (in_1 (List.mem_of_getElem? (i := 7) rfl)) rfl, by decide +kernel⟩
theorem cov_Table_kindOfSet : COV y_Table_kindOfSet := ⟨in_T (in_2 (List.mem_of_getElem? (i := 221) rfl)) rfl, in_P (List.mem_of_getElem? (i := 20) rfl) rfl⟩
theorem co_Table_areOfOneKind : CO y_Table_areOfOneKind b_Table_areOfOneKind 6 (some (.boolean)) 2 := ⟨in_T (in_2 (List.mem_of_getElem? (i := 218) rfl)) rfl, in_T (in_1 (List.mem_of_getElem? (i := 7) rfl)) rfl, by decide +kernel⟩
theorem cov_Table_areOfOneKind : COV y_Table_areOfOneKind := ⟨in_T (in_2 (List.mem_of_getElem? (i := 217) rfl)) rfl, in_P (List.mem_of_getElem? (i := 19) rfl) rfl⟩
theorem co_Table_partByPermissions : CO y_Table_partByPermissions b_Table_partByPermissions 2 none 0 := ⟨in_T (in_2 (List.mem_of_getElem? (i := 202) rfl)) rfl, in_T (in_1 (List.mem_of_getElem? (i := 7) rfl)) rfl, by decide +kernel⟩
theorem cov_Table_partByPermissions : COV y_Table_partByPermissions := ⟨in_T (in_2 (List.mem_of_getElem? (i := 201) rfl)) rfl, in_P (List.mem_of_getElem? (i := 17) rfl) rfl⟩
theorem co_Table_partByLeads : CO y_Table_partByLeads b_Table_partByLeads 4 (some (.boolean)) 0 := ⟨in_T (in_2 (List.mem_of_getElem? (i := 214) rfl)) rfl, in_T (in_1 (List.mem_of_getElem? (i := 7) rfl)) rfl, by decide +kernel⟩
theorem cov_Table_partByLeads : COV y_Table_partByLeads := ⟨in_T (in_2 (List.mem_of_getElem? (i := 213) rfl)) rfl, in_P (List.mem_of_getElem? (i := 18) rfl) rfl⟩
theorem co_Table_giveNumber : CO y_Table_giveNumber b_Table_giveNumber 3 none 1 := ⟨in_T (in_2 (List.mem_of_getElem? (i := 236) rfl)) rfl, in_T (in_1 (List.mem_of_getElem? (i := 7) rfl)) rfl, by decide +kernel⟩
theorem cov_Table_giveNumber : COV y_Table_giveNumber := ⟨in_T (in_2 (List.mem_of_getElem? (i := 235) rfl)) rfl, in_P (List.mem_of_getElem? (i := 22) rfl) rfl⟩
theorem co_Table_numberStates : CO y_Table_numberStates b_Table_numberStates 3 none 0 := ⟨in_T (in_2 (List.mem_of_getElem? (i := 231) rfl)) rfl, in_T (in_1 (List.mem_of_getElem? (i := 7) rfl)) rfl, by decide +kernel⟩
theorem cov_Table_numberStates : COV y_Table_numberStates := ⟨in_T (in_2 (List.mem_of_getElem? (i := 230) rfl)) rfl, in_P (List.mem_of_getElem? (i := 21) rfl) rfl⟩
theorem co_Table_make : CO y_Table_make b_Table_make 4 (some (.boolean)) 1 := ⟨in_T (in_2 (List.mem_of_getElem? (i := 169) rfl)) rfl, in_T (in_1 (List.mem_of_getElem? (i := 7) rfl)) rfl, by decide +kernel⟩
theorem cov_Table_make : COV y_Table_make := ⟨in_T (in_2 (List.mem_of_getElem? (i := 167) rfl)) rfl, in_T (in_2 (List.mem_of_getElem? (i := 168) rfl)) rfl⟩
theorem co_Table_step : CO y_Table_step b_Table_step 4 (some (.int)) 2 := ⟨in_T (in_3 (List.mem_of_getElem? (i := 20) rfl)) rfl, in_T (in_1 (List.mem_of_getElem? (i := 7) rfl)) rfl, by decide +kernel⟩
theorem cov_Table_step : COV y_Table_step := ⟨in_T (in_3 (List.mem_of_getElem? (i := 18) rfl)) rfl, in_T (in_3 (List.mem_of_getElem? (i := 19) rfl)) rfl⟩
theorem co_Table_permissionsAt : CO y_Table_permissionsAt b_Table_permissionsAt 2 (some (.int)) 1 := ⟨in_T (in_3 (List.mem_of_getElem? (i := 33) rfl)) rfl, in_T (in_1 (List.mem_of_getElem? (i := 7) rfl)) rfl, by decide +kernel⟩
theorem cov_Table_permissionsAt : COV y_Table_permissionsAt := ⟨in_T (in_3 (List.mem_of_getElem? (i := 31) rfl)) rfl, in_T (in_3 (List.mem_of_getElem? (i := 32) rfl)) rfl⟩
theorem co_G_slotAt : CO y_G_slotAt b_G_slotAt 2 (some (.object "GlobProfile$Rule")) 1 := ⟨in_T (in_2 (List.mem_of_getElem? (i := 103) rfl)) rfl, in_T (in_1 (List.mem_of_getElem? (i := 1) rfl)) rfl, by decide +kernel⟩
theorem cov_G_slotAt : COV y_G_slotAt := ⟨in_T (in_2 (List.mem_of_getElem? (i := 102) rfl)) rfl, in_P (List.mem_of_getElem? (i := 9) rfl) rfl⟩
theorem co_G_ruleAt : CO y_G_ruleAt b_G_ruleAt 2 (some (.object "GlobProfile$Rule")) 1 := ⟨in_T (in_2 (List.mem_of_getElem? (i := 115) rfl)) rfl, in_T (in_1 (List.mem_of_getElem? (i := 1) rfl)) rfl, by decide +kernel⟩
theorem cov_G_ruleAt : COV y_G_ruleAt := ⟨in_T (in_2 (List.mem_of_getElem? (i := 114) rfl)) rfl, in_P (List.mem_of_getElem? (i := 11) rfl) rfl⟩
theorem co_G_pieces : CO y_G_pieces b_G_pieces 3 (some (.int)) 1 := ⟨in_T (in_2 (List.mem_of_getElem? (i := 111) rfl)) rfl, in_T (in_1 (List.mem_of_getElem? (i := 1) rfl)) rfl, by decide +kernel⟩
theorem cov_G_pieces : COV y_G_pieces := ⟨in_T (in_2 (List.mem_of_getElem? (i := 109) rfl)) rfl, in_T (in_2 (List.mem_of_getElem? (i := 110) rfl)) rfl⟩
theorem co_G_pieceSum : CO y_G_pieceSum b_G_pieceSum 3 (some (.int)) 0 := ⟨in_T (in_2 (List.mem_of_getElem? (i := 107) rfl)) rfl, in_T (in_1 (List.mem_of_getElem? (i := 1) rfl)) rfl, by decide +kernel⟩
theorem cov_G_pieceSum : COV y_G_pieceSum := ⟨in_T (in_2 (List.mem_of_getElem? (i := 106) rfl)) rfl, in_P (List.mem_of_getElem? (i := 10) rfl) rfl⟩
theorem co_G_drop : CO y_G_drop b_G_drop 4 (some (.boolean)) 1 := ⟨in_T (in_2 (List.mem_of_getElem? (i := 134) rfl)) rfl, in_T (in_1 (List.mem_of_getElem? (i := 1) rfl)) rfl, by decide +kernel⟩
theorem cov_G_drop : COV y_G_drop := ⟨in_T (in_2 (List.mem_of_getElem? (i := 132) rfl)) rfl, in_T (in_2 (List.mem_of_getElem? (i := 133) rfl)) rfl⟩
theorem co_G_rule : CO y_G_rule b_G_rule 5 (some (.int)) 2 := ⟨in_T (in_2 (List.mem_of_getElem? (i := 13) rfl)) rfl, in_T (in_1 (List.mem_of_getElem? (i := 1) rfl)) rfl, by decide +kernel⟩
theorem cov_G_rule : COV y_G_rule := ⟨in_T (in_2 (List.mem_of_getElem? (i := 11) rfl)) rfl, in_T (in_2 (List.mem_of_getElem? (i := 12) rfl)) rfl⟩
theorem co_G_compile : CO y_G_compile b_G_compile 3 (some (.int)) 1 := ⟨in_T (in_2 (List.mem_of_getElem? (i := 143) rfl)) rfl, in_T (in_1 (List.mem_of_getElem? (i := 1) rfl)) rfl, by decide +kernel⟩
theorem cov_G_compile : COV y_G_compile := ⟨in_T (in_2 (List.mem_of_getElem? (i := 141) rfl)) rfl, in_T (in_2 (List.mem_of_getElem? (i := 142) rfl)) rfl⟩
theorem co_G_type : CO y_G_type b_G_type 3 (some (.boolean)) 2 := ⟨in_T (in_2 (List.mem_of_getElem? (i := 2) rfl)) rfl, in_T (in_1 (List.mem_of_getElem? (i := 1) rfl)) rfl, by decide +kernel⟩
theorem cov_G_type : COV y_G_type := ⟨in_T (in_2 (List.mem_of_getElem? (i := 0) rfl)) rfl, in_T (in_2 (List.mem_of_getElem? (i := 1) rfl)) rfl⟩
theorem co_G_rules : CO y_G_rules b_G_rules 1 (some (.int)) 0 := ⟨in_T (in_2 (List.mem_of_getElem? (i := 138) rfl)) rfl, in_T (in_1 (List.mem_of_getElem? (i := 1) rfl)) rfl, by decide +kernel⟩
theorem cov_G_rules : COV y_G_rules := ⟨in_T (in_2 (List.mem_of_getElem? (i := 136) rfl)) rfl, in_T (in_2 (List.mem_of_getElem? (i := 137) rfl)) rfl⟩
theorem co_G_sets : CO y_G_sets b_G_sets 1 (some (.int)) 0 := ⟨in_T (in_3 (List.mem_of_getElem? (i := 0) rfl)) rfl, in_T (in_1 (List.mem_of_getElem? (i := 1) rfl)) rfl, by decide +kernel⟩
theorem cov_G_sets : COV y_G_sets := ⟨in_T (in_2 (List.mem_of_getElem? (i := 238) rfl)) rfl, in_T (in_2 (List.mem_of_getElem? (i := 239) rfl)) rfl⟩
theorem co_G_states : CO y_G_states b_G_states 1 (some (.int)) 0 := ⟨in_T (in_3 (List.mem_of_getElem? (i := 12) rfl)) rfl, in_T (in_1 (List.mem_of_getElem? (i := 1) rfl)) rfl, by decide +kernel⟩
theorem cov_G_states : COV y_G_states := ⟨in_T (in_3 (List.mem_of_getElem? (i := 10) rfl)) rfl, in_T (in_3 (List.mem_of_getElem? (i := 11) rfl)) rfl⟩
theorem co_G_next : CO y_G_next b_G_next 3 (some (.int)) 2 := ⟨in_T (in_3 (List.mem_of_getElem? (i := 16) rfl)) rfl, in_T (in_1 (List.mem_of_getElem? (i := 1) rfl)) rfl, by decide +kernel⟩
theorem cov_G_next : COV y_G_next := ⟨in_T (in_3 (List.mem_of_getElem? (i := 14) rfl)) rfl, in_T (in_3 (List.mem_of_getElem? (i := 15) rfl)) rfl⟩
theorem co_G_gives : CO y_G_gives b_G_gives 2 (some (.int)) 1 := ⟨in_T (in_3 (List.mem_of_getElem? (i := 29) rfl)) rfl, in_T (in_1 (List.mem_of_getElem? (i := 1) rfl)) rfl, by decide +kernel⟩
theorem cov_G_gives : COV y_G_gives := ⟨in_T (in_3 (List.mem_of_getElem? (i := 27) rfl)) rfl, in_T (in_3 (List.mem_of_getElem? (i := 28) rfl)) rfl⟩
theorem co_G_match : CO y_G_match b_G_match 3 (some (.int)) 0 := ⟨in_T (in_3 (List.mem_of_getElem? (i := 37) rfl)) rfl, in_T (in_1 (List.mem_of_getElem? (i := 1) rfl)) rfl, by decide +kernel⟩
theorem cov_G_match : COV y_G_match := ⟨in_T (in_3 (List.mem_of_getElem? (i := 35) rfl)) rfl, in_T (in_3 (List.mem_of_getElem? (i := 36) rfl)) rfl⟩
theorem co_G_walk : CO y_G_walk b_G_walk 3 (some (.int)) 1 := ⟨in_T (in_3 (List.mem_of_getElem? (i := 42) rfl)) rfl, in_T (in_1 (List.mem_of_getElem? (i := 1) rfl)) rfl, by decide +kernel⟩
theorem cov_G_walk : COV y_G_walk := ⟨in_T (in_3 (List.mem_of_getElem? (i := 40) rfl)) rfl, in_T (in_3 (List.mem_of_getElem? (i := 41) rfl)) rfl⟩
theorem co_G_restart : CO y_G_restart b_G_restart 1 (some (.boolean)) 0 := ⟨in_T (in_3 (List.mem_of_getElem? (i := 46) rfl)) rfl, in_T (in_1 (List.mem_of_getElem? (i := 1) rfl)) rfl, by decide +kernel⟩
theorem cov_G_restart : COV y_G_restart := ⟨in_T (in_3 (List.mem_of_getElem? (i := 44) rfl)) rfl, in_T (in_3 (List.mem_of_getElem? (i := 45) rfl)) rfl⟩
theorem co_G_place : CO y_G_place b_G_place 1 (some (.int)) 0 := ⟨in_T (in_3 (List.mem_of_getElem? (i := 50) rfl)) rfl, in_T (in_1 (List.mem_of_getElem? (i := 1) rfl)) rfl, by decide +kernel⟩
theorem cov_G_place : COV y_G_place := ⟨in_T (in_3 (List.mem_of_getElem? (i := 48) rfl)) rfl, in_T (in_3 (List.mem_of_getElem? (i := 49) rfl)) rfl⟩
theorem co_G_way : CO y_G_way b_G_way 3 (some (.int)) 1 := ⟨in_T (in_3 (List.mem_of_getElem? (i := 54) rfl)) rfl, in_T (in_1 (List.mem_of_getElem? (i := 1) rfl)) rfl, by decide +kernel⟩
theorem cov_G_way : COV y_G_way := ⟨in_T (in_3 (List.mem_of_getElem? (i := 52) rfl)) rfl, in_T (in_3 (List.mem_of_getElem? (i := 53) rfl)) rfl⟩
theorem co_Typed_init : CO y_Typed_init b_Typed_init 1 none 0 := ⟨in_T (in_1 (List.mem_of_getElem? (i := 24) rfl)) rfl, in_T (in_1 (List.mem_of_getElem? (i := 2) rfl)) rfl, by decide +kernel⟩
theorem co_Glob_init : CO y_Glob_init b_Glob_init 1 none 0 := ⟨in_T (in_1 (List.mem_of_getElem? (i := 46) rfl)) rfl, in_T (in_1 (List.mem_of_getElem? (i := 4) rfl)) rfl, by decide +kernel⟩
theorem co_Reader_init : CO y_Reader_init b_Reader_init 2 none 1 := ⟨in_T (in_1 (List.mem_of_getElem? (i := 40) rfl)) rfl, in_T (in_1 (List.mem_of_getElem? (i := 3) rfl)) rfl, by decide +kernel⟩
theorem co_Rule_init : CO y_Rule_init b_Rule_init 1 none 0 := ⟨in_T (in_1 (List.mem_of_getElem? (i := 99) rfl)) rfl, in_T (in_1 (List.mem_of_getElem? (i := 5) rfl)) rfl, by decide +kernel⟩
theorem co_Union_init : CO y_Union_init b_Union_init 1 none 0 := ⟨in_T (in_1 (List.mem_of_getElem? (i := 121) rfl)) rfl, in_T (in_1 (List.mem_of_getElem? (i := 6) rfl)) rfl, by decide +kernel⟩
theorem co_Graph_init : CO y_Graph_init b_Graph_init 2 none 1 := ⟨in_T (in_1 (List.mem_of_getElem? (i := 166) rfl)) rfl, in_T (in_1 (List.mem_of_getElem? (i := 8) rfl)) rfl, by decide +kernel⟩
theorem co_Table_init : CO y_Table_init b_Table_init 2 none 1 := ⟨in_T (in_1 (List.mem_of_getElem? (i := 160) rfl)) rfl, in_T (in_1 (List.mem_of_getElem? (i := 7) rfl)) rfl, by decide +kernel⟩
theorem co_M_init : CO y_M_init b_M_init 1 none 0 := ⟨in_T (in_3 (List.mem_of_getElem? (i := 59) rfl)) rfl, in_T (in_1 (List.mem_of_getElem? (i := 9) rfl)) rfl, by decide +kernel⟩
theorem co_G_init : CO y_G_init b_G_init 2 none 0 := ⟨in_T (in_1 (List.mem_of_getElem? (i := 16) rfl)) rfl, in_T (in_1 (List.mem_of_getElem? (i := 1) rfl)) rfl, by decide +kernel⟩
