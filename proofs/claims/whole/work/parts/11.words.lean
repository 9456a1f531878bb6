/-! words of the tables, by their places -/
theorem in_t1 {w : Cond} (h : w ∈ tables_1_1) : w ∈ lw_tbl := List.mem_append_right _ (show w ∈ tables_1 from (List.mem_append_left _ h))
theorem in_t2 {w : Cond} (h : w ∈ tables_1_2) : w ∈ lw_tbl := List.mem_append_right _ (show w ∈ tables_1 from (List.mem_append_right _ (List.mem_append_left _ h)))
theorem in_t3 {w : Cond} (h : w ∈ tables_1_3) : w ∈ lw_tbl := List.mem_append_right _ (show w ∈ tables_1 from (List.mem_append_right _ (List.mem_append_right _ (List.mem_append_left _ h))))
theorem in_t4 {w : Cond} (h : w ∈ tables_1_4) : w ∈ lw_tbl := List.mem_append_right _ (show w ∈ tables_1 from (List.mem_append_right _ (List.mem_append_right _ (List.mem_append_right _ (List.mem_append_left _ h)))))
theorem in_t5 {w : Cond} (h : w ∈ tables_1_5) : w ∈ lw_tbl := List.mem_append_right _ (show w ∈ tables_1 from (List.mem_append_right _ (List.mem_append_right _ (List.mem_append_right _ (List.mem_append_right _ (List.mem_append_left _ h))))))
theorem in_t6 {w : Cond} (h : w ∈ tables_1_6) : w ∈ lw_tbl := List.mem_append_right _ (show w ∈ tables_1 from (List.mem_append_right _ (List.mem_append_right _ (List.mem_append_right _ (List.mem_append_right _ (List.mem_append_right _ (List.mem_append_left _ h)))))))
theorem in_t7 {w : Cond} (h : w ∈ tables_1_7) : w ∈ lw_tbl := List.mem_append_right _ (show w ∈ tables_1 from (List.mem_append_right _ (List.mem_append_right _ (List.mem_append_right _ (List.mem_append_right _ (List.mem_append_right _ (List.mem_append_right _ (List.mem_append_left _ h))))))))
theorem in_t8 {w : Cond} (h : w ∈ tables_1_8) : w ∈ lw_tbl := List.mem_append_right _ (show w ∈ tables_1 from (List.mem_append_right _ (List.mem_append_right _ (List.mem_append_right _ (List.mem_append_right _ (List.mem_append_right _ (List.mem_append_right _ (List.mem_append_right _ (List.mem_append_left _ h)))))))))
theorem in_t9 {w : Cond} (h : w ∈ tables_1_9) : w ∈ lw_tbl := List.mem_append_right _ (show w ∈ tables_1 from (List.mem_append_right _ (List.mem_append_right _ (List.mem_append_right _ (List.mem_append_right _ (List.mem_append_right _ (List.mem_append_right _ (List.mem_append_right _ (List.mem_append_right _ h)))))))))
theorem in_pv {y : MethodName} {n : Nat} (h : (y, n) ∈ lw_privs) : Cond.selects y.cls y y ∈ lw_tbl := List.mem_append_left _ (List.mem_map.mpr ⟨(y, n), h, rfl⟩)
theorem wd0 : Cond.methodLink RX10 3 Lib.objectInit ∈ z_tb := z_in (in_t1 (List.mem_of_getElem? (i := 222) rfl)) rfl
theorem wd1 : Cond.instanceMethod Lib.objectInit ∈ z_tb := z_in (in_t1 (List.mem_of_getElem? (i := 28) rfl)) rfl
theorem wd2 : Cond.code Lib.objectInit ⟨#[0xb1]⟩ 1 none ∈ z_tb := z_in (in_t1 (List.mem_of_getElem? (i := 29) rfl)) rfl
theorem wd3 : Cond.arrayClass .int ∈ z_tb := z_in (in_t1 (List.mem_of_getElem? (i := 72) rfl)) rfl
theorem wd4 : Cond.fieldLink RX10 9 "RowChildren$Triangle" "cells" "[I" ∈ z_tb := z_in (in_t1 (List.mem_of_getElem? (i := 226) rfl)) rfl
theorem wd5 : Cond.fieldLink RX10 15 "RowChildren$Triangle" "tallies" "[I" ∈ z_tb := z_in (in_t1 (List.mem_of_getElem? (i := 227) rfl)) rfl
theorem wd6 : Cond.code yX10_init cX10_init 1 none ∈ z_tb := z_in (in_t1 (List.mem_of_getElem? (i := 221) rfl)) rfl
theorem wd7 : Cond.initialized RX10 ∈ z_tb := z_in (in_t1 (List.mem_of_getElem? (i := 8) rfl)) rfl
theorem wd8 : Cond.methodLink RX0 3 Lib.objectInit ∈ z_tb := z_in (in_t2 (List.mem_of_getElem? (i := 27) rfl)) rfl
theorem wd9 : Cond.classLink RX0 9 RX10 ∈ z_tb := z_in (in_t2 (List.mem_of_getElem? (i := 28) rfl)) rfl
theorem wd10 : Cond.instantiable RX10 3 ∈ z_tb := z_in (in_t1 (List.mem_of_getElem? (i := 218) rfl)) rfl
theorem wd11 : Cond.instanceMethod yX10_init ∈ z_tb := z_in (in_t1 (List.mem_of_getElem? (i := 220) rfl)) rfl
theorem wd12 : Cond.fieldLink RX0 12 "RowChildren$Census" "triangle" "LRowChildren$Triangle;" ∈ z_tb := z_in (in_t2 (List.mem_of_getElem? (i := 30) rfl)) rfl
theorem wd13 : Cond.arrayClass .boolean ∈ z_tb := z_in (in_t2 (List.mem_of_getElem? (i := 21) rfl)) rfl
theorem wd14 : Cond.fieldLink RX0 18 "RowChildren$Census" "isTaken" "[Z" ∈ z_tb := z_in (in_t2 (List.mem_of_getElem? (i := 31) rfl)) rfl
theorem wd15 : Cond.fieldLink RX0 22 "RowChildren$Census" "made" "[I" ∈ z_tb := z_in (in_t2 (List.mem_of_getElem? (i := 32) rfl)) rfl
theorem wd16 : Cond.fieldLink RX0 26 "RowChildren$Census" "least" "[I" ∈ z_tb := z_in (in_t2 (List.mem_of_getElem? (i := 33) rfl)) rfl
theorem wd17 : Cond.fieldLink RX0 29 "RowChildren$Census" "forced" "[I" ∈ z_tb := z_in (in_t2 (List.mem_of_getElem? (i := 34) rfl)) rfl
theorem wd18 : Cond.code yX0_init cX0_init 1 none ∈ z_tb := z_in (in_t2 (List.mem_of_getElem? (i := 26) rfl)) rfl
theorem wd19 : Cond.initialized RX0 ∈ z_tb := z_in (in_t1 (List.mem_of_getElem? (i := 10) rfl)) rfl
theorem wd20 : Cond.code yX0_clear cX0_clear 2 none ∈ z_tb := z_in (in_t3 (List.mem_of_getElem? (i := 196) rfl)) rfl
theorem wd21 : Cond.code yX10_cell cX10_cell 3 (some .int) ∈ z_tb := z_in (in_t3 (List.mem_of_getElem? (i := 238) rfl)) rfl
theorem wd22 : Cond.fieldLink RX10 18 "RowChildren$Triangle" "length" "I" ∈ z_tb := z_in (in_t1 (List.mem_of_getElem? (i := 223) rfl)) rfl
theorem wd23 : Cond.instanceMethod yX10_cell ∈ z_tb := z_in (in_t3 (List.mem_of_getElem? (i := 236) rfl)) rfl
theorem wd24 : Cond.selects RX10 yX10_cell yX10_cell ∈ z_tb := z_in (in_t3 (List.mem_of_getElem? (i := 237) rfl)) rfl
theorem wd25 : Cond.methodLink RX10 45 yX10_cell ∈ z_tb := z_in (in_t3 (List.mem_of_getElem? (i := 235) rfl)) rfl
theorem wd26 : Cond.code yX10_lastChild cX10_lastChild 1 (some .int) ∈ z_tb := z_in (in_t4 (List.mem_of_getElem? (i := 8) rfl)) rfl
theorem wd27 : Cond.instanceMethod yX10_lastChild ∈ z_tb := z_in (in_t4 (List.mem_of_getElem? (i := 6) rfl)) rfl
theorem wd28 : Cond.selects RX10 yX10_lastChild yX10_lastChild ∈ z_tb := z_in (in_t4 (List.mem_of_getElem? (i := 7) rfl)) rfl
theorem wd29 : Cond.methodLink RX0 50 yX10_lastChild ∈ z_tb := z_in (in_t4 (List.mem_of_getElem? (i := 209) rfl)) rfl
theorem wd30 : Cond.code yX0_noteRow cX0_noteRow 5 (some .int) ∈ z_tb := z_in (in_t4 (List.mem_of_getElem? (i := 208) rfl)) rfl
theorem wd31 : Cond.fieldLink RX10 40 "RowChildren$Table" "children" "[I" ∈ z_tb := z_in (in_t1 (List.mem_of_getElem? (i := 91) rfl)) rfl
theorem wd32 : Cond.code yX10_put cX10_put 7 none ∈ z_tb := z_in (in_t3 (List.mem_of_getElem? (i := 230) rfl)) rfl
theorem wd33 : Cond.fieldLink RX0 40 "RowChildren$Table" "colours" "I" ∈ z_tb := z_in (in_t1 (List.mem_of_getElem? (i := 84) rfl)) rfl
theorem wd34 : Cond.instanceMethod yX10_put ∈ z_tb := z_in (in_t3 (List.mem_of_getElem? (i := 228) rfl)) rfl
theorem wd35 : Cond.selects RX10 yX10_put yX10_put ∈ z_tb := z_in (in_t3 (List.mem_of_getElem? (i := 229) rfl)) rfl
theorem wd36 : Cond.methodLink RX0 46 yX10_put ∈ z_tb := z_in (in_t4 (List.mem_of_getElem? (i := 210) rfl)) rfl
theorem wd37 : Cond.static yX0_goThrough ∈ z_tb := z_in (in_t4 (List.mem_of_getElem? (i := 203) rfl)) rfl
theorem wd38 : Cond.methodLink RX0 32 yX0_goThrough ∈ z_tb := z_in (in_t4 (List.mem_of_getElem? (i := 202) rfl)) rfl
theorem wd39 : Cond.instanceMethod yX0_noteRow ∈ z_tb := z_in (in_t4 (List.mem_of_getElem? (i := 207) rfl)) rfl
theorem wd40 : Cond.selects RX0 yX0_noteRow yX0_noteRow ∈ z_tb := z_in (in_pv (n := 5) (y := yX0_noteRow) (List.mem_of_getElem? (i := 30) rfl)) rfl
theorem wd41 : Cond.methodLink RX0 36 yX0_noteRow ∈ z_tb := z_in (in_t4 (List.mem_of_getElem? (i := 205) rfl)) rfl
theorem wd42 : Cond.code yX0_goThrough cX0_goThrough 9 (some .int) ∈ z_tb := z_in (in_t4 (List.mem_of_getElem? (i := 204) rfl)) rfl
theorem wd43 : Cond.code yX0_take cX0_take 4 none ∈ z_tb := z_in (in_t4 (List.mem_of_getElem? (i := 201) rfl)) rfl
theorem wd44 : Cond.code yX0_madeOf cX0_madeOf 3 (some .int) ∈ z_tb := z_in (in_t4 (List.mem_of_getElem? (i := 214) rfl)) rfl
theorem wd45 : Cond.code yX0_leastOf cX0_leastOf 3 (some .int) ∈ z_tb := z_in (in_t4 (List.mem_of_getElem? (i := 218) rfl)) rfl
theorem wd46 : Cond.code yX0_winningStart cX0_winningStart 5 (some .int) ∈ z_tb := z_in (in_t5 (List.mem_of_getElem? (i := 158) rfl)) rfl
theorem wd47 : Cond.methodLink RX1 3 Lib.objectInit ∈ z_tb := z_in (in_t1 (List.mem_of_getElem? (i := 115) rfl)) rfl
theorem wd48 : Cond.fieldLink RX1 9 "RowChildren$Family" "lengths" "[I" ∈ z_tb := z_in (in_t1 (List.mem_of_getElem? (i := 124) rfl)) rfl
theorem wd49 : Cond.fieldLink RX1 15 "RowChildren$Family" "colours" "[I" ∈ z_tb := z_in (in_t1 (List.mem_of_getElem? (i := 125) rfl)) rfl
theorem wd50 : Cond.code yX1_init cX1_init 1 none ∈ z_tb := z_in (in_t1 (List.mem_of_getElem? (i := 114) rfl)) rfl
theorem wd51 : Cond.initialized RX1 ∈ z_tb := z_in (in_t1 (List.mem_of_getElem? (i := 6) rfl)) rfl
theorem wd52 : Cond.fieldLink RX1 18 "RowChildren$Family" "rows" "I" ∈ z_tb := z_in (in_t1 (List.mem_of_getElem? (i := 116) rfl)) rfl
theorem wd53 : Cond.fieldLink RX1 22 "RowChildren$Family" "time" "I" ∈ z_tb := z_in (in_t1 (List.mem_of_getElem? (i := 119) rfl)) rfl
theorem wd54 : Cond.fieldLink RX1 25 "RowChildren$Family" "paid" "I" ∈ z_tb := z_in (in_t1 (List.mem_of_getElem? (i := 122) rfl)) rfl
theorem wd55 : Cond.code yX1_clear cX1_clear 2 none ∈ z_tb := z_in (in_t1 (List.mem_of_getElem? (i := 144) rfl)) rfl
theorem wd56 : Cond.methodLink RX1 28 arraycopyName ∈ z_tb := z_in (in_t3 (List.mem_of_getElem? (i := 182) rfl)) rfl
theorem wd57 : Cond.native arraycopyName ∈ z_tb := z_in (in_t3 (List.mem_of_getElem? (i := 184) rfl)) rfl
theorem wd58 : Cond.static arraycopyName ∈ z_tb := z_in (in_t3 (List.mem_of_getElem? (i := 183) rfl)) rfl
theorem wd59 : Cond.initialized RJ10 ∈ z_tb := z_in (in_t1 (List.mem_of_getElem? (i := 20) rfl)) rfl
theorem wd60 : Cond.code yX1_copyFrom cX1_copyFrom 2 none ∈ z_tb := z_in (in_t3 (List.mem_of_getElem? (i := 181) rfl)) rfl
theorem wd61 : Cond.code yX1_lengthOf cX1_lengthOf 2 (some .int) ∈ z_tb := z_in (in_t3 (List.mem_of_getElem? (i := 161) rfl)) rfl
theorem wd62 : Cond.code yX1_setLength cX1_setLength 3 none ∈ z_tb := z_in (in_t3 (List.mem_of_getElem? (i := 169) rfl)) rfl
theorem wd63 : Cond.code yX1_colourAt cX1_colourAt 3 (some .int) ∈ z_tb := z_in (in_t3 (List.mem_of_getElem? (i := 226) rfl)) rfl
theorem wd64 : Cond.code yX1_setColour cX1_setColour 4 none ∈ z_tb := z_in (in_t3 (List.mem_of_getElem? (i := 165) rfl)) rfl
theorem wd65 : Cond.instanceMethod yX1_lengthOf ∈ z_tb := z_in (in_t3 (List.mem_of_getElem? (i := 159) rfl)) rfl
theorem wd66 : Cond.selects RX1 yX1_lengthOf yX1_lengthOf ∈ z_tb := z_in (in_t3 (List.mem_of_getElem? (i := 160) rfl)) rfl
theorem wd67 : Cond.methodLink RX1 34 yX1_lengthOf ∈ z_tb := z_in (in_t3 (List.mem_of_getElem? (i := 158) rfl)) rfl
theorem wd68 : Cond.instanceMethod yX1_setColour ∈ z_tb := z_in (in_t3 (List.mem_of_getElem? (i := 163) rfl)) rfl
theorem wd69 : Cond.selects RX1 yX1_setColour yX1_setColour ∈ z_tb := z_in (in_t3 (List.mem_of_getElem? (i := 164) rfl)) rfl
theorem wd70 : Cond.methodLink RX1 38 yX1_setColour ∈ z_tb := z_in (in_t3 (List.mem_of_getElem? (i := 162) rfl)) rfl
theorem wd71 : Cond.instanceMethod yX1_setLength ∈ z_tb := z_in (in_t3 (List.mem_of_getElem? (i := 167) rfl)) rfl
theorem wd72 : Cond.selects RX1 yX1_setLength yX1_setLength ∈ z_tb := z_in (in_t3 (List.mem_of_getElem? (i := 168) rfl)) rfl
theorem wd73 : Cond.methodLink RX1 42 yX1_setLength ∈ z_tb := z_in (in_t3 (List.mem_of_getElem? (i := 166) rfl)) rfl
theorem wd74 : Cond.code yX1_append cX1_append 3 none ∈ z_tb := z_in (in_t3 (List.mem_of_getElem? (i := 157) rfl)) rfl
theorem wd75 : Cond.instanceMethod yX1_colourAt ∈ z_tb := z_in (in_t3 (List.mem_of_getElem? (i := 224) rfl)) rfl
theorem wd76 : Cond.selects RX1 yX1_colourAt yX1_colourAt ∈ z_tb := z_in (in_t3 (List.mem_of_getElem? (i := 225) rfl)) rfl
theorem wd77 : Cond.methodLink RX1 46 yX1_colourAt ∈ z_tb := z_in (in_t4 (List.mem_of_getElem? (i := 4) rfl)) rfl
theorem wd78 : Cond.code yX1_numberOf cX1_numberOf 5 (some .int) ∈ z_tb := z_in (in_t4 (List.mem_of_getElem? (i := 3) rfl)) rfl
theorem wd79 : Cond.instanceMethod yX1_numberOf ∈ z_tb := z_in (in_t4 (List.mem_of_getElem? (i := 1) rfl)) rfl
theorem wd80 : Cond.selects RX1 yX1_numberOf yX1_numberOf ∈ z_tb := z_in (in_t4 (List.mem_of_getElem? (i := 2) rfl)) rfl
theorem wd81 : Cond.methodLink RX1 50 yX1_numberOf ∈ z_tb := z_in (in_t5 (List.mem_of_getElem? (i := 75) rfl)) rfl
theorem wd82 : Cond.code yX1_packed cX1_packed 2 (some .int) ∈ z_tb := z_in (in_t5 (List.mem_of_getElem? (i := 74) rfl)) rfl
theorem wd83 : Cond.code yX1_amountOf cX1_amountOf 5 (some .int) ∈ z_tb := z_in (in_t4 (List.mem_of_getElem? (i := 22) rfl)) rfl
theorem wd84 : Cond.code yX1_allLengths cX1_allLengths 3 (some .int) ∈ z_tb := z_in (in_t6 (List.mem_of_getElem? (i := 13) rfl)) rfl
theorem wd85 : Cond.code yX1_allColours cX1_allColours 4 (some .int) ∈ z_tb := z_in (in_t6 (List.mem_of_getElem? (i := 33) rfl)) rfl
theorem wd86 : Cond.code yX1_singleRows cX1_singleRows 3 (some .int) ∈ z_tb := z_in (in_t6 (List.mem_of_getElem? (i := 37) rfl)) rfl
theorem wd87 : Cond.methodLink RX2 3 Lib.objectInit ∈ z_tb := z_in (in_t1 (List.mem_of_getElem? (i := 206) rfl)) rfl
theorem wd88 : Cond.fieldLink RX2 11 "RowChildren$Laws" "variables" "[I" ∈ z_tb := z_in (in_t1 (List.mem_of_getElem? (i := 207) rfl)) rfl
theorem wd89 : Cond.code yX2_init cX2_init 1 none ∈ z_tb := z_in (in_t1 (List.mem_of_getElem? (i := 205) rfl)) rfl
theorem wd90 : Cond.initialized RX2 ∈ z_tb := z_in (in_t1 (List.mem_of_getElem? (i := 7) rfl)) rfl
theorem wd91 : Cond.code yX2_standAt cX2_standAt 3 none ∈ z_tb := z_in (in_t4 (List.mem_of_getElem? (i := 26) rfl)) rfl
theorem wd92 : Cond.code yX2_haveParents cX2_haveParents 3 none ∈ z_tb := z_in (in_t4 (List.mem_of_getElem? (i := 30) rfl)) rfl
theorem wd93 : Cond.methodLink RX2 15 yX1_lengthOf ∈ z_tb := z_in (in_t4 (List.mem_of_getElem? (i := 18) rfl)) rfl
theorem wd94 : Cond.instanceMethod yX1_amountOf ∈ z_tb := z_in (in_t4 (List.mem_of_getElem? (i := 20) rfl)) rfl
theorem wd95 : Cond.selects RX1 yX1_amountOf yX1_amountOf ∈ z_tb := z_in (in_t4 (List.mem_of_getElem? (i := 21) rfl)) rfl
theorem wd96 : Cond.methodLink RX2 21 yX1_amountOf ∈ z_tb := z_in (in_t4 (List.mem_of_getElem? (i := 19) rfl)) rfl
theorem wd97 : Cond.fieldLink RX2 25 "RowChildren$Family" "time" "I" ∈ z_tb := z_in (in_t1 (List.mem_of_getElem? (i := 120) rfl)) rfl
theorem wd98 : Cond.instanceMethod yX2_standAt ∈ z_tb := z_in (in_t4 (List.mem_of_getElem? (i := 24) rfl)) rfl
theorem wd99 : Cond.selects RX2 yX2_standAt yX2_standAt ∈ z_tb := z_in (in_t4 (List.mem_of_getElem? (i := 25) rfl)) rfl
theorem wd100 : Cond.methodLink RX2 29 yX2_standAt ∈ z_tb := z_in (in_t4 (List.mem_of_getElem? (i := 23) rfl)) rfl
theorem wd101 : Cond.instanceMethod yX2_haveParents ∈ z_tb := z_in (in_t4 (List.mem_of_getElem? (i := 28) rfl)) rfl
theorem wd102 : Cond.selects RX2 yX2_haveParents yX2_haveParents ∈ z_tb := z_in (in_t4 (List.mem_of_getElem? (i := 29) rfl)) rfl
theorem wd103 : Cond.methodLink RX2 33 yX2_haveParents ∈ z_tb := z_in (in_t4 (List.mem_of_getElem? (i := 27) rfl)) rfl
theorem wd104 : Cond.code yX2_standOn cX2_standOn 4 none ∈ z_tb := z_in (in_t4 (List.mem_of_getElem? (i := 17) rfl)) rfl
theorem wd105 : Cond.code yX2_untold cX2_untold 2 (some .int) ∈ z_tb := z_in (in_t4 (List.mem_of_getElem? (i := 38) rfl)) rfl
theorem wd106 : Cond.fieldLink RX8 22 "RowChildren$Tokens" "size" "I" ∈ z_tb := z_in (in_t1 (List.mem_of_getElem? (i := 62) rfl)) rfl
theorem wd107 : Cond.fieldLink RX8 9 "RowChildren$Tokens" "kinds" "[I" ∈ z_tb := z_in (in_t1 (List.mem_of_getElem? (i := 59) rfl)) rfl
theorem wd108 : Cond.code yX8_kind cX8_kind 2 (some .int) ∈ z_tb := z_in (in_t3 (List.mem_of_getElem? (i := 93) rfl)) rfl
theorem wd109 : Cond.initialized RX8 ∈ z_tb := z_in (in_t1 (List.mem_of_getElem? (i := 4) rfl)) rfl
theorem wd110 : Cond.code yX7_isOperator cX7_isOperator 1 (some .boolean) ∈ z_tb := z_in (in_t3 (List.mem_of_getElem? (i := 123) rfl)) rfl
theorem wd111 : Cond.initialized RX7 ∈ z_tb := z_in (in_t1 (List.mem_of_getElem? (i := 3) rfl)) rfl
theorem wd112 : Cond.fieldLink RX2 63 "RowChildren$Laws" "dividedByNought" "Z" ∈ z_tb := z_in (in_t1 (List.mem_of_getElem? (i := 209) rfl)) rfl
theorem wd113 : Cond.code yX2_quotient cX2_quotient 3 (some .int) ∈ z_tb := z_in (in_t4 (List.mem_of_getElem? (i := 58) rfl)) rfl
theorem wd114 : Cond.fieldLink RX8 15 "RowChildren$Tokens" "values" "[J" ∈ z_tb := z_in (in_t1 (List.mem_of_getElem? (i := 60) rfl)) rfl
theorem wd115 : Cond.code yX8_value cX8_value 2 (some .long) ∈ z_tb := z_in (in_t3 (List.mem_of_getElem? (i := 143) rfl)) rfl
theorem wd116 : Cond.code yX7_isVariable cX7_isVariable 1 (some .boolean) ∈ z_tb := z_in (in_t3 (List.mem_of_getElem? (i := 120) rfl)) rfl
theorem wd117 : Cond.instanceMethod yX2_unit ∈ z_tb := z_in (in_t4 (List.mem_of_getElem? (i := 50) rfl)) rfl
theorem wd118 : Cond.selects RX2 yX2_unit yX2_unit ∈ z_tb := z_in (in_pv (n := 3) (y := yX2_unit) (List.mem_of_getElem? (i := 21) rfl)) rfl
theorem wd119 : Cond.methodLink RX2 79 yX2_unit ∈ z_tb := z_in (in_t4 (List.mem_of_getElem? (i := 48) rfl)) rfl
theorem wd120 : Cond.fieldLink RX2 60 "RowChildren$Laws" "at" "I" ∈ z_tb := z_in (in_t1 (List.mem_of_getElem? (i := 208) rfl)) rfl
theorem wd121 : Cond.instanceMethod yX8_kind ∈ z_tb := z_in (in_t3 (List.mem_of_getElem? (i := 91) rfl)) rfl
theorem wd122 : Cond.selects RX8 yX8_kind yX8_kind ∈ z_tb := z_in (in_t3 (List.mem_of_getElem? (i := 92) rfl)) rfl
theorem wd123 : Cond.methodLink RX2 67 yX8_kind ∈ z_tb := z_in (in_t4 (List.mem_of_getElem? (i := 43) rfl)) rfl
theorem wd124 : Cond.static yX7_isOperator ∈ z_tb := z_in (in_t3 (List.mem_of_getElem? (i := 122) rfl)) rfl
theorem wd125 : Cond.instanceMethod yX2_quotient ∈ z_tb := z_in (in_t4 (List.mem_of_getElem? (i := 57) rfl)) rfl
theorem wd126 : Cond.selects RX2 yX2_quotient yX2_quotient ∈ z_tb := z_in (in_pv (n := 3) (y := yX2_quotient) (List.mem_of_getElem? (i := 22) rfl)) rfl
theorem wd127 : Cond.methodLink RX2 86 yX2_quotient ∈ z_tb := z_in (in_t4 (List.mem_of_getElem? (i := 55) rfl)) rfl
theorem wd128 : Cond.code yX2_expression cX2_expression 8 (some .int) ∈ z_tb := z_in (in_t4 (List.mem_of_getElem? (i := 47) rfl)) rfl
theorem wd129 : Cond.instanceMethod yX8_value ∈ z_tb := z_in (in_t3 (List.mem_of_getElem? (i := 141) rfl)) rfl
theorem wd130 : Cond.selects RX8 yX8_value yX8_value ∈ z_tb := z_in (in_t3 (List.mem_of_getElem? (i := 142) rfl)) rfl
theorem wd131 : Cond.methodLink RX2 89 yX8_value ∈ z_tb := z_in (in_t4 (List.mem_of_getElem? (i := 52) rfl)) rfl
theorem wd132 : Cond.static yX7_isVariable ∈ z_tb := z_in (in_t3 (List.mem_of_getElem? (i := 119) rfl)) rfl
theorem wd133 : Cond.instanceMethod yX2_expression ∈ z_tb := z_in (in_t4 (List.mem_of_getElem? (i := 46) rfl)) rfl
theorem wd134 : Cond.selects RX2 yX2_expression yX2_expression ∈ z_tb := z_in (in_pv (n := 3) (y := yX2_expression) (List.mem_of_getElem? (i := 20) rfl)) rfl
theorem wd135 : Cond.methodLink RX2 72 yX2_expression ∈ z_tb := z_in (in_t4 (List.mem_of_getElem? (i := 44) rfl)) rfl
theorem wd136 : Cond.code yX2_unit cX2_unit 5 (some .int) ∈ z_tb := z_in (in_t4 (List.mem_of_getElem? (i := 51) rfl)) rfl
theorem wd137 : Cond.code yX2_passElse cX2_passElse 2 none ∈ z_tb := z_in (in_t4 (List.mem_of_getElem? (i := 62) rfl)) rfl
theorem wd138 : Cond.instanceMethod yX2_passElse ∈ z_tb := z_in (in_t4 (List.mem_of_getElem? (i := 61) rfl)) rfl
theorem wd139 : Cond.selects RX2 yX2_passElse yX2_passElse ∈ z_tb := z_in (in_pv (n := 3) (y := yX2_passElse) (List.mem_of_getElem? (i := 23) rfl)) rfl
theorem wd140 : Cond.methodLink RX2 75 yX2_passElse ∈ z_tb := z_in (in_t4 (List.mem_of_getElem? (i := 59) rfl)) rfl
theorem wd141 : Cond.code yX2_told cX2_told 7 (some .int) ∈ z_tb := z_in (in_t4 (List.mem_of_getElem? (i := 42) rfl)) rfl
theorem wd142 : Cond.fieldLink RX2 36 "RowChildren$Text" "lawStarts" "[I" ∈ z_tb := z_in (in_t1 (List.mem_of_getElem? (i := 168) rfl)) rfl
theorem wd143 : Cond.fieldLink RX2 44 "RowChildren$Text" "tokens" "LRowChildren$Tokens;" ∈ z_tb := z_in (in_t1 (List.mem_of_getElem? (i := 162) rfl)) rfl
theorem wd144 : Cond.instanceMethod yX2_told ∈ z_tb := z_in (in_t4 (List.mem_of_getElem? (i := 41) rfl)) rfl
theorem wd145 : Cond.selects RX2 yX2_told yX2_told ∈ z_tb := z_in (in_pv (n := 3) (y := yX2_told) (List.mem_of_getElem? (i := 19) rfl)) rfl
theorem wd146 : Cond.methodLink RX2 48 yX2_told ∈ z_tb := z_in (in_t4 (List.mem_of_getElem? (i := 39) rfl)) rfl
theorem wd147 : Cond.methodLink RX2 52 Lib.Math.min.name ∈ z_tb := z_in (in_t4 (List.mem_of_getElem? (i := 63) rfl)) rfl
theorem wd148 : Cond.static Lib.Math.min.name ∈ z_tb := z_in (in_t3 (List.mem_of_getElem? (i := 39) rfl)) rfl
theorem wd149 : Cond.initialized RJ9 ∈ z_tb := z_in (in_t1 (List.mem_of_getElem? (i := 18) rfl)) rfl
theorem wd150 : Cond.code Lib.Math.min.name Lib.Math.min.code 2 (some .int) ∈ z_tb := z_in (in_t3 (List.mem_of_getElem? (i := 40) rfl)) rfl
theorem wd151 : Cond.methodLink RX2 57 Lib.Math.max.name ∈ z_tb := z_in (in_t4 (List.mem_of_getElem? (i := 64) rfl)) rfl
theorem wd152 : Cond.static Lib.Math.max.name ∈ z_tb := z_in (in_t3 (List.mem_of_getElem? (i := 36) rfl)) rfl
theorem wd153 : Cond.code Lib.Math.max.name Lib.Math.max.code 2 (some .int) ∈ z_tb := z_in (in_t3 (List.mem_of_getElem? (i := 37) rfl)) rfl
theorem wd154 : Cond.instanceMethod yX2_untold ∈ z_tb := z_in (in_t4 (List.mem_of_getElem? (i := 37) rfl)) rfl
theorem wd155 : Cond.selects RX2 yX2_untold yX2_untold ∈ z_tb := z_in (in_pv (n := 3) (y := yX2_untold) (List.mem_of_getElem? (i := 18) rfl)) rfl
theorem wd156 : Cond.methodLink RX2 41 yX2_untold ∈ z_tb := z_in (in_t4 (List.mem_of_getElem? (i := 35) rfl)) rfl
theorem wd157 : Cond.code yX2_held cX2_held 6 (some .int) ∈ z_tb := z_in (in_t4 (List.mem_of_getElem? (i := 34) rfl)) rfl
theorem wd158 : Cond.methodLink RX3 3 Lib.objectInit ∈ z_tb := z_in (in_t2 (List.mem_of_getElem? (i := 0) rfl)) rfl
theorem wd159 : Cond.classLink RX3 9 RX1 ∈ z_tb := z_in (in_t2 (List.mem_of_getElem? (i := 1) rfl)) rfl
theorem wd160 : Cond.fieldLink RX3 11 "RowChildren$Memory" "past" "[LRowChildren$Family;" ∈ z_tb := z_in (in_t2 (List.mem_of_getElem? (i := 7) rfl)) rfl
theorem wd161 : Cond.fieldLink RX3 17 "RowChildren$Memory" "slots" "[LRowChildren$Family;" ∈ z_tb := z_in (in_t2 (List.mem_of_getElem? (i := 8) rfl)) rfl
theorem wd162 : Cond.fieldLink RX3 20 "RowChildren$Memory" "isHeld" "[Z" ∈ z_tb := z_in (in_t2 (List.mem_of_getElem? (i := 9) rfl)) rfl
theorem wd163 : Cond.instantiable RX1 5 ∈ z_tb := z_in (in_t1 (List.mem_of_getElem? (i := 111) rfl)) rfl
theorem wd164 : Cond.instanceMethod yX1_init ∈ z_tb := z_in (in_t1 (List.mem_of_getElem? (i := 113) rfl)) rfl
theorem wd165 : Cond.code yX3_init cX3_init 2 none ∈ z_tb := z_in (in_t1 (List.mem_of_getElem? (i := 239) rfl)) rfl
theorem wd166 : Cond.initialized RX3 ∈ z_tb := z_in (in_t1 (List.mem_of_getElem? (i := 9) rfl)) rfl
theorem wd167 : Cond.fieldLink RX3 25 "RowChildren$Memory" "newest" "I" ∈ z_tb := z_in (in_t2 (List.mem_of_getElem? (i := 6) rfl)) rfl
theorem wd168 : Cond.instanceMethod yX1_copyFrom ∈ z_tb := z_in (in_t3 (List.mem_of_getElem? (i := 179) rfl)) rfl
theorem wd169 : Cond.selects RX1 yX1_copyFrom yX1_copyFrom ∈ z_tb := z_in (in_t3 (List.mem_of_getElem? (i := 180) rfl)) rfl
theorem wd170 : Cond.methodLink RX3 29 yX1_copyFrom ∈ z_tb := z_in (in_t4 (List.mem_of_getElem? (i := 144) rfl)) rfl
theorem wd171 : Cond.fieldLink RX3 33 "RowChildren$Memory" "undoable" "I" ∈ z_tb := z_in (in_t2 (List.mem_of_getElem? (i := 4) rfl)) rfl
theorem wd172 : Cond.methodLink RX3 36 Lib.Math.min.name ∈ z_tb := z_in (in_t4 (List.mem_of_getElem? (i := 145) rfl)) rfl
theorem wd173 : Cond.code yX3_remember cX3_remember 2 none ∈ z_tb := z_in (in_t4 (List.mem_of_getElem? (i := 143) rfl)) rfl
theorem wd174 : Cond.code yX3_recall cX3_recall 2 (some .boolean) ∈ z_tb := z_in (in_t4 (List.mem_of_getElem? (i := 190) rfl)) rfl
theorem wd175 : Cond.code yX3_clearUndone cX3_clearUndone 1 none ∈ z_tb := z_in (in_t3 (List.mem_of_getElem? (i := 188) rfl)) rfl
theorem wd176 : Cond.code yX3_clearSlots cX3_clearSlots 2 none ∈ z_tb := z_in (in_t3 (List.mem_of_getElem? (i := 192) rfl)) rfl
theorem wd177 : Cond.code yX3_keep cX3_keep 3 (some .boolean) ∈ z_tb := z_in (in_t5 (List.mem_of_getElem? (i := 237) rfl)) rfl
theorem wd178 : Cond.code yX3_bringBack cX3_bringBack 3 (some .boolean) ∈ z_tb := z_in (in_t6 (List.mem_of_getElem? (i := 5) rfl)) rfl
theorem wd179 : Cond.code yX3_slotsHeld cX3_slotsHeld 3 (some .int) ∈ z_tb := z_in (in_t6 (List.mem_of_getElem? (i := 29) rfl)) rfl
theorem wd180 : Cond.methodLink RX4 3 Lib.objectInit ∈ z_tb := z_in (in_t2 (List.mem_of_getElem? (i := 51) rfl)) rfl
theorem wd181 : Cond.classLink RX4 9 RX10 ∈ z_tb := z_in (in_t2 (List.mem_of_getElem? (i := 52) rfl)) rfl
theorem wd182 : Cond.fieldLink RX4 12 "RowChildren$Repainting" "triangle" "LRowChildren$Triangle;" ∈ z_tb := z_in (in_t2 (List.mem_of_getElem? (i := 54) rfl)) rfl
theorem wd183 : Cond.fieldLink RX4 18 "RowChildren$Repainting" "prices" "[I" ∈ z_tb := z_in (in_t2 (List.mem_of_getElem? (i := 55) rfl)) rfl
theorem wd184 : Cond.code yX4_init cX4_init 1 none ∈ z_tb := z_in (in_t2 (List.mem_of_getElem? (i := 50) rfl)) rfl
theorem wd185 : Cond.initialized RX4 ∈ z_tb := z_in (in_t1 (List.mem_of_getElem? (i := 11) rfl)) rfl
theorem wd186 : Cond.code yX4_setPrice cX4_setPrice 4 none ∈ z_tb := z_in (in_t4 (List.mem_of_getElem? (i := 230) rfl)) rfl
theorem wd187 : Cond.code yX10_tally cX10_tally 3 (some .int) ∈ z_tb := z_in (in_t4 (List.mem_of_getElem? (i := 72) rfl)) rfl
theorem wd188 : Cond.instanceMethod yX10_tally ∈ z_tb := z_in (in_t4 (List.mem_of_getElem? (i := 70) rfl)) rfl
theorem wd189 : Cond.selects RX10 yX10_tally yX10_tally ∈ z_tb := z_in (in_t4 (List.mem_of_getElem? (i := 71) rfl)) rfl
theorem wd190 : Cond.methodLink RX10 48 yX10_tally ∈ z_tb := z_in (in_t4 (List.mem_of_getElem? (i := 69) rfl)) rfl
theorem wd191 : Cond.methodLink RX10 51 Lib.Math.min.name ∈ z_tb := z_in (in_t4 (List.mem_of_getElem? (i := 73) rfl)) rfl
theorem wd192 : Cond.methodLink RX10 56 Lib.Math.max.name ∈ z_tb := z_in (in_t4 (List.mem_of_getElem? (i := 74) rfl)) rfl
theorem wd193 : Cond.code yX10_isFair cX10_isFair 5 (some .boolean) ∈ z_tb := z_in (in_t4 (List.mem_of_getElem? (i := 68) rfl)) rfl
theorem wd194 : Cond.fieldLink RX4 22 "RowChildren$Repainting" "wanted" "I" ∈ z_tb := z_in (in_t2 (List.mem_of_getElem? (i := 57) rfl)) rfl
theorem wd195 : Cond.methodLink RX4 80 yX10_lastChild ∈ z_tb := z_in (in_t5 (List.mem_of_getElem? (i := 9) rfl)) rfl
theorem wd196 : Cond.fieldLink RX4 41 "RowChildren$Repainting" "best" "I" ∈ z_tb := z_in (in_t2 (List.mem_of_getElem? (i := 59) rfl)) rfl
theorem wd197 : Cond.fieldLink RX4 38 "RowChildren$Repainting" "bestNumber" "I" ∈ z_tb := z_in (in_t2 (List.mem_of_getElem? (i := 60) rfl)) rfl
theorem wd198 : Cond.fieldLink RX4 30 "RowChildren$Table" "colours" "I" ∈ z_tb := z_in (in_t1 (List.mem_of_getElem? (i := 82) rfl)) rfl
theorem wd199 : Cond.instanceMethod yX10_isFair ∈ z_tb := z_in (in_t4 (List.mem_of_getElem? (i := 66) rfl)) rfl
theorem wd200 : Cond.selects RX10 yX10_isFair yX10_isFair ∈ z_tb := z_in (in_t4 (List.mem_of_getElem? (i := 67) rfl)) rfl
theorem wd201 : Cond.methodLink RX4 76 yX10_isFair ∈ z_tb := z_in (in_t5 (List.mem_of_getElem? (i := 8) rfl)) rfl
theorem wd202 : Cond.code yX4_noteRow cX4_noteRow 5 none ∈ z_tb := z_in (in_t5 (List.mem_of_getElem? (i := 7) rfl)) rfl
theorem wd203 : Cond.code yX10_tallyEdge cX10_tallyEdge 4 none ∈ z_tb := z_in (in_t3 (List.mem_of_getElem? (i := 234) rfl)) rfl
theorem wd204 : Cond.instanceMethod yX10_tallyEdge ∈ z_tb := z_in (in_t3 (List.mem_of_getElem? (i := 232) rfl)) rfl
theorem wd205 : Cond.selects RX10 yX10_tallyEdge yX10_tallyEdge ∈ z_tb := z_in (in_t3 (List.mem_of_getElem? (i := 233) rfl)) rfl
theorem wd206 : Cond.methodLink RX4 69 yX10_tallyEdge ∈ z_tb := z_in (in_t5 (List.mem_of_getElem? (i := 15) rfl)) rfl
theorem wd207 : Cond.methodLink RX4 73 yX10_tally ∈ z_tb := z_in (in_t5 (List.mem_of_getElem? (i := 16) rfl)) rfl
theorem wd208 : Cond.fieldLink RX4 35 "RowChildren$Repainting" "mostOfOne" "I" ∈ z_tb := z_in (in_t2 (List.mem_of_getElem? (i := 58) rfl)) rfl
theorem wd209 : Cond.code yX4_canStillBe cX4_canStillBe 4 (some .boolean) ∈ z_tb := z_in (in_t5 (List.mem_of_getElem? (i := 14) rfl)) rfl
theorem wd210 : Cond.fieldLink RX4 50 "RowChildren$Repainting" "length" "I" ∈ z_tb := z_in (in_t2 (List.mem_of_getElem? (i := 56) rfl)) rfl
theorem wd211 : Cond.methodLink RX4 62 yX10_put ∈ z_tb := z_in (in_t5 (List.mem_of_getElem? (i := 10) rfl)) rfl
theorem wd212 : Cond.instanceMethod yX4_canStillBe ∈ z_tb := z_in (in_t5 (List.mem_of_getElem? (i := 13) rfl)) rfl
theorem wd213 : Cond.selects RX4 yX4_canStillBe yX4_canStillBe ∈ z_tb := z_in (in_pv (n := 7) (y := yX4_canStillBe) (List.mem_of_getElem? (i := 34) rfl)) rfl
theorem wd214 : Cond.methodLink RX4 65 yX4_canStillBe ∈ z_tb := z_in (in_t5 (List.mem_of_getElem? (i := 11) rfl)) rfl
theorem wd215 : Cond.static yX4_goThrough ∈ z_tb := z_in (in_t5 (List.mem_of_getElem? (i := 2) rfl)) rfl
theorem wd216 : Cond.methodLink RX4 54 yX4_goThrough ∈ z_tb := z_in (in_t5 (List.mem_of_getElem? (i := 1) rfl)) rfl
theorem wd217 : Cond.instanceMethod yX4_noteRow ∈ z_tb := z_in (in_t5 (List.mem_of_getElem? (i := 6) rfl)) rfl
theorem wd218 : Cond.selects RX4 yX4_noteRow yX4_noteRow ∈ z_tb := z_in (in_pv (n := 7) (y := yX4_noteRow) (List.mem_of_getElem? (i := 33) rfl)) rfl
theorem wd219 : Cond.methodLink RX4 58 yX4_noteRow ∈ z_tb := z_in (in_t5 (List.mem_of_getElem? (i := 4) rfl)) rfl
theorem wd220 : Cond.code yX4_goThrough cX4_goThrough 7 none ∈ z_tb := z_in (in_t5 (List.mem_of_getElem? (i := 3) rfl)) rfl
theorem wd221 : Cond.methodLink RX4 44 Lib.Math.min.name ∈ z_tb := z_in (in_t4 (List.mem_of_getElem? (i := 239) rfl)) rfl
theorem wd222 : Cond.constant RX4 53 (1000000000) ∈ z_tb := z_in (in_t5 (List.mem_of_getElem? (i := 0) rfl)) rfl
theorem wd223 : Cond.code yX4_search cX4_search 3 none ∈ z_tb := z_in (in_t4 (List.mem_of_getElem? (i := 238) rfl)) rfl
theorem wd224 : Cond.instanceMethod yX4_search ∈ z_tb := z_in (in_t4 (List.mem_of_getElem? (i := 237) rfl)) rfl
theorem wd225 : Cond.selects RX4 yX4_search yX4_search ∈ z_tb := z_in (in_pv (n := 7) (y := yX4_search) (List.mem_of_getElem? (i := 32) rfl)) rfl
theorem wd226 : Cond.methodLink RX4 26 yX4_search ∈ z_tb := z_in (in_t4 (List.mem_of_getElem? (i := 235) rfl)) rfl
theorem wd227 : Cond.code yX4_towardsLast cX4_towardsLast 4 none ∈ z_tb := z_in (in_t4 (List.mem_of_getElem? (i := 234) rfl)) rfl
theorem wd228 : Cond.code yX4_towardsFair cX4_towardsFair 4 none ∈ z_tb := z_in (in_t5 (List.mem_of_getElem? (i := 28) rfl)) rfl
theorem wd229 : Cond.code yX4_answer cX4_answer 2 (some .int) ∈ z_tb := z_in (in_t5 (List.mem_of_getElem? (i := 20) rfl)) rfl
theorem wd230 : Cond.methodLink RX5 3 Lib.objectInit ∈ z_tb := z_in (in_t1 (List.mem_of_getElem? (i := 79) rfl)) rfl
theorem wd231 : Cond.fieldLink RX5 9 "RowChildren$Table" "children" "[I" ∈ z_tb := z_in (in_t1 (List.mem_of_getElem? (i := 90) rfl)) rfl
theorem wd232 : Cond.fieldLink RX5 15 "RowChildren$Table" "parentWays" "[I" ∈ z_tb := z_in (in_t1 (List.mem_of_getElem? (i := 92) rfl)) rfl
theorem wd233 : Cond.fieldLink RX5 18 "RowChildren$Table" "rowsBySet" "[I" ∈ z_tb := z_in (in_t1 (List.mem_of_getElem? (i := 93) rfl)) rfl
theorem wd234 : Cond.fieldLink RX5 21 "RowChildren$Table" "longerBySet" "[I" ∈ z_tb := z_in (in_t1 (List.mem_of_getElem? (i := 94) rfl)) rfl
theorem wd235 : Cond.code yX5_init cX5_init 1 none ∈ z_tb := z_in (in_t1 (List.mem_of_getElem? (i := 78) rfl)) rfl
theorem wd236 : Cond.initialized RX5 ∈ z_tb := z_in (in_t1 (List.mem_of_getElem? (i := 5) rfl)) rfl
theorem wd237 : Cond.fieldLink RX5 24 "RowChildren$Table" "colours" "I" ∈ z_tb := z_in (in_t1 (List.mem_of_getElem? (i := 80) rfl)) rfl
theorem wd238 : Cond.code yX5_clear cX5_clear 2 none ∈ z_tb := z_in (in_t1 (List.mem_of_getElem? (i := 148) rfl)) rfl
theorem wd239 : Cond.code yX5_setChild cX5_setChild 4 none ∈ z_tb := z_in (in_t1 (List.mem_of_getElem? (i := 160) rfl)) rfl
theorem wd240 : Cond.code yX5_childOf cX5_childOf 3 (some .int) ∈ z_tb := z_in (in_t1 (List.mem_of_getElem? (i := 156) rfl)) rfl
theorem wd241 : Cond.code yX5_nextColour cX5_nextColour 2 (some .int) ∈ z_tb := z_in (in_t4 (List.mem_of_getElem? (i := 182) rfl)) rfl
theorem wd242 : Cond.instanceMethod yX5_childOf ∈ z_tb := z_in (in_t1 (List.mem_of_getElem? (i := 154) rfl)) rfl
theorem wd243 : Cond.selects RX5 yX5_childOf yX5_childOf ∈ z_tb := z_in (in_t1 (List.mem_of_getElem? (i := 155) rfl)) rfl
theorem wd244 : Cond.methodLink RX5 28 yX5_childOf ∈ z_tb := z_in (in_t1 (List.mem_of_getElem? (i := 153) rfl)) rfl
theorem wd245 : Cond.instanceMethod yX5_setChild ∈ z_tb := z_in (in_t1 (List.mem_of_getElem? (i := 158) rfl)) rfl
theorem wd246 : Cond.selects RX5 yX5_setChild yX5_setChild ∈ z_tb := z_in (in_t1 (List.mem_of_getElem? (i := 159) rfl)) rfl
theorem wd247 : Cond.methodLink RX5 32 yX5_setChild ∈ z_tb := z_in (in_t1 (List.mem_of_getElem? (i := 157) rfl)) rfl
theorem wd248 : Cond.code yX5_fillGaps cX5_fillGaps 3 none ∈ z_tb := z_in (in_t1 (List.mem_of_getElem? (i := 152) rfl)) rfl
theorem wd249 : Cond.code yX5_isAlikeBothWays cX5_isAlikeBothWays 3 (some .boolean) ∈ z_tb := z_in (in_t5 (List.mem_of_getElem? (i := 113) rfl)) rfl
theorem wd250 : Cond.constant RJ6 265 (1431655765) ∈ z_tb := z_in (in_t5 (List.mem_of_getElem? (i := 121) rfl)) rfl
theorem wd251 : Cond.constant RJ6 266 (858993459) ∈ z_tb := z_in (in_t5 (List.mem_of_getElem? (i := 122) rfl)) rfl
theorem wd252 : Cond.constant RJ6 267 (252645135) ∈ z_tb := z_in (in_t5 (List.mem_of_getElem? (i := 123) rfl)) rfl
theorem wd253 : Cond.code yJ6_bitCount_0f7a4 cJ6_bitCount_0f7a4 1 (some .int) ∈ z_tb := z_in (in_t5 (List.mem_of_getElem? (i := 120) rfl)) rfl
theorem wd254 : Cond.initialized RJ6 ∈ z_tb := z_in (in_t1 (List.mem_of_getElem? (i := 21) rfl)) rfl
theorem wd255 : Cond.static yJ6_bitCount_0f7a4 ∈ z_tb := z_in (in_t5 (List.mem_of_getElem? (i := 119) rfl)) rfl
theorem wd256 : Cond.methodLink RX5 36 yJ6_bitCount_0f7a4 ∈ z_tb := z_in (in_t5 (List.mem_of_getElem? (i := 118) rfl)) rfl
theorem wd257 : Cond.code yX5_isUnlike cX5_isUnlike 5 (some .boolean) ∈ z_tb := z_in (in_t5 (List.mem_of_getElem? (i := 117) rfl)) rfl
theorem wd258 : Cond.code yX5_isAssociative cX5_isAssociative 4 (some .boolean) ∈ z_tb := z_in (in_t5 (List.mem_of_getElem? (i := 127) rfl)) rfl
theorem wd259 : Cond.code yX5_keepsAlike cX5_keepsAlike 2 (some .boolean) ∈ z_tb := z_in (in_t5 (List.mem_of_getElem? (i := 131) rfl)) rfl
theorem wd260 : Cond.code yX5_hasNeutral cX5_hasNeutral 4 (some .boolean) ∈ z_tb := z_in (in_t5 (List.mem_of_getElem? (i := 135) rfl)) rfl
theorem wd261 : Cond.code yX5_hasColour cX5_hasColour 2 (some .boolean) ∈ z_tb := z_in (in_t5 (List.mem_of_getElem? (i := 66) rfl)) rfl
theorem wd262 : Cond.static yX5_hasColour ∈ z_tb := z_in (in_t5 (List.mem_of_getElem? (i := 65) rfl)) rfl
theorem wd263 : Cond.methodLink RX5 42 yX5_hasColour ∈ z_tb := z_in (in_t5 (List.mem_of_getElem? (i := 64) rfl)) rfl
theorem wd264 : Cond.code yX5_closureOf cX5_closureOf 6 (some .int) ∈ z_tb := z_in (in_t5 (List.mem_of_getElem? (i := 143) rfl)) rfl
theorem wd265 : Cond.methodLink RX5 46 yX1_lengthOf ∈ z_tb := z_in (in_t5 (List.mem_of_getElem? (i := 46) rfl)) rfl
theorem wd266 : Cond.methodLink RX5 51 yX1_colourAt ∈ z_tb := z_in (in_t5 (List.mem_of_getElem? (i := 47) rfl)) rfl
theorem wd267 : Cond.code yX5_countParents cX5_countParents 8 (some .int) ∈ z_tb := z_in (in_t5 (List.mem_of_getElem? (i := 45) rfl)) rfl
theorem wd268 : Cond.code yX5_leastParents cX5_leastParents 9 (some .int) ∈ z_tb := z_in (in_t5 (List.mem_of_getElem? (i := 51) rfl)) rfl
theorem wd269 : Cond.code yX5_rightParents cX5_rightParents 6 (some .int) ∈ z_tb := z_in (in_t5 (List.mem_of_getElem? (i := 63) rfl)) rfl
theorem wd270 : Cond.instanceMethod yX5_rightParents ∈ z_tb := z_in (in_t5 (List.mem_of_getElem? (i := 62) rfl)) rfl
theorem wd271 : Cond.selects RX5 yX5_rightParents yX5_rightParents ∈ z_tb := z_in (in_pv (n := 7) (y := yX5_rightParents) (List.mem_of_getElem? (i := 36) rfl)) rfl
theorem wd272 : Cond.methodLink RX5 54 yX5_rightParents ∈ z_tb := z_in (in_t5 (List.mem_of_getElem? (i := 60) rfl)) rfl
theorem wd273 : Cond.code yX5_countOrphans cX5_countOrphans 6 (some .int) ∈ z_tb := z_in (in_t5 (List.mem_of_getElem? (i := 59) rfl)) rfl
theorem wd274 : Cond.code yX11_unpacked cX11_unpacked 3 (some .int) ∈ z_tb := z_in (in_t5 (List.mem_of_getElem? (i := 86) rfl)) rfl
theorem wd275 : Cond.initialized RX11 ∈ z_tb := z_in (in_t1 (List.mem_of_getElem? (i := 1) rfl)) rfl
theorem wd276 : Cond.static yX11_unpacked ∈ z_tb := z_in (in_t5 (List.mem_of_getElem? (i := 85) rfl)) rfl
theorem wd277 : Cond.code yX5_ringStep cX5_ringStep 6 (some .int) ∈ z_tb := z_in (in_t5 (List.mem_of_getElem? (i := 83) rfl)) rfl
theorem wd278 : Cond.instanceMethod yX5_ringStep ∈ z_tb := z_in (in_t5 (List.mem_of_getElem? (i := 82) rfl)) rfl
theorem wd279 : Cond.selects RX5 yX5_ringStep yX5_ringStep ∈ z_tb := z_in (in_pv (n := 7) (y := yX5_ringStep) (List.mem_of_getElem? (i := 37) rfl)) rfl
theorem wd280 : Cond.methodLink RX5 61 yX5_ringStep ∈ z_tb := z_in (in_t5 (List.mem_of_getElem? (i := 80) rfl)) rfl
theorem wd281 : Cond.code yX5_ringSteps cX5_ringSteps 6 (some .int) ∈ z_tb := z_in (in_t5 (List.mem_of_getElem? (i := 91) rfl)) rfl
theorem wd282 : Cond.fieldLink RX5 64 "RowChildren$Table" "ringPeriod" "I" ∈ z_tb := z_in (in_t1 (List.mem_of_getElem? (i := 88) rfl)) rfl
theorem wd283 : Cond.constant RX5 67 (1000000) ∈ z_tb := z_in (in_t5 (List.mem_of_getElem? (i := 87) rfl)) rfl
theorem wd284 : Cond.instanceMethod yX5_ringSteps ∈ z_tb := z_in (in_t5 (List.mem_of_getElem? (i := 90) rfl)) rfl
theorem wd285 : Cond.selects RX5 yX5_ringSteps yX5_ringSteps ∈ z_tb := z_in (in_pv (n := 7) (y := yX5_ringSteps) (List.mem_of_getElem? (i := 38) rfl)) rfl
theorem wd286 : Cond.methodLink RX5 68 yX5_ringSteps ∈ z_tb := z_in (in_t5 (List.mem_of_getElem? (i := 88) rfl)) rfl
theorem wd287 : Cond.fieldLink RX5 71 "RowChildren$Table" "ringLead" "I" ∈ z_tb := z_in (in_t1 (List.mem_of_getElem? (i := 86) rfl)) rfl
theorem wd288 : Cond.code yX5_findRing cX5_findRing 9 none ∈ z_tb := z_in (in_t5 (List.mem_of_getElem? (i := 79) rfl)) rfl
theorem wd289 : Cond.instanceMethod yX5_findRing ∈ z_tb := z_in (in_t5 (List.mem_of_getElem? (i := 77) rfl)) rfl
theorem wd290 : Cond.selects RX5 yX5_findRing yX5_findRing ∈ z_tb := z_in (in_t5 (List.mem_of_getElem? (i := 78) rfl)) rfl
theorem wd291 : Cond.methodLink RX5 74 yX5_findRing ∈ z_tb := z_in (in_t5 (List.mem_of_getElem? (i := 104) rfl)) rfl
theorem wd292 : Cond.code yX5_ringAfter cX5_ringAfter 6 (some .int) ∈ z_tb := z_in (in_t5 (List.mem_of_getElem? (i := 103) rfl)) rfl
theorem wd293 : Cond.methodLink RX6 3 Lib.objectInit ∈ z_tb := z_in (in_t1 (List.mem_of_getElem? (i := 35) rfl)) rfl
theorem wd294 : Cond.arrayClass .byte ∈ z_tb := z_in (in_t1 (List.mem_of_getElem? (i := 46) rfl)) rfl
theorem wd295 : Cond.fieldLink RX6 9 "RowChildren$Tape" "bytes" "[B" ∈ z_tb := z_in (in_t1 (List.mem_of_getElem? (i := 36) rfl)) rfl
theorem wd296 : Cond.code yX6_init cX6_init 1 none ∈ z_tb := z_in (in_t1 (List.mem_of_getElem? (i := 34) rfl)) rfl
theorem wd297 : Cond.initialized RX6 ∈ z_tb := z_in (in_t1 (List.mem_of_getElem? (i := 2) rfl)) rfl
theorem wd298 : Cond.fieldLink RX6 15 "RowChildren$Tape" "length" "I" ∈ z_tb := z_in (in_t1 (List.mem_of_getElem? (i := 38) rfl)) rfl
theorem wd299 : Cond.code yX6_append cX6_append 3 none ∈ z_tb := z_in (in_t2 (List.mem_of_getElem? (i := 162) rfl)) rfl
theorem wd300 : Cond.code yX6_byteAt cX6_byteAt 2 (some .int) ∈ z_tb := z_in (in_t2 (List.mem_of_getElem? (i := 189) rfl)) rfl
theorem wd301 : Cond.instanceMethod yX6_byteAt ∈ z_tb := z_in (in_t2 (List.mem_of_getElem? (i := 187) rfl)) rfl
theorem wd302 : Cond.selects RX6 yX6_byteAt yX6_byteAt ∈ z_tb := z_in (in_t2 (List.mem_of_getElem? (i := 188) rfl)) rfl
theorem wd303 : Cond.methodLink RX6 19 yX6_byteAt ∈ z_tb := z_in (in_t2 (List.mem_of_getElem? (i := 186) rfl)) rfl
theorem wd304 : Cond.code yX6_isBlank cX6_isBlank 3 (some .boolean) ∈ z_tb := z_in (in_t2 (List.mem_of_getElem? (i := 185) rfl)) rfl
theorem wd305 : Cond.code yX6_isLetter cX6_isLetter 3 (some .boolean) ∈ z_tb := z_in (in_t2 (List.mem_of_getElem? (i := 196) rfl)) rfl
theorem wd306 : Cond.code yX6_isDigit cX6_isDigit 3 (some .boolean) ∈ z_tb := z_in (in_t2 (List.mem_of_getElem? (i := 200) rfl)) rfl
theorem wd307 : Cond.methodLink RX8 3 Lib.objectInit ∈ z_tb := z_in (in_t1 (List.mem_of_getElem? (i := 58) rfl)) rfl
theorem wd308 : Cond.arrayClass .long ∈ z_tb := z_in (in_t1 (List.mem_of_getElem? (i := 73) rfl)) rfl
theorem wd309 : Cond.fieldLink RX8 19 "RowChildren$Tokens" "places" "[I" ∈ z_tb := z_in (in_t1 (List.mem_of_getElem? (i := 61) rfl)) rfl
theorem wd310 : Cond.code yX8_init cX8_init 1 none ∈ z_tb := z_in (in_t1 (List.mem_of_getElem? (i := 57) rfl)) rfl
theorem wd311 : Cond.fieldLink RX7 53 "RowChildren$Text" "fault" "I" ∈ z_tb := z_in (in_t1 (List.mem_of_getElem? (i := 172) rfl)) rfl
theorem wd312 : Cond.fieldLink RX7 66 "RowChildren$Text" "faultPlace" "I" ∈ z_tb := z_in (in_t1 (List.mem_of_getElem? (i := 174) rfl)) rfl
theorem wd313 : Cond.fieldLink RX7 80 "RowChildren$Text" "seed" "I" ∈ z_tb := z_in (in_t1 (List.mem_of_getElem? (i := 170) rfl)) rfl
theorem wd314 : Cond.fieldLink RX7 69 "RowChildren$Text" "highestColour" "I" ∈ z_tb := z_in (in_t1 (List.mem_of_getElem? (i := 177) rfl)) rfl
theorem wd315 : Cond.fieldLink RX7 28 "RowChildren$Text" "start" "LRowChildren$Family;" ∈ z_tb := z_in (in_t1 (List.mem_of_getElem? (i := 165) rfl)) rfl
theorem wd316 : Cond.instanceMethod yX1_clear ∈ z_tb := z_in (in_t1 (List.mem_of_getElem? (i := 142) rfl)) rfl
theorem wd317 : Cond.selects RX1 yX1_clear yX1_clear ∈ z_tb := z_in (in_t1 (List.mem_of_getElem? (i := 143) rfl)) rfl
theorem wd318 : Cond.methodLink RX7 83 yX1_clear ∈ z_tb := z_in (in_t1 (List.mem_of_getElem? (i := 141) rfl)) rfl
theorem wd319 : Cond.fieldLink RX7 21 "RowChildren$Text" "table" "LRowChildren$Table;" ∈ z_tb := z_in (in_t1 (List.mem_of_getElem? (i := 163) rfl)) rfl
theorem wd320 : Cond.instanceMethod yX5_clear ∈ z_tb := z_in (in_t1 (List.mem_of_getElem? (i := 146) rfl)) rfl
theorem wd321 : Cond.selects RX5 yX5_clear yX5_clear ∈ z_tb := z_in (in_t1 (List.mem_of_getElem? (i := 147) rfl)) rfl
theorem wd322 : Cond.methodLink RX7 86 yX5_clear ∈ z_tb := z_in (in_t1 (List.mem_of_getElem? (i := 145) rfl)) rfl
theorem wd323 : Cond.fieldLink RX7 32 "RowChildren$Text" "lawStarts" "[I" ∈ z_tb := z_in (in_t1 (List.mem_of_getElem? (i := 167) rfl)) rfl
theorem wd324 : Cond.code yX7_tellNothing cX7_tellNothing 2 none ∈ z_tb := z_in (in_t1 (List.mem_of_getElem? (i := 140) rfl)) rfl
theorem wd325 : Cond.methodLink RX7 3 Lib.objectInit ∈ z_tb := z_in (in_t1 (List.mem_of_getElem? (i := 52) rfl)) rfl
theorem wd326 : Cond.classLink RX7 9 RX8 ∈ z_tb := z_in (in_t1 (List.mem_of_getElem? (i := 53) rfl)) rfl
theorem wd327 : Cond.instantiable RX8 4 ∈ z_tb := z_in (in_t1 (List.mem_of_getElem? (i := 54) rfl)) rfl
theorem wd328 : Cond.instanceMethod yX8_init ∈ z_tb := z_in (in_t1 (List.mem_of_getElem? (i := 56) rfl)) rfl
theorem wd329 : Cond.fieldLink RX7 12 "RowChildren$Text" "tokens" "LRowChildren$Tokens;" ∈ z_tb := z_in (in_t1 (List.mem_of_getElem? (i := 161) rfl)) rfl
theorem wd330 : Cond.classLink RX7 18 RX5 ∈ z_tb := z_in (in_t1 (List.mem_of_getElem? (i := 74) rfl)) rfl
theorem wd331 : Cond.instantiable RX5 7 ∈ z_tb := z_in (in_t1 (List.mem_of_getElem? (i := 75) rfl)) rfl
theorem wd332 : Cond.instanceMethod yX5_init ∈ z_tb := z_in (in_t1 (List.mem_of_getElem? (i := 77) rfl)) rfl
theorem wd333 : Cond.classLink RX7 25 RX1 ∈ z_tb := z_in (in_t1 (List.mem_of_getElem? (i := 110) rfl)) rfl
theorem wd334 : Cond.fieldLink RX7 36 "RowChildren$Text" "names" "[J" ∈ z_tb := z_in (in_t1 (List.mem_of_getElem? (i := 169) rfl)) rfl
theorem wd335 : Cond.instanceMethod yX7_tellNothing ∈ z_tb := z_in (in_t1 (List.mem_of_getElem? (i := 139) rfl)) rfl
theorem wd336 : Cond.selects RX7 yX7_tellNothing yX7_tellNothing ∈ z_tb := z_in (in_pv (n := 10) (y := yX7_tellNothing) (List.mem_of_getElem? (i := 0) rfl)) rfl
theorem wd337 : Cond.methodLink RX7 40 yX7_tellNothing ∈ z_tb := z_in (in_t1 (List.mem_of_getElem? (i := 137) rfl)) rfl
theorem wd338 : Cond.instanceMethod yX5_fillGaps ∈ z_tb := z_in (in_t1 (List.mem_of_getElem? (i := 150) rfl)) rfl
theorem wd339 : Cond.selects RX5 yX5_fillGaps yX5_fillGaps ∈ z_tb := z_in (in_t1 (List.mem_of_getElem? (i := 151) rfl)) rfl
theorem wd340 : Cond.methodLink RX7 43 yX5_fillGaps ∈ z_tb := z_in (in_t1 (List.mem_of_getElem? (i := 149) rfl)) rfl
theorem wd341 : Cond.code yX7_init cX7_init 1 none ∈ z_tb := z_in (in_t1 (List.mem_of_getElem? (i := 51) rfl)) rfl
theorem wd342 : Cond.fieldLink RX8 41 "RowChildren$Tape" "length" "I" ∈ z_tb := z_in (in_t1 (List.mem_of_getElem? (i := 40) rfl)) rfl
theorem wd343 : Cond.instanceMethod yX6_isBlank ∈ z_tb := z_in (in_t2 (List.mem_of_getElem? (i := 183) rfl)) rfl
theorem wd344 : Cond.selects RX6 yX6_isBlank yX6_isBlank ∈ z_tb := z_in (in_t2 (List.mem_of_getElem? (i := 184) rfl)) rfl
theorem wd345 : Cond.methodLink RX8 46 yX6_isBlank ∈ z_tb := z_in (in_t2 (List.mem_of_getElem? (i := 182) rfl)) rfl
theorem wd346 : Cond.code yX8_pastBlanks cX8_pastBlanks 3 (some .int) ∈ z_tb := z_in (in_t2 (List.mem_of_getElem? (i := 181) rfl)) rfl
theorem wd347 : Cond.instanceMethod yX6_isDigit ∈ z_tb := z_in (in_t2 (List.mem_of_getElem? (i := 198) rfl)) rfl
theorem wd348 : Cond.selects RX6 yX6_isDigit yX6_isDigit ∈ z_tb := z_in (in_t2 (List.mem_of_getElem? (i := 199) rfl)) rfl
theorem wd349 : Cond.methodLink RX8 53 yX6_isDigit ∈ z_tb := z_in (in_t2 (List.mem_of_getElem? (i := 197) rfl)) rfl
theorem wd350 : Cond.instanceMethod yX6_isLetter ∈ z_tb := z_in (in_t2 (List.mem_of_getElem? (i := 194) rfl)) rfl
theorem wd351 : Cond.selects RX6 yX6_isLetter yX6_isLetter ∈ z_tb := z_in (in_t2 (List.mem_of_getElem? (i := 195) rfl)) rfl
theorem wd352 : Cond.methodLink RX8 50 yX6_isLetter ∈ z_tb := z_in (in_t2 (List.mem_of_getElem? (i := 193) rfl)) rfl
theorem wd353 : Cond.code yX8_endOf cX8_endOf 3 (some .int) ∈ z_tb := z_in (in_t2 (List.mem_of_getElem? (i := 192) rfl)) rfl
theorem wd354 : Cond.fieldLink RJ0 38 "java/lang/String" "COMPACT_STRINGS" "Z" ∈ z_tb := z_in (in_t2 (List.mem_of_getElem? (i := 220) rfl)) rfl
theorem wd355 : Cond.fieldLink RJ0 15 "java/lang/String" "coder" "B" ∈ z_tb := z_in (in_t9 (List.mem_of_getElem? (i := 63) rfl)) rfl
theorem wd356 : Cond.code yJ0_isLatin1_aae02 cJ0_isLatin1_aae02 1 (some .boolean) ∈ z_tb := z_in (in_t2 (List.mem_of_getElem? (i := 219) rfl)) rfl
theorem wd357 : Cond.initialized RJ0 ∈ z_tb := z_in (in_t1 (List.mem_of_getElem? (i := 14) rfl)) rfl
theorem wd358 : Cond.code yJ3_checkIndex_8e157 cJ3_checkIndex_8e157 3 (some .int) ∈ z_tb := z_in (in_t2 (List.mem_of_getElem? (i := 232) rfl)) rfl
theorem wd359 : Cond.initialized RJ3 ∈ z_tb := z_in (in_t1 (List.mem_of_getElem? (i := 16) rfl)) rfl
theorem wd360 : Cond.fieldLink RJ0 1053 "jdk/internal/util/Preconditions" "SIOOBE_FORMATTER" "Ljava/util/function/BiFunction;" ∈ z_tb := z_in (in_t2 (List.mem_of_getElem? (i := 228) rfl)) rfl
theorem wd361 : Cond.static yJ3_checkIndex_8e157 ∈ z_tb := z_in (in_t2 (List.mem_of_getElem? (i := 231) rfl)) rfl
theorem wd362 : Cond.methodLink RJ0 1059 yJ3_checkIndex_8e157 ∈ z_tb := z_in (in_t2 (List.mem_of_getElem? (i := 230) rfl)) rfl
theorem wd363 : Cond.code yJ0_checkIndex_df160 cJ0_checkIndex_df160 2 none ∈ z_tb := z_in (in_t2 (List.mem_of_getElem? (i := 227) rfl)) rfl
theorem wd364 : Cond.static yJ0_checkIndex_df160 ∈ z_tb := z_in (in_t2 (List.mem_of_getElem? (i := 226) rfl)) rfl
theorem wd365 : Cond.methodLink RJ1 9 yJ0_checkIndex_df160 ∈ z_tb := z_in (in_t2 (List.mem_of_getElem? (i := 225) rfl)) rfl
theorem wd366 : Cond.code yJ1_charAt_3b067 cJ1_charAt_3b067 2 (some .char) ∈ z_tb := z_in (in_t2 (List.mem_of_getElem? (i := 224) rfl)) rfl
theorem wd367 : Cond.initialized RJ1 ∈ z_tb := z_in (in_t1 (List.mem_of_getElem? (i := 15) rfl)) rfl
theorem wd368 : Cond.instanceMethod yJ0_isLatin1_aae02 ∈ z_tb := z_in (in_t2 (List.mem_of_getElem? (i := 217) rfl)) rfl
theorem wd369 : Cond.selects RJ0 yJ0_isLatin1_aae02 yJ0_isLatin1_aae02 ∈ z_tb := z_in (in_t2 (List.mem_of_getElem? (i := 218) rfl)) rfl
theorem wd370 : Cond.methodLink RJ0 492 yJ0_isLatin1_aae02 ∈ z_tb := z_in (in_t2 (List.mem_of_getElem? (i := 216) rfl)) rfl
theorem wd371 : Cond.fieldLink RJ0 9 "java/lang/String" "value" "[B" ∈ z_tb := z_in (in_t9 (List.mem_of_getElem? (i := 64) rfl)) rfl
theorem wd372 : Cond.static yJ1_charAt_3b067 ∈ z_tb := z_in (in_t2 (List.mem_of_getElem? (i := 223) rfl)) rfl
theorem wd373 : Cond.methodLink RJ0 495 yJ1_charAt_3b067 ∈ z_tb := z_in (in_t2 (List.mem_of_getElem? (i := 222) rfl)) rfl
theorem wd374 : Cond.code yJ0_charAt_5068e cJ0_charAt_5068e 2 (some .char) ∈ z_tb := z_in (in_t2 (List.mem_of_getElem? (i := 215) rfl)) rfl
theorem wd375 : Cond.instanceMethod yJ0_charAt_5068e ∈ z_tb := z_in (in_t2 (List.mem_of_getElem? (i := 213) rfl)) rfl
theorem wd376 : Cond.selects RJ0 yJ0_charAt_5068e yJ0_charAt_5068e ∈ z_tb := z_in (in_t2 (List.mem_of_getElem? (i := 214) rfl)) rfl
theorem wd377 : Cond.methodLink RX8 76 yJ0_charAt_5068e ∈ z_tb := z_in (in_t2 (List.mem_of_getElem? (i := 212) rfl)) rfl
theorem wd378 : Cond.methodLink RX8 59 yX6_byteAt ∈ z_tb := z_in (in_t2 (List.mem_of_getElem? (i := 210) rfl)) rfl
theorem wd379 : Cond.code yX8_isWord cX8_isWord 6 (some .boolean) ∈ z_tb := z_in (in_t2 (List.mem_of_getElem? (i := 209) rfl)) rfl
theorem wd380 : Cond.static yX8_isWord ∈ z_tb := z_in (in_t2 (List.mem_of_getElem? (i := 208) rfl)) rfl
theorem wd381 : Cond.methodLink RX8 70 yX8_isWord ∈ z_tb := z_in (in_t2 (List.mem_of_getElem? (i := 207) rfl)) rfl
theorem wd382 : Cond.code yX8_wordOrName cX8_wordOrName 4 (some .int) ∈ z_tb := z_in (in_t2 (List.mem_of_getElem? (i := 206) rfl)) rfl
theorem wd383 : Cond.code yJ0_coder_7d493 cJ0_coder_7d493 1 (some .byte) ∈ z_tb := z_in (in_t3 (List.mem_of_getElem? (i := 28) rfl)) rfl
theorem wd384 : Cond.instanceMethod yJ0_coder_7d493 ∈ z_tb := z_in (in_t3 (List.mem_of_getElem? (i := 26) rfl)) rfl
theorem wd385 : Cond.selects RJ0 yJ0_coder_7d493 yJ0_coder_7d493 ∈ z_tb := z_in (in_t3 (List.mem_of_getElem? (i := 27) rfl)) rfl
theorem wd386 : Cond.methodLink RJ0 335 yJ0_coder_7d493 ∈ z_tb := z_in (in_t3 (List.mem_of_getElem? (i := 25) rfl)) rfl
theorem wd387 : Cond.code yJ0_length_8abf5 cJ0_length_8abf5 1 (some .int) ∈ z_tb := z_in (in_t3 (List.mem_of_getElem? (i := 24) rfl)) rfl
theorem wd388 : Cond.code yJ1_canEncode_9a6ad cJ1_canEncode_9a6ad 1 (some .boolean) ∈ z_tb := z_in (in_t3 (List.mem_of_getElem? (i := 34) rfl)) rfl
theorem wd389 : Cond.code yJ1_indexOfChar_4cfef cJ1_indexOfChar_4cfef 6 (some .int) ∈ z_tb := z_in (in_t3 (List.mem_of_getElem? (i := 43) rfl)) rfl
theorem wd390 : Cond.static yJ1_canEncode_9a6ad ∈ z_tb := z_in (in_t3 (List.mem_of_getElem? (i := 33) rfl)) rfl
theorem wd391 : Cond.methodLink RJ1 88 yJ1_canEncode_9a6ad ∈ z_tb := z_in (in_t3 (List.mem_of_getElem? (i := 32) rfl)) rfl
theorem wd392 : Cond.methodLink RJ1 92 Lib.Math.max.name ∈ z_tb := z_in (in_t3 (List.mem_of_getElem? (i := 35) rfl)) rfl
theorem wd393 : Cond.methodLink RJ1 38 Lib.Math.min.name ∈ z_tb := z_in (in_t3 (List.mem_of_getElem? (i := 38) rfl)) rfl
theorem wd394 : Cond.static yJ1_indexOfChar_4cfef ∈ z_tb := z_in (in_t3 (List.mem_of_getElem? (i := 42) rfl)) rfl
theorem wd395 : Cond.methodLink RJ1 95 yJ1_indexOfChar_4cfef ∈ z_tb := z_in (in_t3 (List.mem_of_getElem? (i := 41) rfl)) rfl
theorem wd396 : Cond.code yJ1_indexOf_4cfef cJ1_indexOf_4cfef 4 (some .int) ∈ z_tb := z_in (in_t3 (List.mem_of_getElem? (i := 31) rfl)) rfl
theorem wd397 : Cond.instanceMethod yJ0_length_8abf5 ∈ z_tb := z_in (in_t3 (List.mem_of_getElem? (i := 22) rfl)) rfl
theorem wd398 : Cond.selects RJ0 yJ0_length_8abf5 yJ0_length_8abf5 ∈ z_tb := z_in (in_t3 (List.mem_of_getElem? (i := 23) rfl)) rfl
theorem wd399 : Cond.methodLink RJ0 505 yJ0_length_8abf5 ∈ z_tb := z_in (in_t3 (List.mem_of_getElem? (i := 21) rfl)) rfl
theorem wd400 : Cond.static yJ1_indexOf_4cfef ∈ z_tb := z_in (in_t3 (List.mem_of_getElem? (i := 30) rfl)) rfl
theorem wd401 : Cond.methodLink RJ0 637 yJ1_indexOf_4cfef ∈ z_tb := z_in (in_t3 (List.mem_of_getElem? (i := 29) rfl)) rfl
theorem wd402 : Cond.code yJ0_indexOf_7cf53 cJ0_indexOf_7cf53 3 (some .int) ∈ z_tb := z_in (in_t3 (List.mem_of_getElem? (i := 20) rfl)) rfl
theorem wd403 : Cond.instanceMethod yJ0_indexOf_7cf53 ∈ z_tb := z_in (in_t3 (List.mem_of_getElem? (i := 18) rfl)) rfl
theorem wd404 : Cond.selects RJ0 yJ0_indexOf_7cf53 yJ0_indexOf_7cf53 ∈ z_tb := z_in (in_t3 (List.mem_of_getElem? (i := 19) rfl)) rfl
theorem wd405 : Cond.methodLink RJ0 633 yJ0_indexOf_7cf53 ∈ z_tb := z_in (in_t3 (List.mem_of_getElem? (i := 17) rfl)) rfl
theorem wd406 : Cond.code yJ0_indexOf_0f7a4 cJ0_indexOf_0f7a4 2 (some .int) ∈ z_tb := z_in (in_t3 (List.mem_of_getElem? (i := 16) rfl)) rfl
theorem wd407 : Cond.instanceMethod yJ0_indexOf_0f7a4 ∈ z_tb := z_in (in_t3 (List.mem_of_getElem? (i := 14) rfl)) rfl
theorem wd408 : Cond.selects RJ0 yJ0_indexOf_0f7a4 yJ0_indexOf_0f7a4 ∈ z_tb := z_in (in_t3 (List.mem_of_getElem? (i := 15) rfl)) rfl
theorem wd409 : Cond.methodLink RX8 65 yJ0_indexOf_0f7a4 ∈ z_tb := z_in (in_t3 (List.mem_of_getElem? (i := 13) rfl)) rfl
theorem wd410 : Cond.static yX8_wordOrName ∈ z_tb := z_in (in_t2 (List.mem_of_getElem? (i := 205) rfl)) rfl
theorem wd411 : Cond.methodLink RX8 56 yX8_wordOrName ∈ z_tb := z_in (in_t2 (List.mem_of_getElem? (i := 204) rfl)) rfl
theorem wd412 : Cond.code yX8_kindOf cX8_kindOf 4 (some .int) ∈ z_tb := z_in (in_t2 (List.mem_of_getElem? (i := 203) rfl)) rfl
theorem wd413 : Cond.constantLong RX8 84 (32) ∈ z_tb := z_in (in_t3 (List.mem_of_getElem? (i := 84) rfl)) rfl
theorem wd414 : Cond.constantLong RX8 86 (97) ∈ z_tb := z_in (in_t3 (List.mem_of_getElem? (i := 85) rfl)) rfl
theorem wd415 : Cond.constantLong RX8 80 (10) ∈ z_tb := z_in (in_t3 (List.mem_of_getElem? (i := 82) rfl)) rfl
theorem wd416 : Cond.constantLong RX8 82 (48) ∈ z_tb := z_in (in_t3 (List.mem_of_getElem? (i := 83) rfl)) rfl
theorem wd417 : Cond.code yX8_codeOf cX8_codeOf 6 (some .long) ∈ z_tb := z_in (in_t3 (List.mem_of_getElem? (i := 81) rfl)) rfl
theorem wd418 : Cond.static yX8_pastBlanks ∈ z_tb := z_in (in_t2 (List.mem_of_getElem? (i := 180) rfl)) rfl
theorem wd419 : Cond.methodLink RX8 26 yX8_pastBlanks ∈ z_tb := z_in (in_t2 (List.mem_of_getElem? (i := 179) rfl)) rfl
theorem wd420 : Cond.static yX8_endOf ∈ z_tb := z_in (in_t2 (List.mem_of_getElem? (i := 191) rfl)) rfl
theorem wd421 : Cond.methodLink RX8 30 yX8_endOf ∈ z_tb := z_in (in_t2 (List.mem_of_getElem? (i := 190) rfl)) rfl
theorem wd422 : Cond.static yX8_kindOf ∈ z_tb := z_in (in_t2 (List.mem_of_getElem? (i := 202) rfl)) rfl
theorem wd423 : Cond.methodLink RX8 33 yX8_kindOf ∈ z_tb := z_in (in_t2 (List.mem_of_getElem? (i := 201) rfl)) rfl
theorem wd424 : Cond.static yX8_codeOf ∈ z_tb := z_in (in_t3 (List.mem_of_getElem? (i := 80) rfl)) rfl
theorem wd425 : Cond.methodLink RX8 37 yX8_codeOf ∈ z_tb := z_in (in_t3 (List.mem_of_getElem? (i := 79) rfl)) rfl
theorem wd426 : Cond.code yX8_scan cX8_scan 6 none ∈ z_tb := z_in (in_t2 (List.mem_of_getElem? (i := 178) rfl)) rfl
theorem wd427 : Cond.fieldLink RX7 60 "RowChildren$Text" "at" "I" ∈ z_tb := z_in (in_t1 (List.mem_of_getElem? (i := 176) rfl)) rfl
theorem wd428 : Cond.code yX7_step cX7_step 2 none ∈ z_tb := z_in (in_t3 (List.mem_of_getElem? (i := 97) rfl)) rfl
theorem wd429 : Cond.methodLink RX7 87 yX8_kind ∈ z_tb := z_in (in_t3 (List.mem_of_getElem? (i := 90) rfl)) rfl
theorem wd430 : Cond.instanceMethod yX7_step ∈ z_tb := z_in (in_t3 (List.mem_of_getElem? (i := 96) rfl)) rfl
theorem wd431 : Cond.selects RX7 yX7_step yX7_step ∈ z_tb := z_in (in_pv (n := 10) (y := yX7_step) (List.mem_of_getElem? (i := 2) rfl)) rfl
theorem wd432 : Cond.methodLink RX7 90 yX7_step ∈ z_tb := z_in (in_t3 (List.mem_of_getElem? (i := 94) rfl)) rfl
theorem wd433 : Cond.code yX7_expect cX7_expect 2 none ∈ z_tb := z_in (in_t3 (List.mem_of_getElem? (i := 105) rfl)) rfl
theorem wd434 : Cond.instanceMethod yX7_expect ∈ z_tb := z_in (in_t3 (List.mem_of_getElem? (i := 104) rfl)) rfl
theorem wd435 : Cond.selects RX7 yX7_expect yX7_expect ∈ z_tb := z_in (in_pv (n := 10) (y := yX7_expect) (List.mem_of_getElem? (i := 4) rfl)) rfl
theorem wd436 : Cond.methodLink RX7 104 yX7_expect ∈ z_tb := z_in (in_t3 (List.mem_of_getElem? (i := 102) rfl)) rfl
theorem wd437 : Cond.code yX7_checkRow cX7_checkRow 2 none ∈ z_tb := z_in (in_t3 (List.mem_of_getElem? (i := 101) rfl)) rfl
theorem wd438 : Cond.instanceMethod yX7_checkUnit ∈ z_tb := z_in (in_t3 (List.mem_of_getElem? (i := 116) rfl)) rfl
theorem wd439 : Cond.selects RX7 yX7_checkUnit yX7_checkUnit ∈ z_tb := z_in (in_pv (n := 10) (y := yX7_checkUnit) (List.mem_of_getElem? (i := 7) rfl)) rfl
theorem wd440 : Cond.methodLink RX7 110 yX7_checkUnit ∈ z_tb := z_in (in_t3 (List.mem_of_getElem? (i := 114) rfl)) rfl
theorem wd441 : Cond.methodLink RX7 113 yX7_isOperator ∈ z_tb := z_in (in_t3 (List.mem_of_getElem? (i := 121) rfl)) rfl
theorem wd442 : Cond.code yX7_checkExpression cX7_checkExpression 3 none ∈ z_tb := z_in (in_t3 (List.mem_of_getElem? (i := 113) rfl)) rfl
theorem wd443 : Cond.instanceMethod yX7_checkExpression ∈ z_tb := z_in (in_t3 (List.mem_of_getElem? (i := 112) rfl)) rfl
theorem wd444 : Cond.selects RX7 yX7_checkExpression yX7_checkExpression ∈ z_tb := z_in (in_pv (n := 10) (y := yX7_checkExpression) (List.mem_of_getElem? (i := 6) rfl)) rfl
theorem wd445 : Cond.methodLink RX7 107 yX7_checkExpression ∈ z_tb := z_in (in_t3 (List.mem_of_getElem? (i := 110) rfl)) rfl
theorem wd446 : Cond.methodLink RX7 117 yX7_isVariable ∈ z_tb := z_in (in_t3 (List.mem_of_getElem? (i := 118) rfl)) rfl
theorem wd447 : Cond.code yX7_checkUnit cX7_checkUnit 3 none ∈ z_tb := z_in (in_t3 (List.mem_of_getElem? (i := 117) rfl)) rfl
theorem wd448 : Cond.code yX7_checkLaw cX7_checkLaw 2 none ∈ z_tb := z_in (in_t3 (List.mem_of_getElem? (i := 109) rfl)) rfl
theorem wd449 : Cond.code yX7_checkNumbers cX7_checkNumbers 3 none ∈ z_tb := z_in (in_t3 (List.mem_of_getElem? (i := 127) rfl)) rfl
theorem wd450 : Cond.instanceMethod yX7_checkNumbers ∈ z_tb := z_in (in_t3 (List.mem_of_getElem? (i := 126) rfl)) rfl
theorem wd451 : Cond.selects RX7 yX7_checkNumbers yX7_checkNumbers ∈ z_tb := z_in (in_pv (n := 10) (y := yX7_checkNumbers) (List.mem_of_getElem? (i := 8) rfl)) rfl
theorem wd452 : Cond.methodLink RX7 100 yX7_checkNumbers ∈ z_tb := z_in (in_t3 (List.mem_of_getElem? (i := 124) rfl)) rfl
theorem wd453 : Cond.instanceMethod yX7_checkLaw ∈ z_tb := z_in (in_t3 (List.mem_of_getElem? (i := 108) rfl)) rfl
theorem wd454 : Cond.selects RX7 yX7_checkLaw yX7_checkLaw ∈ z_tb := z_in (in_pv (n := 10) (y := yX7_checkLaw) (List.mem_of_getElem? (i := 5) rfl)) rfl
theorem wd455 : Cond.methodLink RX7 97 yX7_checkLaw ∈ z_tb := z_in (in_t3 (List.mem_of_getElem? (i := 106) rfl)) rfl
theorem wd456 : Cond.instanceMethod yX7_checkRow ∈ z_tb := z_in (in_t3 (List.mem_of_getElem? (i := 100) rfl)) rfl
theorem wd457 : Cond.selects RX7 yX7_checkRow yX7_checkRow ∈ z_tb := z_in (in_pv (n := 10) (y := yX7_checkRow) (List.mem_of_getElem? (i := 3) rfl)) rfl
theorem wd458 : Cond.methodLink RX7 94 yX7_checkRow ∈ z_tb := z_in (in_t3 (List.mem_of_getElem? (i := 98) rfl)) rfl
theorem wd459 : Cond.code yX7_checkTells cX7_checkTells 5 none ∈ z_tb := z_in (in_t3 (List.mem_of_getElem? (i := 89) rfl)) rfl
theorem wd460 : Cond.methodLink RX7 141 yX8_value ∈ z_tb := z_in (in_t3 (List.mem_of_getElem? (i := 140) rfl)) rfl
theorem wd461 : Cond.code yX7_readNumber cX7_readNumber 5 (some .int) ∈ z_tb := z_in (in_t3 (List.mem_of_getElem? (i := 139) rfl)) rfl
theorem wd462 : Cond.instanceMethod yX7_readNumber ∈ z_tb := z_in (in_t3 (List.mem_of_getElem? (i := 138) rfl)) rfl
theorem wd463 : Cond.selects RX7 yX7_readNumber yX7_readNumber ∈ z_tb := z_in (in_pv (n := 10) (y := yX7_readNumber) (List.mem_of_getElem? (i := 11) rfl)) rfl
theorem wd464 : Cond.methodLink RX7 126 yX7_readNumber ∈ z_tb := z_in (in_t3 (List.mem_of_getElem? (i := 136) rfl)) rfl
theorem wd465 : Cond.methodLink RX7 145 Lib.Math.max.name ∈ z_tb := z_in (in_t3 (List.mem_of_getElem? (i := 148) rfl)) rfl
theorem wd466 : Cond.code yX7_readColour cX7_readColour 2 (some .int) ∈ z_tb := z_in (in_t3 (List.mem_of_getElem? (i := 147) rfl)) rfl
theorem wd467 : Cond.fieldLink RX7 150 "RowChildren$Family" "rows" "I" ∈ z_tb := z_in (in_t1 (List.mem_of_getElem? (i := 117) rfl)) rfl
theorem wd468 : Cond.instanceMethod yX7_readColour ∈ z_tb := z_in (in_t3 (List.mem_of_getElem? (i := 146) rfl)) rfl
theorem wd469 : Cond.selects RX7 yX7_readColour yX7_readColour ∈ z_tb := z_in (in_pv (n := 10) (y := yX7_readColour) (List.mem_of_getElem? (i := 12) rfl)) rfl
theorem wd470 : Cond.methodLink RX7 130 yX7_readColour ∈ z_tb := z_in (in_t3 (List.mem_of_getElem? (i := 144) rfl)) rfl
theorem wd471 : Cond.instanceMethod yX1_append ∈ z_tb := z_in (in_t3 (List.mem_of_getElem? (i := 155) rfl)) rfl
theorem wd472 : Cond.selects RX1 yX1_append yX1_append ∈ z_tb := z_in (in_t3 (List.mem_of_getElem? (i := 156) rfl)) rfl
theorem wd473 : Cond.methodLink RX7 153 yX1_append ∈ z_tb := z_in (in_t3 (List.mem_of_getElem? (i := 154) rfl)) rfl
theorem wd474 : Cond.code yX7_readRow cX7_readRow 5 none ∈ z_tb := z_in (in_t3 (List.mem_of_getElem? (i := 153) rfl)) rfl
theorem wd475 : Cond.instanceMethod yX7_readRow ∈ z_tb := z_in (in_t3 (List.mem_of_getElem? (i := 152) rfl)) rfl
theorem wd476 : Cond.selects RX7 yX7_readRow yX7_readRow ∈ z_tb := z_in (in_pv (n := 10) (y := yX7_readRow) (List.mem_of_getElem? (i := 13) rfl)) rfl
theorem wd477 : Cond.methodLink RX7 138 yX7_readRow ∈ z_tb := z_in (in_t3 (List.mem_of_getElem? (i := 150) rfl)) rfl
theorem wd478 : Cond.methodLink RX7 134 yX5_setChild ∈ z_tb := z_in (in_t3 (List.mem_of_getElem? (i := 149) rfl)) rfl
theorem wd479 : Cond.fieldLink RX7 72 "RowChildren$Table" "colours" "I" ∈ z_tb := z_in (in_t1 (List.mem_of_getElem? (i := 81) rfl)) rfl
theorem wd480 : Cond.code yX7_readTell cX7_readTell 4 none ∈ z_tb := z_in (in_t3 (List.mem_of_getElem? (i := 135) rfl)) rfl
theorem wd481 : Cond.code yX7_passSemicolon cX7_passSemicolon 1 none ∈ z_tb := z_in (in_t3 (List.mem_of_getElem? (i := 173) rfl)) rfl
theorem wd482 : Cond.instanceMethod yX7_readTell ∈ z_tb := z_in (in_t3 (List.mem_of_getElem? (i := 134) rfl)) rfl
theorem wd483 : Cond.selects RX7 yX7_readTell yX7_readTell ∈ z_tb := z_in (in_pv (n := 10) (y := yX7_readTell) (List.mem_of_getElem? (i := 10) rfl)) rfl
theorem wd484 : Cond.methodLink RX7 120 yX7_readTell ∈ z_tb := z_in (in_t3 (List.mem_of_getElem? (i := 132) rfl)) rfl
theorem wd485 : Cond.instanceMethod yX7_passSemicolon ∈ z_tb := z_in (in_t3 (List.mem_of_getElem? (i := 172) rfl)) rfl
theorem wd486 : Cond.selects RX7 yX7_passSemicolon yX7_passSemicolon ∈ z_tb := z_in (in_pv (n := 10) (y := yX7_passSemicolon) (List.mem_of_getElem? (i := 14) rfl)) rfl
theorem wd487 : Cond.methodLink RX7 123 yX7_passSemicolon ∈ z_tb := z_in (in_t3 (List.mem_of_getElem? (i := 170) rfl)) rfl
theorem wd488 : Cond.code yX7_readTells cX7_readTells 3 none ∈ z_tb := z_in (in_t3 (List.mem_of_getElem? (i := 131) rfl)) rfl
theorem wd489 : Cond.code yX8_start cX8_start 2 (some .int) ∈ z_tb := z_in (in_t3 (List.mem_of_getElem? (i := 177) rfl)) rfl
theorem wd490 : Cond.instanceMethod yX8_scan ∈ z_tb := z_in (in_t2 (List.mem_of_getElem? (i := 176) rfl)) rfl
theorem wd491 : Cond.selects RX8 yX8_scan yX8_scan ∈ z_tb := z_in (in_t2 (List.mem_of_getElem? (i := 177) rfl)) rfl
theorem wd492 : Cond.methodLink RX7 46 yX8_scan ∈ z_tb := z_in (in_t2 (List.mem_of_getElem? (i := 175) rfl)) rfl
theorem wd493 : Cond.instanceMethod yX7_checkTells ∈ z_tb := z_in (in_t3 (List.mem_of_getElem? (i := 88) rfl)) rfl
theorem wd494 : Cond.selects RX7 yX7_checkTells yX7_checkTells ∈ z_tb := z_in (in_pv (n := 10) (y := yX7_checkTells) (List.mem_of_getElem? (i := 1) rfl)) rfl
theorem wd495 : Cond.methodLink RX7 50 yX7_checkTells ∈ z_tb := z_in (in_t3 (List.mem_of_getElem? (i := 86) rfl)) rfl
theorem wd496 : Cond.fieldLink RX7 75 "RowChildren$Tape" "length" "I" ∈ z_tb := z_in (in_t1 (List.mem_of_getElem? (i := 39) rfl)) rfl
theorem wd497 : Cond.instanceMethod yX8_start ∈ z_tb := z_in (in_t3 (List.mem_of_getElem? (i := 175) rfl)) rfl
theorem wd498 : Cond.selects RX8 yX8_start yX8_start ∈ z_tb := z_in (in_t3 (List.mem_of_getElem? (i := 176) rfl)) rfl
theorem wd499 : Cond.methodLink RX7 63 yX8_start ∈ z_tb := z_in (in_t3 (List.mem_of_getElem? (i := 174) rfl)) rfl
theorem wd500 : Cond.instanceMethod yX7_readTells ∈ z_tb := z_in (in_t3 (List.mem_of_getElem? (i := 130) rfl)) rfl
theorem wd501 : Cond.selects RX7 yX7_readTells yX7_readTells ∈ z_tb := z_in (in_pv (n := 10) (y := yX7_readTells) (List.mem_of_getElem? (i := 9) rfl)) rfl
theorem wd502 : Cond.methodLink RX7 57 yX7_readTells ∈ z_tb := z_in (in_t3 (List.mem_of_getElem? (i := 128) rfl)) rfl
theorem wd503 : Cond.code yX7_take cX7_take 2 none ∈ z_tb := z_in (in_t2 (List.mem_of_getElem? (i := 174) rfl)) rfl
theorem wd504 : Cond.methodLink RX9 3 Lib.objectInit ∈ z_tb := z_in (in_t2 (List.mem_of_getElem? (i := 81) rfl)) rfl
theorem wd505 : Cond.fieldLink RX9 9 "RowChildren$Told" "depths" "[I" ∈ z_tb := z_in (in_t2 (List.mem_of_getElem? (i := 90) rfl)) rfl
theorem wd506 : Cond.fieldLink RX9 15 "RowChildren$Told" "seats" "[I" ∈ z_tb := z_in (in_t2 (List.mem_of_getElem? (i := 91) rfl)) rfl
theorem wd507 : Cond.fieldLink RX9 18 "RowChildren$Told" "colours" "[I" ∈ z_tb := z_in (in_t2 (List.mem_of_getElem? (i := 92) rfl)) rfl
theorem wd508 : Cond.fieldLink RX9 21 "RowChildren$Told" "isSo" "[Z" ∈ z_tb := z_in (in_t2 (List.mem_of_getElem? (i := 93) rfl)) rfl
theorem wd509 : Cond.classLink RX9 25 RX10 ∈ z_tb := z_in (in_t2 (List.mem_of_getElem? (i := 82) rfl)) rfl
theorem wd510 : Cond.fieldLink RX9 28 "RowChildren$Told" "triangle" "LRowChildren$Triangle;" ∈ z_tb := z_in (in_t2 (List.mem_of_getElem? (i := 94) rfl)) rfl
theorem wd511 : Cond.fieldLink RX9 32 "RowChildren$Told" "fitsBy" "[I" ∈ z_tb := z_in (in_t2 (List.mem_of_getElem? (i := 95) rfl)) rfl
theorem wd512 : Cond.code yX9_init cX9_init 1 none ∈ z_tb := z_in (in_t2 (List.mem_of_getElem? (i := 80) rfl)) rfl
theorem wd513 : Cond.initialized RX9 ∈ z_tb := z_in (in_t1 (List.mem_of_getElem? (i := 12) rfl)) rfl
theorem wd514 : Cond.fieldLink RX9 35 "RowChildren$Told" "size" "I" ∈ z_tb := z_in (in_t2 (List.mem_of_getElem? (i := 84) rfl)) rfl
theorem wd515 : Cond.code yX9_append cX9_append 5 none ∈ z_tb := z_in (in_t5 (List.mem_of_getElem? (i := 178) rfl)) rfl
theorem wd516 : Cond.code yX10_has cX10_has 3 (some .boolean) ∈ z_tb := z_in (in_t4 (List.mem_of_getElem? (i := 105) rfl)) rfl
theorem wd517 : Cond.instanceMethod yX10_has ∈ z_tb := z_in (in_t4 (List.mem_of_getElem? (i := 103) rfl)) rfl
theorem wd518 : Cond.selects RX10 yX10_has yX10_has ∈ z_tb := z_in (in_t4 (List.mem_of_getElem? (i := 104) rfl)) rfl
theorem wd519 : Cond.methodLink RX9 71 yX10_has ∈ z_tb := z_in (in_t5 (List.mem_of_getElem? (i := 206) rfl)) rfl
theorem wd520 : Cond.methodLink RX9 75 yX10_cell ∈ z_tb := z_in (in_t5 (List.mem_of_getElem? (i := 207) rfl)) rfl
theorem wd521 : Cond.code yX9_isFit cX9_isFit 3 (some .boolean) ∈ z_tb := z_in (in_t5 (List.mem_of_getElem? (i := 205) rfl)) rfl
theorem wd522 : Cond.code yX9_cellIndex cX9_cellIndex 2 (some .int) ∈ z_tb := z_in (in_t5 (List.mem_of_getElem? (i := 214) rfl)) rfl
theorem wd523 : Cond.fieldLink RX9 39 "RowChildren$Told" "fits" "I" ∈ z_tb := z_in (in_t2 (List.mem_of_getElem? (i := 86) rfl)) rfl
theorem wd524 : Cond.fieldLink RX9 78 "RowChildren$Triangle" "length" "I" ∈ z_tb := z_in (in_t1 (List.mem_of_getElem? (i := 224) rfl)) rfl
theorem wd525 : Cond.static yX9_cellIndex ∈ z_tb := z_in (in_t5 (List.mem_of_getElem? (i := 213) rfl)) rfl
theorem wd526 : Cond.methodLink RX9 81 yX9_cellIndex ∈ z_tb := z_in (in_t5 (List.mem_of_getElem? (i := 212) rfl)) rfl
theorem wd527 : Cond.fieldLink RX9 42 "RowChildren$Told" "leastFit" "I" ∈ z_tb := z_in (in_t2 (List.mem_of_getElem? (i := 88) rfl)) rfl
theorem wd528 : Cond.code yX9_noteRow cX9_noteRow 4 none ∈ z_tb := z_in (in_t5 (List.mem_of_getElem? (i := 211) rfl)) rfl
theorem wd529 : Cond.fieldLink RX9 63 "RowChildren$Table" "colours" "I" ∈ z_tb := z_in (in_t1 (List.mem_of_getElem? (i := 83) rfl)) rfl
theorem wd530 : Cond.methodLink RX9 67 yX10_put ∈ z_tb := z_in (in_t5 (List.mem_of_getElem? (i := 215) rfl)) rfl
theorem wd531 : Cond.static yX9_goThrough ∈ z_tb := z_in (in_t5 (List.mem_of_getElem? (i := 200) rfl)) rfl
theorem wd532 : Cond.methodLink RX9 51 yX9_goThrough ∈ z_tb := z_in (in_t5 (List.mem_of_getElem? (i := 199) rfl)) rfl
theorem wd533 : Cond.instanceMethod yX9_isFit ∈ z_tb := z_in (in_t5 (List.mem_of_getElem? (i := 204) rfl)) rfl
theorem wd534 : Cond.selects RX9 yX9_isFit yX9_isFit ∈ z_tb := z_in (in_pv (n := 9) (y := yX9_isFit) (List.mem_of_getElem? (i := 40) rfl)) rfl
theorem wd535 : Cond.methodLink RX9 55 yX9_isFit ∈ z_tb := z_in (in_t5 (List.mem_of_getElem? (i := 202) rfl)) rfl
theorem wd536 : Cond.instanceMethod yX9_noteRow ∈ z_tb := z_in (in_t5 (List.mem_of_getElem? (i := 210) rfl)) rfl
theorem wd537 : Cond.selects RX9 yX9_noteRow yX9_noteRow ∈ z_tb := z_in (in_pv (n := 9) (y := yX9_noteRow) (List.mem_of_getElem? (i := 41) rfl)) rfl
theorem wd538 : Cond.methodLink RX9 59 yX9_noteRow ∈ z_tb := z_in (in_t5 (List.mem_of_getElem? (i := 208) rfl)) rfl
theorem wd539 : Cond.code yX9_goThrough cX9_goThrough 7 none ∈ z_tb := z_in (in_t5 (List.mem_of_getElem? (i := 201) rfl)) rfl
theorem wd540 : Cond.methodLink RX9 45 Lib.Math.min.name ∈ z_tb := z_in (in_t5 (List.mem_of_getElem? (i := 198) rfl)) rfl
theorem wd541 : Cond.code yX9_findFits cX9_findFits 5 none ∈ z_tb := z_in (in_t5 (List.mem_of_getElem? (i := 197) rfl)) rfl
theorem wd542 : Cond.methodLink RX9 88 Lib.Math.max.name ∈ z_tb := z_in (in_t5 (List.mem_of_getElem? (i := 229) rfl)) rfl
theorem wd543 : Cond.code yX9_mostLeft cX9_mostLeft 5 (some .int) ∈ z_tb := z_in (in_t5 (List.mem_of_getElem? (i := 228) rfl)) rfl
theorem wd544 : Cond.constant RX9 84 (1000000000) ∈ z_tb := z_in (in_t5 (List.mem_of_getElem? (i := 224) rfl)) rfl
theorem wd545 : Cond.instanceMethod yX9_mostLeft ∈ z_tb := z_in (in_t5 (List.mem_of_getElem? (i := 227) rfl)) rfl
theorem wd546 : Cond.selects RX9 yX9_mostLeft yX9_mostLeft ∈ z_tb := z_in (in_pv (n := 9) (y := yX9_mostLeft) (List.mem_of_getElem? (i := 42) rfl)) rfl
theorem wd547 : Cond.methodLink RX9 85 yX9_mostLeft ∈ z_tb := z_in (in_t5 (List.mem_of_getElem? (i := 225) rfl)) rfl
theorem wd548 : Cond.code yX9_bestLook cX9_bestLook 7 (some .int) ∈ z_tb := z_in (in_t5 (List.mem_of_getElem? (i := 223) rfl)) rfl
theorem wd549 : Cond.methodLink RX10 22 yX1_lengthOf ∈ z_tb := z_in (in_t3 (List.mem_of_getElem? (i := 222) rfl)) rfl
theorem wd550 : Cond.methodLink RX10 28 yX1_colourAt ∈ z_tb := z_in (in_t3 (List.mem_of_getElem? (i := 223) rfl)) rfl
theorem wd551 : Cond.methodLink RX10 32 yX10_put ∈ z_tb := z_in (in_t3 (List.mem_of_getElem? (i := 227) rfl)) rfl
theorem wd552 : Cond.methodLink RX10 36 yX10_tallyEdge ∈ z_tb := z_in (in_t3 (List.mem_of_getElem? (i := 231) rfl)) rfl
theorem wd553 : Cond.code yX10_fill cX10_fill 5 none ∈ z_tb := z_in (in_t3 (List.mem_of_getElem? (i := 221) rfl)) rfl
theorem wd554 : Cond.code yX10_leftSide cX10_leftSide 2 (some .int) ∈ z_tb := z_in (in_t4 (List.mem_of_getElem? (i := 86) rfl)) rfl
theorem wd555 : Cond.code yX10_rightSide cX10_rightSide 2 (some .int) ∈ z_tb := z_in (in_t4 (List.mem_of_getElem? (i := 82) rfl)) rfl
theorem wd556 : Cond.instanceMethod yX10_rightSide ∈ z_tb := z_in (in_t4 (List.mem_of_getElem? (i := 80) rfl)) rfl
theorem wd557 : Cond.selects RX10 yX10_rightSide yX10_rightSide ∈ z_tb := z_in (in_t4 (List.mem_of_getElem? (i := 81) rfl)) rfl
theorem wd558 : Cond.methodLink RX10 59 yX10_rightSide ∈ z_tb := z_in (in_t4 (List.mem_of_getElem? (i := 79) rfl)) rfl
theorem wd559 : Cond.instanceMethod yX10_leftSide ∈ z_tb := z_in (in_t4 (List.mem_of_getElem? (i := 84) rfl)) rfl
theorem wd560 : Cond.selects RX10 yX10_leftSide yX10_leftSide ∈ z_tb := z_in (in_t4 (List.mem_of_getElem? (i := 85) rfl)) rfl
theorem wd561 : Cond.methodLink RX10 62 yX10_leftSide ∈ z_tb := z_in (in_t4 (List.mem_of_getElem? (i := 83) rfl)) rfl
theorem wd562 : Cond.code yX10_isTurned cX10_isTurned 3 (some .boolean) ∈ z_tb := z_in (in_t4 (List.mem_of_getElem? (i := 78) rfl)) rfl
theorem wd563 : Cond.methodLink RX11 1 Lib.objectInit ∈ z_tb := z_in (in_t1 (List.mem_of_getElem? (i := 27) rfl)) rfl
theorem wd564 : Cond.classLink RX11 7 RX6 ∈ z_tb := z_in (in_t1 (List.mem_of_getElem? (i := 30) rfl)) rfl
theorem wd565 : Cond.instantiable RX6 2 ∈ z_tb := z_in (in_t1 (List.mem_of_getElem? (i := 31) rfl)) rfl
theorem wd566 : Cond.instanceMethod yX6_init ∈ z_tb := z_in (in_t1 (List.mem_of_getElem? (i := 33) rfl)) rfl
theorem wd567 : Cond.fieldLink RX11 10 "RowChildren" "tape" "LRowChildren$Tape;" ∈ z_tb := z_in (in_t2 (List.mem_of_getElem? (i := 115) rfl)) rfl
theorem wd568 : Cond.classLink RX11 16 RX7 ∈ z_tb := z_in (in_t1 (List.mem_of_getElem? (i := 47) rfl)) rfl
theorem wd569 : Cond.instantiable RX7 10 ∈ z_tb := z_in (in_t1 (List.mem_of_getElem? (i := 48) rfl)) rfl
theorem wd570 : Cond.instanceMethod yX7_init ∈ z_tb := z_in (in_t1 (List.mem_of_getElem? (i := 50) rfl)) rfl
theorem wd571 : Cond.methodLink RX11 18 yX7_init ∈ z_tb := z_in (in_t1 (List.mem_of_getElem? (i := 49) rfl)) rfl
theorem wd572 : Cond.fieldLink RX11 19 "RowChildren" "text" "LRowChildren$Text;" ∈ z_tb := z_in (in_t2 (List.mem_of_getElem? (i := 116) rfl)) rfl
theorem wd573 : Cond.fieldLink RX11 23 "RowChildren" "draft" "LRowChildren$Text;" ∈ z_tb := z_in (in_t2 (List.mem_of_getElem? (i := 117) rfl)) rfl
theorem wd574 : Cond.fieldLink RX11 26 "RowChildren" "faultPlace" "I" ∈ z_tb := z_in (in_t2 (List.mem_of_getElem? (i := 118) rfl)) rfl
theorem wd575 : Cond.classLink RX11 30 RX1 ∈ z_tb := z_in (in_t1 (List.mem_of_getElem? (i := 199) rfl)) rfl
theorem wd576 : Cond.fieldLink RX11 33 "RowChildren" "family" "LRowChildren$Family;" ∈ z_tb := z_in (in_t2 (List.mem_of_getElem? (i := 119) rfl)) rfl
theorem wd577 : Cond.fieldLink RX11 37 "RowChildren" "future" "LRowChildren$Family;" ∈ z_tb := z_in (in_t2 (List.mem_of_getElem? (i := 120) rfl)) rfl
theorem wd578 : Cond.fieldLink RX11 40 "RowChildren" "newborn" "[I" ∈ z_tb := z_in (in_t2 (List.mem_of_getElem? (i := 121) rfl)) rfl
theorem wd579 : Cond.classLink RX11 44 RX2 ∈ z_tb := z_in (in_t1 (List.mem_of_getElem? (i := 201) rfl)) rfl
theorem wd580 : Cond.instantiable RX2 3 ∈ z_tb := z_in (in_t1 (List.mem_of_getElem? (i := 202) rfl)) rfl
theorem wd581 : Cond.instanceMethod yX2_init ∈ z_tb := z_in (in_t1 (List.mem_of_getElem? (i := 204) rfl)) rfl
theorem wd582 : Cond.fieldLink RX11 47 "RowChildren" "laws" "LRowChildren$Laws;" ∈ z_tb := z_in (in_t2 (List.mem_of_getElem? (i := 122) rfl)) rfl
theorem wd583 : Cond.classLink RX11 51 RX10 ∈ z_tb := z_in (in_t1 (List.mem_of_getElem? (i := 217) rfl)) rfl
theorem wd584 : Cond.fieldLink RX11 54 "RowChildren" "triangle" "LRowChildren$Triangle;" ∈ z_tb := z_in (in_t2 (List.mem_of_getElem? (i := 123) rfl)) rfl
theorem wd585 : Cond.classLink RX11 58 RX3 ∈ z_tb := z_in (in_t1 (List.mem_of_getElem? (i := 235) rfl)) rfl
theorem wd586 : Cond.instantiable RX3 5 ∈ z_tb := z_in (in_t1 (List.mem_of_getElem? (i := 236) rfl)) rfl
theorem wd587 : Cond.instanceMethod yX3_init ∈ z_tb := z_in (in_t1 (List.mem_of_getElem? (i := 238) rfl)) rfl
theorem wd588 : Cond.methodLink RX11 60 yX3_init ∈ z_tb := z_in (in_t1 (List.mem_of_getElem? (i := 237) rfl)) rfl
theorem wd589 : Cond.fieldLink RX11 61 "RowChildren" "memory" "LRowChildren$Memory;" ∈ z_tb := z_in (in_t2 (List.mem_of_getElem? (i := 124) rfl)) rfl
theorem wd590 : Cond.classLink RX11 65 RX0 ∈ z_tb := z_in (in_t2 (List.mem_of_getElem? (i := 22) rfl)) rfl
theorem wd591 : Cond.instantiable RX0 5 ∈ z_tb := z_in (in_t2 (List.mem_of_getElem? (i := 23) rfl)) rfl
theorem wd592 : Cond.instanceMethod yX0_init ∈ z_tb := z_in (in_t2 (List.mem_of_getElem? (i := 25) rfl)) rfl
theorem wd593 : Cond.fieldLink RX11 68 "RowChildren" "census" "LRowChildren$Census;" ∈ z_tb := z_in (in_t2 (List.mem_of_getElem? (i := 125) rfl)) rfl
theorem wd594 : Cond.classLink RX11 72 RX4 ∈ z_tb := z_in (in_t2 (List.mem_of_getElem? (i := 46) rfl)) rfl
theorem wd595 : Cond.instantiable RX4 7 ∈ z_tb := z_in (in_t2 (List.mem_of_getElem? (i := 47) rfl)) rfl
theorem wd596 : Cond.instanceMethod yX4_init ∈ z_tb := z_in (in_t2 (List.mem_of_getElem? (i := 49) rfl)) rfl
theorem wd597 : Cond.fieldLink RX11 75 "RowChildren" "repainting" "LRowChildren$Repainting;" ∈ z_tb := z_in (in_t2 (List.mem_of_getElem? (i := 126) rfl)) rfl
theorem wd598 : Cond.classLink RX11 79 RX9 ∈ z_tb := z_in (in_t2 (List.mem_of_getElem? (i := 76) rfl)) rfl
theorem wd599 : Cond.instantiable RX9 9 ∈ z_tb := z_in (in_t2 (List.mem_of_getElem? (i := 77) rfl)) rfl
theorem wd600 : Cond.instanceMethod yX9_init ∈ z_tb := z_in (in_t2 (List.mem_of_getElem? (i := 79) rfl)) rfl
theorem wd601 : Cond.fieldLink RX11 82 "RowChildren" "told" "LRowChildren$Told;" ∈ z_tb := z_in (in_t2 (List.mem_of_getElem? (i := 127) rfl)) rfl
theorem wd602 : Cond.code yX11_init cX11_init 1 none ∈ z_tb := z_in (in_t1 (List.mem_of_getElem? (i := 26) rfl)) rfl
theorem wd603 : Cond.fieldLink RX11 86 "RowChildren$Tape" "length" "I" ∈ z_tb := z_in (in_t1 (List.mem_of_getElem? (i := 37) rfl)) rfl
theorem wd604 : Cond.instanceMethod yX6_append ∈ z_tb := z_in (in_t2 (List.mem_of_getElem? (i := 160) rfl)) rfl
theorem wd605 : Cond.selects RX6 yX6_append yX6_append ∈ z_tb := z_in (in_t2 (List.mem_of_getElem? (i := 161) rfl)) rfl
theorem wd606 : Cond.methodLink RX11 89 yX6_append ∈ z_tb := z_in (in_t2 (List.mem_of_getElem? (i := 159) rfl)) rfl
theorem wd607 : Cond.code yX11_feed cX11_feed 6 (some .int) ∈ z_tb := z_in (in_t2 (List.mem_of_getElem? (i := 158) rfl)) rfl
theorem wd608 : Cond.code yX11_back cX11_back 2 (some .int) ∈ z_tb := z_in (in_t2 (List.mem_of_getElem? (i := 166) rfl)) rfl
theorem wd609 : Cond.instanceMethod yX7_take ∈ z_tb := z_in (in_t2 (List.mem_of_getElem? (i := 172) rfl)) rfl
theorem wd610 : Cond.selects RX7 yX7_take yX7_take ∈ z_tb := z_in (in_t2 (List.mem_of_getElem? (i := 173) rfl)) rfl
theorem wd611 : Cond.methodLink RX11 93 yX7_take ∈ z_tb := z_in (in_t2 (List.mem_of_getElem? (i := 171) rfl)) rfl
theorem wd612 : Cond.fieldLink RX11 97 "RowChildren$Text" "faultPlace" "I" ∈ z_tb := z_in (in_t1 (List.mem_of_getElem? (i := 175) rfl)) rfl
theorem wd613 : Cond.fieldLink RX11 98 "RowChildren$Text" "fault" "I" ∈ z_tb := z_in (in_t1 (List.mem_of_getElem? (i := 173) rfl)) rfl
theorem wd614 : Cond.fieldLink RX11 101 "RowChildren$Text" "start" "LRowChildren$Family;" ∈ z_tb := z_in (in_t1 (List.mem_of_getElem? (i := 166) rfl)) rfl
theorem wd615 : Cond.methodLink RX11 104 yX1_copyFrom ∈ z_tb := z_in (in_t3 (List.mem_of_getElem? (i := 178) rfl)) rfl
theorem wd616 : Cond.instanceMethod yX3_clearUndone ∈ z_tb := z_in (in_t3 (List.mem_of_getElem? (i := 186) rfl)) rfl
theorem wd617 : Cond.selects RX3 yX3_clearUndone yX3_clearUndone ∈ z_tb := z_in (in_t3 (List.mem_of_getElem? (i := 187) rfl)) rfl
theorem wd618 : Cond.methodLink RX11 108 yX3_clearUndone ∈ z_tb := z_in (in_t3 (List.mem_of_getElem? (i := 185) rfl)) rfl
theorem wd619 : Cond.instanceMethod yX3_clearSlots ∈ z_tb := z_in (in_t3 (List.mem_of_getElem? (i := 190) rfl)) rfl
theorem wd620 : Cond.selects RX3 yX3_clearSlots yX3_clearSlots ∈ z_tb := z_in (in_t3 (List.mem_of_getElem? (i := 191) rfl)) rfl
theorem wd621 : Cond.methodLink RX11 111 yX3_clearSlots ∈ z_tb := z_in (in_t3 (List.mem_of_getElem? (i := 189) rfl)) rfl
theorem wd622 : Cond.fieldLink RX11 114 "RowChildren$Told" "size" "I" ∈ z_tb := z_in (in_t2 (List.mem_of_getElem? (i := 85) rfl)) rfl
theorem wd623 : Cond.instanceMethod yX0_clear ∈ z_tb := z_in (in_t3 (List.mem_of_getElem? (i := 194) rfl)) rfl
theorem wd624 : Cond.selects RX0 yX0_clear yX0_clear ∈ z_tb := z_in (in_t3 (List.mem_of_getElem? (i := 195) rfl)) rfl
theorem wd625 : Cond.methodLink RX11 117 yX0_clear ∈ z_tb := z_in (in_t3 (List.mem_of_getElem? (i := 193) rfl)) rfl
theorem wd626 : Cond.code yX11_read cX11_read 2 (some .int) ∈ z_tb := z_in (in_t2 (List.mem_of_getElem? (i := 170) rfl)) rfl
theorem wd627 : Cond.code yX11_place cX11_place 1 (some .int) ∈ z_tb := z_in (in_t3 (List.mem_of_getElem? (i := 200) rfl)) rfl
theorem wd628 : Cond.fieldLink RX11 124 "RowChildren$Text" "table" "LRowChildren$Table;" ∈ z_tb := z_in (in_t1 (List.mem_of_getElem? (i := 164) rfl)) rfl
theorem wd629 : Cond.fieldLink RX11 145 "RowChildren$Table" "colours" "I" ∈ z_tb := z_in (in_t1 (List.mem_of_getElem? (i := 85) rfl)) rfl
theorem wd630 : Cond.code yX11_isColour cX11_isColour 2 (some .boolean) ∈ z_tb := z_in (in_t3 (List.mem_of_getElem? (i := 208) rfl)) rfl
theorem wd631 : Cond.instanceMethod yX11_isColour ∈ z_tb := z_in (in_t3 (List.mem_of_getElem? (i := 207) rfl)) rfl
theorem wd632 : Cond.selects RX11 yX11_isColour yX11_isColour ∈ z_tb := z_in (in_pv (n := 13) (y := yX11_isColour) (List.mem_of_getElem? (i := 15) rfl)) rfl
theorem wd633 : Cond.methodLink RX11 120 yX11_isColour ∈ z_tb := z_in (in_t3 (List.mem_of_getElem? (i := 205) rfl)) rfl
theorem wd634 : Cond.methodLink RX11 128 yX5_childOf ∈ z_tb := z_in (in_t3 (List.mem_of_getElem? (i := 209) rfl)) rfl
theorem wd635 : Cond.code yX11_child cX11_child 3 (some .int) ∈ z_tb := z_in (in_t3 (List.mem_of_getElem? (i := 204) rfl)) rfl
theorem wd636 : Cond.fieldLink RX11 349 "RowChildren$Family" "rows" "I" ∈ z_tb := z_in (in_t1 (List.mem_of_getElem? (i := 118) rfl)) rfl
theorem wd637 : Cond.code yX11_isRow cX11_isRow 2 (some .boolean) ∈ z_tb := z_in (in_t3 (List.mem_of_getElem? (i := 217) rfl)) rfl
theorem wd638 : Cond.methodLink RX11 318 yX1_colourAt ∈ z_tb := z_in (in_t4 (List.mem_of_getElem? (i := 13) rfl)) rfl
theorem wd639 : Cond.instanceMethod yX2_standOn ∈ z_tb := z_in (in_t4 (List.mem_of_getElem? (i := 15) rfl)) rfl
theorem wd640 : Cond.selects RX2 yX2_standOn yX2_standOn ∈ z_tb := z_in (in_t4 (List.mem_of_getElem? (i := 16) rfl)) rfl
theorem wd641 : Cond.methodLink RX11 377 yX2_standOn ∈ z_tb := z_in (in_t4 (List.mem_of_getElem? (i := 14) rfl)) rfl
theorem wd642 : Cond.instanceMethod yX2_held ∈ z_tb := z_in (in_t4 (List.mem_of_getElem? (i := 32) rfl)) rfl
theorem wd643 : Cond.selects RX2 yX2_held yX2_held ∈ z_tb := z_in (in_t4 (List.mem_of_getElem? (i := 33) rfl)) rfl
theorem wd644 : Cond.methodLink RX11 386 yX2_held ∈ z_tb := z_in (in_t4 (List.mem_of_getElem? (i := 31) rfl)) rfl
theorem wd645 : Cond.code yX11_paysOf cX11_paysOf 3 (some .int) ∈ z_tb := z_in (in_t4 (List.mem_of_getElem? (i := 12) rfl)) rfl
theorem wd646 : Cond.methodLink RX11 173 yX10_cell ∈ z_tb := z_in (in_t4 (List.mem_of_getElem? (i := 95) rfl)) rfl
theorem wd647 : Cond.methodLink RX11 380 yX2_standAt ∈ z_tb := z_in (in_t4 (List.mem_of_getElem? (i := 96) rfl)) rfl
theorem wd648 : Cond.methodLink RX11 383 yX2_haveParents ∈ z_tb := z_in (in_t4 (List.mem_of_getElem? (i := 97) rfl)) rfl
theorem wd649 : Cond.code yX11_worthOf cX11_worthOf 4 (some .int) ∈ z_tb := z_in (in_t4 (List.mem_of_getElem? (i := 94) rfl)) rfl
theorem wd650 : Cond.fieldLink RX11 180 "RowChildren$Triangle" "length" "I" ∈ z_tb := z_in (in_t1 (List.mem_of_getElem? (i := 225) rfl)) rfl
theorem wd651 : Cond.instanceMethod yX11_worthOf ∈ z_tb := z_in (in_t4 (List.mem_of_getElem? (i := 93) rfl)) rfl
theorem wd652 : Cond.selects RX11 yX11_worthOf yX11_worthOf ∈ z_tb := z_in (in_pv (n := 13) (y := yX11_worthOf) (List.mem_of_getElem? (i := 25) rfl)) rfl
theorem wd653 : Cond.methodLink RX11 176 yX11_worthOf ∈ z_tb := z_in (in_t4 (List.mem_of_getElem? (i := 91) rfl)) rfl
theorem wd654 : Cond.code yX11_allWorth cX11_allWorth 5 (some .int) ∈ z_tb := z_in (in_t4 (List.mem_of_getElem? (i := 90) rfl)) rfl
theorem wd655 : Cond.instanceMethod yX11_isRow ∈ z_tb := z_in (in_t3 (List.mem_of_getElem? (i := 216) rfl)) rfl
theorem wd656 : Cond.selects RX11 yX11_isRow yX11_isRow ∈ z_tb := z_in (in_pv (n := 13) (y := yX11_isRow) (List.mem_of_getElem? (i := 16) rfl)) rfl
theorem wd657 : Cond.methodLink RX11 134 yX11_isRow ∈ z_tb := z_in (in_t3 (List.mem_of_getElem? (i := 214) rfl)) rfl
theorem wd658 : Cond.instanceMethod yX10_fill ∈ z_tb := z_in (in_t3 (List.mem_of_getElem? (i := 219) rfl)) rfl
theorem wd659 : Cond.selects RX10 yX10_fill yX10_fill ∈ z_tb := z_in (in_t3 (List.mem_of_getElem? (i := 220) rfl)) rfl
theorem wd660 : Cond.methodLink RX11 137 yX10_fill ∈ z_tb := z_in (in_t3 (List.mem_of_getElem? (i := 218) rfl)) rfl
theorem wd661 : Cond.methodLink RX11 141 yX1_lengthOf ∈ z_tb := z_in (in_t3 (List.mem_of_getElem? (i := 239) rfl)) rfl
theorem wd662 : Cond.methodLink RX11 148 yX1_numberOf ∈ z_tb := z_in (in_t4 (List.mem_of_getElem? (i := 0) rfl)) rfl
theorem wd663 : Cond.methodLink RX11 151 yX10_lastChild ∈ z_tb := z_in (in_t4 (List.mem_of_getElem? (i := 5) rfl)) rfl
theorem wd664 : Cond.instanceMethod yX11_paysOf ∈ z_tb := z_in (in_t4 (List.mem_of_getElem? (i := 11) rfl)) rfl
theorem wd665 : Cond.selects RX11 yX11_paysOf yX11_paysOf ∈ z_tb := z_in (in_pv (n := 13) (y := yX11_paysOf) (List.mem_of_getElem? (i := 17) rfl)) rfl
theorem wd666 : Cond.methodLink RX11 155 yX11_paysOf ∈ z_tb := z_in (in_t4 (List.mem_of_getElem? (i := 9) rfl)) rfl
theorem wd667 : Cond.methodLink RX11 159 yX10_isFair ∈ z_tb := z_in (in_t4 (List.mem_of_getElem? (i := 65) rfl)) rfl
theorem wd668 : Cond.instanceMethod yX10_isTurned ∈ z_tb := z_in (in_t4 (List.mem_of_getElem? (i := 76) rfl)) rfl
theorem wd669 : Cond.selects RX10 yX10_isTurned yX10_isTurned ∈ z_tb := z_in (in_t4 (List.mem_of_getElem? (i := 77) rfl)) rfl
theorem wd670 : Cond.methodLink RX11 162 yX10_isTurned ∈ z_tb := z_in (in_t4 (List.mem_of_getElem? (i := 75) rfl)) rfl
theorem wd671 : Cond.instanceMethod yX11_allWorth ∈ z_tb := z_in (in_t4 (List.mem_of_getElem? (i := 89) rfl)) rfl
theorem wd672 : Cond.selects RX11 yX11_allWorth yX11_allWorth ∈ z_tb := z_in (in_pv (n := 13) (y := yX11_allWorth) (List.mem_of_getElem? (i := 24) rfl)) rfl
theorem wd673 : Cond.methodLink RX11 166 yX11_allWorth ∈ z_tb := z_in (in_t4 (List.mem_of_getElem? (i := 87) rfl)) rfl
theorem wd674 : Cond.code yX11_row cX11_row 3 (some .int) ∈ z_tb := z_in (in_t3 (List.mem_of_getElem? (i := 213) rfl)) rfl
theorem wd675 : Cond.methodLink RX11 169 yX10_has ∈ z_tb := z_in (in_t4 (List.mem_of_getElem? (i := 102) rfl)) rfl
theorem wd676 : Cond.code yX11_at cX11_at 4 (some .int) ∈ z_tb := z_in (in_t4 (List.mem_of_getElem? (i := 101) rfl)) rfl
theorem wd677 : Cond.code yX11_worth cX11_worth 4 (some .int) ∈ z_tb := z_in (in_t4 (List.mem_of_getElem? (i := 109) rfl)) rfl
theorem wd678 : Cond.methodLink RX11 181 yX10_tally ∈ z_tb := z_in (in_t4 (List.mem_of_getElem? (i := 114) rfl)) rfl
theorem wd679 : Cond.code yX11_many cX11_many 3 (some .int) ∈ z_tb := z_in (in_t4 (List.mem_of_getElem? (i := 113) rfl)) rfl
theorem wd680 : Cond.code yX11_isOneOfTwo cX11_isOneOfTwo 1 (some .boolean) ∈ z_tb := z_in (in_t4 (List.mem_of_getElem? (i := 121) rfl)) rfl
theorem wd681 : Cond.static yX11_isOneOfTwo ∈ z_tb := z_in (in_t4 (List.mem_of_getElem? (i := 120) rfl)) rfl
theorem wd682 : Cond.methodLink RX11 184 yX11_isOneOfTwo ∈ z_tb := z_in (in_t4 (List.mem_of_getElem? (i := 119) rfl)) rfl
theorem wd683 : Cond.methodLink RX11 190 yX10_rightSide ∈ z_tb := z_in (in_t4 (List.mem_of_getElem? (i := 123) rfl)) rfl
theorem wd684 : Cond.methodLink RX11 187 yX10_leftSide ∈ z_tb := z_in (in_t4 (List.mem_of_getElem? (i := 122) rfl)) rfl
theorem wd685 : Cond.code yX11_side cX11_side 4 (some .int) ∈ z_tb := z_in (in_t4 (List.mem_of_getElem? (i := 118) rfl)) rfl
theorem wd686 : Cond.code yX11_canPaint cX11_canPaint 4 (some .boolean) ∈ z_tb := z_in (in_t4 (List.mem_of_getElem? (i := 131) rfl)) rfl
theorem wd687 : Cond.code yX11_costsOf cX11_costsOf 4 (some .int) ∈ z_tb := z_in (in_t4 (List.mem_of_getElem? (i := 135) rfl)) rfl
theorem wd688 : Cond.instanceMethod yX11_canPaint ∈ z_tb := z_in (in_t4 (List.mem_of_getElem? (i := 130) rfl)) rfl
theorem wd689 : Cond.selects RX11 yX11_canPaint yX11_canPaint ∈ z_tb := z_in (in_pv (n := 13) (y := yX11_canPaint) (List.mem_of_getElem? (i := 26) rfl)) rfl
theorem wd690 : Cond.methodLink RX11 193 yX11_canPaint ∈ z_tb := z_in (in_t4 (List.mem_of_getElem? (i := 128) rfl)) rfl
theorem wd691 : Cond.instanceMethod yX11_costsOf ∈ z_tb := z_in (in_t4 (List.mem_of_getElem? (i := 134) rfl)) rfl
theorem wd692 : Cond.selects RX11 yX11_costsOf yX11_costsOf ∈ z_tb := z_in (in_pv (n := 13) (y := yX11_costsOf) (List.mem_of_getElem? (i := 27) rfl)) rfl
theorem wd693 : Cond.methodLink RX11 197 yX11_costsOf ∈ z_tb := z_in (in_t4 (List.mem_of_getElem? (i := 132) rfl)) rfl
theorem wd694 : Cond.code yX11_costs cX11_costs 4 (some .int) ∈ z_tb := z_in (in_t4 (List.mem_of_getElem? (i := 127) rfl)) rfl
theorem wd695 : Cond.instanceMethod yX3_remember ∈ z_tb := z_in (in_t4 (List.mem_of_getElem? (i := 141) rfl)) rfl
theorem wd696 : Cond.selects RX3 yX3_remember yX3_remember ∈ z_tb := z_in (in_t4 (List.mem_of_getElem? (i := 142) rfl)) rfl
theorem wd697 : Cond.methodLink RX11 200 yX3_remember ∈ z_tb := z_in (in_t4 (List.mem_of_getElem? (i := 140) rfl)) rfl
theorem wd698 : Cond.fieldLink RX11 203 "RowChildren$Family" "paid" "I" ∈ z_tb := z_in (in_t1 (List.mem_of_getElem? (i := 123) rfl)) rfl
theorem wd699 : Cond.methodLink RX11 206 yX1_setColour ∈ z_tb := z_in (in_t4 (List.mem_of_getElem? (i := 146) rfl)) rfl
theorem wd700 : Cond.code yX11_paint cX11_paint 5 (some .int) ∈ z_tb := z_in (in_t4 (List.mem_of_getElem? (i := 139) rfl)) rfl
theorem wd701 : Cond.methodLink RX11 210 yX1_append ∈ z_tb := z_in (in_t4 (List.mem_of_getElem? (i := 151) rfl)) rfl
theorem wd702 : Cond.code yX11_come cX11_come 3 (some .int) ∈ z_tb := z_in (in_t4 (List.mem_of_getElem? (i := 150) rfl)) rfl
theorem wd703 : Cond.methodLink RX11 213 yX1_setLength ∈ z_tb := z_in (in_t4 (List.mem_of_getElem? (i := 156) rfl)) rfl
theorem wd704 : Cond.code yX11_go cX11_go 2 (some .int) ∈ z_tb := z_in (in_t4 (List.mem_of_getElem? (i := 155) rfl)) rfl
theorem wd705 : Cond.code yX11_isGenerations cX11_isGenerations 1 (some .boolean) ∈ z_tb := z_in (in_t4 (List.mem_of_getElem? (i := 163) rfl)) rfl
theorem wd706 : Cond.constant RX11 402 (1103515245) ∈ z_tb := z_in (in_t4 (List.mem_of_getElem? (i := 178) rfl)) rfl
theorem wd707 : Cond.code yX11_mixed cX11_mixed 3 (some .int) ∈ z_tb := z_in (in_t4 (List.mem_of_getElem? (i := 177) rfl)) rfl
theorem wd708 : Cond.static yX11_mixed ∈ z_tb := z_in (in_t4 (List.mem_of_getElem? (i := 176) rfl)) rfl
theorem wd709 : Cond.methodLink RX11 399 yX11_mixed ∈ z_tb := z_in (in_t4 (List.mem_of_getElem? (i := 175) rfl)) rfl
theorem wd710 : Cond.code yX11_lotOfHundred cX11_lotOfHundred 2 (some .int) ∈ z_tb := z_in (in_t4 (List.mem_of_getElem? (i := 174) rfl)) rfl
theorem wd711 : Cond.fieldLink RX11 226 "RowChildren$Family" "time" "I" ∈ z_tb := z_in (in_t1 (List.mem_of_getElem? (i := 121) rfl)) rfl
theorem wd712 : Cond.static yX11_lotOfHundred ∈ z_tb := z_in (in_t4 (List.mem_of_getElem? (i := 173) rfl)) rfl
theorem wd713 : Cond.methodLink RX11 393 yX11_lotOfHundred ∈ z_tb := z_in (in_t4 (List.mem_of_getElem? (i := 172) rfl)) rfl
theorem wd714 : Cond.instanceMethod yX5_nextColour ∈ z_tb := z_in (in_t4 (List.mem_of_getElem? (i := 180) rfl)) rfl
theorem wd715 : Cond.selects RX5 yX5_nextColour yX5_nextColour ∈ z_tb := z_in (in_t4 (List.mem_of_getElem? (i := 181) rfl)) rfl
theorem wd716 : Cond.methodLink RX11 396 yX5_nextColour ∈ z_tb := z_in (in_t4 (List.mem_of_getElem? (i := 179) rfl)) rfl
theorem wd717 : Cond.code yX11_bearChildren cX11_bearChildren 11 none ∈ z_tb := z_in (in_t4 (List.mem_of_getElem? (i := 171) rfl)) rfl
theorem wd718 : Cond.instanceMethod yX11_bearChildren ∈ z_tb := z_in (in_t4 (List.mem_of_getElem? (i := 170) rfl)) rfl
theorem wd719 : Cond.selects RX11 yX11_bearChildren yX11_bearChildren ∈ z_tb := z_in (in_pv (n := 13) (y := yX11_bearChildren) (List.mem_of_getElem? (i := 29) rfl)) rfl
theorem wd720 : Cond.methodLink RX11 390 yX11_bearChildren ∈ z_tb := z_in (in_t4 (List.mem_of_getElem? (i := 168) rfl)) rfl
theorem wd721 : Cond.code yX11_passGenerations cX11_passGenerations 6 none ∈ z_tb := z_in (in_t4 (List.mem_of_getElem? (i := 167) rfl)) rfl
theorem wd722 : Cond.static yX11_isGenerations ∈ z_tb := z_in (in_t4 (List.mem_of_getElem? (i := 162) rfl)) rfl
theorem wd723 : Cond.methodLink RX11 216 yX11_isGenerations ∈ z_tb := z_in (in_t4 (List.mem_of_getElem? (i := 161) rfl)) rfl
theorem wd724 : Cond.fieldLink RX11 219 "RowChildren$Text" "seed" "I" ∈ z_tb := z_in (in_t1 (List.mem_of_getElem? (i := 171) rfl)) rfl
theorem wd725 : Cond.instanceMethod yX11_passGenerations ∈ z_tb := z_in (in_t4 (List.mem_of_getElem? (i := 166) rfl)) rfl
theorem wd726 : Cond.selects RX11 yX11_passGenerations yX11_passGenerations ∈ z_tb := z_in (in_pv (n := 13) (y := yX11_passGenerations) (List.mem_of_getElem? (i := 28) rfl)) rfl
theorem wd727 : Cond.methodLink RX11 222 yX11_passGenerations ∈ z_tb := z_in (in_t4 (List.mem_of_getElem? (i := 164) rfl)) rfl
theorem wd728 : Cond.code yX11_times cX11_times 2 (some .int) ∈ z_tb := z_in (in_t4 (List.mem_of_getElem? (i := 160) rfl)) rfl
theorem wd729 : Cond.instanceMethod yX3_recall ∈ z_tb := z_in (in_t4 (List.mem_of_getElem? (i := 188) rfl)) rfl
theorem wd730 : Cond.selects RX3 yX3_recall yX3_recall ∈ z_tb := z_in (in_t4 (List.mem_of_getElem? (i := 189) rfl)) rfl
theorem wd731 : Cond.methodLink RX11 229 yX3_recall ∈ z_tb := z_in (in_t4 (List.mem_of_getElem? (i := 187) rfl)) rfl
theorem wd732 : Cond.code yX11_undo cX11_undo 1 (some .boolean) ∈ z_tb := z_in (in_t4 (List.mem_of_getElem? (i := 186) rfl)) rfl
theorem wd733 : Cond.code yX11_isRowLength cX11_isRowLength 1 (some .boolean) ∈ z_tb := z_in (in_t4 (List.mem_of_getElem? (i := 197) rfl)) rfl
theorem wd734 : Cond.static yX11_isRowLength ∈ z_tb := z_in (in_t4 (List.mem_of_getElem? (i := 196) rfl)) rfl
theorem wd735 : Cond.methodLink RX11 233 yX11_isRowLength ∈ z_tb := z_in (in_t4 (List.mem_of_getElem? (i := 195) rfl)) rfl
theorem wd736 : Cond.instanceMethod yX0_take ∈ z_tb := z_in (in_t4 (List.mem_of_getElem? (i := 199) rfl)) rfl
theorem wd737 : Cond.selects RX0 yX0_take yX0_take ∈ z_tb := z_in (in_t4 (List.mem_of_getElem? (i := 200) rfl)) rfl
theorem wd738 : Cond.methodLink RX11 236 yX0_take ∈ z_tb := z_in (in_t4 (List.mem_of_getElem? (i := 198) rfl)) rfl
theorem wd739 : Cond.instanceMethod yX0_leastOf ∈ z_tb := z_in (in_t4 (List.mem_of_getElem? (i := 216) rfl)) rfl
theorem wd740 : Cond.selects RX0 yX0_leastOf yX0_leastOf ∈ z_tb := z_in (in_t4 (List.mem_of_getElem? (i := 217) rfl)) rfl
theorem wd741 : Cond.methodLink RX11 242 yX0_leastOf ∈ z_tb := z_in (in_t4 (List.mem_of_getElem? (i := 215) rfl)) rfl
theorem wd742 : Cond.instanceMethod yX0_madeOf ∈ z_tb := z_in (in_t4 (List.mem_of_getElem? (i := 212) rfl)) rfl
theorem wd743 : Cond.selects RX0 yX0_madeOf yX0_madeOf ∈ z_tb := z_in (in_t4 (List.mem_of_getElem? (i := 213) rfl)) rfl
theorem wd744 : Cond.methodLink RX11 239 yX0_madeOf ∈ z_tb := z_in (in_t4 (List.mem_of_getElem? (i := 211) rfl)) rfl
theorem wd745 : Cond.code yX11_makes cX11_makes 4 (some .int) ∈ z_tb := z_in (in_t4 (List.mem_of_getElem? (i := 194) rfl)) rfl
theorem wd746 : Cond.instanceMethod yX4_setPrice ∈ z_tb := z_in (in_t4 (List.mem_of_getElem? (i := 228) rfl)) rfl
theorem wd747 : Cond.selects RX4 yX4_setPrice yX4_setPrice ∈ z_tb := z_in (in_t4 (List.mem_of_getElem? (i := 229) rfl)) rfl
theorem wd748 : Cond.methodLink RX11 403 yX4_setPrice ∈ z_tb := z_in (in_t4 (List.mem_of_getElem? (i := 227) rfl)) rfl
theorem wd749 : Cond.code yX11_setPrices cX11_setPrices 6 none ∈ z_tb := z_in (in_t4 (List.mem_of_getElem? (i := 226) rfl)) rfl
theorem wd750 : Cond.instanceMethod yX11_setPrices ∈ z_tb := z_in (in_t4 (List.mem_of_getElem? (i := 225) rfl)) rfl
theorem wd751 : Cond.selects RX11 yX11_setPrices yX11_setPrices ∈ z_tb := z_in (in_pv (n := 13) (y := yX11_setPrices) (List.mem_of_getElem? (i := 31) rfl)) rfl
theorem wd752 : Cond.methodLink RX11 245 yX11_setPrices ∈ z_tb := z_in (in_t4 (List.mem_of_getElem? (i := 223) rfl)) rfl
theorem wd753 : Cond.instanceMethod yX4_towardsLast ∈ z_tb := z_in (in_t4 (List.mem_of_getElem? (i := 232) rfl)) rfl
theorem wd754 : Cond.selects RX4 yX4_towardsLast yX4_towardsLast ∈ z_tb := z_in (in_t4 (List.mem_of_getElem? (i := 233) rfl)) rfl
theorem wd755 : Cond.methodLink RX11 249 yX4_towardsLast ∈ z_tb := z_in (in_t4 (List.mem_of_getElem? (i := 231) rfl)) rfl
theorem wd756 : Cond.instanceMethod yX4_answer ∈ z_tb := z_in (in_t5 (List.mem_of_getElem? (i := 18) rfl)) rfl
theorem wd757 : Cond.selects RX4 yX4_answer yX4_answer ∈ z_tb := z_in (in_t5 (List.mem_of_getElem? (i := 19) rfl)) rfl
theorem wd758 : Cond.methodLink RX11 253 yX4_answer ∈ z_tb := z_in (in_t5 (List.mem_of_getElem? (i := 17) rfl)) rfl
theorem wd759 : Cond.code yX11_repaint cX11_repaint 4 (some .int) ∈ z_tb := z_in (in_t4 (List.mem_of_getElem? (i := 222) rfl)) rfl
theorem wd760 : Cond.instanceMethod yX4_towardsFair ∈ z_tb := z_in (in_t5 (List.mem_of_getElem? (i := 26) rfl)) rfl
theorem wd761 : Cond.selects RX4 yX4_towardsFair yX4_towardsFair ∈ z_tb := z_in (in_t5 (List.mem_of_getElem? (i := 27) rfl)) rfl
theorem wd762 : Cond.methodLink RX11 256 yX4_towardsFair ∈ z_tb := z_in (in_t5 (List.mem_of_getElem? (i := 25) rfl)) rfl
theorem wd763 : Cond.code yX11_fairly cX11_fairly 3 (some .int) ∈ z_tb := z_in (in_t5 (List.mem_of_getElem? (i := 24) rfl)) rfl
theorem wd764 : Cond.methodLink RX11 406 yX10_put ∈ z_tb := z_in (in_t5 (List.mem_of_getElem? (i := 37) rfl)) rfl
theorem wd765 : Cond.code yX11_otherLastBy cX11_otherLastBy 7 (some .boolean) ∈ z_tb := z_in (in_t5 (List.mem_of_getElem? (i := 36) rfl)) rfl
theorem wd766 : Cond.instanceMethod yX11_otherLastBy ∈ z_tb := z_in (in_t5 (List.mem_of_getElem? (i := 35) rfl)) rfl
theorem wd767 : Cond.selects RX11 yX11_otherLastBy yX11_otherLastBy ∈ z_tb := z_in (in_pv (n := 13) (y := yX11_otherLastBy) (List.mem_of_getElem? (i := 35) rfl)) rfl
theorem wd768 : Cond.methodLink RX11 259 yX11_otherLastBy ∈ z_tb := z_in (in_t5 (List.mem_of_getElem? (i := 33) rfl)) rfl
theorem wd769 : Cond.code yX11_matters cX11_matters 5 (some .int) ∈ z_tb := z_in (in_t5 (List.mem_of_getElem? (i := 32) rfl)) rfl
theorem wd770 : Cond.instanceMethod yX5_countParents ∈ z_tb := z_in (in_t5 (List.mem_of_getElem? (i := 43) rfl)) rfl
theorem wd771 : Cond.selects RX5 yX5_countParents yX5_countParents ∈ z_tb := z_in (in_t5 (List.mem_of_getElem? (i := 44) rfl)) rfl
theorem wd772 : Cond.methodLink RX11 262 yX5_countParents ∈ z_tb := z_in (in_t5 (List.mem_of_getElem? (i := 42) rfl)) rfl
theorem wd773 : Cond.instanceMethod yX5_leastParents ∈ z_tb := z_in (in_t5 (List.mem_of_getElem? (i := 49) rfl)) rfl
theorem wd774 : Cond.selects RX5 yX5_leastParents yX5_leastParents ∈ z_tb := z_in (in_t5 (List.mem_of_getElem? (i := 50) rfl)) rfl
theorem wd775 : Cond.methodLink RX11 265 yX5_leastParents ∈ z_tb := z_in (in_t5 (List.mem_of_getElem? (i := 48) rfl)) rfl
theorem wd776 : Cond.code yX11_parents cX11_parents 4 (some .int) ∈ z_tb := z_in (in_t5 (List.mem_of_getElem? (i := 41) rfl)) rfl
theorem wd777 : Cond.instanceMethod yX5_countOrphans ∈ z_tb := z_in (in_t5 (List.mem_of_getElem? (i := 57) rfl)) rfl
theorem wd778 : Cond.selects RX5 yX5_countOrphans yX5_countOrphans ∈ z_tb := z_in (in_t5 (List.mem_of_getElem? (i := 58) rfl)) rfl
theorem wd779 : Cond.methodLink RX11 268 yX5_countOrphans ∈ z_tb := z_in (in_t5 (List.mem_of_getElem? (i := 56) rfl)) rfl
theorem wd780 : Cond.code yX11_orphans cX11_orphans 2 (some .int) ∈ z_tb := z_in (in_t5 (List.mem_of_getElem? (i := 55) rfl)) rfl
theorem wd781 : Cond.instanceMethod yX1_packed ∈ z_tb := z_in (in_t5 (List.mem_of_getElem? (i := 72) rfl)) rfl
theorem wd782 : Cond.selects RX1 yX1_packed yX1_packed ∈ z_tb := z_in (in_t5 (List.mem_of_getElem? (i := 73) rfl)) rfl
theorem wd783 : Cond.methodLink RX11 271 yX1_packed ∈ z_tb := z_in (in_t5 (List.mem_of_getElem? (i := 71) rfl)) rfl
theorem wd784 : Cond.methodLink RX11 274 yX5_findRing ∈ z_tb := z_in (in_t5 (List.mem_of_getElem? (i := 76) rfl)) rfl
theorem wd785 : Cond.fieldLink RX11 280 "RowChildren$Table" "ringPeriod" "I" ∈ z_tb := z_in (in_t1 (List.mem_of_getElem? (i := 89) rfl)) rfl
theorem wd786 : Cond.fieldLink RX11 277 "RowChildren$Table" "ringLead" "I" ∈ z_tb := z_in (in_t1 (List.mem_of_getElem? (i := 87) rfl)) rfl
theorem wd787 : Cond.code yX11_ring cX11_ring 3 (some .int) ∈ z_tb := z_in (in_t5 (List.mem_of_getElem? (i := 70) rfl)) rfl
theorem wd788 : Cond.constant RX11 376 (1000000000) ∈ z_tb := z_in (in_t5 (List.mem_of_getElem? (i := 99) rfl)) rfl
theorem wd789 : Cond.code yX11_isFar cX11_isFar 1 (some .boolean) ∈ z_tb := z_in (in_t5 (List.mem_of_getElem? (i := 98) rfl)) rfl
theorem wd790 : Cond.static yX11_isFar ∈ z_tb := z_in (in_t5 (List.mem_of_getElem? (i := 97) rfl)) rfl
theorem wd791 : Cond.methodLink RX11 283 yX11_isFar ∈ z_tb := z_in (in_t5 (List.mem_of_getElem? (i := 96) rfl)) rfl
theorem wd792 : Cond.instanceMethod yX5_ringAfter ∈ z_tb := z_in (in_t5 (List.mem_of_getElem? (i := 101) rfl)) rfl
theorem wd793 : Cond.selects RX5 yX5_ringAfter yX5_ringAfter ∈ z_tb := z_in (in_t5 (List.mem_of_getElem? (i := 102) rfl)) rfl
theorem wd794 : Cond.methodLink RX11 286 yX5_ringAfter ∈ z_tb := z_in (in_t5 (List.mem_of_getElem? (i := 100) rfl)) rfl
theorem wd795 : Cond.methodLink RX11 289 yX11_unpacked ∈ z_tb := z_in (in_t5 (List.mem_of_getElem? (i := 105) rfl)) rfl
theorem wd796 : Cond.code yX11_after cX11_after 6 (some .int) ∈ z_tb := z_in (in_t5 (List.mem_of_getElem? (i := 95) rfl)) rfl
theorem wd797 : Cond.instanceMethod yX5_isAlikeBothWays ∈ z_tb := z_in (in_t5 (List.mem_of_getElem? (i := 111) rfl)) rfl
theorem wd798 : Cond.selects RX5 yX5_isAlikeBothWays yX5_isAlikeBothWays ∈ z_tb := z_in (in_t5 (List.mem_of_getElem? (i := 112) rfl)) rfl
theorem wd799 : Cond.methodLink RX11 292 yX5_isAlikeBothWays ∈ z_tb := z_in (in_t5 (List.mem_of_getElem? (i := 110) rfl)) rfl
theorem wd800 : Cond.instanceMethod yX5_isUnlike ∈ z_tb := z_in (in_t5 (List.mem_of_getElem? (i := 115) rfl)) rfl
theorem wd801 : Cond.selects RX5 yX5_isUnlike yX5_isUnlike ∈ z_tb := z_in (in_t5 (List.mem_of_getElem? (i := 116) rfl)) rfl
theorem wd802 : Cond.methodLink RX11 295 yX5_isUnlike ∈ z_tb := z_in (in_t5 (List.mem_of_getElem? (i := 114) rfl)) rfl
theorem wd803 : Cond.instanceMethod yX5_isAssociative ∈ z_tb := z_in (in_t5 (List.mem_of_getElem? (i := 125) rfl)) rfl
theorem wd804 : Cond.selects RX5 yX5_isAssociative yX5_isAssociative ∈ z_tb := z_in (in_t5 (List.mem_of_getElem? (i := 126) rfl)) rfl
theorem wd805 : Cond.methodLink RX11 299 yX5_isAssociative ∈ z_tb := z_in (in_t5 (List.mem_of_getElem? (i := 124) rfl)) rfl
theorem wd806 : Cond.instanceMethod yX5_keepsAlike ∈ z_tb := z_in (in_t5 (List.mem_of_getElem? (i := 129) rfl)) rfl
theorem wd807 : Cond.selects RX5 yX5_keepsAlike yX5_keepsAlike ∈ z_tb := z_in (in_t5 (List.mem_of_getElem? (i := 130) rfl)) rfl
theorem wd808 : Cond.methodLink RX11 302 yX5_keepsAlike ∈ z_tb := z_in (in_t5 (List.mem_of_getElem? (i := 128) rfl)) rfl
theorem wd809 : Cond.instanceMethod yX5_hasNeutral ∈ z_tb := z_in (in_t5 (List.mem_of_getElem? (i := 133) rfl)) rfl
theorem wd810 : Cond.selects RX5 yX5_hasNeutral yX5_hasNeutral ∈ z_tb := z_in (in_t5 (List.mem_of_getElem? (i := 134) rfl)) rfl
theorem wd811 : Cond.methodLink RX11 305 yX5_hasNeutral ∈ z_tb := z_in (in_t5 (List.mem_of_getElem? (i := 132) rfl)) rfl
theorem wd812 : Cond.code yX11_ways cX11_ways 3 (some .int) ∈ z_tb := z_in (in_t5 (List.mem_of_getElem? (i := 109) rfl)) rfl
theorem wd813 : Cond.instanceMethod yX5_closureOf ∈ z_tb := z_in (in_t5 (List.mem_of_getElem? (i := 141) rfl)) rfl
theorem wd814 : Cond.selects RX5 yX5_closureOf yX5_closureOf ∈ z_tb := z_in (in_t5 (List.mem_of_getElem? (i := 142) rfl)) rfl
theorem wd815 : Cond.methodLink RX11 308 yX5_closureOf ∈ z_tb := z_in (in_t5 (List.mem_of_getElem? (i := 140) rfl)) rfl
theorem wd816 : Cond.code yX11_shut cX11_shut 2 (some .int) ∈ z_tb := z_in (in_t5 (List.mem_of_getElem? (i := 139) rfl)) rfl
theorem wd817 : Cond.code yX11_restOfWaysDown cX11_restOfWaysDown 9 (some .int) ∈ z_tb := z_in (in_t5 (List.mem_of_getElem? (i := 150) rfl)) rfl
theorem wd818 : Cond.static yX11_restOfWaysDown ∈ z_tb := z_in (in_t5 (List.mem_of_getElem? (i := 149) rfl)) rfl
theorem wd819 : Cond.methodLink RX11 311 yX11_restOfWaysDown ∈ z_tb := z_in (in_t5 (List.mem_of_getElem? (i := 148) rfl)) rfl
theorem wd820 : Cond.code yX11_deep cX11_deep 3 (some .int) ∈ z_tb := z_in (in_t5 (List.mem_of_getElem? (i := 147) rfl)) rfl
theorem wd821 : Cond.instanceMethod yX0_winningStart ∈ z_tb := z_in (in_t5 (List.mem_of_getElem? (i := 156) rfl)) rfl
theorem wd822 : Cond.selects RX0 yX0_winningStart yX0_winningStart ∈ z_tb := z_in (in_t5 (List.mem_of_getElem? (i := 157) rfl)) rfl
theorem wd823 : Cond.methodLink RX11 315 yX0_winningStart ∈ z_tb := z_in (in_t5 (List.mem_of_getElem? (i := 155) rfl)) rfl
theorem wd824 : Cond.code yX11_game cX11_game 5 (some .int) ∈ z_tb := z_in (in_t5 (List.mem_of_getElem? (i := 154) rfl)) rfl
theorem wd825 : Cond.code yX11_then cX11_then 4 (some .int) ∈ z_tb := z_in (in_t5 (List.mem_of_getElem? (i := 162) rfl)) rfl
theorem wd826 : Cond.code yX11_paidIn cX11_paidIn 2 (some .int) ∈ z_tb := z_in (in_t5 (List.mem_of_getElem? (i := 166) rfl)) rfl
theorem wd827 : Cond.code yX11_year cX11_year 7 (some .int) ∈ z_tb := z_in (in_t5 (List.mem_of_getElem? (i := 170) rfl)) rfl
theorem wd828 : Cond.instanceMethod yX9_append ∈ z_tb := z_in (in_t5 (List.mem_of_getElem? (i := 176) rfl)) rfl
theorem wd829 : Cond.selects RX9 yX9_append yX9_append ∈ z_tb := z_in (in_t5 (List.mem_of_getElem? (i := 177) rfl)) rfl
theorem wd830 : Cond.methodLink RX11 321 yX9_append ∈ z_tb := z_in (in_t5 (List.mem_of_getElem? (i := 175) rfl)) rfl
theorem wd831 : Cond.code yX11_tell cX11_tell 6 (some .int) ∈ z_tb := z_in (in_t5 (List.mem_of_getElem? (i := 174) rfl)) rfl
theorem wd832 : Cond.code yX11_forget cX11_forget 2 (some .int) ∈ z_tb := z_in (in_t5 (List.mem_of_getElem? (i := 182) rfl)) rfl
theorem wd833 : Cond.code yX11_isKnown cX11_isKnown 2 (some .boolean) ∈ z_tb := z_in (in_t5 (List.mem_of_getElem? (i := 190) rfl)) rfl
theorem wd834 : Cond.code yX11_isToldLength cX11_isToldLength 1 (some .boolean) ∈ z_tb := z_in (in_t5 (List.mem_of_getElem? (i := 193) rfl)) rfl
theorem wd835 : Cond.instanceMethod yX11_isKnown ∈ z_tb := z_in (in_t5 (List.mem_of_getElem? (i := 189) rfl)) rfl
theorem wd836 : Cond.selects RX11 yX11_isKnown yX11_isKnown ∈ z_tb := z_in (in_pv (n := 13) (y := yX11_isKnown) (List.mem_of_getElem? (i := 39) rfl)) rfl
theorem wd837 : Cond.methodLink RX11 324 yX11_isKnown ∈ z_tb := z_in (in_t5 (List.mem_of_getElem? (i := 187) rfl)) rfl
theorem wd838 : Cond.static yX11_isToldLength ∈ z_tb := z_in (in_t5 (List.mem_of_getElem? (i := 192) rfl)) rfl
theorem wd839 : Cond.methodLink RX11 327 yX11_isToldLength ∈ z_tb := z_in (in_t5 (List.mem_of_getElem? (i := 191) rfl)) rfl
theorem wd840 : Cond.instanceMethod yX9_findFits ∈ z_tb := z_in (in_t5 (List.mem_of_getElem? (i := 195) rfl)) rfl
theorem wd841 : Cond.selects RX9 yX9_findFits yX9_findFits ∈ z_tb := z_in (in_t5 (List.mem_of_getElem? (i := 196) rfl)) rfl
theorem wd842 : Cond.methodLink RX11 330 yX9_findFits ∈ z_tb := z_in (in_t5 (List.mem_of_getElem? (i := 194) rfl)) rfl
theorem wd843 : Cond.fieldLink RX11 336 "RowChildren$Told" "leastFit" "I" ∈ z_tb := z_in (in_t2 (List.mem_of_getElem? (i := 89) rfl)) rfl
theorem wd844 : Cond.fieldLink RX11 333 "RowChildren$Told" "fits" "I" ∈ z_tb := z_in (in_t2 (List.mem_of_getElem? (i := 87) rfl)) rfl
theorem wd845 : Cond.code yX11_rows cX11_rows 4 (some .int) ∈ z_tb := z_in (in_t5 (List.mem_of_getElem? (i := 186) rfl)) rfl
theorem wd846 : Cond.instanceMethod yX9_bestLook ∈ z_tb := z_in (in_t5 (List.mem_of_getElem? (i := 221) rfl)) rfl
theorem wd847 : Cond.selects RX9 yX9_bestLook yX9_bestLook ∈ z_tb := z_in (in_t5 (List.mem_of_getElem? (i := 222) rfl)) rfl
theorem wd848 : Cond.methodLink RX11 339 yX9_bestLook ∈ z_tb := z_in (in_t5 (List.mem_of_getElem? (i := 220) rfl)) rfl
theorem wd849 : Cond.code yX11_look cX11_look 3 (some .int) ∈ z_tb := z_in (in_t5 (List.mem_of_getElem? (i := 219) rfl)) rfl
theorem wd850 : Cond.instanceMethod yX3_keep ∈ z_tb := z_in (in_t5 (List.mem_of_getElem? (i := 235) rfl)) rfl
theorem wd851 : Cond.selects RX3 yX3_keep yX3_keep ∈ z_tb := z_in (in_t5 (List.mem_of_getElem? (i := 236) rfl)) rfl
theorem wd852 : Cond.methodLink RX11 342 yX3_keep ∈ z_tb := z_in (in_t5 (List.mem_of_getElem? (i := 234) rfl)) rfl
theorem wd853 : Cond.code yX11_hold cX11_hold 2 (some .boolean) ∈ z_tb := z_in (in_t5 (List.mem_of_getElem? (i := 233) rfl)) rfl
theorem wd854 : Cond.instanceMethod yX3_bringBack ∈ z_tb := z_in (in_t6 (List.mem_of_getElem? (i := 3) rfl)) rfl
theorem wd855 : Cond.selects RX3 yX3_bringBack yX3_bringBack ∈ z_tb := z_in (in_t6 (List.mem_of_getElem? (i := 4) rfl)) rfl
theorem wd856 : Cond.methodLink RX11 346 yX3_bringBack ∈ z_tb := z_in (in_t6 (List.mem_of_getElem? (i := 2) rfl)) rfl
theorem wd857 : Cond.code yX11_restore cX11_restore 2 (some .boolean) ∈ z_tb := z_in (in_t6 (List.mem_of_getElem? (i := 1) rfl)) rfl
theorem wd858 : Cond.code yX11_fairRows cX11_fairRows 3 (some .int) ∈ z_tb := z_in (in_t6 (List.mem_of_getElem? (i := 17) rfl)) rfl
theorem wd859 : Cond.code yX11_allPays cX11_allPays 3 (some .int) ∈ z_tb := z_in (in_t6 (List.mem_of_getElem? (i := 21) rfl)) rfl
theorem wd860 : Cond.code yX11_lastColours cX11_lastColours 3 (some .int) ∈ z_tb := z_in (in_t6 (List.mem_of_getElem? (i := 25) rfl)) rfl
theorem wd861 : Cond.instanceMethod yX1_allLengths ∈ z_tb := z_in (in_t6 (List.mem_of_getElem? (i := 11) rfl)) rfl
theorem wd862 : Cond.selects RX1 yX1_allLengths yX1_allLengths ∈ z_tb := z_in (in_t6 (List.mem_of_getElem? (i := 12) rfl)) rfl
theorem wd863 : Cond.methodLink RX11 352 yX1_allLengths ∈ z_tb := z_in (in_t6 (List.mem_of_getElem? (i := 10) rfl)) rfl
theorem wd864 : Cond.instanceMethod yX11_fairRows ∈ z_tb := z_in (in_t6 (List.mem_of_getElem? (i := 16) rfl)) rfl
theorem wd865 : Cond.selects RX11 yX11_fairRows yX11_fairRows ∈ z_tb := z_in (in_pv (n := 13) (y := yX11_fairRows) (List.mem_of_getElem? (i := 43) rfl)) rfl
theorem wd866 : Cond.methodLink RX11 355 yX11_fairRows ∈ z_tb := z_in (in_t6 (List.mem_of_getElem? (i := 14) rfl)) rfl
theorem wd867 : Cond.instanceMethod yX11_allPays ∈ z_tb := z_in (in_t6 (List.mem_of_getElem? (i := 20) rfl)) rfl
theorem wd868 : Cond.selects RX11 yX11_allPays yX11_allPays ∈ z_tb := z_in (in_pv (n := 13) (y := yX11_allPays) (List.mem_of_getElem? (i := 44) rfl)) rfl
theorem wd869 : Cond.methodLink RX11 358 yX11_allPays ∈ z_tb := z_in (in_t6 (List.mem_of_getElem? (i := 18) rfl)) rfl
theorem wd870 : Cond.instanceMethod yX11_lastColours ∈ z_tb := z_in (in_t6 (List.mem_of_getElem? (i := 24) rfl)) rfl
theorem wd871 : Cond.selects RX11 yX11_lastColours yX11_lastColours ∈ z_tb := z_in (in_pv (n := 13) (y := yX11_lastColours) (List.mem_of_getElem? (i := 45) rfl)) rfl
theorem wd872 : Cond.methodLink RX11 361 yX11_lastColours ∈ z_tb := z_in (in_t6 (List.mem_of_getElem? (i := 22) rfl)) rfl
theorem wd873 : Cond.fieldLink RX11 364 "RowChildren$Memory" "undoable" "I" ∈ z_tb := z_in (in_t2 (List.mem_of_getElem? (i := 5) rfl)) rfl
theorem wd874 : Cond.instanceMethod yX3_slotsHeld ∈ z_tb := z_in (in_t6 (List.mem_of_getElem? (i := 27) rfl)) rfl
theorem wd875 : Cond.selects RX3 yX3_slotsHeld yX3_slotsHeld ∈ z_tb := z_in (in_t6 (List.mem_of_getElem? (i := 28) rfl)) rfl
theorem wd876 : Cond.methodLink RX11 367 yX3_slotsHeld ∈ z_tb := z_in (in_t6 (List.mem_of_getElem? (i := 26) rfl)) rfl
theorem wd877 : Cond.instanceMethod yX1_allColours ∈ z_tb := z_in (in_t6 (List.mem_of_getElem? (i := 31) rfl)) rfl
theorem wd878 : Cond.selects RX1 yX1_allColours yX1_allColours ∈ z_tb := z_in (in_t6 (List.mem_of_getElem? (i := 32) rfl)) rfl
theorem wd879 : Cond.methodLink RX11 370 yX1_allColours ∈ z_tb := z_in (in_t6 (List.mem_of_getElem? (i := 30) rfl)) rfl
theorem wd880 : Cond.instanceMethod yX1_singleRows ∈ z_tb := z_in (in_t6 (List.mem_of_getElem? (i := 35) rfl)) rfl
theorem wd881 : Cond.selects RX1 yX1_singleRows yX1_singleRows ∈ z_tb := z_in (in_t6 (List.mem_of_getElem? (i := 36) rfl)) rfl
theorem wd882 : Cond.methodLink RX11 373 yX1_singleRows ∈ z_tb := z_in (in_t6 (List.mem_of_getElem? (i := 34) rfl)) rfl
theorem wd883 : Cond.code yX11_count cX11_count 2 (some .int) ∈ z_tb := z_in (in_t6 (List.mem_of_getElem? (i := 9) rfl)) rfl
theorem wd884 : Cond.fieldLink RX12 43 "RowChildrenModel" "colours" "[I" ∈ z_tb := z_in (in_t6 (List.mem_of_getElem? (i := 85) rfl)) rfl
theorem wd885 : Cond.fieldLink RX12 46 "RowChildrenModel" "childMany" "[I" ∈ z_tb := z_in (in_t6 (List.mem_of_getElem? (i := 86) rfl)) rfl
theorem wd886 : Cond.fieldLink RX12 52 "RowChildrenModel" "greatest" "[I" ∈ z_tb := z_in (in_t6 (List.mem_of_getElem? (i := 88) rfl)) rfl
theorem wd887 : Cond.fieldLink RX12 55 "RowChildrenModel" "rowMany" "[I" ∈ z_tb := z_in (in_t6 (List.mem_of_getElem? (i := 89) rfl)) rfl
theorem wd888 : Cond.fieldLink RX12 64 "RowChildrenModel" "seed" "[I" ∈ z_tb := z_in (in_t6 (List.mem_of_getElem? (i := 92) rfl)) rfl
theorem wd889 : Cond.fieldLink RX12 67 "RowChildrenModel" "lawFirst" "[I" ∈ z_tb := z_in (in_t6 (List.mem_of_getElem? (i := 93) rfl)) rfl
theorem wd890 : Cond.fieldLink RX12 70 "RowChildrenModel" "lawLast" "[I" ∈ z_tb := z_in (in_t6 (List.mem_of_getElem? (i := 94) rfl)) rfl
theorem wd891 : Cond.fieldLink RX12 49 "RowChildrenModel" "childTold" "[I" ∈ z_tb := z_in (in_t6 (List.mem_of_getElem? (i := 87) rfl)) rfl
theorem wd892 : Cond.code yX12_plain cX12_plain 3 none ∈ z_tb := z_in (in_t6 (List.mem_of_getElem? (i := 48) rfl)) rfl
theorem wd893 : Cond.initialized RX12 ∈ z_tb := z_in (in_t1 (List.mem_of_getElem? (i := 13) rfl)) rfl
theorem wd894 : Cond.constantLong RX12 191 (27) ∈ z_tb := z_in (in_t6 (List.mem_of_getElem? (i := 55) rfl)) rfl
theorem wd895 : Cond.code yX12_appends cX12_appends 3 (some .long) ∈ z_tb := z_in (in_t6 (List.mem_of_getElem? (i := 54) rfl)) rfl
theorem wd896 : Cond.static yX12_appends ∈ z_tb := z_in (in_t6 (List.mem_of_getElem? (i := 53) rfl)) rfl
theorem wd897 : Cond.methodLink RX12 193 yX12_appends ∈ z_tb := z_in (in_t6 (List.mem_of_getElem? (i := 52) rfl)) rfl
theorem wd898 : Cond.code yX12_letters cX12_letters 7 (some .long) ∈ z_tb := z_in (in_t6 (List.mem_of_getElem? (i := 51) rfl)) rfl
theorem wd899 : Cond.fieldLink RX12 249 "RowChildrenModel" "live" "I" ∈ z_tb := z_in (in_t6 (List.mem_of_getElem? (i := 81) rfl)) rfl
theorem wd900 : Cond.fieldLink RX12 333 "RowChildrenModel" "lots" "I" ∈ z_tb := z_in (in_t6 (List.mem_of_getElem? (i := 111) rfl)) rfl
theorem wd901 : Cond.fieldLink RX12 107 "RowChildrenModel" "row" "[I" ∈ z_tb := z_in (in_t6 (List.mem_of_getElem? (i := 110) rfl)) rfl
theorem wd902 : Cond.fieldLink RX12 58 "RowChildrenModel" "firstLong" "[I" ∈ z_tb := z_in (in_t6 (List.mem_of_getElem? (i := 90) rfl)) rfl
theorem wd903 : Cond.fieldLink RX12 61 "RowChildrenModel" "firstColour" "[I" ∈ z_tb := z_in (in_t6 (List.mem_of_getElem? (i := 91) rfl)) rfl
theorem wd904 : Cond.code yX12_begins cX12_begins 3 none ∈ z_tb := z_in (in_t6 (List.mem_of_getElem? (i := 59) rfl)) rfl
theorem wd905 : Cond.fieldLink RX12 104 "RowChildrenModel" "now" "[I" ∈ z_tb := z_in (in_t6 (List.mem_of_getElem? (i := 109) rfl)) rfl
theorem wd906 : Cond.code yX12_keepsRow cX12_keepsRow 2 none ∈ z_tb := z_in (in_t6 (List.mem_of_getElem? (i := 63) rfl)) rfl
theorem wd907 : Cond.methodLink RX12 7 Lib.objectInit ∈ z_tb := z_in (in_t6 (List.mem_of_getElem? (i := 43) rfl)) rfl
theorem wd908 : Cond.fieldLink RX12 13 "RowChildrenModel" "tape" "[B" ∈ z_tb := z_in (in_t6 (List.mem_of_getElem? (i := 64) rfl)) rfl
theorem wd909 : Cond.fieldLink RX12 17 "RowChildrenModel" "text" "[B" ∈ z_tb := z_in (in_t6 (List.mem_of_getElem? (i := 66) rfl)) rfl
theorem wd910 : Cond.fieldLink RX12 20 "RowChildrenModel" "tKind" "[I" ∈ z_tb := z_in (in_t6 (List.mem_of_getElem? (i := 68) rfl)) rfl
theorem wd911 : Cond.fieldLink RX12 24 "RowChildrenModel" "tPlace" "[I" ∈ z_tb := z_in (in_t6 (List.mem_of_getElem? (i := 69) rfl)) rfl
theorem wd912 : Cond.fieldLink RX12 27 "RowChildrenModel" "tValue" "[I" ∈ z_tb := z_in (in_t6 (List.mem_of_getElem? (i := 70) rfl)) rfl
theorem wd913 : Cond.fieldLink RX12 30 "RowChildrenModel" "tName" "[J" ∈ z_tb := z_in (in_t6 (List.mem_of_getElem? (i := 71) rfl)) rfl
theorem wd914 : Cond.fieldLink RX12 34 "RowChildrenModel" "keys" "[J" ∈ z_tb := z_in (in_t6 (List.mem_of_getElem? (i := 72) rfl)) rfl
theorem wd915 : Cond.fieldLink RX12 37 "RowChildrenModel" "place" "I" ∈ z_tb := z_in (in_t6 (List.mem_of_getElem? (i := 80) rfl)) rfl
theorem wd916 : Cond.fieldLink RX12 40 "RowChildrenModel" "nameOf" "[J" ∈ z_tb := z_in (in_t6 (List.mem_of_getElem? (i := 84) rfl)) rfl
theorem wd917 : Cond.fieldLink RX12 73 "RowChildrenModel" "hasTest" "[Z" ∈ z_tb := z_in (in_t6 (List.mem_of_getElem? (i := 96) rfl)) rfl
theorem wd918 : Cond.fieldLink RX12 77 "RowChildrenModel" "testFrom" "[I" ∈ z_tb := z_in (in_t6 (List.mem_of_getElem? (i := 97) rfl)) rfl
theorem wd919 : Cond.fieldLink RX12 80 "RowChildrenModel" "testMid" "[I" ∈ z_tb := z_in (in_t6 (List.mem_of_getElem? (i := 98) rfl)) rfl
theorem wd920 : Cond.fieldLink RX12 83 "RowChildrenModel" "testTo" "[I" ∈ z_tb := z_in (in_t6 (List.mem_of_getElem? (i := 99) rfl)) rfl
theorem wd921 : Cond.fieldLink RX12 86 "RowChildrenModel" "termTo" "[I" ∈ z_tb := z_in (in_t6 (List.mem_of_getElem? (i := 100) rfl)) rfl
theorem wd922 : Cond.fieldLink RX12 89 "RowChildrenModel" "code" "[I" ∈ z_tb := z_in (in_t6 (List.mem_of_getElem? (i := 102) rfl)) rfl
theorem wd923 : Cond.fieldLink RX12 92 "RowChildrenModel" "codeInt" "[I" ∈ z_tb := z_in (in_t6 (List.mem_of_getElem? (i := 103) rfl)) rfl
theorem wd924 : Cond.fieldLink RX12 95 "RowChildrenModel" "waits" "[I" ∈ z_tb := z_in (in_t6 (List.mem_of_getElem? (i := 104) rfl)) rfl
theorem wd925 : Cond.fieldLink RX12 98 "RowChildrenModel" "variables" "[I" ∈ z_tb := z_in (in_t6 (List.mem_of_getElem? (i := 106) rfl)) rfl
theorem wd926 : Cond.fieldLink RX12 101 "RowChildrenModel" "pile" "[I" ∈ z_tb := z_in (in_t6 (List.mem_of_getElem? (i := 107) rfl)) rfl
theorem wd927 : Cond.fieldLink RX12 110 "RowChildrenModel" "laid" "[I" ∈ z_tb := z_in (in_t6 (List.mem_of_getElem? (i := 112) rfl)) rfl
theorem wd928 : Cond.fieldLink RX12 113 "RowChildrenModel" "nextRow" "[I" ∈ z_tb := z_in (in_t6 (List.mem_of_getElem? (i := 114) rfl)) rfl
theorem wd929 : Cond.fieldLink RX12 116 "RowChildrenModel" "history" "[I" ∈ z_tb := z_in (in_t6 (List.mem_of_getElem? (i := 116) rfl)) rfl
theorem wd930 : Cond.fieldLink RX12 119 "RowChildrenModel" "costBy" "[I" ∈ z_tb := z_in (in_t6 (List.mem_of_getElem? (i := 117) rfl)) rfl
theorem wd931 : Cond.fieldLink RX12 122 "RowChildrenModel" "canBy" "[I" ∈ z_tb := z_in (in_t6 (List.mem_of_getElem? (i := 118) rfl)) rfl
theorem wd932 : Cond.fieldLink RX12 125 "RowChildrenModel" "endsBy" "[I" ∈ z_tb := z_in (in_t6 (List.mem_of_getElem? (i := 119) rfl)) rfl
theorem wd933 : Cond.fieldLink RX12 128 "RowChildrenModel" "endsThen" "[I" ∈ z_tb := z_in (in_t6 (List.mem_of_getElem? (i := 120) rfl)) rfl
theorem wd934 : Cond.fieldLink RX12 131 "RowChildrenModel" "setsBy" "[I" ∈ z_tb := z_in (in_t6 (List.mem_of_getElem? (i := 121) rfl)) rfl
theorem wd935 : Cond.fieldLink RX12 134 "RowChildrenModel" "setsThen" "[I" ∈ z_tb := z_in (in_t6 (List.mem_of_getElem? (i := 122) rfl)) rfl
theorem wd936 : Cond.constant RX12 137 (65536) ∈ z_tb := z_in (in_t6 (List.mem_of_getElem? (i := 44) rfl)) rfl
theorem wd937 : Cond.fieldLink RX12 138 "RowChildrenModel" "stepBy" "[I" ∈ z_tb := z_in (in_t6 (List.mem_of_getElem? (i := 123) rfl)) rfl
theorem wd938 : Cond.fieldLink RX12 141 "RowChildrenModel" "ringNow" "[I" ∈ z_tb := z_in (in_t6 (List.mem_of_getElem? (i := 124) rfl)) rfl
theorem wd939 : Cond.fieldLink RX12 144 "RowChildrenModel" "wonBy" "[I" ∈ z_tb := z_in (in_t6 (List.mem_of_getElem? (i := 128) rfl)) rfl
theorem wd940 : Cond.fieldLink RX12 147 "RowChildrenModel" "toldDepth" "[I" ∈ z_tb := z_in (in_t6 (List.mem_of_getElem? (i := 130) rfl)) rfl
theorem wd941 : Cond.fieldLink RX12 150 "RowChildrenModel" "toldSeat" "[I" ∈ z_tb := z_in (in_t6 (List.mem_of_getElem? (i := 131) rfl)) rfl
theorem wd942 : Cond.fieldLink RX12 153 "RowChildrenModel" "toldColour" "[I" ∈ z_tb := z_in (in_t6 (List.mem_of_getElem? (i := 132) rfl)) rfl
theorem wd943 : Cond.fieldLink RX12 156 "RowChildrenModel" "toldSo" "[Z" ∈ z_tb := z_in (in_t6 (List.mem_of_getElem? (i := 133) rfl)) rfl
theorem wd944 : Cond.fieldLink RX12 159 "RowChildrenModel" "countBy" "[I" ∈ z_tb := z_in (in_t6 (List.mem_of_getElem? (i := 134) rfl)) rfl
theorem wd945 : Cond.fieldLink RX12 162 "RowChildrenModel" "isHeld" "[Z" ∈ z_tb := z_in (in_t6 (List.mem_of_getElem? (i := 135) rfl)) rfl
theorem wd946 : Cond.fieldLink RX12 165 "RowChildrenModel" "heldRows" "[I" ∈ z_tb := z_in (in_t6 (List.mem_of_getElem? (i := 136) rfl)) rfl
theorem wd947 : Cond.instanceMethod yX12_plain ∈ z_tb := z_in (in_t6 (List.mem_of_getElem? (i := 47) rfl)) rfl
theorem wd948 : Cond.selects RX12 yX12_plain yX12_plain ∈ z_tb := z_in (in_pv (n := 74) (y := yX12_plain) (List.mem_of_getElem? (i := 46) rfl)) rfl
theorem wd949 : Cond.methodLink RX12 168 yX12_plain ∈ z_tb := z_in (in_t6 (List.mem_of_getElem? (i := 45) rfl)) rfl
theorem wd950 : Cond.static yX12_letters ∈ z_tb := z_in (in_t6 (List.mem_of_getElem? (i := 50) rfl)) rfl
theorem wd951 : Cond.methodLink RX12 172 yX12_letters ∈ z_tb := z_in (in_t6 (List.mem_of_getElem? (i := 49) rfl)) rfl
theorem wd952 : Cond.instanceMethod yX12_begins ∈ z_tb := z_in (in_t6 (List.mem_of_getElem? (i := 58) rfl)) rfl
theorem wd953 : Cond.selects RX12 yX12_begins yX12_begins ∈ z_tb := z_in (in_pv (n := 74) (y := yX12_begins) (List.mem_of_getElem? (i := 47) rfl)) rfl
theorem wd954 : Cond.methodLink RX12 176 yX12_begins ∈ z_tb := z_in (in_t6 (List.mem_of_getElem? (i := 56) rfl)) rfl
theorem wd955 : Cond.instanceMethod yX12_keepsRow ∈ z_tb := z_in (in_t6 (List.mem_of_getElem? (i := 62) rfl)) rfl
theorem wd956 : Cond.selects RX12 yX12_keepsRow yX12_keepsRow ∈ z_tb := z_in (in_pv (n := 74) (y := yX12_keepsRow) (List.mem_of_getElem? (i := 48) rfl)) rfl
theorem wd957 : Cond.methodLink RX12 179 yX12_keepsRow ∈ z_tb := z_in (in_t6 (List.mem_of_getElem? (i := 60) rfl)) rfl
theorem wd958 : Cond.code yX12_init cX12_init 1 none ∈ z_tb := z_in (in_t6 (List.mem_of_getElem? (i := 42) rfl)) rfl
theorem wd959 : Cond.fieldLink RX12 182 "RowChildrenModel" "taped" "I" ∈ z_tb := z_in (in_t6 (List.mem_of_getElem? (i := 65) rfl)) rfl
theorem wd960 : Cond.code yX12_lays cX12_lays 3 none ∈ z_tb := z_in (in_t7 (List.mem_of_getElem? (i := 53) rfl)) rfl
theorem wd961 : Cond.instanceMethod yX12_lays ∈ z_tb := z_in (in_t7 (List.mem_of_getElem? (i := 52) rfl)) rfl
theorem wd962 : Cond.selects RX12 yX12_lays yX12_lays ∈ z_tb := z_in (in_pv (n := 74) (y := yX12_lays) (List.mem_of_getElem? (i := 49) rfl)) rfl
theorem wd963 : Cond.methodLink RX12 185 yX12_lays ∈ z_tb := z_in (in_t7 (List.mem_of_getElem? (i := 50) rfl)) rfl
theorem wd964 : Cond.code yX12_feed cX12_feed 6 (some .int) ∈ z_tb := z_in (in_t7 (List.mem_of_getElem? (i := 49) rfl)) rfl
theorem wd965 : Cond.code yX12_back cX12_back 2 (some .int) ∈ z_tb := z_in (in_t7 (List.mem_of_getElem? (i := 57) rfl)) rfl
theorem wd966 : Cond.fieldLink RX12 188 "RowChildrenModel" "size" "I" ∈ z_tb := z_in (in_t6 (List.mem_of_getElem? (i := 67) rfl)) rfl
theorem wd967 : Cond.code yX12_byteAt cX12_byteAt 2 (some .int) ∈ z_tb := z_in (in_t7 (List.mem_of_getElem? (i := 69) rfl)) rfl
theorem wd968 : Cond.code yX12_isDigit cX12_isDigit 1 (some .boolean) ∈ z_tb := z_in (in_t7 (List.mem_of_getElem? (i := 79) rfl)) rfl
theorem wd969 : Cond.code yX12_isLetter cX12_isLetter 1 (some .boolean) ∈ z_tb := z_in (in_t7 (List.mem_of_getElem? (i := 76) rfl)) rfl
theorem wd970 : Cond.fieldLink RX12 197 "RowChildrenModel" "tokens" "I" ∈ z_tb := z_in (in_t6 (List.mem_of_getElem? (i := 73) rfl)) rfl
theorem wd971 : Cond.code yX12_token cX12_token 6 none ∈ z_tb := z_in (in_t7 (List.mem_of_getElem? (i := 73) rfl)) rfl
theorem wd972 : Cond.instanceMethod yX12_token ∈ z_tb := z_in (in_t7 (List.mem_of_getElem? (i := 72) rfl)) rfl
theorem wd973 : Cond.selects RX12 yX12_token yX12_token ∈ z_tb := z_in (in_pv (n := 74) (y := yX12_token) (List.mem_of_getElem? (i := 52) rfl)) rfl
theorem wd974 : Cond.methodLink RX12 204 yX12_token ∈ z_tb := z_in (in_t7 (List.mem_of_getElem? (i := 70) rfl)) rfl
theorem wd975 : Cond.code yX12_sign cX12_sign 5 (some .int) ∈ z_tb := z_in (in_t7 (List.mem_of_getElem? (i := 83) rfl)) rfl
theorem wd976 : Cond.instanceMethod yX12_byteAt ∈ z_tb := z_in (in_t7 (List.mem_of_getElem? (i := 68) rfl)) rfl
theorem wd977 : Cond.selects RX12 yX12_byteAt yX12_byteAt ∈ z_tb := z_in (in_pv (n := 74) (y := yX12_byteAt) (List.mem_of_getElem? (i := 51) rfl)) rfl
theorem wd978 : Cond.methodLink RX12 200 yX12_byteAt ∈ z_tb := z_in (in_t7 (List.mem_of_getElem? (i := 66) rfl)) rfl
theorem wd979 : Cond.static yX12_isLetter ∈ z_tb := z_in (in_t7 (List.mem_of_getElem? (i := 75) rfl)) rfl
theorem wd980 : Cond.methodLink RX12 208 yX12_isLetter ∈ z_tb := z_in (in_t7 (List.mem_of_getElem? (i := 74) rfl)) rfl
theorem wd981 : Cond.static yX12_isDigit ∈ z_tb := z_in (in_t7 (List.mem_of_getElem? (i := 78) rfl)) rfl
theorem wd982 : Cond.methodLink RX12 212 yX12_isDigit ∈ z_tb := z_in (in_t7 (List.mem_of_getElem? (i := 77) rfl)) rfl
theorem wd983 : Cond.instanceMethod yX12_sign ∈ z_tb := z_in (in_t7 (List.mem_of_getElem? (i := 82) rfl)) rfl
theorem wd984 : Cond.selects RX12 yX12_sign yX12_sign ∈ z_tb := z_in (in_pv (n := 74) (y := yX12_sign) (List.mem_of_getElem? (i := 53) rfl)) rfl
theorem wd985 : Cond.methodLink RX12 215 yX12_sign ∈ z_tb := z_in (in_t7 (List.mem_of_getElem? (i := 80) rfl)) rfl
theorem wd986 : Cond.code yX12_cut cX12_cut 8 none ∈ z_tb := z_in (in_t7 (List.mem_of_getElem? (i := 65) rfl)) rfl
theorem wd987 : Cond.fieldLink RX12 219 "RowChildrenModel" "fault" "I" ∈ z_tb := z_in (in_t6 (List.mem_of_getElem? (i := 76) rfl)) rfl
theorem wd988 : Cond.fieldLink RX12 222 "RowChildrenModel" "t" "I" ∈ z_tb := z_in (in_t6 (List.mem_of_getElem? (i := 74) rfl)) rfl
theorem wd989 : Cond.code yX12_is cX12_is 2 (some .boolean) ∈ z_tb := z_in (in_t7 (List.mem_of_getElem? (i := 87) rfl)) rfl
theorem wd990 : Cond.fieldLink RX12 225 "RowChildrenModel" "faultPlace" "I" ∈ z_tb := z_in (in_t6 (List.mem_of_getElem? (i := 77) rfl)) rfl
theorem wd991 : Cond.code yX12_fail cX12_fail 2 none ∈ z_tb := z_in (in_t7 (List.mem_of_getElem? (i := 99) rfl)) rfl
theorem wd992 : Cond.fieldLink RX12 228 "RowChildrenModel" "worst" "I" ∈ z_tb := z_in (in_t6 (List.mem_of_getElem? (i := 78) rfl)) rfl
theorem wd993 : Cond.fieldLink RX12 231 "RowChildrenModel" "worstPlace" "I" ∈ z_tb := z_in (in_t6 (List.mem_of_getElem? (i := 79) rfl)) rfl
theorem wd994 : Cond.code yX12_wrong cX12_wrong 4 none ∈ z_tb := z_in (in_t7 (List.mem_of_getElem? (i := 107) rfl)) rfl
theorem wd995 : Cond.instanceMethod yX12_fail ∈ z_tb := z_in (in_t7 (List.mem_of_getElem? (i := 98) rfl)) rfl
theorem wd996 : Cond.selects RX12 yX12_fail yX12_fail ∈ z_tb := z_in (in_pv (n := 74) (y := yX12_fail) (List.mem_of_getElem? (i := 57) rfl)) rfl
theorem wd997 : Cond.methodLink RX12 234 yX12_fail ∈ z_tb := z_in (in_t7 (List.mem_of_getElem? (i := 96) rfl)) rfl
theorem wd998 : Cond.code yX12_goesOn cX12_goesOn 1 none ∈ z_tb := z_in (in_t7 (List.mem_of_getElem? (i := 95) rfl)) rfl
theorem wd999 : Cond.instanceMethod yX12_is ∈ z_tb := z_in (in_t7 (List.mem_of_getElem? (i := 86) rfl)) rfl
theorem wd1000 : Cond.selects RX12 yX12_is yX12_is ∈ z_tb := z_in (in_pv (n := 74) (y := yX12_is) (List.mem_of_getElem? (i := 54) rfl)) rfl
theorem wd1001 : Cond.methodLink RX12 237 yX12_is ∈ z_tb := z_in (in_t7 (List.mem_of_getElem? (i := 84) rfl)) rfl
theorem wd1002 : Cond.instanceMethod yX12_goesOn ∈ z_tb := z_in (in_t7 (List.mem_of_getElem? (i := 94) rfl)) rfl
theorem wd1003 : Cond.selects RX12 yX12_goesOn yX12_goesOn ∈ z_tb := z_in (in_pv (n := 74) (y := yX12_goesOn) (List.mem_of_getElem? (i := 56) rfl)) rfl
theorem wd1004 : Cond.methodLink RX12 240 yX12_goesOn ∈ z_tb := z_in (in_t7 (List.mem_of_getElem? (i := 92) rfl)) rfl
theorem wd1005 : Cond.code yX12_must cX12_must 2 none ∈ z_tb := z_in (in_t7 (List.mem_of_getElem? (i := 111) rfl)) rfl
theorem wd1006 : Cond.instanceMethod yX12_wrong ∈ z_tb := z_in (in_t7 (List.mem_of_getElem? (i := 106) rfl)) rfl
theorem wd1007 : Cond.selects RX12 yX12_wrong yX12_wrong ∈ z_tb := z_in (in_pv (n := 74) (y := yX12_wrong) (List.mem_of_getElem? (i := 59) rfl)) rfl
theorem wd1008 : Cond.methodLink RX12 267 yX12_wrong ∈ z_tb := z_in (in_t7 (List.mem_of_getElem? (i := 104) rfl)) rfl
theorem wd1009 : Cond.code yX12_bounded cX12_bounded 4 (some .int) ∈ z_tb := z_in (in_t7 (List.mem_of_getElem? (i := 103) rfl)) rfl
theorem wd1010 : Cond.code yX12_roomFor cX12_roomFor 3 none ∈ z_tb := z_in (in_t7 (List.mem_of_getElem? (i := 115) rfl)) rfl
theorem wd1011 : Cond.instanceMethod yX12_bounded ∈ z_tb := z_in (in_t7 (List.mem_of_getElem? (i := 102) rfl)) rfl
theorem wd1012 : Cond.selects RX12 yX12_bounded yX12_bounded ∈ z_tb := z_in (in_pv (n := 74) (y := yX12_bounded) (List.mem_of_getElem? (i := 58) rfl)) rfl
theorem wd1013 : Cond.methodLink RX12 277 yX12_bounded ∈ z_tb := z_in (in_t7 (List.mem_of_getElem? (i := 100) rfl)) rfl
theorem wd1014 : Cond.fieldLink RX12 252 "RowChildrenModel" "side" "I" ∈ z_tb := z_in (in_t6 (List.mem_of_getElem? (i := 82) rfl)) rfl
theorem wd1015 : Cond.code yX12_colourTold cX12_colourTold 2 (some .int) ∈ z_tb := z_in (in_t7 (List.mem_of_getElem? (i := 123) rfl)) rfl
theorem wd1016 : Cond.instanceMethod yX12_colourTold ∈ z_tb := z_in (in_t7 (List.mem_of_getElem? (i := 122) rfl)) rfl
theorem wd1017 : Cond.selects RX12 yX12_colourTold yX12_colourTold ∈ z_tb := z_in (in_pv (n := 74) (y := yX12_colourTold) (List.mem_of_getElem? (i := 63) rfl)) rfl
theorem wd1018 : Cond.methodLink RX12 296 yX12_colourTold ∈ z_tb := z_in (in_t7 (List.mem_of_getElem? (i := 120) rfl)) rfl
theorem wd1019 : Cond.instanceMethod yX12_must ∈ z_tb := z_in (in_t7 (List.mem_of_getElem? (i := 110) rfl)) rfl
theorem wd1020 : Cond.selects RX12 yX12_must yX12_must ∈ z_tb := z_in (in_pv (n := 74) (y := yX12_must) (List.mem_of_getElem? (i := 60) rfl)) rfl
theorem wd1021 : Cond.methodLink RX12 281 yX12_must ∈ z_tb := z_in (in_t7 (List.mem_of_getElem? (i := 108) rfl)) rfl
theorem wd1022 : Cond.code yX12_tellChild cX12_tellChild 4 none ∈ z_tb := z_in (in_t7 (List.mem_of_getElem? (i := 119) rfl)) rfl
theorem wd1023 : Cond.fieldLink RX12 255 "RowChildrenModel" "names" "I" ∈ z_tb := z_in (in_t6 (List.mem_of_getElem? (i := 83) rfl)) rfl
theorem wd1024 : Cond.code yX12_tellRow cX12_tellRow 4 none ∈ z_tb := z_in (in_t7 (List.mem_of_getElem? (i := 127) rfl)) rfl
theorem wd1025 : Cond.fieldLink RX12 261 "RowChildrenModel" "codes" "I" ∈ z_tb := z_in (in_t6 (List.mem_of_getElem? (i := 101) rfl)) rfl
theorem wd1026 : Cond.code yX12_emit cX12_emit 3 none ∈ z_tb := z_in (in_t7 (List.mem_of_getElem? (i := 143) rfl)) rfl
theorem wd1027 : Cond.instanceMethod yX12_emit ∈ z_tb := z_in (in_t7 (List.mem_of_getElem? (i := 142) rfl)) rfl
theorem wd1028 : Cond.selects RX12 yX12_emit yX12_emit ∈ z_tb := z_in (in_pv (n := 74) (y := yX12_emit) (List.mem_of_getElem? (i := 68) rfl)) rfl
theorem wd1029 : Cond.methodLink RX12 309 yX12_emit ∈ z_tb := z_in (in_t7 (List.mem_of_getElem? (i := 140) rfl)) rfl
theorem wd1030 : Cond.code yX12_unit cX12_unit 1 none ∈ z_tb := z_in (in_t7 (List.mem_of_getElem? (i := 139) rfl)) rfl
theorem wd1031 : Cond.fieldLink RX12 306 "RowChildrenModel" "waiting" "I" ∈ z_tb := z_in (in_t6 (List.mem_of_getElem? (i := 105) rfl)) rfl
theorem wd1032 : Cond.code yX12_comesOut cX12_comesOut 3 none ∈ z_tb := z_in (in_t7 (List.mem_of_getElem? (i := 147) rfl)) rfl
theorem wd1033 : Cond.fieldLink RX12 246 "RowChildrenModel" "open" "I" ∈ z_tb := z_in (in_t6 (List.mem_of_getElem? (i := 75) rfl)) rfl
theorem wd1034 : Cond.instanceMethod yX12_unit ∈ z_tb := z_in (in_t7 (List.mem_of_getElem? (i := 138) rfl)) rfl
theorem wd1035 : Cond.selects RX12 yX12_unit yX12_unit ∈ z_tb := z_in (in_pv (n := 74) (y := yX12_unit) (List.mem_of_getElem? (i := 67) rfl)) rfl
theorem wd1036 : Cond.methodLink RX12 312 yX12_unit ∈ z_tb := z_in (in_t7 (List.mem_of_getElem? (i := 136) rfl)) rfl
theorem wd1037 : Cond.instanceMethod yX12_comesOut ∈ z_tb := z_in (in_t7 (List.mem_of_getElem? (i := 146) rfl)) rfl
theorem wd1038 : Cond.selects RX12 yX12_comesOut yX12_comesOut ∈ z_tb := z_in (in_pv (n := 74) (y := yX12_comesOut) (List.mem_of_getElem? (i := 69) rfl)) rfl
theorem wd1039 : Cond.methodLink RX12 315 yX12_comesOut ∈ z_tb := z_in (in_t7 (List.mem_of_getElem? (i := 144) rfl)) rfl
theorem wd1040 : Cond.code yX12_expression cX12_expression 3 none ∈ z_tb := z_in (in_t7 (List.mem_of_getElem? (i := 135) rfl)) rfl
theorem wd1041 : Cond.fieldLink RX12 258 "RowChildrenModel" "branches" "I" ∈ z_tb := z_in (in_t6 (List.mem_of_getElem? (i := 95) rfl)) rfl
theorem wd1042 : Cond.instanceMethod yX12_expression ∈ z_tb := z_in (in_t7 (List.mem_of_getElem? (i := 134) rfl)) rfl
theorem wd1043 : Cond.selects RX12 yX12_expression yX12_expression ∈ z_tb := z_in (in_pv (n := 74) (y := yX12_expression) (List.mem_of_getElem? (i := 66) rfl)) rfl
theorem wd1044 : Cond.methodLink RX12 300 yX12_expression ∈ z_tb := z_in (in_t7 (List.mem_of_getElem? (i := 132) rfl)) rfl
theorem wd1045 : Cond.code yX12_term cX12_term 1 none ∈ z_tb := z_in (in_t7 (List.mem_of_getElem? (i := 151) rfl)) rfl
theorem wd1046 : Cond.instanceMethod yX12_term ∈ z_tb := z_in (in_t7 (List.mem_of_getElem? (i := 150) rfl)) rfl
theorem wd1047 : Cond.selects RX12 yX12_term yX12_term ∈ z_tb := z_in (in_pv (n := 74) (y := yX12_term) (List.mem_of_getElem? (i := 70) rfl)) rfl
theorem wd1048 : Cond.methodLink RX12 303 yX12_term ∈ z_tb := z_in (in_t7 (List.mem_of_getElem? (i := 148) rfl)) rfl
theorem wd1049 : Cond.code yX12_tellLaw cX12_tellLaw 4 none ∈ z_tb := z_in (in_t7 (List.mem_of_getElem? (i := 131) rfl)) rfl
theorem wd1050 : Cond.instanceMethod yX12_roomFor ∈ z_tb := z_in (in_t7 (List.mem_of_getElem? (i := 114) rfl)) rfl
theorem wd1051 : Cond.selects RX12 yX12_roomFor yX12_roomFor ∈ z_tb := z_in (in_pv (n := 74) (y := yX12_roomFor) (List.mem_of_getElem? (i := 61) rfl)) rfl
theorem wd1052 : Cond.methodLink RX12 284 yX12_roomFor ∈ z_tb := z_in (in_t7 (List.mem_of_getElem? (i := 112) rfl)) rfl
theorem wd1053 : Cond.instanceMethod yX12_tellChild ∈ z_tb := z_in (in_t7 (List.mem_of_getElem? (i := 118) rfl)) rfl
theorem wd1054 : Cond.selects RX12 yX12_tellChild yX12_tellChild ∈ z_tb := z_in (in_pv (n := 74) (y := yX12_tellChild) (List.mem_of_getElem? (i := 62) rfl)) rfl
theorem wd1055 : Cond.methodLink RX12 287 yX12_tellChild ∈ z_tb := z_in (in_t7 (List.mem_of_getElem? (i := 116) rfl)) rfl
theorem wd1056 : Cond.instanceMethod yX12_tellRow ∈ z_tb := z_in (in_t7 (List.mem_of_getElem? (i := 126) rfl)) rfl
theorem wd1057 : Cond.selects RX12 yX12_tellRow yX12_tellRow ∈ z_tb := z_in (in_pv (n := 74) (y := yX12_tellRow) (List.mem_of_getElem? (i := 64) rfl)) rfl
theorem wd1058 : Cond.methodLink RX12 290 yX12_tellRow ∈ z_tb := z_in (in_t7 (List.mem_of_getElem? (i := 124) rfl)) rfl
theorem wd1059 : Cond.instanceMethod yX12_tellLaw ∈ z_tb := z_in (in_t7 (List.mem_of_getElem? (i := 130) rfl)) rfl
theorem wd1060 : Cond.selects RX12 yX12_tellLaw yX12_tellLaw ∈ z_tb := z_in (in_pv (n := 74) (y := yX12_tellLaw) (List.mem_of_getElem? (i := 65) rfl)) rfl
theorem wd1061 : Cond.methodLink RX12 293 yX12_tellLaw ∈ z_tb := z_in (in_t7 (List.mem_of_getElem? (i := 128) rfl)) rfl
theorem wd1062 : Cond.code yX12_tellOne cX12_tellOne 2 none ∈ z_tb := z_in (in_t7 (List.mem_of_getElem? (i := 91) rfl)) rfl
theorem wd1063 : Cond.instanceMethod yX12_cut ∈ z_tb := z_in (in_t7 (List.mem_of_getElem? (i := 64) rfl)) rfl
theorem wd1064 : Cond.selects RX12 yX12_cut yX12_cut ∈ z_tb := z_in (in_pv (n := 74) (y := yX12_cut) (List.mem_of_getElem? (i := 50) rfl)) rfl
theorem wd1065 : Cond.methodLink RX12 243 yX12_cut ∈ z_tb := z_in (in_t7 (List.mem_of_getElem? (i := 62) rfl)) rfl
theorem wd1066 : Cond.fieldLink RX12 271 "RowChildrenModel" "undos" "I" ∈ z_tb := z_in (in_t6 (List.mem_of_getElem? (i := 115) rfl)) rfl
theorem wd1067 : Cond.fieldLink RX12 274 "RowChildrenModel" "tolds" "I" ∈ z_tb := z_in (in_t6 (List.mem_of_getElem? (i := 129) rfl)) rfl
theorem wd1068 : Cond.instanceMethod yX12_tellOne ∈ z_tb := z_in (in_t7 (List.mem_of_getElem? (i := 90) rfl)) rfl
theorem wd1069 : Cond.selects RX12 yX12_tellOne yX12_tellOne ∈ z_tb := z_in (in_pv (n := 74) (y := yX12_tellOne) (List.mem_of_getElem? (i := 55) rfl)) rfl
theorem wd1070 : Cond.methodLink RX12 264 yX12_tellOne ∈ z_tb := z_in (in_t7 (List.mem_of_getElem? (i := 88) rfl)) rfl
theorem wd1071 : Cond.code yX12_read cX12_read 2 (some .int) ∈ z_tb := z_in (in_t7 (List.mem_of_getElem? (i := 61) rfl)) rfl
theorem wd1072 : Cond.code yX12_place cX12_place 1 (some .int) ∈ z_tb := z_in (in_t7 (List.mem_of_getElem? (i := 155) rfl)) rfl
theorem wd1073 : Cond.fieldLink RX12 319 "RowChildrenModel" "isBroken" "Z" ∈ z_tb := z_in (in_t6 (List.mem_of_getElem? (i := 108) rfl)) rfl
theorem wd1074 : Cond.code yX12_termOf cX12_termOf 8 (some .int) ∈ z_tb := z_in (in_t7 (List.mem_of_getElem? (i := 230) rfl)) rfl
theorem wd1075 : Cond.code yX12_in cX12_in 3 (some .boolean) ∈ z_tb := z_in (in_t7 (List.mem_of_getElem? (i := 170) rfl)) rfl
theorem wd1076 : Cond.code yX12_within cX12_within 3 (some .int) ∈ z_tb := z_in (in_t7 (List.mem_of_getElem? (i := 233) rfl)) rfl
theorem wd1077 : Cond.code yX12_base cX12_base 1 (some .int) ∈ z_tb := z_in (in_t7 (List.mem_of_getElem? (i := 167) rfl)) rfl
theorem wd1078 : Cond.static yX12_in ∈ z_tb := z_in (in_t7 (List.mem_of_getElem? (i := 169) rfl)) rfl
theorem wd1079 : Cond.methodLink RX12 323 yX12_in ∈ z_tb := z_in (in_t7 (List.mem_of_getElem? (i := 168) rfl)) rfl
theorem wd1080 : Cond.code yX12_isRow cX12_isRow 2 (some .boolean) ∈ z_tb := z_in (in_t7 (List.mem_of_getElem? (i := 182) rfl)) rfl
theorem wd1081 : Cond.instanceMethod yX12_base ∈ z_tb := z_in (in_t7 (List.mem_of_getElem? (i := 166) rfl)) rfl
theorem wd1082 : Cond.selects RX12 yX12_base yX12_base ∈ z_tb := z_in (in_pv (n := 74) (y := yX12_base) (List.mem_of_getElem? (i := 72) rfl)) rfl
theorem wd1083 : Cond.methodLink RX12 327 yX12_base ∈ z_tb := z_in (in_t7 (List.mem_of_getElem? (i := 164) rfl)) rfl
theorem wd1084 : Cond.code yX12_isColour cX12_isColour 2 (some .boolean) ∈ z_tb := z_in (in_t7 (List.mem_of_getElem? (i := 163) rfl)) rfl
theorem wd1085 : Cond.code yX12_childOf cX12_childOf 4 (some .int) ∈ z_tb := z_in (in_t7 (List.mem_of_getElem? (i := 174) rfl)) rfl
theorem wd1086 : Cond.code yX12_seatAt cX12_seatAt 3 (some .int) ∈ z_tb := z_in (in_t7 (List.mem_of_getElem? (i := 194) rfl)) rfl
theorem wd1087 : Cond.instanceMethod yX12_isRow ∈ z_tb := z_in (in_t7 (List.mem_of_getElem? (i := 181) rfl)) rfl
theorem wd1088 : Cond.selects RX12 yX12_isRow yX12_isRow ∈ z_tb := z_in (in_pv (n := 74) (y := yX12_isRow) (List.mem_of_getElem? (i := 74) rfl)) rfl
theorem wd1089 : Cond.methodLink RX12 330 yX12_isRow ∈ z_tb := z_in (in_t7 (List.mem_of_getElem? (i := 179) rfl)) rfl
theorem wd1090 : Cond.code yX12_isSeat cX12_isSeat 3 (some .boolean) ∈ z_tb := z_in (in_t8 (List.mem_of_getElem? (i := 37) rfl)) rfl
theorem wd1091 : Cond.code yX12_copies cX12_copies 2 none ∈ z_tb := z_in (in_t7 (List.mem_of_getElem? (i := 186) rfl)) rfl
theorem wd1092 : Cond.constant RX12 336 (1103515245) ∈ z_tb := z_in (in_t8 (List.mem_of_getElem? (i := 96) rfl)) rfl
theorem wd1093 : Cond.code yX12_mixed cX12_mixed 3 (some .int) ∈ z_tb := z_in (in_t8 (List.mem_of_getElem? (i := 95) rfl)) rfl
theorem wd1094 : Cond.static yX12_mixed ∈ z_tb := z_in (in_t8 (List.mem_of_getElem? (i := 94) rfl)) rfl
theorem wd1095 : Cond.methodLink RX12 337 yX12_mixed ∈ z_tb := z_in (in_t8 (List.mem_of_getElem? (i := 93) rfl)) rfl
theorem wd1096 : Cond.code yX12_lotOf cX12_lotOf 2 (some .int) ∈ z_tb := z_in (in_t8 (List.mem_of_getElem? (i := 92) rfl)) rfl
theorem wd1097 : Cond.code yX12_laidAt cX12_laidAt 3 (some .int) ∈ z_tb := z_in (in_t7 (List.mem_of_getElem? (i := 202) rfl)) rfl
theorem wd1098 : Cond.fieldLink RX12 340 "RowChildrenModel" "laidLong" "I" ∈ z_tb := z_in (in_t6 (List.mem_of_getElem? (i := 113) rfl)) rfl
theorem wd1099 : Cond.instanceMethod yX12_laidAt ∈ z_tb := z_in (in_t7 (List.mem_of_getElem? (i := 201) rfl)) rfl
theorem wd1100 : Cond.selects RX12 yX12_laidAt yX12_laidAt ∈ z_tb := z_in (in_pv (n := 74) (y := yX12_laidAt) (List.mem_of_getElem? (i := 79) rfl)) rfl
theorem wd1101 : Cond.methodLink RX12 343 yX12_laidAt ∈ z_tb := z_in (in_t7 (List.mem_of_getElem? (i := 199) rfl)) rfl
theorem wd1102 : Cond.instanceMethod yX12_childOf ∈ z_tb := z_in (in_t7 (List.mem_of_getElem? (i := 173) rfl)) rfl
theorem wd1103 : Cond.selects RX12 yX12_childOf yX12_childOf ∈ z_tb := z_in (in_pv (n := 74) (y := yX12_childOf) (List.mem_of_getElem? (i := 73) rfl)) rfl
theorem wd1104 : Cond.methodLink RX12 346 yX12_childOf ∈ z_tb := z_in (in_t7 (List.mem_of_getElem? (i := 171) rfl)) rfl
theorem wd1105 : Cond.code yX12_laysDown cX12_laysDown 3 none ∈ z_tb := z_in (in_t7 (List.mem_of_getElem? (i := 198) rfl)) rfl
theorem wd1106 : Cond.instanceMethod yX12_laysDown ∈ z_tb := z_in (in_t7 (List.mem_of_getElem? (i := 197) rfl)) rfl
theorem wd1107 : Cond.selects RX12 yX12_laysDown yX12_laysDown ∈ z_tb := z_in (in_pv (n := 74) (y := yX12_laysDown) (List.mem_of_getElem? (i := 78) rfl)) rfl
theorem wd1108 : Cond.methodLink RX12 352 yX12_laysDown ∈ z_tb := z_in (in_t7 (List.mem_of_getElem? (i := 195) rfl)) rfl
theorem wd1109 : Cond.instanceMethod yX12_seatAt ∈ z_tb := z_in (in_t7 (List.mem_of_getElem? (i := 193) rfl)) rfl
theorem wd1110 : Cond.selects RX12 yX12_seatAt yX12_seatAt ∈ z_tb := z_in (in_pv (n := 74) (y := yX12_seatAt) (List.mem_of_getElem? (i := 77) rfl)) rfl
theorem wd1111 : Cond.methodLink RX12 349 yX12_seatAt ∈ z_tb := z_in (in_t7 (List.mem_of_getElem? (i := 191) rfl)) rfl
theorem wd1112 : Cond.code yX12_laysRow cX12_laysRow 3 none ∈ z_tb := z_in (in_t7 (List.mem_of_getElem? (i := 190) rfl)) rfl
theorem wd1113 : Cond.code yX12_laysNumber cX12_laysNumber 5 none ∈ z_tb := z_in (in_t8 (List.mem_of_getElem? (i := 119) rfl)) rfl
theorem wd1114 : Cond.code yX12_lastLaid cX12_lastLaid 1 (some .int) ∈ z_tb := z_in (in_t7 (List.mem_of_getElem? (i := 210) rfl)) rfl
theorem wd1115 : Cond.code yX12_rowsOf cX12_rowsOf 4 (some .int) ∈ z_tb := z_in (in_t8 (List.mem_of_getElem? (i := 115) rfl)) rfl
theorem wd1116 : Cond.code yX12_numberLaid cX12_numberLaid 3 (some .int) ∈ z_tb := z_in (in_t7 (List.mem_of_getElem? (i := 206) rfl)) rfl
theorem wd1117 : Cond.code yX12_isInside cX12_isInside 3 (some .boolean) ∈ z_tb := z_in (in_t8 (List.mem_of_getElem? (i := 21) rfl)) rfl
theorem wd1118 : Cond.code yX12_manyLaid cX12_manyLaid 5 (some .int) ∈ z_tb := z_in (in_t8 (List.mem_of_getElem? (i := 1) rfl)) rfl
theorem wd1119 : Cond.instanceMethod yX12_manyLaid ∈ z_tb := z_in (in_t8 (List.mem_of_getElem? (i := 0) rfl)) rfl
theorem wd1120 : Cond.selects RX12 yX12_manyLaid yX12_manyLaid ∈ z_tb := z_in (in_pv (n := 74) (y := yX12_manyLaid) (List.mem_of_getElem? (i := 88) rfl)) rfl
theorem wd1121 : Cond.methodLink RX12 355 yX12_manyLaid ∈ z_tb := z_in (in_t7 (List.mem_of_getElem? (i := 238) rfl)) rfl
theorem wd1122 : Cond.code yX12_isFair cX12_isFair 5 (some .boolean) ∈ z_tb := z_in (in_t7 (List.mem_of_getElem? (i := 237) rfl)) rfl
theorem wd1123 : Cond.code yX12_isTurned cX12_isTurned 3 (some .boolean) ∈ z_tb := z_in (in_t8 (List.mem_of_getElem? (i := 5) rfl)) rfl
theorem wd1124 : Cond.instanceMethod yX12_termOf ∈ z_tb := z_in (in_t7 (List.mem_of_getElem? (i := 229) rfl)) rfl
theorem wd1125 : Cond.selects RX12 yX12_termOf yX12_termOf ∈ z_tb := z_in (in_pv (n := 74) (y := yX12_termOf) (List.mem_of_getElem? (i := 86) rfl)) rfl
theorem wd1126 : Cond.methodLink RX12 358 yX12_termOf ∈ z_tb := z_in (in_t7 (List.mem_of_getElem? (i := 227) rfl)) rfl
theorem wd1127 : Cond.code yX12_lawTells cX12_lawTells 7 (some .int) ∈ z_tb := z_in (in_t7 (List.mem_of_getElem? (i := 226) rfl)) rfl
theorem wd1128 : Cond.code yX12_manyIn cX12_manyIn 5 (some .int) ∈ z_tb := z_in (in_t7 (List.mem_of_getElem? (i := 222) rfl)) rfl
theorem wd1129 : Cond.instanceMethod yX12_manyIn ∈ z_tb := z_in (in_t7 (List.mem_of_getElem? (i := 221) rfl)) rfl
theorem wd1130 : Cond.selects RX12 yX12_manyIn yX12_manyIn ∈ z_tb := z_in (in_pv (n := 74) (y := yX12_manyIn) (List.mem_of_getElem? (i := 84) rfl)) rfl
theorem wd1131 : Cond.methodLink RX12 361 yX12_manyIn ∈ z_tb := z_in (in_t7 (List.mem_of_getElem? (i := 219) rfl)) rfl
theorem wd1132 : Cond.code yX12_looks cX12_looks 5 none ∈ z_tb := z_in (in_t7 (List.mem_of_getElem? (i := 218) rfl)) rfl
theorem wd1133 : Cond.instanceMethod yX12_looks ∈ z_tb := z_in (in_t7 (List.mem_of_getElem? (i := 217) rfl)) rfl
theorem wd1134 : Cond.selects RX12 yX12_looks yX12_looks ∈ z_tb := z_in (in_pv (n := 74) (y := yX12_looks) (List.mem_of_getElem? (i := 83) rfl)) rfl
theorem wd1135 : Cond.methodLink RX12 364 yX12_looks ∈ z_tb := z_in (in_t7 (List.mem_of_getElem? (i := 215) rfl)) rfl
theorem wd1136 : Cond.instanceMethod yX12_lawTells ∈ z_tb := z_in (in_t7 (List.mem_of_getElem? (i := 225) rfl)) rfl
theorem wd1137 : Cond.selects RX12 yX12_lawTells yX12_lawTells ∈ z_tb := z_in (in_pv (n := 74) (y := yX12_lawTells) (List.mem_of_getElem? (i := 85) rfl)) rfl
theorem wd1138 : Cond.methodLink RX12 368 yX12_lawTells ∈ z_tb := z_in (in_t7 (List.mem_of_getElem? (i := 223) rfl)) rfl
theorem wd1139 : Cond.static yX12_within ∈ z_tb := z_in (in_t7 (List.mem_of_getElem? (i := 232) rfl)) rfl
theorem wd1140 : Cond.methodLink RX12 371 yX12_within ∈ z_tb := z_in (in_t7 (List.mem_of_getElem? (i := 231) rfl)) rfl
theorem wd1141 : Cond.code yX12_worthOf cX12_worthOf 4 (some .int) ∈ z_tb := z_in (in_t8 (List.mem_of_getElem? (i := 13) rfl)) rfl
theorem wd1142 : Cond.code yX12_costsOf cX12_costsOf 4 (some .int) ∈ z_tb := z_in (in_t8 (List.mem_of_getElem? (i := 49) rfl)) rfl
theorem wd1143 : Cond.code yX12_oddsOf cX12_oddsOf 3 (some .int) ∈ z_tb := z_in (in_t8 (List.mem_of_getElem? (i := 100) rfl)) rfl
theorem wd1144 : Cond.code yX12_paysOf cX12_paysOf 2 (some .int) ∈ z_tb := z_in (in_t7 (List.mem_of_getElem? (i := 214) rfl)) rfl
theorem wd1145 : Cond.instanceMethod yX12_worthOf ∈ z_tb := z_in (in_t8 (List.mem_of_getElem? (i := 12) rfl)) rfl
theorem wd1146 : Cond.selects RX12 yX12_worthOf yX12_worthOf ∈ z_tb := z_in (in_pv (n := 74) (y := yX12_worthOf) (List.mem_of_getElem? (i := 91) rfl)) rfl
theorem wd1147 : Cond.methodLink RX12 374 yX12_worthOf ∈ z_tb := z_in (in_t8 (List.mem_of_getElem? (i := 10) rfl)) rfl
theorem wd1148 : Cond.code yX12_worthAll cX12_worthAll 5 (some .int) ∈ z_tb := z_in (in_t8 (List.mem_of_getElem? (i := 9) rfl)) rfl
theorem wd1149 : Cond.instanceMethod yX12_paysOf ∈ z_tb := z_in (in_t7 (List.mem_of_getElem? (i := 213) rfl)) rfl
theorem wd1150 : Cond.selects RX12 yX12_paysOf yX12_paysOf ∈ z_tb := z_in (in_pv (n := 74) (y := yX12_paysOf) (List.mem_of_getElem? (i := 82) rfl)) rfl
theorem wd1151 : Cond.methodLink RX12 377 yX12_paysOf ∈ z_tb := z_in (in_t7 (List.mem_of_getElem? (i := 211) rfl)) rfl
theorem wd1152 : Cond.code yX12_paysAll cX12_paysAll 3 (some .int) ∈ z_tb := z_in (in_t8 (List.mem_of_getElem? (i := 84) rfl)) rfl
theorem wd1153 : Cond.instanceMethod yX12_laysRow ∈ z_tb := z_in (in_t7 (List.mem_of_getElem? (i := 189) rfl)) rfl
theorem wd1154 : Cond.selects RX12 yX12_laysRow yX12_laysRow ∈ z_tb := z_in (in_pv (n := 74) (y := yX12_laysRow) (List.mem_of_getElem? (i := 76) rfl)) rfl
theorem wd1155 : Cond.methodLink RX12 380 yX12_laysRow ∈ z_tb := z_in (in_t7 (List.mem_of_getElem? (i := 187) rfl)) rfl
theorem wd1156 : Cond.instanceMethod yX12_lotOf ∈ z_tb := z_in (in_t8 (List.mem_of_getElem? (i := 91) rfl)) rfl
theorem wd1157 : Cond.selects RX12 yX12_lotOf yX12_lotOf ∈ z_tb := z_in (in_pv (n := 74) (y := yX12_lotOf) (List.mem_of_getElem? (i := 101) rfl)) rfl
theorem wd1158 : Cond.methodLink RX12 383 yX12_lotOf ∈ z_tb := z_in (in_t8 (List.mem_of_getElem? (i := 89) rfl)) rfl
theorem wd1159 : Cond.instanceMethod yX12_oddsOf ∈ z_tb := z_in (in_t8 (List.mem_of_getElem? (i := 99) rfl)) rfl
theorem wd1160 : Cond.selects RX12 yX12_oddsOf yX12_oddsOf ∈ z_tb := z_in (in_pv (n := 74) (y := yX12_oddsOf) (List.mem_of_getElem? (i := 102) rfl)) rfl
theorem wd1161 : Cond.methodLink RX12 386 yX12_oddsOf ∈ z_tb := z_in (in_t8 (List.mem_of_getElem? (i := 97) rfl)) rfl
theorem wd1162 : Cond.code yX12_grows cX12_grows 4 none ∈ z_tb := z_in (in_t8 (List.mem_of_getElem? (i := 88) rfl)) rfl
theorem wd1163 : Cond.instanceMethod yX12_paysAll ∈ z_tb := z_in (in_t8 (List.mem_of_getElem? (i := 83) rfl)) rfl
theorem wd1164 : Cond.selects RX12 yX12_paysAll yX12_paysAll ∈ z_tb := z_in (in_pv (n := 74) (y := yX12_paysAll) (List.mem_of_getElem? (i := 99) rfl)) rfl
theorem wd1165 : Cond.methodLink RX12 389 yX12_paysAll ∈ z_tb := z_in (in_t8 (List.mem_of_getElem? (i := 81) rfl)) rfl
theorem wd1166 : Cond.instanceMethod yX12_grows ∈ z_tb := z_in (in_t8 (List.mem_of_getElem? (i := 87) rfl)) rfl
theorem wd1167 : Cond.selects RX12 yX12_grows yX12_grows ∈ z_tb := z_in (in_pv (n := 74) (y := yX12_grows) (List.mem_of_getElem? (i := 100) rfl)) rfl
theorem wd1168 : Cond.methodLink RX12 392 yX12_grows ∈ z_tb := z_in (in_t8 (List.mem_of_getElem? (i := 85) rfl)) rfl
theorem wd1169 : Cond.code yX12_generationGoes cX12_generationGoes 2 none ∈ z_tb := z_in (in_t8 (List.mem_of_getElem? (i := 80) rfl)) rfl
theorem wd1170 : Cond.instanceMethod yX12_generationGoes ∈ z_tb := z_in (in_t8 (List.mem_of_getElem? (i := 79) rfl)) rfl
theorem wd1171 : Cond.selects RX12 yX12_generationGoes yX12_generationGoes ∈ z_tb := z_in (in_pv (n := 74) (y := yX12_generationGoes) (List.mem_of_getElem? (i := 98) rfl)) rfl
theorem wd1172 : Cond.methodLink RX12 395 yX12_generationGoes ∈ z_tb := z_in (in_t8 (List.mem_of_getElem? (i := 77) rfl)) rfl
theorem wd1173 : Cond.code yX12_goes cX12_goes 3 none ∈ z_tb := z_in (in_t8 (List.mem_of_getElem? (i := 76) rfl)) rfl
theorem wd1174 : Cond.instanceMethod yX12_isColour ∈ z_tb := z_in (in_t7 (List.mem_of_getElem? (i := 162) rfl)) rfl
theorem wd1175 : Cond.selects RX12 yX12_isColour yX12_isColour ∈ z_tb := z_in (in_pv (n := 74) (y := yX12_isColour) (List.mem_of_getElem? (i := 71) rfl)) rfl
theorem wd1176 : Cond.methodLink RX12 398 yX12_isColour ∈ z_tb := z_in (in_t7 (List.mem_of_getElem? (i := 160) rfl)) rfl
theorem wd1177 : Cond.code yX12_child cX12_child 3 (some .int) ∈ z_tb := z_in (in_t7 (List.mem_of_getElem? (i := 159) rfl)) rfl
theorem wd1178 : Cond.instanceMethod yX12_copies ∈ z_tb := z_in (in_t7 (List.mem_of_getElem? (i := 185) rfl)) rfl
theorem wd1179 : Cond.selects RX12 yX12_copies yX12_copies ∈ z_tb := z_in (in_pv (n := 74) (y := yX12_copies) (List.mem_of_getElem? (i := 75) rfl)) rfl
theorem wd1180 : Cond.methodLink RX12 401 yX12_copies ∈ z_tb := z_in (in_t7 (List.mem_of_getElem? (i := 183) rfl)) rfl
theorem wd1181 : Cond.instanceMethod yX12_numberLaid ∈ z_tb := z_in (in_t7 (List.mem_of_getElem? (i := 205) rfl)) rfl
theorem wd1182 : Cond.selects RX12 yX12_numberLaid yX12_numberLaid ∈ z_tb := z_in (in_pv (n := 74) (y := yX12_numberLaid) (List.mem_of_getElem? (i := 80) rfl)) rfl
theorem wd1183 : Cond.methodLink RX12 404 yX12_numberLaid ∈ z_tb := z_in (in_t7 (List.mem_of_getElem? (i := 203) rfl)) rfl
theorem wd1184 : Cond.instanceMethod yX12_lastLaid ∈ z_tb := z_in (in_t7 (List.mem_of_getElem? (i := 209) rfl)) rfl
theorem wd1185 : Cond.selects RX12 yX12_lastLaid yX12_lastLaid ∈ z_tb := z_in (in_pv (n := 74) (y := yX12_lastLaid) (List.mem_of_getElem? (i := 81) rfl)) rfl
theorem wd1186 : Cond.methodLink RX12 407 yX12_lastLaid ∈ z_tb := z_in (in_t7 (List.mem_of_getElem? (i := 207) rfl)) rfl
theorem wd1187 : Cond.instanceMethod yX12_isFair ∈ z_tb := z_in (in_t7 (List.mem_of_getElem? (i := 236) rfl)) rfl
theorem wd1188 : Cond.selects RX12 yX12_isFair yX12_isFair ∈ z_tb := z_in (in_pv (n := 74) (y := yX12_isFair) (List.mem_of_getElem? (i := 87) rfl)) rfl
theorem wd1189 : Cond.methodLink RX12 410 yX12_isFair ∈ z_tb := z_in (in_t7 (List.mem_of_getElem? (i := 234) rfl)) rfl
theorem wd1190 : Cond.instanceMethod yX12_isTurned ∈ z_tb := z_in (in_t8 (List.mem_of_getElem? (i := 4) rfl)) rfl
theorem wd1191 : Cond.selects RX12 yX12_isTurned yX12_isTurned ∈ z_tb := z_in (in_pv (n := 74) (y := yX12_isTurned) (List.mem_of_getElem? (i := 89) rfl)) rfl
theorem wd1192 : Cond.methodLink RX12 414 yX12_isTurned ∈ z_tb := z_in (in_t8 (List.mem_of_getElem? (i := 2) rfl)) rfl
theorem wd1193 : Cond.instanceMethod yX12_worthAll ∈ z_tb := z_in (in_t8 (List.mem_of_getElem? (i := 8) rfl)) rfl
theorem wd1194 : Cond.selects RX12 yX12_worthAll yX12_worthAll ∈ z_tb := z_in (in_pv (n := 74) (y := yX12_worthAll) (List.mem_of_getElem? (i := 90) rfl)) rfl
theorem wd1195 : Cond.methodLink RX12 417 yX12_worthAll ∈ z_tb := z_in (in_t8 (List.mem_of_getElem? (i := 6) rfl)) rfl
theorem wd1196 : Cond.code yX12_row cX12_row 3 (some .int) ∈ z_tb := z_in (in_t7 (List.mem_of_getElem? (i := 178) rfl)) rfl
theorem wd1197 : Cond.instanceMethod yX12_isInside ∈ z_tb := z_in (in_t8 (List.mem_of_getElem? (i := 20) rfl)) rfl
theorem wd1198 : Cond.selects RX12 yX12_isInside yX12_isInside ∈ z_tb := z_in (in_pv (n := 74) (y := yX12_isInside) (List.mem_of_getElem? (i := 92) rfl)) rfl
theorem wd1199 : Cond.methodLink RX12 420 yX12_isInside ∈ z_tb := z_in (in_t8 (List.mem_of_getElem? (i := 18) rfl)) rfl
theorem wd1200 : Cond.code yX12_at cX12_at 4 (some .int) ∈ z_tb := z_in (in_t8 (List.mem_of_getElem? (i := 17) rfl)) rfl
theorem wd1201 : Cond.code yX12_worth cX12_worth 4 (some .int) ∈ z_tb := z_in (in_t8 (List.mem_of_getElem? (i := 25) rfl)) rfl
theorem wd1202 : Cond.code yX12_many cX12_many 3 (some .int) ∈ z_tb := z_in (in_t8 (List.mem_of_getElem? (i := 29) rfl)) rfl
theorem wd1203 : Cond.instanceMethod yX12_isSeat ∈ z_tb := z_in (in_t8 (List.mem_of_getElem? (i := 36) rfl)) rfl
theorem wd1204 : Cond.selects RX12 yX12_isSeat yX12_isSeat ∈ z_tb := z_in (in_pv (n := 74) (y := yX12_isSeat) (List.mem_of_getElem? (i := 93) rfl)) rfl
theorem wd1205 : Cond.methodLink RX12 424 yX12_isSeat ∈ z_tb := z_in (in_t8 (List.mem_of_getElem? (i := 34) rfl)) rfl
theorem wd1206 : Cond.code yX12_side cX12_side 4 (some .int) ∈ z_tb := z_in (in_t8 (List.mem_of_getElem? (i := 33) rfl)) rfl
theorem wd1207 : Cond.code yX12_isOther cX12_isOther 4 (some .boolean) ∈ z_tb := z_in (in_t8 (List.mem_of_getElem? (i := 45) rfl)) rfl
theorem wd1208 : Cond.instanceMethod yX12_isOther ∈ z_tb := z_in (in_t8 (List.mem_of_getElem? (i := 44) rfl)) rfl
theorem wd1209 : Cond.selects RX12 yX12_isOther yX12_isOther ∈ z_tb := z_in (in_pv (n := 74) (y := yX12_isOther) (List.mem_of_getElem? (i := 94) rfl)) rfl
theorem wd1210 : Cond.methodLink RX12 427 yX12_isOther ∈ z_tb := z_in (in_t8 (List.mem_of_getElem? (i := 42) rfl)) rfl
theorem wd1211 : Cond.instanceMethod yX12_costsOf ∈ z_tb := z_in (in_t8 (List.mem_of_getElem? (i := 48) rfl)) rfl
theorem wd1212 : Cond.selects RX12 yX12_costsOf yX12_costsOf ∈ z_tb := z_in (in_pv (n := 74) (y := yX12_costsOf) (List.mem_of_getElem? (i := 95) rfl)) rfl
theorem wd1213 : Cond.methodLink RX12 430 yX12_costsOf ∈ z_tb := z_in (in_t8 (List.mem_of_getElem? (i := 46) rfl)) rfl
theorem wd1214 : Cond.code yX12_costs cX12_costs 4 (some .int) ∈ z_tb := z_in (in_t8 (List.mem_of_getElem? (i := 41) rfl)) rfl
theorem wd1215 : Cond.code yX12_records cX12_records 2 none ∈ z_tb := z_in (in_t8 (List.mem_of_getElem? (i := 57) rfl)) rfl
theorem wd1216 : Cond.instanceMethod yX12_records ∈ z_tb := z_in (in_t8 (List.mem_of_getElem? (i := 56) rfl)) rfl
theorem wd1217 : Cond.selects RX12 yX12_records yX12_records ∈ z_tb := z_in (in_pv (n := 74) (y := yX12_records) (List.mem_of_getElem? (i := 96) rfl)) rfl
theorem wd1218 : Cond.methodLink RX12 433 yX12_records ∈ z_tb := z_in (in_t8 (List.mem_of_getElem? (i := 54) rfl)) rfl
theorem wd1219 : Cond.code yX12_paint cX12_paint 5 (some .int) ∈ z_tb := z_in (in_t8 (List.mem_of_getElem? (i := 53) rfl)) rfl
theorem wd1220 : Cond.code yX12_come cX12_come 3 (some .int) ∈ z_tb := z_in (in_t8 (List.mem_of_getElem? (i := 61) rfl)) rfl
theorem wd1221 : Cond.code yX12_go cX12_go 2 (some .int) ∈ z_tb := z_in (in_t8 (List.mem_of_getElem? (i := 65) rfl)) rfl
theorem wd1222 : Cond.code yX12_isShort cX12_isShort 1 (some .boolean) ∈ z_tb := z_in (in_t8 (List.mem_of_getElem? (i := 72) rfl)) rfl
theorem wd1223 : Cond.static yX12_isShort ∈ z_tb := z_in (in_t8 (List.mem_of_getElem? (i := 71) rfl)) rfl
theorem wd1224 : Cond.methodLink RX12 436 yX12_isShort ∈ z_tb := z_in (in_t8 (List.mem_of_getElem? (i := 70) rfl)) rfl
theorem wd1225 : Cond.instanceMethod yX12_goes ∈ z_tb := z_in (in_t8 (List.mem_of_getElem? (i := 75) rfl)) rfl
theorem wd1226 : Cond.selects RX12 yX12_goes yX12_goes ∈ z_tb := z_in (in_pv (n := 74) (y := yX12_goes) (List.mem_of_getElem? (i := 97) rfl)) rfl
theorem wd1227 : Cond.methodLink RX12 439 yX12_goes ∈ z_tb := z_in (in_t8 (List.mem_of_getElem? (i := 73) rfl)) rfl
theorem wd1228 : Cond.code yX12_times cX12_times 2 (some .int) ∈ z_tb := z_in (in_t8 (List.mem_of_getElem? (i := 69) rfl)) rfl
theorem wd1229 : Cond.code yX12_undo cX12_undo 2 (some .boolean) ∈ z_tb := z_in (in_t8 (List.mem_of_getElem? (i := 104) rfl)) rfl
theorem wd1230 : Cond.code yX12_isLength cX12_isLength 1 (some .boolean) ∈ z_tb := z_in (in_t8 (List.mem_of_getElem? (i := 111) rfl)) rfl
theorem wd1231 : Cond.static yX12_isLength ∈ z_tb := z_in (in_t8 (List.mem_of_getElem? (i := 110) rfl)) rfl
theorem wd1232 : Cond.methodLink RX12 442 yX12_isLength ∈ z_tb := z_in (in_t8 (List.mem_of_getElem? (i := 109) rfl)) rfl
theorem wd1233 : Cond.instanceMethod yX12_rowsOf ∈ z_tb := z_in (in_t8 (List.mem_of_getElem? (i := 114) rfl)) rfl
theorem wd1234 : Cond.selects RX12 yX12_rowsOf yX12_rowsOf ∈ z_tb := z_in (in_pv (n := 74) (y := yX12_rowsOf) (List.mem_of_getElem? (i := 103) rfl)) rfl
theorem wd1235 : Cond.methodLink RX12 445 yX12_rowsOf ∈ z_tb := z_in (in_t8 (List.mem_of_getElem? (i := 112) rfl)) rfl
theorem wd1236 : Cond.instanceMethod yX12_laysNumber ∈ z_tb := z_in (in_t8 (List.mem_of_getElem? (i := 118) rfl)) rfl
theorem wd1237 : Cond.selects RX12 yX12_laysNumber yX12_laysNumber ∈ z_tb := z_in (in_pv (n := 74) (y := yX12_laysNumber) (List.mem_of_getElem? (i := 104) rfl)) rfl
theorem wd1238 : Cond.methodLink RX12 448 yX12_laysNumber ∈ z_tb := z_in (in_t8 (List.mem_of_getElem? (i := 116) rfl)) rfl
theorem wd1239 : Cond.code yX12_makes cX12_makes 7 (some .int) ∈ z_tb := z_in (in_t8 (List.mem_of_getElem? (i := 108) rfl)) rfl
theorem wd1240 : Cond.code yX12_fillsCosts cX12_fillsCosts 4 none ∈ z_tb := z_in (in_t8 (List.mem_of_getElem? (i := 127) rfl)) rfl
theorem wd1241 : Cond.code yX12_costLaid cX12_costLaid 3 (some .int) ∈ z_tb := z_in (in_t8 (List.mem_of_getElem? (i := 131) rfl)) rfl
theorem wd1242 : Cond.instanceMethod yX12_fillsCosts ∈ z_tb := z_in (in_t8 (List.mem_of_getElem? (i := 126) rfl)) rfl
theorem wd1243 : Cond.selects RX12 yX12_fillsCosts yX12_fillsCosts ∈ z_tb := z_in (in_pv (n := 74) (y := yX12_fillsCosts) (List.mem_of_getElem? (i := 105) rfl)) rfl
theorem wd1244 : Cond.methodLink RX12 451 yX12_fillsCosts ∈ z_tb := z_in (in_t8 (List.mem_of_getElem? (i := 124) rfl)) rfl
theorem wd1245 : Cond.instanceMethod yX12_costLaid ∈ z_tb := z_in (in_t8 (List.mem_of_getElem? (i := 130) rfl)) rfl
theorem wd1246 : Cond.selects RX12 yX12_costLaid yX12_costLaid ∈ z_tb := z_in (in_pv (n := 74) (y := yX12_costLaid) (List.mem_of_getElem? (i := 106) rfl)) rfl
theorem wd1247 : Cond.methodLink RX12 454 yX12_costLaid ∈ z_tb := z_in (in_t8 (List.mem_of_getElem? (i := 128) rfl)) rfl
theorem wd1248 : Cond.code yX12_repaint cX12_repaint 7 (some .int) ∈ z_tb := z_in (in_t8 (List.mem_of_getElem? (i := 123) rfl)) rfl
theorem wd1249 : Cond.code yX12_unlikeLaid cX12_unlikeLaid 4 (some .int) ∈ z_tb := z_in (in_t8 (List.mem_of_getElem? (i := 139) rfl)) rfl
theorem wd1250 : Cond.instanceMethod yX12_unlikeLaid ∈ z_tb := z_in (in_t8 (List.mem_of_getElem? (i := 138) rfl)) rfl
theorem wd1251 : Cond.selects RX12 yX12_unlikeLaid yX12_unlikeLaid ∈ z_tb := z_in (in_pv (n := 74) (y := yX12_unlikeLaid) (List.mem_of_getElem? (i := 107) rfl)) rfl
theorem wd1252 : Cond.methodLink RX12 457 yX12_unlikeLaid ∈ z_tb := z_in (in_t8 (List.mem_of_getElem? (i := 136) rfl)) rfl
theorem wd1253 : Cond.code yX12_fairly cX12_fairly 6 (some .int) ∈ z_tb := z_in (in_t8 (List.mem_of_getElem? (i := 135) rfl)) rfl
theorem wd1254 : Cond.code yX12_matters cX12_matters 6 (some .int) ∈ z_tb := z_in (in_t8 (List.mem_of_getElem? (i := 143) rfl)) rfl
theorem wd1255 : Cond.code yX12_fillsCan cX12_fillsCan 4 none ∈ z_tb := z_in (in_t8 (List.mem_of_getElem? (i := 155) rfl)) rfl
theorem wd1256 : Cond.code yX12_parentsMany cX12_parentsMany 4 (some .int) ∈ z_tb := z_in (in_t8 (List.mem_of_getElem? (i := 151) rfl)) rfl
theorem wd1257 : Cond.code yX12_lowestOf cX12_lowestOf 2 (some .int) ∈ z_tb := z_in (in_t8 (List.mem_of_getElem? (i := 158) rfl)) rfl
theorem wd1258 : Cond.instanceMethod yX12_fillsCan ∈ z_tb := z_in (in_t8 (List.mem_of_getElem? (i := 154) rfl)) rfl
theorem wd1259 : Cond.selects RX12 yX12_fillsCan yX12_fillsCan ∈ z_tb := z_in (in_pv (n := 74) (y := yX12_fillsCan) (List.mem_of_getElem? (i := 109) rfl)) rfl
theorem wd1260 : Cond.methodLink RX12 463 yX12_fillsCan ∈ z_tb := z_in (in_t8 (List.mem_of_getElem? (i := 152) rfl)) rfl
theorem wd1261 : Cond.static yX12_lowestOf ∈ z_tb := z_in (in_t8 (List.mem_of_getElem? (i := 157) rfl)) rfl
theorem wd1262 : Cond.methodLink RX12 466 yX12_lowestOf ∈ z_tb := z_in (in_t8 (List.mem_of_getElem? (i := 156) rfl)) rfl
theorem wd1263 : Cond.instanceMethod yX12_parentsMany ∈ z_tb := z_in (in_t8 (List.mem_of_getElem? (i := 150) rfl)) rfl
theorem wd1264 : Cond.selects RX12 yX12_parentsMany yX12_parentsMany ∈ z_tb := z_in (in_pv (n := 74) (y := yX12_parentsMany) (List.mem_of_getElem? (i := 108) rfl)) rfl
theorem wd1265 : Cond.methodLink RX12 460 yX12_parentsMany ∈ z_tb := z_in (in_t8 (List.mem_of_getElem? (i := 148) rfl)) rfl
theorem wd1266 : Cond.code yX12_parents cX12_parents 7 (some .int) ∈ z_tb := z_in (in_t8 (List.mem_of_getElem? (i := 147) rfl)) rfl
theorem wd1267 : Cond.code yX12_onFrom cX12_onFrom 5 (some .int) ∈ z_tb := z_in (in_t8 (List.mem_of_getElem? (i := 166) rfl)) rfl
theorem wd1268 : Cond.instanceMethod yX12_onFrom ∈ z_tb := z_in (in_t8 (List.mem_of_getElem? (i := 165) rfl)) rfl
theorem wd1269 : Cond.selects RX12 yX12_onFrom yX12_onFrom ∈ z_tb := z_in (in_pv (n := 74) (y := yX12_onFrom) (List.mem_of_getElem? (i := 110) rfl)) rfl
theorem wd1270 : Cond.methodLink RX12 469 yX12_onFrom ∈ z_tb := z_in (in_t8 (List.mem_of_getElem? (i := 163) rfl)) rfl
theorem wd1271 : Cond.code yX12_orphans cX12_orphans 5 (some .int) ∈ z_tb := z_in (in_t8 (List.mem_of_getElem? (i := 162) rfl)) rfl
theorem wd1272 : Cond.fieldLink RX12 472 "RowChildrenModel" "ringLong" "I" ∈ z_tb := z_in (in_t6 (List.mem_of_getElem? (i := 125) rfl)) rfl
theorem wd1273 : Cond.code yX12_ringsRow cX12_ringsRow 3 none ∈ z_tb := z_in (in_t8 (List.mem_of_getElem? (i := 178) rfl)) rfl
theorem wd1274 : Cond.code yX12_numberRing cX12_numberRing 3 (some .int) ∈ z_tb := z_in (in_t8 (List.mem_of_getElem? (i := 182) rfl)) rfl
theorem wd1275 : Cond.code yX12_ringSteps cX12_ringSteps 3 none ∈ z_tb := z_in (in_t8 (List.mem_of_getElem? (i := 186) rfl)) rfl
theorem wd1276 : Cond.instanceMethod yX12_ringsRow ∈ z_tb := z_in (in_t8 (List.mem_of_getElem? (i := 177) rfl)) rfl
theorem wd1277 : Cond.selects RX12 yX12_ringsRow yX12_ringsRow ∈ z_tb := z_in (in_pv (n := 74) (y := yX12_ringsRow) (List.mem_of_getElem? (i := 112) rfl)) rfl
theorem wd1278 : Cond.methodLink RX12 475 yX12_ringsRow ∈ z_tb := z_in (in_t8 (List.mem_of_getElem? (i := 175) rfl)) rfl
theorem wd1279 : Cond.instanceMethod yX12_numberRing ∈ z_tb := z_in (in_t8 (List.mem_of_getElem? (i := 181) rfl)) rfl
theorem wd1280 : Cond.selects RX12 yX12_numberRing yX12_numberRing ∈ z_tb := z_in (in_pv (n := 74) (y := yX12_numberRing) (List.mem_of_getElem? (i := 113) rfl)) rfl
theorem wd1281 : Cond.methodLink RX12 478 yX12_numberRing ∈ z_tb := z_in (in_t8 (List.mem_of_getElem? (i := 179) rfl)) rfl
theorem wd1282 : Cond.fieldLink RX12 484 "RowChildrenModel" "ringHead" "I" ∈ z_tb := z_in (in_t6 (List.mem_of_getElem? (i := 126) rfl)) rfl
theorem wd1283 : Cond.fieldLink RX12 487 "RowChildrenModel" "ringRound" "I" ∈ z_tb := z_in (in_t6 (List.mem_of_getElem? (i := 127) rfl)) rfl
theorem wd1284 : Cond.instanceMethod yX12_ringSteps ∈ z_tb := z_in (in_t8 (List.mem_of_getElem? (i := 185) rfl)) rfl
theorem wd1285 : Cond.selects RX12 yX12_ringSteps yX12_ringSteps ∈ z_tb := z_in (in_pv (n := 74) (y := yX12_ringSteps) (List.mem_of_getElem? (i := 114) rfl)) rfl
theorem wd1286 : Cond.methodLink RX12 481 yX12_ringSteps ∈ z_tb := z_in (in_t8 (List.mem_of_getElem? (i := 183) rfl)) rfl
theorem wd1287 : Cond.code yX12_fillsRing cX12_fillsRing 3 none ∈ z_tb := z_in (in_t8 (List.mem_of_getElem? (i := 174) rfl)) rfl
theorem wd1288 : Cond.instanceMethod yX12_fillsRing ∈ z_tb := z_in (in_t8 (List.mem_of_getElem? (i := 173) rfl)) rfl
theorem wd1289 : Cond.selects RX12 yX12_fillsRing yX12_fillsRing ∈ z_tb := z_in (in_pv (n := 74) (y := yX12_fillsRing) (List.mem_of_getElem? (i := 111) rfl)) rfl
theorem wd1290 : Cond.methodLink RX12 490 yX12_fillsRing ∈ z_tb := z_in (in_t8 (List.mem_of_getElem? (i := 171) rfl)) rfl
theorem wd1291 : Cond.code yX12_ring cX12_ring 3 (some .int) ∈ z_tb := z_in (in_t8 (List.mem_of_getElem? (i := 170) rfl)) rfl
theorem wd1292 : Cond.constant RX12 493 (1000000000) ∈ z_tb := z_in (in_t8 (List.mem_of_getElem? (i := 191) rfl)) rfl
theorem wd1293 : Cond.code yX12_after cX12_after 6 (some .int) ∈ z_tb := z_in (in_t8 (List.mem_of_getElem? (i := 190) rfl)) rfl
theorem wd1294 : Cond.code yX12_isAlikeTurned cX12_isAlikeTurned 2 (some .boolean) ∈ z_tb := z_in (in_t8 (List.mem_of_getElem? (i := 199) rfl)) rfl
theorem wd1295 : Cond.code yX12_isUnlike cX12_isUnlike 5 (some .boolean) ∈ z_tb := z_in (in_t8 (List.mem_of_getElem? (i := 207) rfl)) rfl
theorem wd1296 : Cond.instanceMethod yX12_isUnlike ∈ z_tb := z_in (in_t8 (List.mem_of_getElem? (i := 206) rfl)) rfl
theorem wd1297 : Cond.selects RX12 yX12_isUnlike yX12_isUnlike ∈ z_tb := z_in (in_pv (n := 74) (y := yX12_isUnlike) (List.mem_of_getElem? (i := 117) rfl)) rfl
theorem wd1298 : Cond.methodLink RX12 494 yX12_isUnlike ∈ z_tb := z_in (in_t8 (List.mem_of_getElem? (i := 204) rfl)) rfl
theorem wd1299 : Cond.code yX12_areUnlike cX12_areUnlike 3 (some .boolean) ∈ z_tb := z_in (in_t8 (List.mem_of_getElem? (i := 203) rfl)) rfl
theorem wd1300 : Cond.code yX12_isGathered cX12_isGathered 5 (some .boolean) ∈ z_tb := z_in (in_t8 (List.mem_of_getElem? (i := 211) rfl)) rfl
theorem wd1301 : Cond.code yX12_isOwn cX12_isOwn 2 (some .boolean) ∈ z_tb := z_in (in_t8 (List.mem_of_getElem? (i := 215) rfl)) rfl
theorem wd1302 : Cond.code yX12_isMinding cX12_isMinding 3 (some .boolean) ∈ z_tb := z_in (in_t8 (List.mem_of_getElem? (i := 223) rfl)) rfl
theorem wd1303 : Cond.instanceMethod yX12_isMinding ∈ z_tb := z_in (in_t8 (List.mem_of_getElem? (i := 222) rfl)) rfl
theorem wd1304 : Cond.selects RX12 yX12_isMinding yX12_isMinding ∈ z_tb := z_in (in_pv (n := 74) (y := yX12_isMinding) (List.mem_of_getElem? (i := 121) rfl)) rfl
theorem wd1305 : Cond.methodLink RX12 498 yX12_isMinding ∈ z_tb := z_in (in_t8 (List.mem_of_getElem? (i := 220) rfl)) rfl
theorem wd1306 : Cond.code yX12_hasIdle cX12_hasIdle 2 (some .boolean) ∈ z_tb := z_in (in_t8 (List.mem_of_getElem? (i := 219) rfl)) rfl
theorem wd1307 : Cond.instanceMethod yX12_isAlikeTurned ∈ z_tb := z_in (in_t8 (List.mem_of_getElem? (i := 198) rfl)) rfl
theorem wd1308 : Cond.selects RX12 yX12_isAlikeTurned yX12_isAlikeTurned ∈ z_tb := z_in (in_pv (n := 74) (y := yX12_isAlikeTurned) (List.mem_of_getElem? (i := 115) rfl)) rfl
theorem wd1309 : Cond.methodLink RX12 501 yX12_isAlikeTurned ∈ z_tb := z_in (in_t8 (List.mem_of_getElem? (i := 196) rfl)) rfl
theorem wd1310 : Cond.instanceMethod yX12_areUnlike ∈ z_tb := z_in (in_t8 (List.mem_of_getElem? (i := 202) rfl)) rfl
theorem wd1311 : Cond.selects RX12 yX12_areUnlike yX12_areUnlike ∈ z_tb := z_in (in_pv (n := 74) (y := yX12_areUnlike) (List.mem_of_getElem? (i := 116) rfl)) rfl
theorem wd1312 : Cond.methodLink RX12 504 yX12_areUnlike ∈ z_tb := z_in (in_t8 (List.mem_of_getElem? (i := 200) rfl)) rfl
theorem wd1313 : Cond.instanceMethod yX12_isGathered ∈ z_tb := z_in (in_t8 (List.mem_of_getElem? (i := 210) rfl)) rfl
theorem wd1314 : Cond.selects RX12 yX12_isGathered yX12_isGathered ∈ z_tb := z_in (in_pv (n := 74) (y := yX12_isGathered) (List.mem_of_getElem? (i := 118) rfl)) rfl
theorem wd1315 : Cond.methodLink RX12 508 yX12_isGathered ∈ z_tb := z_in (in_t8 (List.mem_of_getElem? (i := 208) rfl)) rfl
theorem wd1316 : Cond.instanceMethod yX12_isOwn ∈ z_tb := z_in (in_t8 (List.mem_of_getElem? (i := 214) rfl)) rfl
theorem wd1317 : Cond.selects RX12 yX12_isOwn yX12_isOwn ∈ z_tb := z_in (in_pv (n := 74) (y := yX12_isOwn) (List.mem_of_getElem? (i := 119) rfl)) rfl
theorem wd1318 : Cond.methodLink RX12 511 yX12_isOwn ∈ z_tb := z_in (in_t8 (List.mem_of_getElem? (i := 212) rfl)) rfl
theorem wd1319 : Cond.instanceMethod yX12_hasIdle ∈ z_tb := z_in (in_t8 (List.mem_of_getElem? (i := 218) rfl)) rfl
theorem wd1320 : Cond.selects RX12 yX12_hasIdle yX12_hasIdle ∈ z_tb := z_in (in_pv (n := 74) (y := yX12_hasIdle) (List.mem_of_getElem? (i := 120) rfl)) rfl
theorem wd1321 : Cond.methodLink RX12 514 yX12_hasIdle ∈ z_tb := z_in (in_t8 (List.mem_of_getElem? (i := 216) rfl)) rfl
theorem wd1322 : Cond.code yX12_ways cX12_ways 1 (some .int) ∈ z_tb := z_in (in_t8 (List.mem_of_getElem? (i := 195) rfl)) rfl
theorem wd1323 : Cond.code yX12_shut cX12_shut 5 (some .int) ∈ z_tb := z_in (in_t8 (List.mem_of_getElem? (i := 227) rfl)) rfl
theorem wd1324 : Cond.code yX12_chosen cX12_chosen 2 (some .int) ∈ z_tb := z_in (in_t8 (List.mem_of_getElem? (i := 234) rfl)) rfl
theorem wd1325 : Cond.static yX12_chosen ∈ z_tb := z_in (in_t8 (List.mem_of_getElem? (i := 233) rfl)) rfl
theorem wd1326 : Cond.methodLink RX12 517 yX12_chosen ∈ z_tb := z_in (in_t8 (List.mem_of_getElem? (i := 232) rfl)) rfl
theorem wd1327 : Cond.code yX12_deep cX12_deep 6 (some .int) ∈ z_tb := z_in (in_t8 (List.mem_of_getElem? (i := 231) rfl)) rfl
theorem wd1328 : Cond.code yX12_wonWith cX12_wonWith 4 (some .int) ∈ z_tb := z_in (in_t9 (List.mem_of_getElem? (i := 2) rfl)) rfl
theorem wd1329 : Cond.instanceMethod yX12_wonWith ∈ z_tb := z_in (in_t9 (List.mem_of_getElem? (i := 1) rfl)) rfl
theorem wd1330 : Cond.selects RX12 yX12_wonWith yX12_wonWith ∈ z_tb := z_in (in_pv (n := 74) (y := yX12_wonWith) (List.mem_of_getElem? (i := 122) rfl)) rfl
theorem wd1331 : Cond.methodLink RX12 520 yX12_wonWith ∈ z_tb := z_in (in_t8 (List.mem_of_getElem? (i := 239) rfl)) rfl
theorem wd1332 : Cond.code yX12_game cX12_game 7 (some .int) ∈ z_tb := z_in (in_t8 (List.mem_of_getElem? (i := 238) rfl)) rfl
theorem wd1333 : Cond.code yX12_then cX12_then 4 (some .int) ∈ z_tb := z_in (in_t9 (List.mem_of_getElem? (i := 6) rfl)) rfl
theorem wd1334 : Cond.code yX12_paidIn cX12_paidIn 2 (some .int) ∈ z_tb := z_in (in_t9 (List.mem_of_getElem? (i := 10) rfl)) rfl
theorem wd1335 : Cond.code yX12_year cX12_year 7 (some .int) ∈ z_tb := z_in (in_t9 (List.mem_of_getElem? (i := 14) rfl)) rfl
theorem wd1336 : Cond.code yX12_tell cX12_tell 5 (some .int) ∈ z_tb := z_in (in_t9 (List.mem_of_getElem? (i := 18) rfl)) rfl
theorem wd1337 : Cond.code yX12_forget cX12_forget 2 (some .int) ∈ z_tb := z_in (in_t9 (List.mem_of_getElem? (i := 22) rfl)) rfl
theorem wd1338 : Cond.code yX12_doesFit cX12_doesFit 5 (some .boolean) ∈ z_tb := z_in (in_t9 (List.mem_of_getElem? (i := 34) rfl)) rfl
theorem wd1339 : Cond.code yX12_isAsked cX12_isAsked 3 (some .boolean) ∈ z_tb := z_in (in_t9 (List.mem_of_getElem? (i := 30) rfl)) rfl
theorem wd1340 : Cond.instanceMethod yX12_isAsked ∈ z_tb := z_in (in_t9 (List.mem_of_getElem? (i := 29) rfl)) rfl
theorem wd1341 : Cond.selects RX12 yX12_isAsked yX12_isAsked ∈ z_tb := z_in (in_pv (n := 74) (y := yX12_isAsked) (List.mem_of_getElem? (i := 123) rfl)) rfl
theorem wd1342 : Cond.methodLink RX12 524 yX12_isAsked ∈ z_tb := z_in (in_t9 (List.mem_of_getElem? (i := 27) rfl)) rfl
theorem wd1343 : Cond.instanceMethod yX12_doesFit ∈ z_tb := z_in (in_t9 (List.mem_of_getElem? (i := 33) rfl)) rfl
theorem wd1344 : Cond.selects RX12 yX12_doesFit yX12_doesFit ∈ z_tb := z_in (in_pv (n := 74) (y := yX12_doesFit) (List.mem_of_getElem? (i := 124) rfl)) rfl
theorem wd1345 : Cond.methodLink RX12 527 yX12_doesFit ∈ z_tb := z_in (in_t9 (List.mem_of_getElem? (i := 31) rfl)) rfl
theorem wd1346 : Cond.code yX12_rows cX12_rows 7 (some .int) ∈ z_tb := z_in (in_t9 (List.mem_of_getElem? (i := 26) rfl)) rfl
theorem wd1347 : Cond.code yX12_worstAt cX12_worstAt 4 (some .int) ∈ z_tb := z_in (in_t9 (List.mem_of_getElem? (i := 42) rfl)) rfl
theorem wd1348 : Cond.instanceMethod yX12_worstAt ∈ z_tb := z_in (in_t9 (List.mem_of_getElem? (i := 41) rfl)) rfl
theorem wd1349 : Cond.selects RX12 yX12_worstAt yX12_worstAt ∈ z_tb := z_in (in_pv (n := 74) (y := yX12_worstAt) (List.mem_of_getElem? (i := 125) rfl)) rfl
theorem wd1350 : Cond.methodLink RX12 530 yX12_worstAt ∈ z_tb := z_in (in_t9 (List.mem_of_getElem? (i := 39) rfl)) rfl
theorem wd1351 : Cond.code yX12_look cX12_look 8 (some .int) ∈ z_tb := z_in (in_t9 (List.mem_of_getElem? (i := 38) rfl)) rfl
theorem wd1352 : Cond.code yX12_hold cX12_hold 3 (some .boolean) ∈ z_tb := z_in (in_t9 (List.mem_of_getElem? (i := 46) rfl)) rfl
theorem wd1353 : Cond.code yX12_restore cX12_restore 3 (some .boolean) ∈ z_tb := z_in (in_t9 (List.mem_of_getElem? (i := 50) rfl)) rfl
theorem wd1354 : Cond.code yX12_fairBits cX12_fairBits 3 (some .int) ∈ z_tb := z_in (in_t9 (List.mem_of_getElem? (i := 58) rfl)) rfl
theorem wd1355 : Cond.code yX12_lastBits cX12_lastBits 3 (some .int) ∈ z_tb := z_in (in_t9 (List.mem_of_getElem? (i := 62) rfl)) rfl
theorem wd1356 : Cond.instanceMethod yX12_fairBits ∈ z_tb := z_in (in_t9 (List.mem_of_getElem? (i := 57) rfl)) rfl
theorem wd1357 : Cond.selects RX12 yX12_fairBits yX12_fairBits ∈ z_tb := z_in (in_pv (n := 74) (y := yX12_fairBits) (List.mem_of_getElem? (i := 126) rfl)) rfl
theorem wd1358 : Cond.methodLink RX12 533 yX12_fairBits ∈ z_tb := z_in (in_t9 (List.mem_of_getElem? (i := 55) rfl)) rfl
theorem wd1359 : Cond.instanceMethod yX12_lastBits ∈ z_tb := z_in (in_t9 (List.mem_of_getElem? (i := 61) rfl)) rfl
theorem wd1360 : Cond.selects RX12 yX12_lastBits yX12_lastBits ∈ z_tb := z_in (in_pv (n := 74) (y := yX12_lastBits) (List.mem_of_getElem? (i := 127) rfl)) rfl
theorem wd1361 : Cond.methodLink RX12 536 yX12_lastBits ∈ z_tb := z_in (in_t9 (List.mem_of_getElem? (i := 59) rfl)) rfl
theorem wd1362 : Cond.code yX12_count cX12_count 5 (some .int) ∈ z_tb := z_in (in_t9 (List.mem_of_getElem? (i := 54) rfl)) rfl
theorem wd1363 : Cond.instanceMethod yX11_feed ∈ z_tb := z_in (in_t2 (List.mem_of_getElem? (i := 156) rfl)) rfl
theorem wd1364 : Cond.selects RX11 yX11_feed yX11_feed ∈ z_tb := z_in (in_t2 (List.mem_of_getElem? (i := 157) rfl)) rfl
theorem wd1365 : Cond.methodLink RL 13 yX11_feed ∈ z_tb := z_in (in_t2 (List.mem_of_getElem? (i := 155) rfl)) rfl
theorem wd1366 : Cond.instanceMethod yX12_feed ∈ z_tb := z_in (in_t7 (List.mem_of_getElem? (i := 47) rfl)) rfl
theorem wd1367 : Cond.selects RX12 yX12_feed yX12_feed ∈ z_tb := z_in (in_t7 (List.mem_of_getElem? (i := 48) rfl)) rfl
theorem wd1368 : Cond.methodLink RL 17 yX12_feed ∈ z_tb := z_in (in_t7 (List.mem_of_getElem? (i := 46) rfl)) rfl
theorem wd1369 : Cond.instanceMethod yX11_back ∈ z_tb := z_in (in_t2 (List.mem_of_getElem? (i := 164) rfl)) rfl
theorem wd1370 : Cond.selects RX11 yX11_back yX11_back ∈ z_tb := z_in (in_t2 (List.mem_of_getElem? (i := 165) rfl)) rfl
theorem wd1371 : Cond.methodLink RL 18 yX11_back ∈ z_tb := z_in (in_t2 (List.mem_of_getElem? (i := 163) rfl)) rfl
theorem wd1372 : Cond.instanceMethod yX12_back ∈ z_tb := z_in (in_t7 (List.mem_of_getElem? (i := 55) rfl)) rfl
theorem wd1373 : Cond.selects RX12 yX12_back yX12_back ∈ z_tb := z_in (in_t7 (List.mem_of_getElem? (i := 56) rfl)) rfl
theorem wd1374 : Cond.methodLink RL 22 yX12_back ∈ z_tb := z_in (in_t7 (List.mem_of_getElem? (i := 54) rfl)) rfl
theorem wd1375 : Cond.instanceMethod yX11_read ∈ z_tb := z_in (in_t2 (List.mem_of_getElem? (i := 168) rfl)) rfl
theorem wd1376 : Cond.selects RX11 yX11_read yX11_read ∈ z_tb := z_in (in_t2 (List.mem_of_getElem? (i := 169) rfl)) rfl
theorem wd1377 : Cond.methodLink RL 23 yX11_read ∈ z_tb := z_in (in_t2 (List.mem_of_getElem? (i := 167) rfl)) rfl
theorem wd1378 : Cond.instanceMethod yX12_read ∈ z_tb := z_in (in_t7 (List.mem_of_getElem? (i := 59) rfl)) rfl
theorem wd1379 : Cond.selects RX12 yX12_read yX12_read ∈ z_tb := z_in (in_t7 (List.mem_of_getElem? (i := 60) rfl)) rfl
theorem wd1380 : Cond.methodLink RL 27 yX12_read ∈ z_tb := z_in (in_t7 (List.mem_of_getElem? (i := 58) rfl)) rfl
theorem wd1381 : Cond.instanceMethod yX11_place ∈ z_tb := z_in (in_t3 (List.mem_of_getElem? (i := 198) rfl)) rfl
theorem wd1382 : Cond.selects RX11 yX11_place yX11_place ∈ z_tb := z_in (in_t3 (List.mem_of_getElem? (i := 199) rfl)) rfl
theorem wd1383 : Cond.methodLink RL 28 yX11_place ∈ z_tb := z_in (in_t3 (List.mem_of_getElem? (i := 197) rfl)) rfl
theorem wd1384 : Cond.instanceMethod yX12_place ∈ z_tb := z_in (in_t7 (List.mem_of_getElem? (i := 153) rfl)) rfl
theorem wd1385 : Cond.selects RX12 yX12_place yX12_place ∈ z_tb := z_in (in_t7 (List.mem_of_getElem? (i := 154) rfl)) rfl
theorem wd1386 : Cond.methodLink RL 31 yX12_place ∈ z_tb := z_in (in_t7 (List.mem_of_getElem? (i := 152) rfl)) rfl
theorem wd1387 : Cond.instanceMethod yX11_child ∈ z_tb := z_in (in_t3 (List.mem_of_getElem? (i := 202) rfl)) rfl
theorem wd1388 : Cond.selects RX11 yX11_child yX11_child ∈ z_tb := z_in (in_t3 (List.mem_of_getElem? (i := 203) rfl)) rfl
theorem wd1389 : Cond.methodLink RL 32 yX11_child ∈ z_tb := z_in (in_t3 (List.mem_of_getElem? (i := 201) rfl)) rfl
theorem wd1390 : Cond.instanceMethod yX12_child ∈ z_tb := z_in (in_t7 (List.mem_of_getElem? (i := 157) rfl)) rfl
theorem wd1391 : Cond.selects RX12 yX12_child yX12_child ∈ z_tb := z_in (in_t7 (List.mem_of_getElem? (i := 158) rfl)) rfl
theorem wd1392 : Cond.methodLink RL 36 yX12_child ∈ z_tb := z_in (in_t7 (List.mem_of_getElem? (i := 156) rfl)) rfl
theorem wd1393 : Cond.instanceMethod yX11_row ∈ z_tb := z_in (in_t3 (List.mem_of_getElem? (i := 211) rfl)) rfl
theorem wd1394 : Cond.selects RX11 yX11_row yX11_row ∈ z_tb := z_in (in_t3 (List.mem_of_getElem? (i := 212) rfl)) rfl
theorem wd1395 : Cond.methodLink RL 37 yX11_row ∈ z_tb := z_in (in_t3 (List.mem_of_getElem? (i := 210) rfl)) rfl
theorem wd1396 : Cond.instanceMethod yX12_row ∈ z_tb := z_in (in_t7 (List.mem_of_getElem? (i := 176) rfl)) rfl
theorem wd1397 : Cond.selects RX12 yX12_row yX12_row ∈ z_tb := z_in (in_t7 (List.mem_of_getElem? (i := 177) rfl)) rfl
theorem wd1398 : Cond.methodLink RL 40 yX12_row ∈ z_tb := z_in (in_t7 (List.mem_of_getElem? (i := 175) rfl)) rfl
theorem wd1399 : Cond.instanceMethod yX11_at ∈ z_tb := z_in (in_t4 (List.mem_of_getElem? (i := 99) rfl)) rfl
theorem wd1400 : Cond.selects RX11 yX11_at yX11_at ∈ z_tb := z_in (in_t4 (List.mem_of_getElem? (i := 100) rfl)) rfl
theorem wd1401 : Cond.methodLink RL 41 yX11_at ∈ z_tb := z_in (in_t4 (List.mem_of_getElem? (i := 98) rfl)) rfl
theorem wd1402 : Cond.instanceMethod yX12_at ∈ z_tb := z_in (in_t8 (List.mem_of_getElem? (i := 15) rfl)) rfl
theorem wd1403 : Cond.selects RX12 yX12_at yX12_at ∈ z_tb := z_in (in_t8 (List.mem_of_getElem? (i := 16) rfl)) rfl
theorem wd1404 : Cond.methodLink RL 45 yX12_at ∈ z_tb := z_in (in_t8 (List.mem_of_getElem? (i := 14) rfl)) rfl
theorem wd1405 : Cond.instanceMethod yX11_worth ∈ z_tb := z_in (in_t4 (List.mem_of_getElem? (i := 107) rfl)) rfl
theorem wd1406 : Cond.selects RX11 yX11_worth yX11_worth ∈ z_tb := z_in (in_t4 (List.mem_of_getElem? (i := 108) rfl)) rfl
theorem wd1407 : Cond.methodLink RL 46 yX11_worth ∈ z_tb := z_in (in_t4 (List.mem_of_getElem? (i := 106) rfl)) rfl
theorem wd1408 : Cond.instanceMethod yX12_worth ∈ z_tb := z_in (in_t8 (List.mem_of_getElem? (i := 23) rfl)) rfl
theorem wd1409 : Cond.selects RX12 yX12_worth yX12_worth ∈ z_tb := z_in (in_t8 (List.mem_of_getElem? (i := 24) rfl)) rfl
theorem wd1410 : Cond.methodLink RL 49 yX12_worth ∈ z_tb := z_in (in_t8 (List.mem_of_getElem? (i := 22) rfl)) rfl
theorem wd1411 : Cond.instanceMethod yX11_many ∈ z_tb := z_in (in_t4 (List.mem_of_getElem? (i := 111) rfl)) rfl
theorem wd1412 : Cond.selects RX11 yX11_many yX11_many ∈ z_tb := z_in (in_t4 (List.mem_of_getElem? (i := 112) rfl)) rfl
theorem wd1413 : Cond.methodLink RL 50 yX11_many ∈ z_tb := z_in (in_t4 (List.mem_of_getElem? (i := 110) rfl)) rfl
theorem wd1414 : Cond.instanceMethod yX12_many ∈ z_tb := z_in (in_t8 (List.mem_of_getElem? (i := 27) rfl)) rfl
theorem wd1415 : Cond.selects RX12 yX12_many yX12_many ∈ z_tb := z_in (in_t8 (List.mem_of_getElem? (i := 28) rfl)) rfl
theorem wd1416 : Cond.methodLink RL 53 yX12_many ∈ z_tb := z_in (in_t8 (List.mem_of_getElem? (i := 26) rfl)) rfl
theorem wd1417 : Cond.instanceMethod yX11_side ∈ z_tb := z_in (in_t4 (List.mem_of_getElem? (i := 116) rfl)) rfl
theorem wd1418 : Cond.selects RX11 yX11_side yX11_side ∈ z_tb := z_in (in_t4 (List.mem_of_getElem? (i := 117) rfl)) rfl
theorem wd1419 : Cond.methodLink RL 54 yX11_side ∈ z_tb := z_in (in_t4 (List.mem_of_getElem? (i := 115) rfl)) rfl
theorem wd1420 : Cond.instanceMethod yX12_side ∈ z_tb := z_in (in_t8 (List.mem_of_getElem? (i := 31) rfl)) rfl
theorem wd1421 : Cond.selects RX12 yX12_side yX12_side ∈ z_tb := z_in (in_t8 (List.mem_of_getElem? (i := 32) rfl)) rfl
theorem wd1422 : Cond.methodLink RL 57 yX12_side ∈ z_tb := z_in (in_t8 (List.mem_of_getElem? (i := 30) rfl)) rfl
theorem wd1423 : Cond.instanceMethod yX11_costs ∈ z_tb := z_in (in_t4 (List.mem_of_getElem? (i := 125) rfl)) rfl
theorem wd1424 : Cond.selects RX11 yX11_costs yX11_costs ∈ z_tb := z_in (in_t4 (List.mem_of_getElem? (i := 126) rfl)) rfl
theorem wd1425 : Cond.methodLink RL 58 yX11_costs ∈ z_tb := z_in (in_t4 (List.mem_of_getElem? (i := 124) rfl)) rfl
theorem wd1426 : Cond.instanceMethod yX12_costs ∈ z_tb := z_in (in_t8 (List.mem_of_getElem? (i := 39) rfl)) rfl
theorem wd1427 : Cond.selects RX12 yX12_costs yX12_costs ∈ z_tb := z_in (in_t8 (List.mem_of_getElem? (i := 40) rfl)) rfl
theorem wd1428 : Cond.methodLink RL 61 yX12_costs ∈ z_tb := z_in (in_t8 (List.mem_of_getElem? (i := 38) rfl)) rfl
theorem wd1429 : Cond.instanceMethod yX11_paint ∈ z_tb := z_in (in_t4 (List.mem_of_getElem? (i := 137) rfl)) rfl
theorem wd1430 : Cond.selects RX11 yX11_paint yX11_paint ∈ z_tb := z_in (in_t4 (List.mem_of_getElem? (i := 138) rfl)) rfl
theorem wd1431 : Cond.methodLink RL 62 yX11_paint ∈ z_tb := z_in (in_t4 (List.mem_of_getElem? (i := 136) rfl)) rfl
theorem wd1432 : Cond.instanceMethod yX12_paint ∈ z_tb := z_in (in_t8 (List.mem_of_getElem? (i := 51) rfl)) rfl
theorem wd1433 : Cond.selects RX12 yX12_paint yX12_paint ∈ z_tb := z_in (in_t8 (List.mem_of_getElem? (i := 52) rfl)) rfl
theorem wd1434 : Cond.methodLink RL 65 yX12_paint ∈ z_tb := z_in (in_t8 (List.mem_of_getElem? (i := 50) rfl)) rfl
theorem wd1435 : Cond.instanceMethod yX11_come ∈ z_tb := z_in (in_t4 (List.mem_of_getElem? (i := 148) rfl)) rfl
theorem wd1436 : Cond.selects RX11 yX11_come yX11_come ∈ z_tb := z_in (in_t4 (List.mem_of_getElem? (i := 149) rfl)) rfl
theorem wd1437 : Cond.methodLink RL 66 yX11_come ∈ z_tb := z_in (in_t4 (List.mem_of_getElem? (i := 147) rfl)) rfl
theorem wd1438 : Cond.instanceMethod yX12_come ∈ z_tb := z_in (in_t8 (List.mem_of_getElem? (i := 59) rfl)) rfl
theorem wd1439 : Cond.selects RX12 yX12_come yX12_come ∈ z_tb := z_in (in_t8 (List.mem_of_getElem? (i := 60) rfl)) rfl
theorem wd1440 : Cond.methodLink RL 69 yX12_come ∈ z_tb := z_in (in_t8 (List.mem_of_getElem? (i := 58) rfl)) rfl
theorem wd1441 : Cond.instanceMethod yX11_go ∈ z_tb := z_in (in_t4 (List.mem_of_getElem? (i := 153) rfl)) rfl
theorem wd1442 : Cond.selects RX11 yX11_go yX11_go ∈ z_tb := z_in (in_t4 (List.mem_of_getElem? (i := 154) rfl)) rfl
theorem wd1443 : Cond.methodLink RL 70 yX11_go ∈ z_tb := z_in (in_t4 (List.mem_of_getElem? (i := 152) rfl)) rfl
theorem wd1444 : Cond.instanceMethod yX12_go ∈ z_tb := z_in (in_t8 (List.mem_of_getElem? (i := 63) rfl)) rfl
theorem wd1445 : Cond.selects RX12 yX12_go yX12_go ∈ z_tb := z_in (in_t8 (List.mem_of_getElem? (i := 64) rfl)) rfl
theorem wd1446 : Cond.methodLink RL 73 yX12_go ∈ z_tb := z_in (in_t8 (List.mem_of_getElem? (i := 62) rfl)) rfl
theorem wd1447 : Cond.instanceMethod yX11_times ∈ z_tb := z_in (in_t4 (List.mem_of_getElem? (i := 158) rfl)) rfl
theorem wd1448 : Cond.selects RX11 yX11_times yX11_times ∈ z_tb := z_in (in_t4 (List.mem_of_getElem? (i := 159) rfl)) rfl
theorem wd1449 : Cond.methodLink RL 74 yX11_times ∈ z_tb := z_in (in_t4 (List.mem_of_getElem? (i := 157) rfl)) rfl
theorem wd1450 : Cond.instanceMethod yX12_times ∈ z_tb := z_in (in_t8 (List.mem_of_getElem? (i := 67) rfl)) rfl
theorem wd1451 : Cond.selects RX12 yX12_times yX12_times ∈ z_tb := z_in (in_t8 (List.mem_of_getElem? (i := 68) rfl)) rfl
theorem wd1452 : Cond.methodLink RL 77 yX12_times ∈ z_tb := z_in (in_t8 (List.mem_of_getElem? (i := 66) rfl)) rfl
theorem wd1453 : Cond.instanceMethod yX11_undo ∈ z_tb := z_in (in_t4 (List.mem_of_getElem? (i := 184) rfl)) rfl
theorem wd1454 : Cond.selects RX11 yX11_undo yX11_undo ∈ z_tb := z_in (in_t4 (List.mem_of_getElem? (i := 185) rfl)) rfl
theorem wd1455 : Cond.methodLink RL 78 yX11_undo ∈ z_tb := z_in (in_t4 (List.mem_of_getElem? (i := 183) rfl)) rfl
theorem wd1456 : Cond.instanceMethod yX12_undo ∈ z_tb := z_in (in_t8 (List.mem_of_getElem? (i := 102) rfl)) rfl
theorem wd1457 : Cond.selects RX12 yX12_undo yX12_undo ∈ z_tb := z_in (in_t8 (List.mem_of_getElem? (i := 103) rfl)) rfl
theorem wd1458 : Cond.methodLink RL 82 yX12_undo ∈ z_tb := z_in (in_t8 (List.mem_of_getElem? (i := 101) rfl)) rfl
theorem wd1459 : Cond.instanceMethod yX11_makes ∈ z_tb := z_in (in_t4 (List.mem_of_getElem? (i := 192) rfl)) rfl
theorem wd1460 : Cond.selects RX11 yX11_makes yX11_makes ∈ z_tb := z_in (in_t4 (List.mem_of_getElem? (i := 193) rfl)) rfl
theorem wd1461 : Cond.methodLink RL 83 yX11_makes ∈ z_tb := z_in (in_t4 (List.mem_of_getElem? (i := 191) rfl)) rfl
theorem wd1462 : Cond.instanceMethod yX12_makes ∈ z_tb := z_in (in_t8 (List.mem_of_getElem? (i := 106) rfl)) rfl
theorem wd1463 : Cond.selects RX12 yX12_makes yX12_makes ∈ z_tb := z_in (in_t8 (List.mem_of_getElem? (i := 107) rfl)) rfl
theorem wd1464 : Cond.methodLink RL 86 yX12_makes ∈ z_tb := z_in (in_t8 (List.mem_of_getElem? (i := 105) rfl)) rfl
theorem wd1465 : Cond.instanceMethod yX11_repaint ∈ z_tb := z_in (in_t4 (List.mem_of_getElem? (i := 220) rfl)) rfl
theorem wd1466 : Cond.selects RX11 yX11_repaint yX11_repaint ∈ z_tb := z_in (in_t4 (List.mem_of_getElem? (i := 221) rfl)) rfl
theorem wd1467 : Cond.methodLink RL 87 yX11_repaint ∈ z_tb := z_in (in_t4 (List.mem_of_getElem? (i := 219) rfl)) rfl
theorem wd1468 : Cond.instanceMethod yX12_repaint ∈ z_tb := z_in (in_t8 (List.mem_of_getElem? (i := 121) rfl)) rfl
theorem wd1469 : Cond.selects RX12 yX12_repaint yX12_repaint ∈ z_tb := z_in (in_t8 (List.mem_of_getElem? (i := 122) rfl)) rfl
theorem wd1470 : Cond.methodLink RL 90 yX12_repaint ∈ z_tb := z_in (in_t8 (List.mem_of_getElem? (i := 120) rfl)) rfl
theorem wd1471 : Cond.instanceMethod yX11_fairly ∈ z_tb := z_in (in_t5 (List.mem_of_getElem? (i := 22) rfl)) rfl
theorem wd1472 : Cond.selects RX11 yX11_fairly yX11_fairly ∈ z_tb := z_in (in_t5 (List.mem_of_getElem? (i := 23) rfl)) rfl
theorem wd1473 : Cond.methodLink RL 91 yX11_fairly ∈ z_tb := z_in (in_t5 (List.mem_of_getElem? (i := 21) rfl)) rfl
theorem wd1474 : Cond.instanceMethod yX12_fairly ∈ z_tb := z_in (in_t8 (List.mem_of_getElem? (i := 133) rfl)) rfl
theorem wd1475 : Cond.selects RX12 yX12_fairly yX12_fairly ∈ z_tb := z_in (in_t8 (List.mem_of_getElem? (i := 134) rfl)) rfl
theorem wd1476 : Cond.methodLink RL 94 yX12_fairly ∈ z_tb := z_in (in_t8 (List.mem_of_getElem? (i := 132) rfl)) rfl
theorem wd1477 : Cond.instanceMethod yX11_matters ∈ z_tb := z_in (in_t5 (List.mem_of_getElem? (i := 30) rfl)) rfl
theorem wd1478 : Cond.selects RX11 yX11_matters yX11_matters ∈ z_tb := z_in (in_t5 (List.mem_of_getElem? (i := 31) rfl)) rfl
theorem wd1479 : Cond.methodLink RL 95 yX11_matters ∈ z_tb := z_in (in_t5 (List.mem_of_getElem? (i := 29) rfl)) rfl
theorem wd1480 : Cond.instanceMethod yX12_matters ∈ z_tb := z_in (in_t8 (List.mem_of_getElem? (i := 141) rfl)) rfl
theorem wd1481 : Cond.selects RX12 yX12_matters yX12_matters ∈ z_tb := z_in (in_t8 (List.mem_of_getElem? (i := 142) rfl)) rfl
theorem wd1482 : Cond.methodLink RL 98 yX12_matters ∈ z_tb := z_in (in_t8 (List.mem_of_getElem? (i := 140) rfl)) rfl
theorem wd1483 : Cond.instanceMethod yX11_parents ∈ z_tb := z_in (in_t5 (List.mem_of_getElem? (i := 39) rfl)) rfl
theorem wd1484 : Cond.selects RX11 yX11_parents yX11_parents ∈ z_tb := z_in (in_t5 (List.mem_of_getElem? (i := 40) rfl)) rfl
theorem wd1485 : Cond.methodLink RL 99 yX11_parents ∈ z_tb := z_in (in_t5 (List.mem_of_getElem? (i := 38) rfl)) rfl
theorem wd1486 : Cond.instanceMethod yX12_parents ∈ z_tb := z_in (in_t8 (List.mem_of_getElem? (i := 145) rfl)) rfl
theorem wd1487 : Cond.selects RX12 yX12_parents yX12_parents ∈ z_tb := z_in (in_t8 (List.mem_of_getElem? (i := 146) rfl)) rfl
theorem wd1488 : Cond.methodLink RL 102 yX12_parents ∈ z_tb := z_in (in_t8 (List.mem_of_getElem? (i := 144) rfl)) rfl
theorem wd1489 : Cond.instanceMethod yX11_orphans ∈ z_tb := z_in (in_t5 (List.mem_of_getElem? (i := 53) rfl)) rfl
theorem wd1490 : Cond.selects RX11 yX11_orphans yX11_orphans ∈ z_tb := z_in (in_t5 (List.mem_of_getElem? (i := 54) rfl)) rfl
theorem wd1491 : Cond.methodLink RL 103 yX11_orphans ∈ z_tb := z_in (in_t5 (List.mem_of_getElem? (i := 52) rfl)) rfl
theorem wd1492 : Cond.instanceMethod yX12_orphans ∈ z_tb := z_in (in_t8 (List.mem_of_getElem? (i := 160) rfl)) rfl
theorem wd1493 : Cond.selects RX12 yX12_orphans yX12_orphans ∈ z_tb := z_in (in_t8 (List.mem_of_getElem? (i := 161) rfl)) rfl
theorem wd1494 : Cond.methodLink RL 106 yX12_orphans ∈ z_tb := z_in (in_t8 (List.mem_of_getElem? (i := 159) rfl)) rfl
theorem wd1495 : Cond.instanceMethod yX11_ring ∈ z_tb := z_in (in_t5 (List.mem_of_getElem? (i := 68) rfl)) rfl
theorem wd1496 : Cond.selects RX11 yX11_ring yX11_ring ∈ z_tb := z_in (in_t5 (List.mem_of_getElem? (i := 69) rfl)) rfl
theorem wd1497 : Cond.methodLink RL 107 yX11_ring ∈ z_tb := z_in (in_t5 (List.mem_of_getElem? (i := 67) rfl)) rfl
theorem wd1498 : Cond.instanceMethod yX12_ring ∈ z_tb := z_in (in_t8 (List.mem_of_getElem? (i := 168) rfl)) rfl
theorem wd1499 : Cond.selects RX12 yX12_ring yX12_ring ∈ z_tb := z_in (in_t8 (List.mem_of_getElem? (i := 169) rfl)) rfl
theorem wd1500 : Cond.methodLink RL 110 yX12_ring ∈ z_tb := z_in (in_t8 (List.mem_of_getElem? (i := 167) rfl)) rfl
theorem wd1501 : Cond.instanceMethod yX11_after ∈ z_tb := z_in (in_t5 (List.mem_of_getElem? (i := 93) rfl)) rfl
theorem wd1502 : Cond.selects RX11 yX11_after yX11_after ∈ z_tb := z_in (in_t5 (List.mem_of_getElem? (i := 94) rfl)) rfl
theorem wd1503 : Cond.methodLink RL 111 yX11_after ∈ z_tb := z_in (in_t5 (List.mem_of_getElem? (i := 92) rfl)) rfl
theorem wd1504 : Cond.instanceMethod yX12_after ∈ z_tb := z_in (in_t8 (List.mem_of_getElem? (i := 188) rfl)) rfl
theorem wd1505 : Cond.selects RX12 yX12_after yX12_after ∈ z_tb := z_in (in_t8 (List.mem_of_getElem? (i := 189) rfl)) rfl
theorem wd1506 : Cond.methodLink RL 114 yX12_after ∈ z_tb := z_in (in_t8 (List.mem_of_getElem? (i := 187) rfl)) rfl
theorem wd1507 : Cond.instanceMethod yX11_ways ∈ z_tb := z_in (in_t5 (List.mem_of_getElem? (i := 107) rfl)) rfl
theorem wd1508 : Cond.selects RX11 yX11_ways yX11_ways ∈ z_tb := z_in (in_t5 (List.mem_of_getElem? (i := 108) rfl)) rfl
theorem wd1509 : Cond.methodLink RL 115 yX11_ways ∈ z_tb := z_in (in_t5 (List.mem_of_getElem? (i := 106) rfl)) rfl
theorem wd1510 : Cond.instanceMethod yX12_ways ∈ z_tb := z_in (in_t8 (List.mem_of_getElem? (i := 193) rfl)) rfl
theorem wd1511 : Cond.selects RX12 yX12_ways yX12_ways ∈ z_tb := z_in (in_t8 (List.mem_of_getElem? (i := 194) rfl)) rfl
theorem wd1512 : Cond.methodLink RL 118 yX12_ways ∈ z_tb := z_in (in_t8 (List.mem_of_getElem? (i := 192) rfl)) rfl
theorem wd1513 : Cond.instanceMethod yX11_shut ∈ z_tb := z_in (in_t5 (List.mem_of_getElem? (i := 137) rfl)) rfl
theorem wd1514 : Cond.selects RX11 yX11_shut yX11_shut ∈ z_tb := z_in (in_t5 (List.mem_of_getElem? (i := 138) rfl)) rfl
theorem wd1515 : Cond.methodLink RL 119 yX11_shut ∈ z_tb := z_in (in_t5 (List.mem_of_getElem? (i := 136) rfl)) rfl
theorem wd1516 : Cond.instanceMethod yX12_shut ∈ z_tb := z_in (in_t8 (List.mem_of_getElem? (i := 225) rfl)) rfl
theorem wd1517 : Cond.selects RX12 yX12_shut yX12_shut ∈ z_tb := z_in (in_t8 (List.mem_of_getElem? (i := 226) rfl)) rfl
theorem wd1518 : Cond.methodLink RL 122 yX12_shut ∈ z_tb := z_in (in_t8 (List.mem_of_getElem? (i := 224) rfl)) rfl
theorem wd1519 : Cond.instanceMethod yX11_deep ∈ z_tb := z_in (in_t5 (List.mem_of_getElem? (i := 145) rfl)) rfl
theorem wd1520 : Cond.selects RX11 yX11_deep yX11_deep ∈ z_tb := z_in (in_t5 (List.mem_of_getElem? (i := 146) rfl)) rfl
theorem wd1521 : Cond.methodLink RL 123 yX11_deep ∈ z_tb := z_in (in_t5 (List.mem_of_getElem? (i := 144) rfl)) rfl
theorem wd1522 : Cond.instanceMethod yX12_deep ∈ z_tb := z_in (in_t8 (List.mem_of_getElem? (i := 229) rfl)) rfl
theorem wd1523 : Cond.selects RX12 yX12_deep yX12_deep ∈ z_tb := z_in (in_t8 (List.mem_of_getElem? (i := 230) rfl)) rfl
theorem wd1524 : Cond.methodLink RL 126 yX12_deep ∈ z_tb := z_in (in_t8 (List.mem_of_getElem? (i := 228) rfl)) rfl
theorem wd1525 : Cond.instanceMethod yX11_game ∈ z_tb := z_in (in_t5 (List.mem_of_getElem? (i := 152) rfl)) rfl
theorem wd1526 : Cond.selects RX11 yX11_game yX11_game ∈ z_tb := z_in (in_t5 (List.mem_of_getElem? (i := 153) rfl)) rfl
theorem wd1527 : Cond.methodLink RL 127 yX11_game ∈ z_tb := z_in (in_t5 (List.mem_of_getElem? (i := 151) rfl)) rfl
theorem wd1528 : Cond.instanceMethod yX12_game ∈ z_tb := z_in (in_t8 (List.mem_of_getElem? (i := 236) rfl)) rfl
theorem wd1529 : Cond.selects RX12 yX12_game yX12_game ∈ z_tb := z_in (in_t8 (List.mem_of_getElem? (i := 237) rfl)) rfl
theorem wd1530 : Cond.methodLink RL 130 yX12_game ∈ z_tb := z_in (in_t8 (List.mem_of_getElem? (i := 235) rfl)) rfl
theorem wd1531 : Cond.instanceMethod yX11_then ∈ z_tb := z_in (in_t5 (List.mem_of_getElem? (i := 160) rfl)) rfl
theorem wd1532 : Cond.selects RX11 yX11_then yX11_then ∈ z_tb := z_in (in_t5 (List.mem_of_getElem? (i := 161) rfl)) rfl
theorem wd1533 : Cond.methodLink RL 131 yX11_then ∈ z_tb := z_in (in_t5 (List.mem_of_getElem? (i := 159) rfl)) rfl
theorem wd1534 : Cond.instanceMethod yX12_then ∈ z_tb := z_in (in_t9 (List.mem_of_getElem? (i := 4) rfl)) rfl
theorem wd1535 : Cond.selects RX12 yX12_then yX12_then ∈ z_tb := z_in (in_t9 (List.mem_of_getElem? (i := 5) rfl)) rfl
theorem wd1536 : Cond.methodLink RL 134 yX12_then ∈ z_tb := z_in (in_t9 (List.mem_of_getElem? (i := 3) rfl)) rfl
theorem wd1537 : Cond.instanceMethod yX11_paidIn ∈ z_tb := z_in (in_t5 (List.mem_of_getElem? (i := 164) rfl)) rfl
theorem wd1538 : Cond.selects RX11 yX11_paidIn yX11_paidIn ∈ z_tb := z_in (in_t5 (List.mem_of_getElem? (i := 165) rfl)) rfl
theorem wd1539 : Cond.methodLink RL 135 yX11_paidIn ∈ z_tb := z_in (in_t5 (List.mem_of_getElem? (i := 163) rfl)) rfl
theorem wd1540 : Cond.instanceMethod yX12_paidIn ∈ z_tb := z_in (in_t9 (List.mem_of_getElem? (i := 8) rfl)) rfl
theorem wd1541 : Cond.selects RX12 yX12_paidIn yX12_paidIn ∈ z_tb := z_in (in_t9 (List.mem_of_getElem? (i := 9) rfl)) rfl
theorem wd1542 : Cond.methodLink RL 138 yX12_paidIn ∈ z_tb := z_in (in_t9 (List.mem_of_getElem? (i := 7) rfl)) rfl
theorem wd1543 : Cond.instanceMethod yX11_year ∈ z_tb := z_in (in_t5 (List.mem_of_getElem? (i := 168) rfl)) rfl
theorem wd1544 : Cond.selects RX11 yX11_year yX11_year ∈ z_tb := z_in (in_t5 (List.mem_of_getElem? (i := 169) rfl)) rfl
theorem wd1545 : Cond.methodLink RL 139 yX11_year ∈ z_tb := z_in (in_t5 (List.mem_of_getElem? (i := 167) rfl)) rfl
theorem wd1546 : Cond.instanceMethod yX12_year ∈ z_tb := z_in (in_t9 (List.mem_of_getElem? (i := 12) rfl)) rfl
theorem wd1547 : Cond.selects RX12 yX12_year yX12_year ∈ z_tb := z_in (in_t9 (List.mem_of_getElem? (i := 13) rfl)) rfl
theorem wd1548 : Cond.methodLink RL 143 yX12_year ∈ z_tb := z_in (in_t9 (List.mem_of_getElem? (i := 11) rfl)) rfl
theorem wd1549 : Cond.instanceMethod yX11_tell ∈ z_tb := z_in (in_t5 (List.mem_of_getElem? (i := 172) rfl)) rfl
theorem wd1550 : Cond.selects RX11 yX11_tell yX11_tell ∈ z_tb := z_in (in_t5 (List.mem_of_getElem? (i := 173) rfl)) rfl
theorem wd1551 : Cond.methodLink RL 144 yX11_tell ∈ z_tb := z_in (in_t5 (List.mem_of_getElem? (i := 171) rfl)) rfl
theorem wd1552 : Cond.instanceMethod yX12_tell ∈ z_tb := z_in (in_t9 (List.mem_of_getElem? (i := 16) rfl)) rfl
theorem wd1553 : Cond.selects RX12 yX12_tell yX12_tell ∈ z_tb := z_in (in_t9 (List.mem_of_getElem? (i := 17) rfl)) rfl
theorem wd1554 : Cond.methodLink RL 148 yX12_tell ∈ z_tb := z_in (in_t9 (List.mem_of_getElem? (i := 15) rfl)) rfl
theorem wd1555 : Cond.instanceMethod yX11_forget ∈ z_tb := z_in (in_t5 (List.mem_of_getElem? (i := 180) rfl)) rfl
theorem wd1556 : Cond.selects RX11 yX11_forget yX11_forget ∈ z_tb := z_in (in_t5 (List.mem_of_getElem? (i := 181) rfl)) rfl
theorem wd1557 : Cond.methodLink RL 149 yX11_forget ∈ z_tb := z_in (in_t5 (List.mem_of_getElem? (i := 179) rfl)) rfl
theorem wd1558 : Cond.instanceMethod yX12_forget ∈ z_tb := z_in (in_t9 (List.mem_of_getElem? (i := 20) rfl)) rfl
theorem wd1559 : Cond.selects RX12 yX12_forget yX12_forget ∈ z_tb := z_in (in_t9 (List.mem_of_getElem? (i := 21) rfl)) rfl
theorem wd1560 : Cond.methodLink RL 152 yX12_forget ∈ z_tb := z_in (in_t9 (List.mem_of_getElem? (i := 19) rfl)) rfl
theorem wd1561 : Cond.instanceMethod yX11_rows ∈ z_tb := z_in (in_t5 (List.mem_of_getElem? (i := 184) rfl)) rfl
theorem wd1562 : Cond.selects RX11 yX11_rows yX11_rows ∈ z_tb := z_in (in_t5 (List.mem_of_getElem? (i := 185) rfl)) rfl
theorem wd1563 : Cond.methodLink RL 153 yX11_rows ∈ z_tb := z_in (in_t5 (List.mem_of_getElem? (i := 183) rfl)) rfl
theorem wd1564 : Cond.instanceMethod yX12_rows ∈ z_tb := z_in (in_t9 (List.mem_of_getElem? (i := 24) rfl)) rfl
theorem wd1565 : Cond.selects RX12 yX12_rows yX12_rows ∈ z_tb := z_in (in_t9 (List.mem_of_getElem? (i := 25) rfl)) rfl
theorem wd1566 : Cond.methodLink RL 156 yX12_rows ∈ z_tb := z_in (in_t9 (List.mem_of_getElem? (i := 23) rfl)) rfl
theorem wd1567 : Cond.instanceMethod yX11_look ∈ z_tb := z_in (in_t5 (List.mem_of_getElem? (i := 217) rfl)) rfl
theorem wd1568 : Cond.selects RX11 yX11_look yX11_look ∈ z_tb := z_in (in_t5 (List.mem_of_getElem? (i := 218) rfl)) rfl
theorem wd1569 : Cond.methodLink RL 157 yX11_look ∈ z_tb := z_in (in_t5 (List.mem_of_getElem? (i := 216) rfl)) rfl
theorem wd1570 : Cond.instanceMethod yX12_look ∈ z_tb := z_in (in_t9 (List.mem_of_getElem? (i := 36) rfl)) rfl
theorem wd1571 : Cond.selects RX12 yX12_look yX12_look ∈ z_tb := z_in (in_t9 (List.mem_of_getElem? (i := 37) rfl)) rfl
theorem wd1572 : Cond.methodLink RL 160 yX12_look ∈ z_tb := z_in (in_t9 (List.mem_of_getElem? (i := 35) rfl)) rfl
theorem wd1573 : Cond.instanceMethod yX11_hold ∈ z_tb := z_in (in_t5 (List.mem_of_getElem? (i := 231) rfl)) rfl
theorem wd1574 : Cond.selects RX11 yX11_hold yX11_hold ∈ z_tb := z_in (in_t5 (List.mem_of_getElem? (i := 232) rfl)) rfl
theorem wd1575 : Cond.methodLink RL 161 yX11_hold ∈ z_tb := z_in (in_t5 (List.mem_of_getElem? (i := 230) rfl)) rfl
theorem wd1576 : Cond.instanceMethod yX12_hold ∈ z_tb := z_in (in_t9 (List.mem_of_getElem? (i := 44) rfl)) rfl
theorem wd1577 : Cond.selects RX12 yX12_hold yX12_hold ∈ z_tb := z_in (in_t9 (List.mem_of_getElem? (i := 45) rfl)) rfl
theorem wd1578 : Cond.methodLink RL 165 yX12_hold ∈ z_tb := z_in (in_t9 (List.mem_of_getElem? (i := 43) rfl)) rfl
theorem wd1579 : Cond.instanceMethod yX11_restore ∈ z_tb := z_in (in_t5 (List.mem_of_getElem? (i := 239) rfl)) rfl
theorem wd1580 : Cond.selects RX11 yX11_restore yX11_restore ∈ z_tb := z_in (in_t6 (List.mem_of_getElem? (i := 0) rfl)) rfl
theorem wd1581 : Cond.methodLink RL 166 yX11_restore ∈ z_tb := z_in (in_t5 (List.mem_of_getElem? (i := 238) rfl)) rfl
theorem wd1582 : Cond.instanceMethod yX12_restore ∈ z_tb := z_in (in_t9 (List.mem_of_getElem? (i := 48) rfl)) rfl
theorem wd1583 : Cond.selects RX12 yX12_restore yX12_restore ∈ z_tb := z_in (in_t9 (List.mem_of_getElem? (i := 49) rfl)) rfl
theorem wd1584 : Cond.methodLink RL 169 yX12_restore ∈ z_tb := z_in (in_t9 (List.mem_of_getElem? (i := 47) rfl)) rfl
theorem wd1585 : Cond.instanceMethod yX11_count ∈ z_tb := z_in (in_t6 (List.mem_of_getElem? (i := 7) rfl)) rfl
theorem wd1586 : Cond.selects RX11 yX11_count yX11_count ∈ z_tb := z_in (in_t6 (List.mem_of_getElem? (i := 8) rfl)) rfl
theorem wd1587 : Cond.methodLink RL 170 yX11_count ∈ z_tb := z_in (in_t6 (List.mem_of_getElem? (i := 6) rfl)) rfl
theorem wd1588 : Cond.instanceMethod yX12_count ∈ z_tb := z_in (in_t9 (List.mem_of_getElem? (i := 52) rfl)) rfl
theorem wd1589 : Cond.selects RX12 yX12_count yX12_count ∈ z_tb := z_in (in_t9 (List.mem_of_getElem? (i := 53) rfl)) rfl
theorem wd1590 : Cond.methodLink RL 173 yX12_count ∈ z_tb := z_in (in_t9 (List.mem_of_getElem? (i := 51) rfl)) rfl
/-! nest mates -/
theorem neX11_9 : (RX11, 9, yX6_init, RX11) ∈ z_nest := List.mem_of_getElem? (i := 0) rfl
theorem neX7_11 : (RX7, 11, yX8_init, RX11) ∈ z_nest := List.mem_of_getElem? (i := 1) rfl
theorem neX7_20 : (RX7, 20, yX5_init, RX11) ∈ z_nest := List.mem_of_getElem? (i := 2) rfl
theorem neX7_27 : (RX7, 27, yX1_init, RX11) ∈ z_nest := List.mem_of_getElem? (i := 3) rfl
theorem neX11_32 : (RX11, 32, yX1_init, RX11) ∈ z_nest := List.mem_of_getElem? (i := 4) rfl
theorem neX11_46 : (RX11, 46, yX2_init, RX11) ∈ z_nest := List.mem_of_getElem? (i := 5) rfl
theorem neX11_53 : (RX11, 53, yX10_init, RX11) ∈ z_nest := List.mem_of_getElem? (i := 6) rfl
theorem neX3_24 : (RX3, 24, yX1_init, RX11) ∈ z_nest := List.mem_of_getElem? (i := 7) rfl
theorem neX11_67 : (RX11, 67, yX0_init, RX11) ∈ z_nest := List.mem_of_getElem? (i := 8) rfl
theorem neX0_11 : (RX0, 11, yX10_init, RX11) ∈ z_nest := List.mem_of_getElem? (i := 9) rfl
theorem neX11_74 : (RX11, 74, yX4_init, RX11) ∈ z_nest := List.mem_of_getElem? (i := 10) rfl
theorem neX4_11 : (RX4, 11, yX10_init, RX11) ∈ z_nest := List.mem_of_getElem? (i := 11) rfl
theorem neX11_81 : (RX11, 81, yX9_init, RX11) ∈ z_nest := List.mem_of_getElem? (i := 12) rfl
theorem neX9_27 : (RX9, 27, yX10_init, RX11) ∈ z_nest := List.mem_of_getElem? (i := 13) rfl
theorem neX2_93 : (RX2, 93, yX7_isVariable, RX11) ∈ z_nest := List.mem_of_getElem? (i := 14) rfl
theorem neX2_82 : (RX2, 82, yX7_isOperator, RX11) ∈ z_nest := List.mem_of_getElem? (i := 15) rfl
theorem neX5_57 : (RX5, 57, yX11_unpacked, RX11) ∈ z_nest := List.mem_of_getElem? (i := 16) rfl
