/-! ===== WORDS OF THE TABLES, by their places ===== -/
theorem ck_0 {w : Cond} (h : w ∈ tables_1_1) : w ∈ lw_tbl := List.mem_append_right _ (List.mem_append_left _ h)
theorem ck_1 {w : Cond} (h : w ∈ tables_1_2) : w ∈ lw_tbl := List.mem_append_right _ (List.mem_append_right _ (List.mem_append_left _ h))
theorem ck_2 {w : Cond} (h : w ∈ tables_1_3) : w ∈ lw_tbl := List.mem_append_right _ (List.mem_append_right _ (List.mem_append_right _ (List.mem_append_left _ h)))
theorem ck_3 {w : Cond} (h : w ∈ tables_1_4) : w ∈ lw_tbl := List.mem_append_right _ (List.mem_append_right _ (List.mem_append_right _ (List.mem_append_right _ (List.mem_append_left _ h))))
theorem ck_4 {w : Cond} (h : w ∈ tables_1_5) : w ∈ lw_tbl := List.mem_append_right _ (List.mem_append_right _ (List.mem_append_right _ (List.mem_append_right _ (List.mem_append_right _ (List.mem_append_left _ h)))))
theorem ck_5 {w : Cond} (h : w ∈ tables_1_6) : w ∈ lw_tbl := List.mem_append_right _ (List.mem_append_right _ (List.mem_append_right _ (List.mem_append_right _ (List.mem_append_right _ (List.mem_append_right _ (List.mem_append_left _ h))))))
theorem ck_6 {w : Cond} (h : w ∈ tables_1_7) : w ∈ lw_tbl := List.mem_append_right _ (List.mem_append_right _ (List.mem_append_right _ (List.mem_append_right _ (List.mem_append_right _ (List.mem_append_right _ (List.mem_append_right _ (List.mem_append_left _ h)))))))
theorem ck_7 {w : Cond} (h : w ∈ tables_1_8) : w ∈ lw_tbl := List.mem_append_right _ (List.mem_append_right _ (List.mem_append_right _ (List.mem_append_right _ (List.mem_append_right _ (List.mem_append_right _ (List.mem_append_right _ (List.mem_append_right _ (h))))))))
theorem mw_0 : Cond.fieldLink "LifeList$Committee" 9 "LifeList$Committee" "kinOf" "[I" ∈ m_tb := m_tb_mem.mpr ⟨ck_0 (List.mem_of_getElem? (i := 166) rfl), rfl⟩
theorem mw_1 : Cond.fieldLink "LifeList$Committee" 15 "LifeList$Committee" "works" "[I" ∈ m_tb := m_tb_mem.mpr ⟨ck_0 (List.mem_of_getElem? (i := 168) rfl), rfl⟩
theorem mw_2 : Cond.fieldLink "LifeList$Committee" 18 "LifeList$Committee" "days" "[I" ∈ m_tb := m_tb_mem.mpr ⟨ck_0 (List.mem_of_getElem? (i := 170) rfl), rfl⟩
theorem mw_3 : Cond.fieldLink "LifeList$Committee" 21 "LifeList$Committee" "isPassed" "[Z" ∈ m_tb := m_tb_mem.mpr ⟨ck_0 (List.mem_of_getElem? (i := 172) rfl), rfl⟩
theorem mw_4 : Cond.fieldLink "LifeList$Committee" 25 "LifeList$Committee" "isStrike" "[Z" ∈ m_tb := m_tb_mem.mpr ⟨ck_0 (List.mem_of_getElem? (i := 174) rfl), rfl⟩
theorem mw_5 : Cond.fieldLink "LifeList$Committee" 28 "LifeList$Committee" "voted" "[I" ∈ m_tb := m_tb_mem.mpr ⟨ck_0 (List.mem_of_getElem? (i := 176) rfl), rfl⟩
theorem mw_6 : Cond.fieldLink "LifeList$Committee" 31 "LifeList$Committee" "leftOut" "[I" ∈ m_tb := m_tb_mem.mpr ⟨ck_0 (List.mem_of_getElem? (i := 178) rfl), rfl⟩
theorem mw_7 : Cond.fieldLink "LifeList$Committee" 36 "LifeList$Committee" "states" "[I" ∈ m_tb := m_tb_mem.mpr ⟨ck_0 (List.mem_of_getElem? (i := 182) rfl), rfl⟩
theorem mw_8 : Cond.fieldLink "LifeList$Committee" 39 "LifeList$Committee" "decidedOn" "[I" ∈ m_tb := m_tb_mem.mpr ⟨ck_0 (List.mem_of_getElem? (i := 187) rfl), rfl⟩
theorem mw_9 : Cond.fieldLink "LifeList$Committee" 42 "LifeList$Committee" "count" "I" ∈ m_tb := m_tb_mem.mpr ⟨ck_0 (List.mem_of_getElem? (i := 180) rfl), rfl⟩
theorem mw_10 : Cond.fieldLink "LifeList$Editions" 11 "LifeList$Editions" "numbers" "[I" ∈ m_tb := m_tb_mem.mpr ⟨ck_1 (List.mem_of_getElem? (i := 158) rfl), rfl⟩
theorem mw_11 : Cond.fieldLink "LifeList$Editions" 17 "LifeList$Editions" "letters" "[I" ∈ m_tb := m_tb_mem.mpr ⟨ck_1 (List.mem_of_getElem? (i := 159) rfl), rfl⟩
theorem mw_12 : Cond.fieldLink "LifeList$Editions" 20 "LifeList$Editions" "given" "[I" ∈ m_tb := m_tb_mem.mpr ⟨ck_1 (List.mem_of_getElem? (i := 160) rfl), rfl⟩
theorem mw_13 : Cond.fieldLink "LifeList$Editions" 23 "LifeList$Editions" "order" "[I" ∈ m_tb := m_tb_mem.mpr ⟨ck_1 (List.mem_of_getElem? (i := 161) rfl), rfl⟩
theorem mw_14 : Cond.fieldLink "LifeList$Editions" 26 "LifeList$Editions" "works" "LLifeList$Works;" ∈ m_tb := m_tb_mem.mpr ⟨ck_1 (List.mem_of_getElem? (i := 155) rfl), rfl⟩
theorem mw_15 : Cond.fieldLink "LifeList$Editions" 30 "LifeList$Editions" "years" "LLifeList$Years;" ∈ m_tb := m_tb_mem.mpr ⟨ck_1 (List.mem_of_getElem? (i := 156) rfl), rfl⟩
theorem mw_16 : Cond.fieldLink "LifeList$Editions" 34 "LifeList$Editions" "committee" "LLifeList$Committee;" ∈ m_tb := m_tb_mem.mpr ⟨ck_1 (List.mem_of_getElem? (i := 157) rfl), rfl⟩
theorem mw_17 : Cond.fieldLink "LifeList$Editions" 52 "LifeList$Editions" "count" "I" ∈ m_tb := m_tb_mem.mpr ⟨ck_1 (List.mem_of_getElem? (i := 162) rfl), rfl⟩
theorem mw_18 : Cond.fieldLink "LifeList$Editions" 56 "LifeList$Works" "count" "I" ∈ m_tb := m_tb_mem.mpr ⟨ck_0 (List.mem_of_getElem? (i := 64) rfl), rfl⟩
theorem mw_19 : Cond.fieldLink "LifeList$Editions" 57 "LifeList$Committee" "states" "[I" ∈ m_tb := m_tb_mem.mpr ⟨ck_0 (List.mem_of_getElem? (i := 184) rfl), rfl⟩
theorem mw_20 : Cond.fieldLink "LifeList$Editions" 66 "LifeList$Years" "lows" "[I" ∈ m_tb := m_tb_mem.mpr ⟨ck_0 (List.mem_of_getElem? (i := 226) rfl), rfl⟩
theorem mw_21 : Cond.fieldLink "LifeList$Editions" 71 "LifeList$Years" "highs" "[I" ∈ m_tb := m_tb_mem.mpr ⟨ck_0 (List.mem_of_getElem? (i := 229) rfl), rfl⟩
theorem mw_22 : Cond.fieldLink "LifeList$Joins" 14 "LifeList$Joins" "matching" "LLifeList$Matching;" ∈ m_tb := m_tb_mem.mpr ⟨ck_1 (List.mem_of_getElem? (i := 128) rfl), rfl⟩
theorem mw_23 : Cond.fieldLink "LifeList$Joins" 20 "LifeList$Joins" "seated" "[I" ∈ m_tb := m_tb_mem.mpr ⟨ck_1 (List.mem_of_getElem? (i := 129) rfl), rfl⟩
theorem mw_24 : Cond.fieldLink "LifeList$Joins" 24 "LifeList$Joins" "workOf" "[I" ∈ m_tb := m_tb_mem.mpr ⟨ck_1 (List.mem_of_getElem? (i := 130) rfl), rfl⟩
theorem mw_25 : Cond.fieldLink "LifeList$Joins" 27 "LifeList$Joins" "works" "LLifeList$Works;" ∈ m_tb := m_tb_mem.mpr ⟨ck_1 (List.mem_of_getElem? (i := 126) rfl), rfl⟩
theorem mw_26 : Cond.fieldLink "LifeList$Joins" 31 "LifeList$Joins" "sources" "LLifeList$Mentions;" ∈ m_tb := m_tb_mem.mpr ⟨ck_1 (List.mem_of_getElem? (i := 127) rfl), rfl⟩
theorem mw_27 : Cond.fieldLink "LifeList$Joins" 39 "LifeList$Works" "count" "I" ∈ m_tb := m_tb_mem.mpr ⟨ck_0 (List.mem_of_getElem? (i := 62) rfl), rfl⟩
theorem mw_28 : Cond.fieldLink "LifeList$Joins" 43 "LifeList$Matching" "rows" "I" ∈ m_tb := m_tb_mem.mpr ⟨ck_1 (List.mem_of_getElem? (i := 102) rfl), rfl⟩
theorem mw_29 : Cond.fieldLink "LifeList$Joins" 46 "LifeList$Matching" "columns" "I" ∈ m_tb := m_tb_mem.mpr ⟨ck_1 (List.mem_of_getElem? (i := 104) rfl), rfl⟩
theorem mw_30 : Cond.fieldLink "LifeList$Joins" 61 "LifeList$Joins" "total" "I" ∈ m_tb := m_tb_mem.mpr ⟨ck_1 (List.mem_of_getElem? (i := 131) rfl), rfl⟩
theorem mw_31 : Cond.fieldLink "LifeList$Joins" 68 "LifeList$Matching" "worths" "[[J" ∈ m_tb := m_tb_mem.mpr ⟨ck_1 (List.mem_of_getElem? (i := 95) rfl), rfl⟩
theorem mw_32 : Cond.fieldLink "LifeList$Joins" 72 "LifeList$Mentions" "count" "I" ∈ m_tb := m_tb_mem.mpr ⟨ck_1 (List.mem_of_getElem? (i := 49) rfl), rfl⟩
theorem mw_33 : Cond.fieldLink "LifeList$Joins" 75 "LifeList$Mentions" "events" "[I" ∈ m_tb := m_tb_mem.mpr ⟨ck_1 (List.mem_of_getElem? (i := 39) rfl), rfl⟩
theorem mw_34 : Cond.fieldLink "LifeList$Joins" 96 "LifeList$Mentions" "kinds" "[I" ∈ m_tb := m_tb_mem.mpr ⟨ck_1 (List.mem_of_getElem? (i := 37) rfl), rfl⟩
theorem mw_35 : Cond.fieldLink "LifeList$Matching" 15 "LifeList$Matching" "worths" "[[J" ∈ m_tb := m_tb_mem.mpr ⟨ck_1 (List.mem_of_getElem? (i := 94) rfl), rfl⟩
theorem mw_36 : Cond.fieldLink "LifeList$Matching" 18 "LifeList$Matching" "rowPrices" "[J" ∈ m_tb := m_tb_mem.mpr ⟨ck_1 (List.mem_of_getElem? (i := 96) rfl), rfl⟩
theorem mw_37 : Cond.fieldLink "LifeList$Matching" 22 "LifeList$Matching" "columnPrices" "[J" ∈ m_tb := m_tb_mem.mpr ⟨ck_1 (List.mem_of_getElem? (i := 97) rfl), rfl⟩
theorem mw_38 : Cond.fieldLink "LifeList$Matching" 25 "LifeList$Matching" "slacks" "[J" ∈ m_tb := m_tb_mem.mpr ⟨ck_1 (List.mem_of_getElem? (i := 98) rfl), rfl⟩
theorem mw_39 : Cond.fieldLink "LifeList$Matching" 28 "LifeList$Matching" "rowIn" "[I" ∈ m_tb := m_tb_mem.mpr ⟨ck_1 (List.mem_of_getElem? (i := 99) rfl), rfl⟩
theorem mw_40 : Cond.fieldLink "LifeList$Matching" 32 "LifeList$Matching" "cameFrom" "[I" ∈ m_tb := m_tb_mem.mpr ⟨ck_1 (List.mem_of_getElem? (i := 100) rfl), rfl⟩
theorem mw_41 : Cond.fieldLink "LifeList$Matching" 35 "LifeList$Matching" "isReached" "[Z" ∈ m_tb := m_tb_mem.mpr ⟨ck_1 (List.mem_of_getElem? (i := 101) rfl), rfl⟩
theorem mw_42 : Cond.fieldLink "LifeList$Matching" 48 "LifeList$Matching" "rows" "I" ∈ m_tb := m_tb_mem.mpr ⟨ck_1 (List.mem_of_getElem? (i := 103) rfl), rfl⟩
theorem mw_43 : Cond.fieldLink "LifeList$Matching" 60 "LifeList$Matching" "columns" "I" ∈ m_tb := m_tb_mem.mpr ⟨ck_1 (List.mem_of_getElem? (i := 105) rfl), rfl⟩
theorem mw_44 : Cond.fieldLink "LifeList$Mentions" 11 "LifeList$Mentions" "kinds" "[I" ∈ m_tb := m_tb_mem.mpr ⟨ck_1 (List.mem_of_getElem? (i := 36) rfl), rfl⟩
theorem mw_45 : Cond.fieldLink "LifeList$Mentions" 15 "LifeList$Mentions" "events" "[I" ∈ m_tb := m_tb_mem.mpr ⟨ck_1 (List.mem_of_getElem? (i := 38) rfl), rfl⟩
theorem mw_46 : Cond.fieldLink "LifeList$Mentions" 18 "LifeList$Mentions" "years" "[I" ∈ m_tb := m_tb_mem.mpr ⟨ck_1 (List.mem_of_getElem? (i := 41) rfl), rfl⟩
theorem mw_47 : Cond.fieldLink "LifeList$Mentions" 21 "LifeList$Mentions" "heights" "[I" ∈ m_tb := m_tb_mem.mpr ⟨ck_1 (List.mem_of_getElem? (i := 42) rfl), rfl⟩
theorem mw_48 : Cond.fieldLink "LifeList$Mentions" 24 "LifeList$Mentions" "widths" "[I" ∈ m_tb := m_tb_mem.mpr ⟨ck_1 (List.mem_of_getElem? (i := 43) rfl), rfl⟩
theorem mw_49 : Cond.fieldLink "LifeList$Mentions" 27 "LifeList$Mentions" "units" "[I" ∈ m_tb := m_tb_mem.mpr ⟨ck_1 (List.mem_of_getElem? (i := 44) rfl), rfl⟩
theorem mw_50 : Cond.fieldLink "LifeList$Mentions" 30 "LifeList$Mentions" "isFramed" "[Z" ∈ m_tb := m_tb_mem.mpr ⟨ck_1 (List.mem_of_getElem? (i := 45) rfl), rfl⟩
theorem mw_51 : Cond.fieldLink "LifeList$Mentions" 34 "LifeList$Mentions" "words" "[I" ∈ m_tb := m_tb_mem.mpr ⟨ck_1 (List.mem_of_getElem? (i := 46) rfl), rfl⟩
theorem mw_52 : Cond.fieldLink "LifeList$Mentions" 37 "LifeList$Mentions" "holders" "[I" ∈ m_tb := m_tb_mem.mpr ⟨ck_1 (List.mem_of_getElem? (i := 47) rfl), rfl⟩
theorem mw_53 : Cond.fieldLink "LifeList$Mentions" 40 "LifeList$Mentions" "works" "LLifeList$Works;" ∈ m_tb := m_tb_mem.mpr ⟨ck_1 (List.mem_of_getElem? (i := 32) rfl), rfl⟩
theorem mw_54 : Cond.fieldLink "LifeList$Mentions" 44 "LifeList$Mentions" "owners" "LLifeList$Owners;" ∈ m_tb := m_tb_mem.mpr ⟨ck_1 (List.mem_of_getElem? (i := 33) rfl), rfl⟩
theorem mw_55 : Cond.fieldLink "LifeList$Mentions" 48 "LifeList$Mentions" "dating" "LLifeList$Years;" ∈ m_tb := m_tb_mem.mpr ⟨ck_1 (List.mem_of_getElem? (i := 34) rfl), rfl⟩
theorem mw_56 : Cond.fieldLink "LifeList$Mentions" 52 "LifeList$Mentions" "committee" "LLifeList$Committee;" ∈ m_tb := m_tb_mem.mpr ⟨ck_1 (List.mem_of_getElem? (i := 35) rfl), rfl⟩
theorem mw_57 : Cond.fieldLink "LifeList$Mentions" 56 "LifeList$Mentions" "count" "I" ∈ m_tb := m_tb_mem.mpr ⟨ck_1 (List.mem_of_getElem? (i := 48) rfl), rfl⟩
theorem mw_58 : Cond.fieldLink "LifeList$Mentions" 60 "LifeList$Years" "lows" "[I" ∈ m_tb := m_tb_mem.mpr ⟨ck_0 (List.mem_of_getElem? (i := 225) rfl), rfl⟩
theorem mw_59 : Cond.fieldLink "LifeList$Mentions" 65 "LifeList$Committee" "states" "[I" ∈ m_tb := m_tb_mem.mpr ⟨ck_0 (List.mem_of_getElem? (i := 185) rfl), rfl⟩
theorem mw_60 : Cond.fieldLink "LifeList$Mentions" 91 "LifeList$Works" "count" "I" ∈ m_tb := m_tb_mem.mpr ⟨ck_0 (List.mem_of_getElem? (i := 65) rfl), rfl⟩
theorem mw_61 : Cond.fieldLink "LifeList$Owners" 11 "LifeList$Owners" "works" "[I" ∈ m_tb := m_tb_mem.mpr ⟨ck_0 (List.mem_of_getElem? (i := 104) rfl), rfl⟩
theorem mw_62 : Cond.fieldLink "LifeList$Owners" 15 "LifeList$Owners" "holders" "[I" ∈ m_tb := m_tb_mem.mpr ⟨ck_0 (List.mem_of_getElem? (i := 105) rfl), rfl⟩
theorem mw_63 : Cond.fieldLink "LifeList$Owners" 18 "LifeList$Owners" "mayFrom" "[I" ∈ m_tb := m_tb_mem.mpr ⟨ck_0 (List.mem_of_getElem? (i := 106) rfl), rfl⟩
theorem mw_64 : Cond.fieldLink "LifeList$Owners" 21 "LifeList$Owners" "surelyFrom" "[I" ∈ m_tb := m_tb_mem.mpr ⟨ck_0 (List.mem_of_getElem? (i := 107) rfl), rfl⟩
theorem mw_65 : Cond.fieldLink "LifeList$Owners" 24 "LifeList$Owners" "surelyTo" "[I" ∈ m_tb := m_tb_mem.mpr ⟨ck_0 (List.mem_of_getElem? (i := 108) rfl), rfl⟩
theorem mw_66 : Cond.fieldLink "LifeList$Owners" 27 "LifeList$Owners" "mayTo" "[I" ∈ m_tb := m_tb_mem.mpr ⟨ck_0 (List.mem_of_getElem? (i := 109) rfl), rfl⟩
theorem mw_67 : Cond.fieldLink "LifeList$Owners" 30 "LifeList$Owners" "count" "I" ∈ m_tb := m_tb_mem.mpr ⟨ck_0 (List.mem_of_getElem? (i := 110) rfl), rfl⟩
theorem mw_68 : Cond.fieldLink "LifeList$Rules" 13 "LifeList$Rules" "inForce" "[[I" ∈ m_tb := m_tb_mem.mpr ⟨ck_0 (List.mem_of_getElem? (i := 139) rfl), rfl⟩
theorem mw_69 : Cond.fieldLink "LifeList$Rules" 16 "LifeList$Rules" "spelled" "[[I" ∈ m_tb := m_tb_mem.mpr ⟨ck_0 (List.mem_of_getElem? (i := 141) rfl), rfl⟩
theorem mw_70 : Cond.fieldLink "LifeList$Rules" 19 "LifeList$Rules" "tape" "[C" ∈ m_tb := m_tb_mem.mpr ⟨ck_0 (List.mem_of_getElem? (i := 142) rfl), rfl⟩
theorem mw_71 : Cond.fieldLink "LifeList$Rules" 41 "LifeList$Rules" "length" "I" ∈ m_tb := m_tb_mem.mpr ⟨ck_0 (List.mem_of_getElem? (i := 143) rfl), rfl⟩
theorem mw_72 : Cond.fieldLink "LifeList$Rules" 51 "LifeList$Rules" "place" "I" ∈ m_tb := m_tb_mem.mpr ⟨ck_0 (List.mem_of_getElem? (i := 144) rfl), rfl⟩
theorem mw_73 : Cond.fieldLink "LifeList$Rules" 54 "LifeList$Rules" "fault" "I" ∈ m_tb := m_tb_mem.mpr ⟨ck_0 (List.mem_of_getElem? (i := 145) rfl), rfl⟩
theorem mw_74 : Cond.fieldLink "LifeList$Sheets" 13 "LifeList$Sheets" "rows" "[[I" ∈ m_tb := m_tb_mem.mpr ⟨ck_1 (List.mem_of_getElem? (i := 189) rfl), rfl⟩
theorem mw_75 : Cond.fieldLink "LifeList$Sheets" 16 "LifeList$Sheets" "laneOf" "[I" ∈ m_tb := m_tb_mem.mpr ⟨ck_1 (List.mem_of_getElem? (i := 191) rfl), rfl⟩
theorem mw_76 : Cond.fieldLink "LifeList$Sheets" 20 "LifeList$Sheets" "lengths" "[I" ∈ m_tb := m_tb_mem.mpr ⟨ck_1 (List.mem_of_getElem? (i := 192) rfl), rfl⟩
theorem mw_77 : Cond.fieldLink "LifeList$Works" 11 "LifeList$Works" "kinds" "[I" ∈ m_tb := m_tb_mem.mpr ⟨ck_0 (List.mem_of_getElem? (i := 39) rfl), rfl⟩
theorem mw_78 : Cond.fieldLink "LifeList$Works" 15 "LifeList$Works" "ofs" "[I" ∈ m_tb := m_tb_mem.mpr ⟨ck_0 (List.mem_of_getElem? (i := 41) rfl), rfl⟩
theorem mw_79 : Cond.fieldLink "LifeList$Works" 18 "LifeList$Works" "heights" "[I" ∈ m_tb := m_tb_mem.mpr ⟨ck_0 (List.mem_of_getElem? (i := 43) rfl), rfl⟩
theorem mw_80 : Cond.fieldLink "LifeList$Works" 21 "LifeList$Works" "widths" "[I" ∈ m_tb := m_tb_mem.mpr ⟨ck_0 (List.mem_of_getElem? (i := 45) rfl), rfl⟩
theorem mw_81 : Cond.fieldLink "LifeList$Works" 24 "LifeList$Works" "lows" "[I" ∈ m_tb := m_tb_mem.mpr ⟨ck_0 (List.mem_of_getElem? (i := 47) rfl), rfl⟩
theorem mw_82 : Cond.fieldLink "LifeList$Works" 27 "LifeList$Works" "highs" "[I" ∈ m_tb := m_tb_mem.mpr ⟨ck_0 (List.mem_of_getElem? (i := 50) rfl), rfl⟩
theorem mw_83 : Cond.fieldLink "LifeList$Works" 30 "LifeList$Works" "isTurned" "[Z" ∈ m_tb := m_tb_mem.mpr ⟨ck_0 (List.mem_of_getElem? (i := 53) rfl), rfl⟩
theorem mw_84 : Cond.fieldLink "LifeList$Works" 36 "LifeList$Works" "titles" "[[I" ∈ m_tb := m_tb_mem.mpr ⟨ck_0 (List.mem_of_getElem? (i := 55) rfl), rfl⟩
theorem mw_85 : Cond.fieldLink "LifeList$Works" 39 "LifeList$Works" "titleYears" "[[I" ∈ m_tb := m_tb_mem.mpr ⟨ck_0 (List.mem_of_getElem? (i := 56) rfl), rfl⟩
theorem mw_86 : Cond.fieldLink "LifeList$Works" 42 "LifeList$Works" "titleCounts" "[I" ∈ m_tb := m_tb_mem.mpr ⟨ck_0 (List.mem_of_getElem? (i := 57) rfl), rfl⟩
theorem mw_87 : Cond.fieldLink "LifeList$Works" 45 "LifeList$Works" "cutYears" "[I" ∈ m_tb := m_tb_mem.mpr ⟨ck_0 (List.mem_of_getElem? (i := 58) rfl), rfl⟩
theorem mw_88 : Cond.fieldLink "LifeList$Works" 48 "LifeList$Works" "cutHeights" "[I" ∈ m_tb := m_tb_mem.mpr ⟨ck_0 (List.mem_of_getElem? (i := 59) rfl), rfl⟩
theorem mw_89 : Cond.fieldLink "LifeList$Works" 51 "LifeList$Works" "cutWidths" "[I" ∈ m_tb := m_tb_mem.mpr ⟨ck_0 (List.mem_of_getElem? (i := 60) rfl), rfl⟩
theorem mw_90 : Cond.fieldLink "LifeList$Works" 54 "LifeList$Works" "count" "I" ∈ m_tb := m_tb_mem.mpr ⟨ck_0 (List.mem_of_getElem? (i := 61) rfl), rfl⟩
theorem mw_91 : Cond.fieldLink "LifeList$Years" 11 "LifeList$Years" "befores" "[I" ∈ m_tb := m_tb_mem.mpr ⟨ck_0 (List.mem_of_getElem? (i := 217) rfl), rfl⟩
theorem mw_92 : Cond.fieldLink "LifeList$Years" 15 "LifeList$Years" "behinds" "[I" ∈ m_tb := m_tb_mem.mpr ⟨ck_0 (List.mem_of_getElem? (i := 218) rfl), rfl⟩
theorem mw_93 : Cond.fieldLink "LifeList$Years" 18 "LifeList$Years" "distances" "[I" ∈ m_tb := m_tb_mem.mpr ⟨ck_0 (List.mem_of_getElem? (i := 219) rfl), rfl⟩
theorem mw_94 : Cond.fieldLink "LifeList$Years" 21 "LifeList$Years" "isUsed" "[Z" ∈ m_tb := m_tb_mem.mpr ⟨ck_0 (List.mem_of_getElem? (i := 220) rfl), rfl⟩
theorem mw_95 : Cond.fieldLink "LifeList$Years" 27 "LifeList$Years" "lows" "[I" ∈ m_tb := m_tb_mem.mpr ⟨ck_0 (List.mem_of_getElem? (i := 224) rfl), rfl⟩
theorem mw_96 : Cond.fieldLink "LifeList$Years" 30 "LifeList$Years" "highs" "[I" ∈ m_tb := m_tb_mem.mpr ⟨ck_0 (List.mem_of_getElem? (i := 228) rfl), rfl⟩
theorem mw_97 : Cond.fieldLink "LifeList$Years" 33 "LifeList$Years" "counting" "[I" ∈ m_tb := m_tb_mem.mpr ⟨ck_0 (List.mem_of_getElem? (i := 233) rfl), rfl⟩
theorem mw_98 : Cond.fieldLink "LifeList$Years" 36 "LifeList$Years" "isAside" "[Z" ∈ m_tb := m_tb_mem.mpr ⟨ck_0 (List.mem_of_getElem? (i := 235) rfl), rfl⟩
theorem mw_99 : Cond.fieldLink "LifeList$Years" 39 "LifeList$Years" "chosen" "[I" ∈ m_tb := m_tb_mem.mpr ⟨ck_0 (List.mem_of_getElem? (i := 236) rfl), rfl⟩
theorem mw_100 : Cond.fieldLink "LifeList$Years" 42 "LifeList$Years" "works" "LLifeList$Works;" ∈ m_tb := m_tb_mem.mpr ⟨ck_0 (List.mem_of_getElem? (i := 215) rfl), rfl⟩
theorem mw_101 : Cond.fieldLink "LifeList$Years" 46 "LifeList$Years" "committee" "LLifeList$Committee;" ∈ m_tb := m_tb_mem.mpr ⟨ck_0 (List.mem_of_getElem? (i := 216) rfl), rfl⟩
theorem mw_102 : Cond.fieldLink "LifeList$Years" 50 "LifeList$Years" "count" "I" ∈ m_tb := m_tb_mem.mpr ⟨ck_0 (List.mem_of_getElem? (i := 222) rfl), rfl⟩
theorem mw_103 : Cond.fieldLink "LifeList$Years" 59 "LifeList$Years" "countingCount" "I" ∈ m_tb := m_tb_mem.mpr ⟨ck_0 (List.mem_of_getElem? (i := 234) rfl), rfl⟩
theorem mw_104 : Cond.fieldLink "LifeList$Years" 66 "LifeList$Works" "highs" "[I" ∈ m_tb := m_tb_mem.mpr ⟨ck_0 (List.mem_of_getElem? (i := 51) rfl), rfl⟩
theorem mw_105 : Cond.fieldLink "LifeList$Years" 67 "LifeList$Works" "count" "I" ∈ m_tb := m_tb_mem.mpr ⟨ck_0 (List.mem_of_getElem? (i := 63) rfl), rfl⟩
theorem mw_106 : Cond.fieldLink "LifeList$Years" 78 "LifeList$Years" "isQuarrel" "Z" ∈ m_tb := m_tb_mem.mpr ⟨ck_0 (List.mem_of_getElem? (i := 231) rfl), rfl⟩
theorem mw_107 : Cond.fieldLink "LifeList$Years" 82 "LifeList$Works" "lows" "[I" ∈ m_tb := m_tb_mem.mpr ⟨ck_0 (List.mem_of_getElem? (i := 48) rfl), rfl⟩
theorem mw_108 : Cond.fieldLink "LifeList$Years" 86 "LifeList$Committee" "states" "[I" ∈ m_tb := m_tb_mem.mpr ⟨ck_0 (List.mem_of_getElem? (i := 183) rfl), rfl⟩
theorem mw_109 : Cond.fieldLink "LifeList" 10 "LifeList" "works" "LLifeList$Works;" ∈ m_tb := m_tb_mem.mpr ⟨ck_1 (List.mem_of_getElem? (i := 201) rfl), rfl⟩
theorem mw_110 : Cond.fieldLink "LifeList" 19 "LifeList" "owners" "LLifeList$Owners;" ∈ m_tb := m_tb_mem.mpr ⟨ck_1 (List.mem_of_getElem? (i := 202) rfl), rfl⟩
theorem mw_111 : Cond.fieldLink "LifeList" 26 "LifeList" "ruling" "LLifeList$Rules;" ∈ m_tb := m_tb_mem.mpr ⟨ck_1 (List.mem_of_getElem? (i := 203) rfl), rfl⟩
theorem mw_112 : Cond.fieldLink "LifeList" 33 "LifeList" "committee" "LLifeList$Committee;" ∈ m_tb := m_tb_mem.mpr ⟨ck_1 (List.mem_of_getElem? (i := 204) rfl), rfl⟩
theorem mw_113 : Cond.fieldLink "LifeList" 42 "LifeList" "years" "LLifeList$Years;" ∈ m_tb := m_tb_mem.mpr ⟨ck_1 (List.mem_of_getElem? (i := 205) rfl), rfl⟩
theorem mw_114 : Cond.fieldLink "LifeList" 51 "LifeList" "sources" "LLifeList$Mentions;" ∈ m_tb := m_tb_mem.mpr ⟨ck_1 (List.mem_of_getElem? (i := 206) rfl), rfl⟩
theorem mw_115 : Cond.fieldLink "LifeList" 60 "LifeList" "joins" "LLifeList$Joins;" ∈ m_tb := m_tb_mem.mpr ⟨ck_1 (List.mem_of_getElem? (i := 207) rfl), rfl⟩
theorem mw_116 : Cond.fieldLink "LifeList" 69 "LifeList" "editions" "LLifeList$Editions;" ∈ m_tb := m_tb_mem.mpr ⟨ck_1 (List.mem_of_getElem? (i := 208) rfl), rfl⟩
theorem mw_117 : Cond.fieldLink "LifeList" 76 "LifeList" "sheets" "LLifeList$Sheets;" ∈ m_tb := m_tb_mem.mpr ⟨ck_1 (List.mem_of_getElem? (i := 209) rfl), rfl⟩
theorem mw_118 : Cond.fieldLink "LifeList" 95 "LifeList$Works" "isTurned" "[Z" ∈ m_tb := m_tb_mem.mpr ⟨ck_0 (List.mem_of_getElem? (i := 54) rfl), rfl⟩
theorem mw_119 : Cond.fieldLink "LifeList" 119 "LifeList$Works" "kinds" "[I" ∈ m_tb := m_tb_mem.mpr ⟨ck_0 (List.mem_of_getElem? (i := 40) rfl), rfl⟩
theorem mw_120 : Cond.fieldLink "LifeList" 123 "LifeList$Works" "heights" "[I" ∈ m_tb := m_tb_mem.mpr ⟨ck_0 (List.mem_of_getElem? (i := 44) rfl), rfl⟩
theorem mw_121 : Cond.fieldLink "LifeList" 126 "LifeList$Works" "widths" "[I" ∈ m_tb := m_tb_mem.mpr ⟨ck_0 (List.mem_of_getElem? (i := 46) rfl), rfl⟩
theorem mw_122 : Cond.fieldLink "LifeList" 129 "LifeList$Works" "lows" "[I" ∈ m_tb := m_tb_mem.mpr ⟨ck_0 (List.mem_of_getElem? (i := 49) rfl), rfl⟩
theorem mw_123 : Cond.fieldLink "LifeList" 132 "LifeList$Works" "highs" "[I" ∈ m_tb := m_tb_mem.mpr ⟨ck_0 (List.mem_of_getElem? (i := 52) rfl), rfl⟩
theorem mw_124 : Cond.fieldLink "LifeList" 135 "LifeList$Works" "ofs" "[I" ∈ m_tb := m_tb_mem.mpr ⟨ck_0 (List.mem_of_getElem? (i := 42) rfl), rfl⟩
theorem mw_125 : Cond.fieldLink "LifeList" 159 "LifeList$Owners" "count" "I" ∈ m_tb := m_tb_mem.mpr ⟨ck_0 (List.mem_of_getElem? (i := 111) rfl), rfl⟩
theorem mw_126 : Cond.fieldLink "LifeList" 201 "LifeList$Mentions" "events" "[I" ∈ m_tb := m_tb_mem.mpr ⟨ck_1 (List.mem_of_getElem? (i := 40) rfl), rfl⟩
theorem mw_127 : Cond.fieldLink "LifeList" 217 "LifeList$Joins" "total" "I" ∈ m_tb := m_tb_mem.mpr ⟨ck_1 (List.mem_of_getElem? (i := 132) rfl), rfl⟩
theorem mw_128 : Cond.fieldLink "LifeList" 239 "LifeList$Years" "count" "I" ∈ m_tb := m_tb_mem.mpr ⟨ck_0 (List.mem_of_getElem? (i := 223) rfl), rfl⟩
theorem mw_129 : Cond.fieldLink "LifeList" 240 "LifeList$Years" "isUsed" "[Z" ∈ m_tb := m_tb_mem.mpr ⟨ck_0 (List.mem_of_getElem? (i := 221) rfl), rfl⟩
theorem mw_130 : Cond.fieldLink "LifeList" 243 "LifeList$Years" "isQuarrel" "Z" ∈ m_tb := m_tb_mem.mpr ⟨ck_0 (List.mem_of_getElem? (i := 232) rfl), rfl⟩
theorem mw_131 : Cond.fieldLink "LifeList" 247 "LifeList$Years" "lows" "[I" ∈ m_tb := m_tb_mem.mpr ⟨ck_0 (List.mem_of_getElem? (i := 227) rfl), rfl⟩
theorem mw_132 : Cond.fieldLink "LifeList" 248 "LifeList$Years" "highs" "[I" ∈ m_tb := m_tb_mem.mpr ⟨ck_0 (List.mem_of_getElem? (i := 230) rfl), rfl⟩
theorem mw_133 : Cond.fieldLink "LifeList" 255 "LifeList$Committee" "kinOf" "[I" ∈ m_tb := m_tb_mem.mpr ⟨ck_0 (List.mem_of_getElem? (i := 167) rfl), rfl⟩
theorem mw_134 : Cond.fieldLink "LifeList" 269 "LifeList$Rules" "inForce" "[[I" ∈ m_tb := m_tb_mem.mpr ⟨ck_0 (List.mem_of_getElem? (i := 140) rfl), rfl⟩
theorem mw_135 : Cond.fieldLink "LifeList" 286 "LifeList$Committee" "count" "I" ∈ m_tb := m_tb_mem.mpr ⟨ck_0 (List.mem_of_getElem? (i := 181) rfl), rfl⟩
theorem mw_136 : Cond.fieldLink "LifeList" 287 "LifeList$Committee" "works" "[I" ∈ m_tb := m_tb_mem.mpr ⟨ck_0 (List.mem_of_getElem? (i := 169) rfl), rfl⟩
theorem mw_137 : Cond.fieldLink "LifeList" 289 "LifeList$Committee" "days" "[I" ∈ m_tb := m_tb_mem.mpr ⟨ck_0 (List.mem_of_getElem? (i := 171) rfl), rfl⟩
theorem mw_138 : Cond.fieldLink "LifeList" 292 "LifeList$Committee" "isPassed" "[Z" ∈ m_tb := m_tb_mem.mpr ⟨ck_0 (List.mem_of_getElem? (i := 173) rfl), rfl⟩
theorem mw_139 : Cond.fieldLink "LifeList" 294 "LifeList$Committee" "voted" "[I" ∈ m_tb := m_tb_mem.mpr ⟨ck_0 (List.mem_of_getElem? (i := 177) rfl), rfl⟩
theorem mw_140 : Cond.fieldLink "LifeList" 297 "LifeList$Committee" "leftOut" "[I" ∈ m_tb := m_tb_mem.mpr ⟨ck_0 (List.mem_of_getElem? (i := 179) rfl), rfl⟩
theorem mw_141 : Cond.fieldLink "LifeList" 300 "LifeList$Committee" "isStrike" "[Z" ∈ m_tb := m_tb_mem.mpr ⟨ck_0 (List.mem_of_getElem? (i := 175) rfl), rfl⟩
theorem mw_142 : Cond.fieldLink "LifeList" 309 "LifeList$Committee" "states" "[I" ∈ m_tb := m_tb_mem.mpr ⟨ck_0 (List.mem_of_getElem? (i := 186) rfl), rfl⟩
theorem mw_143 : Cond.fieldLink "LifeList" 312 "LifeList$Works" "count" "I" ∈ m_tb := m_tb_mem.mpr ⟨ck_0 (List.mem_of_getElem? (i := 66) rfl), rfl⟩
theorem mw_144 : Cond.fieldLink "LifeList" 319 "LifeList$Editions" "count" "I" ∈ m_tb := m_tb_mem.mpr ⟨ck_1 (List.mem_of_getElem? (i := 163) rfl), rfl⟩
theorem mw_145 : Cond.fieldLink "LifeList" 326 "LifeList$Mentions" "count" "I" ∈ m_tb := m_tb_mem.mpr ⟨ck_1 (List.mem_of_getElem? (i := 50) rfl), rfl⟩
theorem mw_146 : Cond.fieldLink "LifeList" 339 "LifeList$Sheets" "lengths" "[I" ∈ m_tb := m_tb_mem.mpr ⟨ck_1 (List.mem_of_getElem? (i := 193) rfl), rfl⟩
theorem mw_147 : Cond.fieldLink "LifeList" 345 "LifeList$Sheets" "rows" "[[I" ∈ m_tb := m_tb_mem.mpr ⟨ck_1 (List.mem_of_getElem? (i := 190) rfl), rfl⟩
theorem mw_148 : Cond.fieldLink "LifeListModel" 17 "LifeListModel" "kinds" "[I" ∈ m_tb := m_tb_mem.mpr ⟨ck_4 (List.mem_of_getElem? (i := 163) rfl), rfl⟩
theorem mw_149 : Cond.fieldLink "LifeListModel" 21 "LifeListModel" "parents" "[I" ∈ m_tb := m_tb_mem.mpr ⟨ck_4 (List.mem_of_getElem? (i := 164) rfl), rfl⟩
theorem mw_150 : Cond.fieldLink "LifeListModel" 24 "LifeListModel" "turns" "[Z" ∈ m_tb := m_tb_mem.mpr ⟨ck_4 (List.mem_of_getElem? (i := 165) rfl), rfl⟩
theorem mw_151 : Cond.fieldLink "LifeListModel" 28 "LifeListModel" "heights" "[I" ∈ m_tb := m_tb_mem.mpr ⟨ck_4 (List.mem_of_getElem? (i := 166) rfl), rfl⟩
theorem mw_152 : Cond.fieldLink "LifeListModel" 31 "LifeListModel" "widths" "[I" ∈ m_tb := m_tb_mem.mpr ⟨ck_4 (List.mem_of_getElem? (i := 167) rfl), rfl⟩
theorem mw_153 : Cond.fieldLink "LifeListModel" 34 "LifeListModel" "lows" "[I" ∈ m_tb := m_tb_mem.mpr ⟨ck_4 (List.mem_of_getElem? (i := 168) rfl), rfl⟩
theorem mw_154 : Cond.fieldLink "LifeListModel" 37 "LifeListModel" "highs" "[I" ∈ m_tb := m_tb_mem.mpr ⟨ck_4 (List.mem_of_getElem? (i := 169) rfl), rfl⟩
theorem mw_155 : Cond.fieldLink "LifeListModel" 40 "LifeListModel" "titles" "[I" ∈ m_tb := m_tb_mem.mpr ⟨ck_4 (List.mem_of_getElem? (i := 170) rfl), rfl⟩
theorem mw_156 : Cond.fieldLink "LifeListModel" 43 "LifeListModel" "titleYears" "[I" ∈ m_tb := m_tb_mem.mpr ⟨ck_4 (List.mem_of_getElem? (i := 171) rfl), rfl⟩
theorem mw_157 : Cond.fieldLink "LifeListModel" 46 "LifeListModel" "titleMany" "[I" ∈ m_tb := m_tb_mem.mpr ⟨ck_4 (List.mem_of_getElem? (i := 172) rfl), rfl⟩
theorem mw_158 : Cond.fieldLink "LifeListModel" 49 "LifeListModel" "cutYears" "[I" ∈ m_tb := m_tb_mem.mpr ⟨ck_4 (List.mem_of_getElem? (i := 173) rfl), rfl⟩
theorem mw_159 : Cond.fieldLink "LifeListModel" 52 "LifeListModel" "cutHeights" "[I" ∈ m_tb := m_tb_mem.mpr ⟨ck_4 (List.mem_of_getElem? (i := 174) rfl), rfl⟩
theorem mw_160 : Cond.fieldLink "LifeListModel" 55 "LifeListModel" "cutWidths" "[I" ∈ m_tb := m_tb_mem.mpr ⟨ck_4 (List.mem_of_getElem? (i := 175) rfl), rfl⟩
theorem mw_161 : Cond.fieldLink "LifeListModel" 58 "LifeListModel" "held" "[I" ∈ m_tb := m_tb_mem.mpr ⟨ck_4 (List.mem_of_getElem? (i := 177) rfl), rfl⟩
theorem mw_162 : Cond.fieldLink "LifeListModel" 61 "LifeListModel" "before" "[I" ∈ m_tb := m_tb_mem.mpr ⟨ck_4 (List.mem_of_getElem? (i := 179) rfl), rfl⟩
theorem mw_163 : Cond.fieldLink "LifeListModel" 64 "LifeListModel" "behind" "[I" ∈ m_tb := m_tb_mem.mpr ⟨ck_4 (List.mem_of_getElem? (i := 180) rfl), rfl⟩
theorem mw_164 : Cond.fieldLink "LifeListModel" 67 "LifeListModel" "apart" "[I" ∈ m_tb := m_tb_mem.mpr ⟨ck_4 (List.mem_of_getElem? (i := 181) rfl), rfl⟩
theorem mw_165 : Cond.fieldLink "LifeListModel" 70 "LifeListModel" "inUse" "[Z" ∈ m_tb := m_tb_mem.mpr ⟨ck_4 (List.mem_of_getElem? (i := 182) rfl), rfl⟩
theorem mw_166 : Cond.fieldLink "LifeListModel" 73 "LifeListModel" "least" "[I" ∈ m_tb := m_tb_mem.mpr ⟨ck_4 (List.mem_of_getElem? (i := 184) rfl), rfl⟩
theorem mw_167 : Cond.fieldLink "LifeListModel" 76 "LifeListModel" "most" "[I" ∈ m_tb := m_tb_mem.mpr ⟨ck_4 (List.mem_of_getElem? (i := 185) rfl), rfl⟩
theorem mw_168 : Cond.fieldLink "LifeListModel" 79 "LifeListModel" "asides" "[I" ∈ m_tb := m_tb_mem.mpr ⟨ck_4 (List.mem_of_getElem? (i := 187) rfl), rfl⟩
theorem mw_169 : Cond.fieldLink "LifeListModel" 82 "LifeListModel" "said" "[I" ∈ m_tb := m_tb_mem.mpr ⟨ck_4 (List.mem_of_getElem? (i := 189) rfl), rfl⟩
theorem mw_170 : Cond.fieldLink "LifeListModel" 85 "LifeListModel" "joinedTo" "[I" ∈ m_tb := m_tb_mem.mpr ⟨ck_4 (List.mem_of_getElem? (i := 191) rfl), rfl⟩
theorem mw_171 : Cond.fieldLink "LifeListModel" 88 "LifeListModel" "isSure" "[Z" ∈ m_tb := m_tb_mem.mpr ⟨ck_4 (List.mem_of_getElem? (i := 192) rfl), rfl⟩
theorem mw_172 : Cond.fieldLink "LifeListModel" 91 "LifeListModel" "sums" "[I" ∈ m_tb := m_tb_mem.mpr ⟨ck_4 (List.mem_of_getElem? (i := 193) rfl), rfl⟩
theorem mw_173 : Cond.fieldLink "LifeListModel" 94 "LifeListModel" "list" "[I" ∈ m_tb := m_tb_mem.mpr ⟨ck_4 (List.mem_of_getElem? (i := 194) rfl), rfl⟩
theorem mw_174 : Cond.fieldLink "LifeListModel" 97 "LifeListModel" "table" "[I" ∈ m_tb := m_tb_mem.mpr ⟨ck_4 (List.mem_of_getElem? (i := 196) rfl), rfl⟩
theorem mw_175 : Cond.fieldLink "LifeListModel" 100 "LifeListModel" "sets" "[I" ∈ m_tb := m_tb_mem.mpr ⟨ck_4 (List.mem_of_getElem? (i := 197) rfl), rfl⟩
theorem mw_176 : Cond.fieldLink "LifeListModel" 103 "LifeListModel" "setsThen" "[I" ∈ m_tb := m_tb_mem.mpr ⟨ck_4 (List.mem_of_getElem? (i := 198) rfl), rfl⟩
theorem mw_177 : Cond.fieldLink "LifeListModel" 106 "LifeListModel" "tableKept" "[I" ∈ m_tb := m_tb_mem.mpr ⟨ck_4 (List.mem_of_getElem? (i := 199) rfl), rfl⟩
theorem mw_178 : Cond.fieldLink "LifeListModel" 109 "LifeListModel" "kin" "[I" ∈ m_tb := m_tb_mem.mpr ⟨ck_4 (List.mem_of_getElem? (i := 201) rfl), rfl⟩
theorem mw_179 : Cond.fieldLink "LifeListModel" 112 "LifeListModel" "ruleMany" "[I" ∈ m_tb := m_tb_mem.mpr ⟨ck_4 (List.mem_of_getElem? (i := 202) rfl), rfl⟩
theorem mw_180 : Cond.fieldLink "LifeListModel" 115 "LifeListModel" "ruleUp" "[I" ∈ m_tb := m_tb_mem.mpr ⟨ck_4 (List.mem_of_getElem? (i := 203) rfl), rfl⟩
theorem mw_181 : Cond.fieldLink "LifeListModel" 118 "LifeListModel" "ruleDown" "[I" ∈ m_tb := m_tb_mem.mpr ⟨ck_4 (List.mem_of_getElem? (i := 204) rfl), rfl⟩
theorem mw_182 : Cond.fieldLink "LifeListModel" 121 "LifeListModel" "readRules" "[I" ∈ m_tb := m_tb_mem.mpr ⟨ck_4 (List.mem_of_getElem? (i := 205) rfl), rfl⟩
theorem mw_183 : Cond.fieldLink "LifeListModel" 124 "LifeListModel" "tape" "[I" ∈ m_tb := m_tb_mem.mpr ⟨ck_4 (List.mem_of_getElem? (i := 206) rfl), rfl⟩
theorem mw_184 : Cond.fieldLink "LifeListModel" 127 "LifeListModel" "cast" "[I" ∈ m_tb := m_tb_mem.mpr ⟨ck_4 (List.mem_of_getElem? (i := 210) rfl), rfl⟩
theorem mw_185 : Cond.fieldLink "LifeListModel" 130 "LifeListModel" "given" "[I" ∈ m_tb := m_tb_mem.mpr ⟨ck_4 (List.mem_of_getElem? (i := 212) rfl), rfl⟩
theorem mw_186 : Cond.fieldLink "LifeListModel" 133 "LifeListModel" "hasNumber" "[Z" ∈ m_tb := m_tb_mem.mpr ⟨ck_4 (List.mem_of_getElem? (i := 213) rfl), rfl⟩
theorem mw_187 : Cond.fieldLink "LifeListModel" 136 "LifeListModel" "numbers" "[I" ∈ m_tb := m_tb_mem.mpr ⟨ck_4 (List.mem_of_getElem? (i := 214) rfl), rfl⟩
theorem mw_188 : Cond.fieldLink "LifeListModel" 139 "LifeListModel" "letters" "[I" ∈ m_tb := m_tb_mem.mpr ⟨ck_4 (List.mem_of_getElem? (i := 215) rfl), rfl⟩
theorem mw_189 : Cond.fieldLink "LifeListModel" 142 "LifeListModel" "order" "[I" ∈ m_tb := m_tb_mem.mpr ⟨ck_4 (List.mem_of_getElem? (i := 216) rfl), rfl⟩
theorem mw_190 : Cond.fieldLink "LifeListModel" 145 "LifeListModel" "lanes" "[I" ∈ m_tb := m_tb_mem.mpr ⟨ck_4 (List.mem_of_getElem? (i := 217) rfl), rfl⟩
theorem mw_191 : Cond.fieldLink "LifeListModel" 148 "LifeListModel" "sizes" "[I" ∈ m_tb := m_tb_mem.mpr ⟨ck_4 (List.mem_of_getElem? (i := 218) rfl), rfl⟩
theorem mw_192 : Cond.fieldLink "LifeListModel" 151 "LifeListModel" "items" "[I" ∈ m_tb := m_tb_mem.mpr ⟨ck_4 (List.mem_of_getElem? (i := 219) rfl), rfl⟩
theorem mw_193 : Cond.fieldLink "LifeListModel" 154 "LifeListModel" "works" "I" ∈ m_tb := m_tb_mem.mpr ⟨ck_4 (List.mem_of_getElem? (i := 162) rfl), rfl⟩
theorem mw_194 : Cond.fieldLink "LifeListModel" 172 "LifeListModel" "isFresh" "Z" ∈ m_tb := m_tb_mem.mpr ⟨ck_4 (List.mem_of_getElem? (i := 190) rfl), rfl⟩
theorem mw_195 : Cond.fieldLink "LifeListModel" 204 "LifeListModel" "holdings" "I" ∈ m_tb := m_tb_mem.mpr ⟨ck_4 (List.mem_of_getElem? (i := 176) rfl), rfl⟩
theorem mw_196 : Cond.fieldLink "LifeListModel" 225 "LifeListModel" "clues" "I" ∈ m_tb := m_tb_mem.mpr ⟨ck_4 (List.mem_of_getElem? (i := 178) rfl), rfl⟩
theorem mw_197 : Cond.fieldLink "LifeListModel" 228 "LifeListModel" "votes" "I" ∈ m_tb := m_tb_mem.mpr ⟨ck_4 (List.mem_of_getElem? (i := 209) rfl), rfl⟩
theorem mw_198 : Cond.fieldLink "LifeListModel" 239 "LifeListModel" "counting" "I" ∈ m_tb := m_tb_mem.mpr ⟨ck_4 (List.mem_of_getElem? (i := 183) rfl), rfl⟩
theorem mw_199 : Cond.fieldLink "LifeListModel" 245 "LifeListModel" "quarrels" "Z" ∈ m_tb := m_tb_mem.mpr ⟨ck_4 (List.mem_of_getElem? (i := 186) rfl), rfl⟩
theorem mw_200 : Cond.fieldLink "LifeListModel" 276 "LifeListModel" "mentions" "I" ∈ m_tb := m_tb_mem.mpr ⟨ck_4 (List.mem_of_getElem? (i := 188) rfl), rfl⟩
theorem mw_201 : Cond.fieldLink "LifeListModel" 303 "LifeListModel" "listed" "I" ∈ m_tb := m_tb_mem.mpr ⟨ck_4 (List.mem_of_getElem? (i := 195) rfl), rfl⟩
theorem mw_202 : Cond.fieldLink "LifeListModel" 322 "LifeListModel" "isJoined" "Z" ∈ m_tb := m_tb_mem.mpr ⟨ck_4 (List.mem_of_getElem? (i := 200) rfl), rfl⟩
theorem mw_203 : Cond.fieldLink "LifeListModel" 348 "LifeListModel" "taped" "I" ∈ m_tb := m_tb_mem.mpr ⟨ck_4 (List.mem_of_getElem? (i := 207) rfl), rfl⟩
theorem mw_204 : Cond.fieldLink "LifeListModel" 351 "LifeListModel" "at" "I" ∈ m_tb := m_tb_mem.mpr ⟨ck_4 (List.mem_of_getElem? (i := 208) rfl), rfl⟩
theorem mw_205 : Cond.fieldLink "LifeListModel" 389 "LifeListModel" "editions" "I" ∈ m_tb := m_tb_mem.mpr ⟨ck_4 (List.mem_of_getElem? (i := 211) rfl), rfl⟩
theorem mw_206 : Cond.fieldLink "LifeList$Rules" 23 "LifeList$Rules" "AT_FIRST" "[I" ∈ m_tb := m_tb_mem.mpr ⟨ck_0 (List.mem_of_getElem? (i := 134) rfl), rfl⟩
theorem mw_207 : Cond.fieldLink "LifeList$Rules" 64 "LifeList$Rules" "WITHOUT" "[I" ∈ m_tb := m_tb_mem.mpr ⟨ck_4 (List.mem_of_getElem? (i := 30) rfl), rfl⟩
theorem mw_208 : Cond.fieldLink "LifeList$Rules" 67 "LifeList$Rules" "ABOVE" "[I" ∈ m_tb := m_tb_mem.mpr ⟨ck_4 (List.mem_of_getElem? (i := 32) rfl), rfl⟩
theorem mw_209 : Cond.classLink "LifeList$Joins" 11 "LifeList$Matching" ∈ m_tb := m_tb_mem.mpr ⟨ck_1 (List.mem_of_getElem? (i := 86) rfl), rfl⟩
theorem mw_210 : Cond.classLink "LifeList$Matching" 13 "[[J" ∈ m_tb := m_tb_mem.mpr ⟨ck_1 (List.mem_of_getElem? (i := 92) rfl), rfl⟩
theorem mw_211 : Cond.classLink "LifeList$Rules" 11 "[[I" ∈ m_tb := m_tb_mem.mpr ⟨ck_0 (List.mem_of_getElem? (i := 133) rfl), rfl⟩
theorem mw_212 : Cond.classLink "LifeList$Sheets" 11 "[[I" ∈ m_tb := m_tb_mem.mpr ⟨ck_1 (List.mem_of_getElem? (i := 187) rfl), rfl⟩
theorem mw_213 : Cond.classLink "LifeList$Works" 34 "[[I" ∈ m_tb := m_tb_mem.mpr ⟨ck_0 (List.mem_of_getElem? (i := 37) rfl), rfl⟩
theorem mw_214 : Cond.classLink "LifeList" 7 "LifeList$Works" ∈ m_tb := m_tb_mem.mpr ⟨ck_0 (List.mem_of_getElem? (i := 31) rfl), rfl⟩
theorem mw_215 : Cond.classLink "LifeList" 16 "LifeList$Owners" ∈ m_tb := m_tb_mem.mpr ⟨ck_0 (List.mem_of_getElem? (i := 98) rfl), rfl⟩
theorem mw_216 : Cond.classLink "LifeList" 23 "LifeList$Rules" ∈ m_tb := m_tb_mem.mpr ⟨ck_0 (List.mem_of_getElem? (i := 127) rfl), rfl⟩
theorem mw_217 : Cond.classLink "LifeList" 30 "LifeList$Committee" ∈ m_tb := m_tb_mem.mpr ⟨ck_0 (List.mem_of_getElem? (i := 160) rfl), rfl⟩
theorem mw_218 : Cond.classLink "LifeList" 37 "LifeList$Years" ∈ m_tb := m_tb_mem.mpr ⟨ck_0 (List.mem_of_getElem? (i := 209) rfl), rfl⟩
theorem mw_219 : Cond.classLink "LifeList" 46 "LifeList$Mentions" ∈ m_tb := m_tb_mem.mpr ⟨ck_1 (List.mem_of_getElem? (i := 26) rfl), rfl⟩
theorem mw_220 : Cond.classLink "LifeList" 55 "LifeList$Joins" ∈ m_tb := m_tb_mem.mpr ⟨ck_1 (List.mem_of_getElem? (i := 80) rfl), rfl⟩
theorem mw_221 : Cond.classLink "LifeList" 64 "LifeList$Editions" ∈ m_tb := m_tb_mem.mpr ⟨ck_1 (List.mem_of_getElem? (i := 146) rfl), rfl⟩
theorem mw_222 : Cond.classLink "LifeList" 73 "LifeList$Sheets" ∈ m_tb := m_tb_mem.mpr ⟨ck_1 (List.mem_of_getElem? (i := 181) rfl), rfl⟩
theorem mw_223 : Cond.classLink "LifeListLaw" 7 "LifeList" ∈ m_tb := m_tb_mem.mpr ⟨ck_0 (List.mem_of_getElem? (i := 23) rfl), rfl⟩
theorem mw_224 : Cond.classLink "LifeListLaw" 10 "LifeListModel" ∈ m_tb := m_tb_mem.mpr ⟨ck_4 (List.mem_of_getElem? (i := 156) rfl), rfl⟩
theorem mw_225 : Cond.constant "java/lang/Integer" 265 1431655765 ∈ m_tb := m_tb_mem.mpr ⟨ck_2 (List.mem_of_getElem? (i := 205) rfl), rfl⟩
theorem mw_226 : Cond.constant "java/lang/Integer" 266 858993459 ∈ m_tb := m_tb_mem.mpr ⟨ck_2 (List.mem_of_getElem? (i := 206) rfl), rfl⟩
theorem mw_227 : Cond.constant "java/lang/Integer" 267 252645135 ∈ m_tb := m_tb_mem.mpr ⟨ck_2 (List.mem_of_getElem? (i := 207) rfl), rfl⟩
theorem mw_228 : Cond.constantLong "LifeList$Joins" 49 7984925229121 ∈ m_tb := m_tb_mem.mpr ⟨ck_2 (List.mem_of_getElem? (i := 230) rfl), rfl⟩
theorem mw_229 : Cond.constantLong "LifeList$Joins" 51 41 ∈ m_tb := m_tb_mem.mpr ⟨ck_2 (List.mem_of_getElem? (i := 231) rfl), rfl⟩
theorem mw_230 : Cond.constantLong "LifeList$Matching" 63 1152921504606846976 ∈ m_tb := m_tb_mem.mpr ⟨ck_3 (List.mem_of_getElem? (i := 9) rfl), rfl⟩
theorem mw_231 : Cond.constantLong "LifeListModel" 3 1800 ∈ m_tb := m_tb_mem.mpr ⟨ck_5 (List.mem_of_getElem? (i := 118) rfl), rfl⟩
theorem mw_232 : Cond.constantLong "LifeListModel" 5 1999 ∈ m_tb := m_tb_mem.mpr ⟨ck_5 (List.mem_of_getElem? (i := 119) rfl), rfl⟩
theorem mw_233 : Cond.constantLong "LifeListModel" 158 10 ∈ m_tb := m_tb_mem.mpr ⟨ck_5 (List.mem_of_getElem? (i := 109) rfl), rfl⟩
theorem mw_234 : Cond.constantLong "LifeListModel" 160 5000 ∈ m_tb := m_tb_mem.mpr ⟨ck_5 (List.mem_of_getElem? (i := 110) rfl), rfl⟩
theorem mw_235 : Cond.constantLong "LifeListModel" 166 1073741823 ∈ m_tb := m_tb_mem.mpr ⟨ck_5 (List.mem_of_getElem? (i := 114) rfl), rfl⟩
theorem mw_236 : Cond.constantLong "LifeListModel" 190 2 ∈ m_tb := m_tb_mem.mpr ⟨ck_5 (List.mem_of_getElem? (i := 152) rfl), rfl⟩
theorem mw_237 : Cond.constantLong "LifeListModel" 202 19 ∈ m_tb := m_tb_mem.mpr ⟨ck_5 (List.mem_of_getElem? (i := 181) rfl), rfl⟩
theorem mw_238 : Cond.constantLong "LifeListModel" 221 (-30) ∈ m_tb := m_tb_mem.mpr ⟨ck_5 (List.mem_of_getElem? (i := 218) rfl), rfl⟩
theorem mw_239 : Cond.constantLong "LifeListModel" 223 30 ∈ m_tb := m_tb_mem.mpr ⟨ck_5 (List.mem_of_getElem? (i := 219) rfl), rfl⟩
theorem mw_240 : Cond.constantLong "LifeListModel" 270 6000 ∈ m_tb := m_tb_mem.mpr ⟨ck_6 (List.mem_of_getElem? (i := 44) rfl), rfl⟩
theorem mw_241 : Cond.constantLong "LifeListModel" 272 15 ∈ m_tb := m_tb_mem.mpr ⟨ck_6 (List.mem_of_getElem? (i := 45) rfl), rfl⟩
theorem mw_242 : Cond.constantLong "LifeListModel" 274 (-1) ∈ m_tb := m_tb_mem.mpr ⟨ck_6 (List.mem_of_getElem? (i := 46) rfl), rfl⟩
theorem mw_243 : Cond.constantLong "LifeListModel" 331 4 ∈ m_tb := m_tb_mem.mpr ⟨ck_6 (List.mem_of_getElem? (i := 128) rfl), rfl⟩
theorem mw_244 : Cond.constantLong "LifeListModel" 336 7 ∈ m_tb := m_tb_mem.mpr ⟨ck_6 (List.mem_of_getElem? (i := 137) rfl), rfl⟩
theorem mw_245 : Cond.constantLong "LifeListModel" 338 1048575 ∈ m_tb := m_tb_mem.mpr ⟨ck_6 (List.mem_of_getElem? (i := 138) rfl), rfl⟩
theorem mw_246 : Cond.constantLong "LifeListModel" 340 8 ∈ m_tb := m_tb_mem.mpr ⟨ck_6 (List.mem_of_getElem? (i := 143) rfl), rfl⟩
theorem mw_247 : Cond.constantLong "LifeListModel" 342 255 ∈ m_tb := m_tb_mem.mpr ⟨ck_6 (List.mem_of_getElem? (i := 144) rfl), rfl⟩
theorem mw_248 : Cond.constantLong "LifeListModel" 344 32 ∈ m_tb := m_tb_mem.mpr ⟨ck_6 (List.mem_of_getElem? (i := 145) rfl), rfl⟩
theorem mw_249 : Cond.constantLong "LifeListModel" 346 126 ∈ m_tb := m_tb_mem.mpr ⟨ck_6 (List.mem_of_getElem? (i := 146) rfl), rfl⟩
theorem mw_250 : Cond.constantLong "LifeListModel" 357 48 ∈ m_tb := m_tb_mem.mpr ⟨ck_6 (List.mem_of_getElem? (i := 167) rfl), rfl⟩
theorem mw_251 : Cond.constantLong "LifeListModel" 359 57 ∈ m_tb := m_tb_mem.mpr ⟨ck_6 (List.mem_of_getElem? (i := 168) rfl), rfl⟩
theorem mw_252 : Cond.constantLong "LifeListModel" 377 3 ∈ m_tb := m_tb_mem.mpr ⟨ck_6 (List.mem_of_getElem? (i := 177) rfl), rfl⟩
theorem mw_253 : Cond.constantLong "LifeListModel" 382 9999 ∈ m_tb := m_tb_mem.mpr ⟨ck_6 (List.mem_of_getElem? (i := 190) rfl), rfl⟩
theorem mw_254 : Cond.constantLong "LifeListModel" 384 5 ∈ m_tb := m_tb_mem.mpr ⟨ck_6 (List.mem_of_getElem? (i := 195) rfl), rfl⟩
theorem mw_255 : Cond.constantLong "java/lang/Long" 314 6148914691236517205 ∈ m_tb := m_tb_mem.mpr ⟨ck_3 (List.mem_of_getElem? (i := 71) rfl), rfl⟩
theorem mw_256 : Cond.constantLong "java/lang/Long" 316 3689348814741910323 ∈ m_tb := m_tb_mem.mpr ⟨ck_3 (List.mem_of_getElem? (i := 72) rfl), rfl⟩
theorem mw_257 : Cond.constantLong "java/lang/Long" 318 1085102592571150095 ∈ m_tb := m_tb_mem.mpr ⟨ck_3 (List.mem_of_getElem? (i := 73) rfl), rfl⟩
theorem mw_258 : Cond.constantLong "LifeListLaw" 138 4294967295 ∈ m_tb := m_tb_mem.mpr ⟨ck_7 (List.mem_of_getElem? (i := 7) rfl), rfl⟩
theorem mw_259 : Cond.laysFinal "LifeList$Committee" "LifeList$Committee" "kinOf" "[I" ∈ m_tb := m_tb_mem.mpr ⟨ck_0 (List.mem_of_getElem? (i := 188) rfl), rfl⟩
theorem mw_260 : Cond.laysFinal "LifeList$Committee" "LifeList$Committee" "works" "[I" ∈ m_tb := m_tb_mem.mpr ⟨ck_0 (List.mem_of_getElem? (i := 190) rfl), rfl⟩
theorem mw_261 : Cond.laysFinal "LifeList$Committee" "LifeList$Committee" "days" "[I" ∈ m_tb := m_tb_mem.mpr ⟨ck_0 (List.mem_of_getElem? (i := 192) rfl), rfl⟩
theorem mw_262 : Cond.laysFinal "LifeList$Committee" "LifeList$Committee" "isPassed" "[Z" ∈ m_tb := m_tb_mem.mpr ⟨ck_0 (List.mem_of_getElem? (i := 194) rfl), rfl⟩
theorem mw_263 : Cond.laysFinal "LifeList$Committee" "LifeList$Committee" "isStrike" "[Z" ∈ m_tb := m_tb_mem.mpr ⟨ck_0 (List.mem_of_getElem? (i := 196) rfl), rfl⟩
theorem mw_264 : Cond.laysFinal "LifeList$Committee" "LifeList$Committee" "voted" "[I" ∈ m_tb := m_tb_mem.mpr ⟨ck_0 (List.mem_of_getElem? (i := 198) rfl), rfl⟩
theorem mw_265 : Cond.laysFinal "LifeList$Committee" "LifeList$Committee" "leftOut" "[I" ∈ m_tb := m_tb_mem.mpr ⟨ck_0 (List.mem_of_getElem? (i := 200) rfl), rfl⟩
theorem mw_266 : Cond.lays "LifeList$Committee" "LifeList$Committee" "count" "I" ∈ m_tb := m_tb_mem.mpr ⟨ck_0 (List.mem_of_getElem? (i := 202) rfl), rfl⟩
theorem mw_267 : Cond.laysFinal "LifeList$Committee" "LifeList$Committee" "states" "[I" ∈ m_tb := m_tb_mem.mpr ⟨ck_0 (List.mem_of_getElem? (i := 204) rfl), rfl⟩
theorem mw_268 : Cond.laysFinal "LifeList$Committee" "LifeList$Committee" "decidedOn" "[I" ∈ m_tb := m_tb_mem.mpr ⟨ck_0 (List.mem_of_getElem? (i := 206) rfl), rfl⟩
theorem mw_269 : Cond.laysFinal "LifeList$Editions" "LifeList$Editions" "works" "LLifeList$Works;" ∈ m_tb := m_tb_mem.mpr ⟨ck_1 (List.mem_of_getElem? (i := 164) rfl), rfl⟩
theorem mw_270 : Cond.laysFinal "LifeList$Editions" "LifeList$Editions" "years" "LLifeList$Years;" ∈ m_tb := m_tb_mem.mpr ⟨ck_1 (List.mem_of_getElem? (i := 166) rfl), rfl⟩
theorem mw_271 : Cond.laysFinal "LifeList$Editions" "LifeList$Editions" "committee" "LLifeList$Committee;" ∈ m_tb := m_tb_mem.mpr ⟨ck_1 (List.mem_of_getElem? (i := 168) rfl), rfl⟩
theorem mw_272 : Cond.laysFinal "LifeList$Editions" "LifeList$Editions" "numbers" "[I" ∈ m_tb := m_tb_mem.mpr ⟨ck_1 (List.mem_of_getElem? (i := 170) rfl), rfl⟩
theorem mw_273 : Cond.laysFinal "LifeList$Editions" "LifeList$Editions" "letters" "[I" ∈ m_tb := m_tb_mem.mpr ⟨ck_1 (List.mem_of_getElem? (i := 172) rfl), rfl⟩
theorem mw_274 : Cond.laysFinal "LifeList$Editions" "LifeList$Editions" "given" "[I" ∈ m_tb := m_tb_mem.mpr ⟨ck_1 (List.mem_of_getElem? (i := 174) rfl), rfl⟩
theorem mw_275 : Cond.laysFinal "LifeList$Editions" "LifeList$Editions" "order" "[I" ∈ m_tb := m_tb_mem.mpr ⟨ck_1 (List.mem_of_getElem? (i := 176) rfl), rfl⟩
theorem mw_276 : Cond.lays "LifeList$Editions" "LifeList$Editions" "count" "I" ∈ m_tb := m_tb_mem.mpr ⟨ck_1 (List.mem_of_getElem? (i := 178) rfl), rfl⟩
theorem mw_277 : Cond.laysFinal "LifeList$Joins" "LifeList$Joins" "works" "LLifeList$Works;" ∈ m_tb := m_tb_mem.mpr ⟨ck_1 (List.mem_of_getElem? (i := 133) rfl), rfl⟩
theorem mw_278 : Cond.laysFinal "LifeList$Joins" "LifeList$Joins" "sources" "LLifeList$Mentions;" ∈ m_tb := m_tb_mem.mpr ⟨ck_1 (List.mem_of_getElem? (i := 135) rfl), rfl⟩
theorem mw_279 : Cond.laysFinal "LifeList$Joins" "LifeList$Joins" "matching" "LLifeList$Matching;" ∈ m_tb := m_tb_mem.mpr ⟨ck_1 (List.mem_of_getElem? (i := 137) rfl), rfl⟩
theorem mw_280 : Cond.laysFinal "LifeList$Joins" "LifeList$Joins" "seated" "[I" ∈ m_tb := m_tb_mem.mpr ⟨ck_1 (List.mem_of_getElem? (i := 139) rfl), rfl⟩
theorem mw_281 : Cond.laysFinal "LifeList$Joins" "LifeList$Joins" "workOf" "[I" ∈ m_tb := m_tb_mem.mpr ⟨ck_1 (List.mem_of_getElem? (i := 141) rfl), rfl⟩
theorem mw_282 : Cond.lays "LifeList$Joins" "LifeList$Joins" "total" "I" ∈ m_tb := m_tb_mem.mpr ⟨ck_1 (List.mem_of_getElem? (i := 143) rfl), rfl⟩
theorem mw_283 : Cond.laysFinal "LifeList$Matching" "LifeList$Matching" "worths" "[[J" ∈ m_tb := m_tb_mem.mpr ⟨ck_1 (List.mem_of_getElem? (i := 106) rfl), rfl⟩
theorem mw_284 : Cond.laysFinal "LifeList$Matching" "LifeList$Matching" "rowPrices" "[J" ∈ m_tb := m_tb_mem.mpr ⟨ck_1 (List.mem_of_getElem? (i := 108) rfl), rfl⟩
theorem mw_285 : Cond.laysFinal "LifeList$Matching" "LifeList$Matching" "columnPrices" "[J" ∈ m_tb := m_tb_mem.mpr ⟨ck_1 (List.mem_of_getElem? (i := 110) rfl), rfl⟩
theorem mw_286 : Cond.laysFinal "LifeList$Matching" "LifeList$Matching" "slacks" "[J" ∈ m_tb := m_tb_mem.mpr ⟨ck_1 (List.mem_of_getElem? (i := 112) rfl), rfl⟩
theorem mw_287 : Cond.laysFinal "LifeList$Matching" "LifeList$Matching" "rowIn" "[I" ∈ m_tb := m_tb_mem.mpr ⟨ck_1 (List.mem_of_getElem? (i := 114) rfl), rfl⟩
theorem mw_288 : Cond.laysFinal "LifeList$Matching" "LifeList$Matching" "cameFrom" "[I" ∈ m_tb := m_tb_mem.mpr ⟨ck_1 (List.mem_of_getElem? (i := 116) rfl), rfl⟩
theorem mw_289 : Cond.laysFinal "LifeList$Matching" "LifeList$Matching" "isReached" "[Z" ∈ m_tb := m_tb_mem.mpr ⟨ck_1 (List.mem_of_getElem? (i := 118) rfl), rfl⟩
theorem mw_290 : Cond.lays "LifeList$Matching" "LifeList$Matching" "rows" "I" ∈ m_tb := m_tb_mem.mpr ⟨ck_1 (List.mem_of_getElem? (i := 120) rfl), rfl⟩
theorem mw_291 : Cond.lays "LifeList$Matching" "LifeList$Matching" "columns" "I" ∈ m_tb := m_tb_mem.mpr ⟨ck_1 (List.mem_of_getElem? (i := 122) rfl), rfl⟩
theorem mw_292 : Cond.laysFinal "LifeList$Mentions" "LifeList$Mentions" "works" "LLifeList$Works;" ∈ m_tb := m_tb_mem.mpr ⟨ck_1 (List.mem_of_getElem? (i := 51) rfl), rfl⟩
theorem mw_293 : Cond.laysFinal "LifeList$Mentions" "LifeList$Mentions" "owners" "LLifeList$Owners;" ∈ m_tb := m_tb_mem.mpr ⟨ck_1 (List.mem_of_getElem? (i := 53) rfl), rfl⟩
theorem mw_294 : Cond.laysFinal "LifeList$Mentions" "LifeList$Mentions" "dating" "LLifeList$Years;" ∈ m_tb := m_tb_mem.mpr ⟨ck_1 (List.mem_of_getElem? (i := 55) rfl), rfl⟩
theorem mw_295 : Cond.laysFinal "LifeList$Mentions" "LifeList$Mentions" "committee" "LLifeList$Committee;" ∈ m_tb := m_tb_mem.mpr ⟨ck_1 (List.mem_of_getElem? (i := 57) rfl), rfl⟩
theorem mw_296 : Cond.laysFinal "LifeList$Mentions" "LifeList$Mentions" "kinds" "[I" ∈ m_tb := m_tb_mem.mpr ⟨ck_1 (List.mem_of_getElem? (i := 59) rfl), rfl⟩
theorem mw_297 : Cond.laysFinal "LifeList$Mentions" "LifeList$Mentions" "events" "[I" ∈ m_tb := m_tb_mem.mpr ⟨ck_1 (List.mem_of_getElem? (i := 61) rfl), rfl⟩
theorem mw_298 : Cond.laysFinal "LifeList$Mentions" "LifeList$Mentions" "years" "[I" ∈ m_tb := m_tb_mem.mpr ⟨ck_1 (List.mem_of_getElem? (i := 63) rfl), rfl⟩
theorem mw_299 : Cond.laysFinal "LifeList$Mentions" "LifeList$Mentions" "heights" "[I" ∈ m_tb := m_tb_mem.mpr ⟨ck_1 (List.mem_of_getElem? (i := 65) rfl), rfl⟩
theorem mw_300 : Cond.laysFinal "LifeList$Mentions" "LifeList$Mentions" "widths" "[I" ∈ m_tb := m_tb_mem.mpr ⟨ck_1 (List.mem_of_getElem? (i := 67) rfl), rfl⟩
theorem mw_301 : Cond.laysFinal "LifeList$Mentions" "LifeList$Mentions" "units" "[I" ∈ m_tb := m_tb_mem.mpr ⟨ck_1 (List.mem_of_getElem? (i := 69) rfl), rfl⟩
theorem mw_302 : Cond.laysFinal "LifeList$Mentions" "LifeList$Mentions" "isFramed" "[Z" ∈ m_tb := m_tb_mem.mpr ⟨ck_1 (List.mem_of_getElem? (i := 71) rfl), rfl⟩
theorem mw_303 : Cond.laysFinal "LifeList$Mentions" "LifeList$Mentions" "words" "[I" ∈ m_tb := m_tb_mem.mpr ⟨ck_1 (List.mem_of_getElem? (i := 73) rfl), rfl⟩
theorem mw_304 : Cond.laysFinal "LifeList$Mentions" "LifeList$Mentions" "holders" "[I" ∈ m_tb := m_tb_mem.mpr ⟨ck_1 (List.mem_of_getElem? (i := 75) rfl), rfl⟩
theorem mw_305 : Cond.lays "LifeList$Mentions" "LifeList$Mentions" "count" "I" ∈ m_tb := m_tb_mem.mpr ⟨ck_1 (List.mem_of_getElem? (i := 77) rfl), rfl⟩
theorem mw_306 : Cond.laysFinal "LifeList$Owners" "LifeList$Owners" "works" "[I" ∈ m_tb := m_tb_mem.mpr ⟨ck_0 (List.mem_of_getElem? (i := 112) rfl), rfl⟩
theorem mw_307 : Cond.laysFinal "LifeList$Owners" "LifeList$Owners" "holders" "[I" ∈ m_tb := m_tb_mem.mpr ⟨ck_0 (List.mem_of_getElem? (i := 114) rfl), rfl⟩
theorem mw_308 : Cond.laysFinal "LifeList$Owners" "LifeList$Owners" "mayFrom" "[I" ∈ m_tb := m_tb_mem.mpr ⟨ck_0 (List.mem_of_getElem? (i := 116) rfl), rfl⟩
theorem mw_309 : Cond.laysFinal "LifeList$Owners" "LifeList$Owners" "surelyFrom" "[I" ∈ m_tb := m_tb_mem.mpr ⟨ck_0 (List.mem_of_getElem? (i := 118) rfl), rfl⟩
theorem mw_310 : Cond.laysFinal "LifeList$Owners" "LifeList$Owners" "surelyTo" "[I" ∈ m_tb := m_tb_mem.mpr ⟨ck_0 (List.mem_of_getElem? (i := 120) rfl), rfl⟩
theorem mw_311 : Cond.laysFinal "LifeList$Owners" "LifeList$Owners" "mayTo" "[I" ∈ m_tb := m_tb_mem.mpr ⟨ck_0 (List.mem_of_getElem? (i := 122) rfl), rfl⟩
theorem mw_312 : Cond.lays "LifeList$Owners" "LifeList$Owners" "count" "I" ∈ m_tb := m_tb_mem.mpr ⟨ck_0 (List.mem_of_getElem? (i := 124) rfl), rfl⟩
theorem mw_313 : Cond.laysFinal "LifeList$Rules" "LifeList$Rules" "inForce" "[[I" ∈ m_tb := m_tb_mem.mpr ⟨ck_0 (List.mem_of_getElem? (i := 146) rfl), rfl⟩
theorem mw_314 : Cond.laysFinal "LifeList$Rules" "LifeList$Rules" "spelled" "[[I" ∈ m_tb := m_tb_mem.mpr ⟨ck_0 (List.mem_of_getElem? (i := 148) rfl), rfl⟩
theorem mw_315 : Cond.laysFinal "LifeList$Rules" "LifeList$Rules" "tape" "[C" ∈ m_tb := m_tb_mem.mpr ⟨ck_0 (List.mem_of_getElem? (i := 150) rfl), rfl⟩
theorem mw_316 : Cond.lays "LifeList$Rules" "LifeList$Rules" "length" "I" ∈ m_tb := m_tb_mem.mpr ⟨ck_0 (List.mem_of_getElem? (i := 152) rfl), rfl⟩
theorem mw_317 : Cond.lays "LifeList$Rules" "LifeList$Rules" "place" "I" ∈ m_tb := m_tb_mem.mpr ⟨ck_0 (List.mem_of_getElem? (i := 154) rfl), rfl⟩
theorem mw_318 : Cond.lays "LifeList$Rules" "LifeList$Rules" "fault" "I" ∈ m_tb := m_tb_mem.mpr ⟨ck_0 (List.mem_of_getElem? (i := 156) rfl), rfl⟩
theorem mw_319 : Cond.laysFinal "LifeList$Sheets" "LifeList$Sheets" "rows" "[[I" ∈ m_tb := m_tb_mem.mpr ⟨ck_1 (List.mem_of_getElem? (i := 194) rfl), rfl⟩
theorem mw_320 : Cond.laysFinal "LifeList$Sheets" "LifeList$Sheets" "laneOf" "[I" ∈ m_tb := m_tb_mem.mpr ⟨ck_1 (List.mem_of_getElem? (i := 196) rfl), rfl⟩
theorem mw_321 : Cond.laysFinal "LifeList$Sheets" "LifeList$Sheets" "lengths" "[I" ∈ m_tb := m_tb_mem.mpr ⟨ck_1 (List.mem_of_getElem? (i := 198) rfl), rfl⟩
theorem mw_322 : Cond.laysFinal "LifeList$Works" "LifeList$Works" "kinds" "[I" ∈ m_tb := m_tb_mem.mpr ⟨ck_0 (List.mem_of_getElem? (i := 67) rfl), rfl⟩
theorem mw_323 : Cond.laysFinal "LifeList$Works" "LifeList$Works" "ofs" "[I" ∈ m_tb := m_tb_mem.mpr ⟨ck_0 (List.mem_of_getElem? (i := 69) rfl), rfl⟩
theorem mw_324 : Cond.laysFinal "LifeList$Works" "LifeList$Works" "heights" "[I" ∈ m_tb := m_tb_mem.mpr ⟨ck_0 (List.mem_of_getElem? (i := 71) rfl), rfl⟩
theorem mw_325 : Cond.laysFinal "LifeList$Works" "LifeList$Works" "widths" "[I" ∈ m_tb := m_tb_mem.mpr ⟨ck_0 (List.mem_of_getElem? (i := 73) rfl), rfl⟩
theorem mw_326 : Cond.laysFinal "LifeList$Works" "LifeList$Works" "lows" "[I" ∈ m_tb := m_tb_mem.mpr ⟨ck_0 (List.mem_of_getElem? (i := 75) rfl), rfl⟩
theorem mw_327 : Cond.laysFinal "LifeList$Works" "LifeList$Works" "highs" "[I" ∈ m_tb := m_tb_mem.mpr ⟨ck_0 (List.mem_of_getElem? (i := 77) rfl), rfl⟩
theorem mw_328 : Cond.laysFinal "LifeList$Works" "LifeList$Works" "isTurned" "[Z" ∈ m_tb := m_tb_mem.mpr ⟨ck_0 (List.mem_of_getElem? (i := 79) rfl), rfl⟩
theorem mw_329 : Cond.laysFinal "LifeList$Works" "LifeList$Works" "titles" "[[I" ∈ m_tb := m_tb_mem.mpr ⟨ck_0 (List.mem_of_getElem? (i := 81) rfl), rfl⟩
theorem mw_330 : Cond.laysFinal "LifeList$Works" "LifeList$Works" "titleYears" "[[I" ∈ m_tb := m_tb_mem.mpr ⟨ck_0 (List.mem_of_getElem? (i := 83) rfl), rfl⟩
theorem mw_331 : Cond.laysFinal "LifeList$Works" "LifeList$Works" "titleCounts" "[I" ∈ m_tb := m_tb_mem.mpr ⟨ck_0 (List.mem_of_getElem? (i := 85) rfl), rfl⟩
theorem mw_332 : Cond.laysFinal "LifeList$Works" "LifeList$Works" "cutYears" "[I" ∈ m_tb := m_tb_mem.mpr ⟨ck_0 (List.mem_of_getElem? (i := 87) rfl), rfl⟩
theorem mw_333 : Cond.laysFinal "LifeList$Works" "LifeList$Works" "cutHeights" "[I" ∈ m_tb := m_tb_mem.mpr ⟨ck_0 (List.mem_of_getElem? (i := 89) rfl), rfl⟩
theorem mw_334 : Cond.laysFinal "LifeList$Works" "LifeList$Works" "cutWidths" "[I" ∈ m_tb := m_tb_mem.mpr ⟨ck_0 (List.mem_of_getElem? (i := 91) rfl), rfl⟩
theorem mw_335 : Cond.lays "LifeList$Works" "LifeList$Works" "count" "I" ∈ m_tb := m_tb_mem.mpr ⟨ck_0 (List.mem_of_getElem? (i := 93) rfl), rfl⟩
theorem mw_336 : Cond.laysFinal "LifeList$Years" "LifeList$Years" "works" "LLifeList$Works;" ∈ m_tb := m_tb_mem.mpr ⟨ck_0 (List.mem_of_getElem? (i := 237) rfl), rfl⟩
theorem mw_337 : Cond.laysFinal "LifeList$Years" "LifeList$Years" "committee" "LLifeList$Committee;" ∈ m_tb := m_tb_mem.mpr ⟨ck_0 (List.mem_of_getElem? (i := 239) rfl), rfl⟩
theorem mw_338 : Cond.laysFinal "LifeList$Years" "LifeList$Years" "befores" "[I" ∈ m_tb := m_tb_mem.mpr ⟨ck_1 (List.mem_of_getElem? (i := 1) rfl), rfl⟩
theorem mw_339 : Cond.laysFinal "LifeList$Years" "LifeList$Years" "behinds" "[I" ∈ m_tb := m_tb_mem.mpr ⟨ck_1 (List.mem_of_getElem? (i := 3) rfl), rfl⟩
theorem mw_340 : Cond.laysFinal "LifeList$Years" "LifeList$Years" "distances" "[I" ∈ m_tb := m_tb_mem.mpr ⟨ck_1 (List.mem_of_getElem? (i := 5) rfl), rfl⟩
theorem mw_341 : Cond.laysFinal "LifeList$Years" "LifeList$Years" "isUsed" "[Z" ∈ m_tb := m_tb_mem.mpr ⟨ck_1 (List.mem_of_getElem? (i := 7) rfl), rfl⟩
theorem mw_342 : Cond.lays "LifeList$Years" "LifeList$Years" "count" "I" ∈ m_tb := m_tb_mem.mpr ⟨ck_1 (List.mem_of_getElem? (i := 9) rfl), rfl⟩
theorem mw_343 : Cond.laysFinal "LifeList$Years" "LifeList$Years" "lows" "[I" ∈ m_tb := m_tb_mem.mpr ⟨ck_1 (List.mem_of_getElem? (i := 11) rfl), rfl⟩
theorem mw_344 : Cond.laysFinal "LifeList$Years" "LifeList$Years" "highs" "[I" ∈ m_tb := m_tb_mem.mpr ⟨ck_1 (List.mem_of_getElem? (i := 13) rfl), rfl⟩
theorem mw_345 : Cond.lays "LifeList$Years" "LifeList$Years" "isQuarrel" "Z" ∈ m_tb := m_tb_mem.mpr ⟨ck_1 (List.mem_of_getElem? (i := 15) rfl), rfl⟩
theorem mw_346 : Cond.laysFinal "LifeList$Years" "LifeList$Years" "counting" "[I" ∈ m_tb := m_tb_mem.mpr ⟨ck_1 (List.mem_of_getElem? (i := 17) rfl), rfl⟩
theorem mw_347 : Cond.lays "LifeList$Years" "LifeList$Years" "countingCount" "I" ∈ m_tb := m_tb_mem.mpr ⟨ck_1 (List.mem_of_getElem? (i := 19) rfl), rfl⟩
theorem mw_348 : Cond.laysFinal "LifeList$Years" "LifeList$Years" "isAside" "[Z" ∈ m_tb := m_tb_mem.mpr ⟨ck_1 (List.mem_of_getElem? (i := 21) rfl), rfl⟩
theorem mw_349 : Cond.laysFinal "LifeList$Years" "LifeList$Years" "chosen" "[I" ∈ m_tb := m_tb_mem.mpr ⟨ck_1 (List.mem_of_getElem? (i := 23) rfl), rfl⟩
theorem mw_350 : Cond.laysFinal "LifeList" "LifeList" "works" "LLifeList$Works;" ∈ m_tb := m_tb_mem.mpr ⟨ck_1 (List.mem_of_getElem? (i := 210) rfl), rfl⟩
theorem mw_351 : Cond.laysFinal "LifeList" "LifeList" "owners" "LLifeList$Owners;" ∈ m_tb := m_tb_mem.mpr ⟨ck_1 (List.mem_of_getElem? (i := 212) rfl), rfl⟩
theorem mw_352 : Cond.laysFinal "LifeList" "LifeList" "ruling" "LLifeList$Rules;" ∈ m_tb := m_tb_mem.mpr ⟨ck_1 (List.mem_of_getElem? (i := 214) rfl), rfl⟩
theorem mw_353 : Cond.laysFinal "LifeList" "LifeList" "committee" "LLifeList$Committee;" ∈ m_tb := m_tb_mem.mpr ⟨ck_1 (List.mem_of_getElem? (i := 216) rfl), rfl⟩
theorem mw_354 : Cond.laysFinal "LifeList" "LifeList" "years" "LLifeList$Years;" ∈ m_tb := m_tb_mem.mpr ⟨ck_1 (List.mem_of_getElem? (i := 218) rfl), rfl⟩
theorem mw_355 : Cond.laysFinal "LifeList" "LifeList" "sources" "LLifeList$Mentions;" ∈ m_tb := m_tb_mem.mpr ⟨ck_1 (List.mem_of_getElem? (i := 220) rfl), rfl⟩
theorem mw_356 : Cond.laysFinal "LifeList" "LifeList" "joins" "LLifeList$Joins;" ∈ m_tb := m_tb_mem.mpr ⟨ck_1 (List.mem_of_getElem? (i := 222) rfl), rfl⟩
theorem mw_357 : Cond.laysFinal "LifeList" "LifeList" "editions" "LLifeList$Editions;" ∈ m_tb := m_tb_mem.mpr ⟨ck_1 (List.mem_of_getElem? (i := 224) rfl), rfl⟩
theorem mw_358 : Cond.laysFinal "LifeList" "LifeList" "sheets" "LLifeList$Sheets;" ∈ m_tb := m_tb_mem.mpr ⟨ck_1 (List.mem_of_getElem? (i := 226) rfl), rfl⟩
theorem mw_359 : Cond.lays "LifeListModel" "LifeListModel" "works" "I" ∈ m_tb := m_tb_mem.mpr ⟨ck_4 (List.mem_of_getElem? (i := 220) rfl), rfl⟩
theorem mw_360 : Cond.laysFinal "LifeListModel" "LifeListModel" "kinds" "[I" ∈ m_tb := m_tb_mem.mpr ⟨ck_4 (List.mem_of_getElem? (i := 222) rfl), rfl⟩
theorem mw_361 : Cond.laysFinal "LifeListModel" "LifeListModel" "parents" "[I" ∈ m_tb := m_tb_mem.mpr ⟨ck_4 (List.mem_of_getElem? (i := 224) rfl), rfl⟩
theorem mw_362 : Cond.laysFinal "LifeListModel" "LifeListModel" "turns" "[Z" ∈ m_tb := m_tb_mem.mpr ⟨ck_4 (List.mem_of_getElem? (i := 226) rfl), rfl⟩
theorem mw_363 : Cond.laysFinal "LifeListModel" "LifeListModel" "heights" "[I" ∈ m_tb := m_tb_mem.mpr ⟨ck_4 (List.mem_of_getElem? (i := 228) rfl), rfl⟩
theorem mw_364 : Cond.laysFinal "LifeListModel" "LifeListModel" "widths" "[I" ∈ m_tb := m_tb_mem.mpr ⟨ck_4 (List.mem_of_getElem? (i := 230) rfl), rfl⟩
theorem mw_365 : Cond.laysFinal "LifeListModel" "LifeListModel" "lows" "[I" ∈ m_tb := m_tb_mem.mpr ⟨ck_4 (List.mem_of_getElem? (i := 232) rfl), rfl⟩
theorem mw_366 : Cond.laysFinal "LifeListModel" "LifeListModel" "highs" "[I" ∈ m_tb := m_tb_mem.mpr ⟨ck_4 (List.mem_of_getElem? (i := 234) rfl), rfl⟩
theorem mw_367 : Cond.laysFinal "LifeListModel" "LifeListModel" "titles" "[I" ∈ m_tb := m_tb_mem.mpr ⟨ck_4 (List.mem_of_getElem? (i := 236) rfl), rfl⟩
theorem mw_368 : Cond.laysFinal "LifeListModel" "LifeListModel" "titleYears" "[I" ∈ m_tb := m_tb_mem.mpr ⟨ck_4 (List.mem_of_getElem? (i := 238) rfl), rfl⟩
theorem mw_369 : Cond.laysFinal "LifeListModel" "LifeListModel" "titleMany" "[I" ∈ m_tb := m_tb_mem.mpr ⟨ck_5 (List.mem_of_getElem? (i := 0) rfl), rfl⟩
theorem mw_370 : Cond.laysFinal "LifeListModel" "LifeListModel" "cutYears" "[I" ∈ m_tb := m_tb_mem.mpr ⟨ck_5 (List.mem_of_getElem? (i := 2) rfl), rfl⟩
theorem mw_371 : Cond.laysFinal "LifeListModel" "LifeListModel" "cutHeights" "[I" ∈ m_tb := m_tb_mem.mpr ⟨ck_5 (List.mem_of_getElem? (i := 4) rfl), rfl⟩
theorem mw_372 : Cond.laysFinal "LifeListModel" "LifeListModel" "cutWidths" "[I" ∈ m_tb := m_tb_mem.mpr ⟨ck_5 (List.mem_of_getElem? (i := 6) rfl), rfl⟩
theorem mw_373 : Cond.lays "LifeListModel" "LifeListModel" "holdings" "I" ∈ m_tb := m_tb_mem.mpr ⟨ck_5 (List.mem_of_getElem? (i := 8) rfl), rfl⟩
theorem mw_374 : Cond.laysFinal "LifeListModel" "LifeListModel" "held" "[I" ∈ m_tb := m_tb_mem.mpr ⟨ck_5 (List.mem_of_getElem? (i := 10) rfl), rfl⟩
theorem mw_375 : Cond.lays "LifeListModel" "LifeListModel" "clues" "I" ∈ m_tb := m_tb_mem.mpr ⟨ck_5 (List.mem_of_getElem? (i := 12) rfl), rfl⟩
theorem mw_376 : Cond.laysFinal "LifeListModel" "LifeListModel" "before" "[I" ∈ m_tb := m_tb_mem.mpr ⟨ck_5 (List.mem_of_getElem? (i := 14) rfl), rfl⟩
theorem mw_377 : Cond.laysFinal "LifeListModel" "LifeListModel" "behind" "[I" ∈ m_tb := m_tb_mem.mpr ⟨ck_5 (List.mem_of_getElem? (i := 16) rfl), rfl⟩
theorem mw_378 : Cond.laysFinal "LifeListModel" "LifeListModel" "apart" "[I" ∈ m_tb := m_tb_mem.mpr ⟨ck_5 (List.mem_of_getElem? (i := 18) rfl), rfl⟩
theorem mw_379 : Cond.laysFinal "LifeListModel" "LifeListModel" "inUse" "[Z" ∈ m_tb := m_tb_mem.mpr ⟨ck_5 (List.mem_of_getElem? (i := 20) rfl), rfl⟩
theorem mw_380 : Cond.lays "LifeListModel" "LifeListModel" "counting" "I" ∈ m_tb := m_tb_mem.mpr ⟨ck_5 (List.mem_of_getElem? (i := 22) rfl), rfl⟩
theorem mw_381 : Cond.laysFinal "LifeListModel" "LifeListModel" "least" "[I" ∈ m_tb := m_tb_mem.mpr ⟨ck_5 (List.mem_of_getElem? (i := 24) rfl), rfl⟩
theorem mw_382 : Cond.laysFinal "LifeListModel" "LifeListModel" "most" "[I" ∈ m_tb := m_tb_mem.mpr ⟨ck_5 (List.mem_of_getElem? (i := 26) rfl), rfl⟩
theorem mw_383 : Cond.lays "LifeListModel" "LifeListModel" "quarrels" "Z" ∈ m_tb := m_tb_mem.mpr ⟨ck_5 (List.mem_of_getElem? (i := 28) rfl), rfl⟩
theorem mw_384 : Cond.lays "LifeListModel" "LifeListModel" "asideMany" "I" ∈ m_tb := m_tb_mem.mpr ⟨ck_5 (List.mem_of_getElem? (i := 30) rfl), rfl⟩
theorem mw_385 : Cond.laysFinal "LifeListModel" "LifeListModel" "asides" "[I" ∈ m_tb := m_tb_mem.mpr ⟨ck_5 (List.mem_of_getElem? (i := 32) rfl), rfl⟩
theorem mw_386 : Cond.lays "LifeListModel" "LifeListModel" "mentions" "I" ∈ m_tb := m_tb_mem.mpr ⟨ck_5 (List.mem_of_getElem? (i := 34) rfl), rfl⟩
theorem mw_387 : Cond.laysFinal "LifeListModel" "LifeListModel" "said" "[I" ∈ m_tb := m_tb_mem.mpr ⟨ck_5 (List.mem_of_getElem? (i := 36) rfl), rfl⟩
theorem mw_388 : Cond.lays "LifeListModel" "LifeListModel" "isFresh" "Z" ∈ m_tb := m_tb_mem.mpr ⟨ck_5 (List.mem_of_getElem? (i := 38) rfl), rfl⟩
theorem mw_389 : Cond.laysFinal "LifeListModel" "LifeListModel" "joinedTo" "[I" ∈ m_tb := m_tb_mem.mpr ⟨ck_5 (List.mem_of_getElem? (i := 40) rfl), rfl⟩
theorem mw_390 : Cond.laysFinal "LifeListModel" "LifeListModel" "isSure" "[Z" ∈ m_tb := m_tb_mem.mpr ⟨ck_5 (List.mem_of_getElem? (i := 42) rfl), rfl⟩
theorem mw_391 : Cond.laysFinal "LifeListModel" "LifeListModel" "sums" "[I" ∈ m_tb := m_tb_mem.mpr ⟨ck_5 (List.mem_of_getElem? (i := 44) rfl), rfl⟩
theorem mw_392 : Cond.laysFinal "LifeListModel" "LifeListModel" "list" "[I" ∈ m_tb := m_tb_mem.mpr ⟨ck_5 (List.mem_of_getElem? (i := 46) rfl), rfl⟩
theorem mw_393 : Cond.lays "LifeListModel" "LifeListModel" "listed" "I" ∈ m_tb := m_tb_mem.mpr ⟨ck_5 (List.mem_of_getElem? (i := 48) rfl), rfl⟩
theorem mw_394 : Cond.laysFinal "LifeListModel" "LifeListModel" "table" "[I" ∈ m_tb := m_tb_mem.mpr ⟨ck_5 (List.mem_of_getElem? (i := 50) rfl), rfl⟩
theorem mw_395 : Cond.laysFinal "LifeListModel" "LifeListModel" "sets" "[I" ∈ m_tb := m_tb_mem.mpr ⟨ck_5 (List.mem_of_getElem? (i := 52) rfl), rfl⟩
theorem mw_396 : Cond.laysFinal "LifeListModel" "LifeListModel" "setsThen" "[I" ∈ m_tb := m_tb_mem.mpr ⟨ck_5 (List.mem_of_getElem? (i := 54) rfl), rfl⟩
theorem mw_397 : Cond.laysFinal "LifeListModel" "LifeListModel" "tableKept" "[I" ∈ m_tb := m_tb_mem.mpr ⟨ck_5 (List.mem_of_getElem? (i := 56) rfl), rfl⟩
theorem mw_398 : Cond.lays "LifeListModel" "LifeListModel" "isJoined" "Z" ∈ m_tb := m_tb_mem.mpr ⟨ck_5 (List.mem_of_getElem? (i := 58) rfl), rfl⟩
theorem mw_399 : Cond.laysFinal "LifeListModel" "LifeListModel" "kin" "[I" ∈ m_tb := m_tb_mem.mpr ⟨ck_5 (List.mem_of_getElem? (i := 60) rfl), rfl⟩
theorem mw_400 : Cond.laysFinal "LifeListModel" "LifeListModel" "ruleMany" "[I" ∈ m_tb := m_tb_mem.mpr ⟨ck_5 (List.mem_of_getElem? (i := 62) rfl), rfl⟩
theorem mw_401 : Cond.laysFinal "LifeListModel" "LifeListModel" "ruleUp" "[I" ∈ m_tb := m_tb_mem.mpr ⟨ck_5 (List.mem_of_getElem? (i := 64) rfl), rfl⟩
theorem mw_402 : Cond.laysFinal "LifeListModel" "LifeListModel" "ruleDown" "[I" ∈ m_tb := m_tb_mem.mpr ⟨ck_5 (List.mem_of_getElem? (i := 66) rfl), rfl⟩
theorem mw_403 : Cond.laysFinal "LifeListModel" "LifeListModel" "readRules" "[I" ∈ m_tb := m_tb_mem.mpr ⟨ck_5 (List.mem_of_getElem? (i := 68) rfl), rfl⟩
theorem mw_404 : Cond.laysFinal "LifeListModel" "LifeListModel" "tape" "[I" ∈ m_tb := m_tb_mem.mpr ⟨ck_5 (List.mem_of_getElem? (i := 70) rfl), rfl⟩
theorem mw_405 : Cond.lays "LifeListModel" "LifeListModel" "taped" "I" ∈ m_tb := m_tb_mem.mpr ⟨ck_5 (List.mem_of_getElem? (i := 72) rfl), rfl⟩
theorem mw_406 : Cond.lays "LifeListModel" "LifeListModel" "at" "I" ∈ m_tb := m_tb_mem.mpr ⟨ck_5 (List.mem_of_getElem? (i := 74) rfl), rfl⟩
theorem mw_407 : Cond.lays "LifeListModel" "LifeListModel" "votes" "I" ∈ m_tb := m_tb_mem.mpr ⟨ck_5 (List.mem_of_getElem? (i := 76) rfl), rfl⟩
theorem mw_408 : Cond.laysFinal "LifeListModel" "LifeListModel" "cast" "[I" ∈ m_tb := m_tb_mem.mpr ⟨ck_5 (List.mem_of_getElem? (i := 78) rfl), rfl⟩
theorem mw_409 : Cond.lays "LifeListModel" "LifeListModel" "editions" "I" ∈ m_tb := m_tb_mem.mpr ⟨ck_5 (List.mem_of_getElem? (i := 80) rfl), rfl⟩
theorem mw_410 : Cond.laysFinal "LifeListModel" "LifeListModel" "given" "[I" ∈ m_tb := m_tb_mem.mpr ⟨ck_5 (List.mem_of_getElem? (i := 82) rfl), rfl⟩
theorem mw_411 : Cond.laysFinal "LifeListModel" "LifeListModel" "hasNumber" "[Z" ∈ m_tb := m_tb_mem.mpr ⟨ck_5 (List.mem_of_getElem? (i := 84) rfl), rfl⟩
theorem mw_412 : Cond.laysFinal "LifeListModel" "LifeListModel" "numbers" "[I" ∈ m_tb := m_tb_mem.mpr ⟨ck_5 (List.mem_of_getElem? (i := 86) rfl), rfl⟩
theorem mw_413 : Cond.laysFinal "LifeListModel" "LifeListModel" "letters" "[I" ∈ m_tb := m_tb_mem.mpr ⟨ck_5 (List.mem_of_getElem? (i := 88) rfl), rfl⟩
theorem mw_414 : Cond.laysFinal "LifeListModel" "LifeListModel" "order" "[I" ∈ m_tb := m_tb_mem.mpr ⟨ck_5 (List.mem_of_getElem? (i := 90) rfl), rfl⟩
theorem mw_415 : Cond.laysFinal "LifeListModel" "LifeListModel" "lanes" "[I" ∈ m_tb := m_tb_mem.mpr ⟨ck_5 (List.mem_of_getElem? (i := 92) rfl), rfl⟩
theorem mw_416 : Cond.laysFinal "LifeListModel" "LifeListModel" "sizes" "[I" ∈ m_tb := m_tb_mem.mpr ⟨ck_5 (List.mem_of_getElem? (i := 94) rfl), rfl⟩
theorem mw_417 : Cond.laysFinal "LifeListModel" "LifeListModel" "items" "[I" ∈ m_tb := m_tb_mem.mpr ⟨ck_5 (List.mem_of_getElem? (i := 96) rfl), rfl⟩
theorem mw_418 : Cond.instantiable "LifeList$Committee" 10 ∈ m_tb := m_tb_mem.mpr ⟨ck_0 (List.mem_of_getElem? (i := 161) rfl), rfl⟩
theorem mw_419 : Cond.initialized "LifeList$Committee" ∈ m_tb := m_tb_mem.mpr ⟨ck_0 (List.mem_of_getElem? (i := 6) rfl), rfl⟩
theorem mw_420 : Cond.instantiable "LifeList$Editions" 8 ∈ m_tb := m_tb_mem.mpr ⟨ck_1 (List.mem_of_getElem? (i := 147) rfl), rfl⟩
theorem mw_421 : Cond.initialized "LifeList$Editions" ∈ m_tb := m_tb_mem.mpr ⟨ck_0 (List.mem_of_getElem? (i := 11) rfl), rfl⟩
theorem mw_422 : Cond.instantiable "LifeList$Joins" 6 ∈ m_tb := m_tb_mem.mpr ⟨ck_1 (List.mem_of_getElem? (i := 81) rfl), rfl⟩
theorem mw_423 : Cond.initialized "LifeList$Joins" ∈ m_tb := m_tb_mem.mpr ⟨ck_0 (List.mem_of_getElem? (i := 9) rfl), rfl⟩
theorem mw_424 : Cond.instantiable "LifeList$Matching" 9 ∈ m_tb := m_tb_mem.mpr ⟨ck_1 (List.mem_of_getElem? (i := 87) rfl), rfl⟩
theorem mw_425 : Cond.initialized "LifeList$Matching" ∈ m_tb := m_tb_mem.mpr ⟨ck_0 (List.mem_of_getElem? (i := 10) rfl), rfl⟩
theorem mw_426 : Cond.instantiable "LifeList$Mentions" 14 ∈ m_tb := m_tb_mem.mpr ⟨ck_1 (List.mem_of_getElem? (i := 27) rfl), rfl⟩
theorem mw_427 : Cond.initialized "LifeList$Mentions" ∈ m_tb := m_tb_mem.mpr ⟨ck_0 (List.mem_of_getElem? (i := 8) rfl), rfl⟩
theorem mw_428 : Cond.instantiable "LifeList$Owners" 7 ∈ m_tb := m_tb_mem.mpr ⟨ck_0 (List.mem_of_getElem? (i := 99) rfl), rfl⟩
theorem mw_429 : Cond.initialized "LifeList$Owners" ∈ m_tb := m_tb_mem.mpr ⟨ck_0 (List.mem_of_getElem? (i := 3) rfl), rfl⟩
theorem mw_430 : Cond.instantiable "LifeList$Rules" 6 ∈ m_tb := m_tb_mem.mpr ⟨ck_0 (List.mem_of_getElem? (i := 128) rfl), rfl⟩
theorem mw_431 : Cond.initialized "LifeList$Rules" ∈ m_tb := m_tb_mem.mpr ⟨ck_0 (List.mem_of_getElem? (i := 4) rfl), rfl⟩
theorem mw_432 : Cond.instantiable "LifeList$Sheets" 3 ∈ m_tb := m_tb_mem.mpr ⟨ck_1 (List.mem_of_getElem? (i := 182) rfl), rfl⟩
theorem mw_433 : Cond.initialized "LifeList$Sheets" ∈ m_tb := m_tb_mem.mpr ⟨ck_0 (List.mem_of_getElem? (i := 13) rfl), rfl⟩
theorem mw_434 : Cond.instantiable "LifeList$Works" 14 ∈ m_tb := m_tb_mem.mpr ⟨ck_0 (List.mem_of_getElem? (i := 32) rfl), rfl⟩
theorem mw_435 : Cond.initialized "LifeList$Works" ∈ m_tb := m_tb_mem.mpr ⟨ck_0 (List.mem_of_getElem? (i := 2) rfl), rfl⟩
theorem mw_436 : Cond.instantiable "LifeList$Years" 14 ∈ m_tb := m_tb_mem.mpr ⟨ck_0 (List.mem_of_getElem? (i := 210) rfl), rfl⟩
theorem mw_437 : Cond.initialized "LifeList$Years" ∈ m_tb := m_tb_mem.mpr ⟨ck_0 (List.mem_of_getElem? (i := 7) rfl), rfl⟩
theorem mw_438 : Cond.instantiable "LifeList" 9 ∈ m_tb := m_tb_mem.mpr ⟨ck_0 (List.mem_of_getElem? (i := 24) rfl), rfl⟩
theorem mw_439 : Cond.initialized "LifeList" ∈ m_tb := m_tb_mem.mpr ⟨ck_0 (List.mem_of_getElem? (i := 1) rfl), rfl⟩
theorem mw_440 : Cond.instantiable "LifeListModel" 59 ∈ m_tb := m_tb_mem.mpr ⟨ck_4 (List.mem_of_getElem? (i := 157) rfl), rfl⟩
theorem mw_441 : Cond.initialized "LifeListModel" ∈ m_tb := m_tb_mem.mpr ⟨ck_0 (List.mem_of_getElem? (i := 14) rfl), rfl⟩
theorem mw_442 : Cond.arrayClass .int ∈ m_tb := m_tb_mem.mpr ⟨ck_0 (List.mem_of_getElem? (i := 96) rfl), rfl⟩
theorem mw_443 : Cond.arrayClass .boolean ∈ m_tb := m_tb_mem.mpr ⟨ck_0 (List.mem_of_getElem? (i := 97) rfl), rfl⟩
theorem mw_444 : Cond.arrayClass .long ∈ m_tb := m_tb_mem.mpr ⟨ck_1 (List.mem_of_getElem? (i := 125) rfl), rfl⟩
theorem mw_445 : Cond.arrayClass .char ∈ m_tb := m_tb_mem.mpr ⟨ck_0 (List.mem_of_getElem? (i := 159) rfl), rfl⟩
theorem mw_446 : Cond.methodLink "LifeList$Committee" 3 Lib.objectInit ∈ m_tb := m_tb_mem.mpr ⟨ck_0 (List.mem_of_getElem? (i := 165) rfl), rfl⟩
theorem mw_447 : Cond.instanceMethod Lib.objectInit ∈ m_tb := m_tb_mem.mpr ⟨ck_0 (List.mem_of_getElem? (i := 29) rfl), rfl⟩
theorem mw_448 : Cond.code Lib.objectInit ⟨#[0xb1]⟩ 1 none ∈ m_tb := m_tb_mem.mpr ⟨ck_0 (List.mem_of_getElem? (i := 30) rfl), rfl⟩
theorem mw_449 : Cond.methodLink "LifeList$Committee" 46 yX0_reckon ∈ m_tb := m_tb_mem.mpr ⟨ck_2 (List.mem_of_getElem? (i := 166) rfl), rfl⟩
theorem mw_450 : Cond.instanceMethod yX0_reckon ∈ m_tb := m_tb_mem.mpr ⟨ck_2 (List.mem_of_getElem? (i := 167) rfl), rfl⟩
theorem mw_451 : Cond.selects "LifeList$Committee" yX0_reckon yX0_reckon ∈ m_tb := m_tb_mem.mpr ⟨ck_2 (List.mem_of_getElem? (i := 168) rfl), rfl⟩
theorem mw_452 : Cond.methodLink "LifeList$Committee" 50 yJ7_fill_53178 ∈ m_tb := m_tb_mem.mpr ⟨ck_2 (List.mem_of_getElem? (i := 170) rfl), rfl⟩
theorem mw_453 : Cond.static yJ7_fill_53178 ∈ m_tb := m_tb_mem.mpr ⟨ck_1 (List.mem_of_getElem? (i := 153) rfl), rfl⟩
theorem mw_454 : Cond.methodLink "LifeList$Editions" 3 Lib.objectInit ∈ m_tb := m_tb_mem.mpr ⟨ck_1 (List.mem_of_getElem? (i := 151) rfl), rfl⟩
theorem mw_455 : Cond.methodLink "LifeList$Editions" 38 yJ7_fill_53178 ∈ m_tb := m_tb_mem.mpr ⟨ck_1 (List.mem_of_getElem? (i := 152) rfl), rfl⟩
theorem mw_456 : Cond.methodLink "LifeList$Editions" 44 yX1_sortThoseIn ∈ m_tb := m_tb_mem.mpr ⟨ck_4 (List.mem_of_getElem? (i := 97) rfl), rfl⟩
theorem mw_457 : Cond.instanceMethod yX1_sortThoseIn ∈ m_tb := m_tb_mem.mpr ⟨ck_4 (List.mem_of_getElem? (i := 99) rfl), rfl⟩
theorem mw_458 : Cond.methodLink "LifeList$Editions" 48 yX1_give ∈ m_tb := m_tb_mem.mpr ⟨ck_4 (List.mem_of_getElem? (i := 105) rfl), rfl⟩
theorem mw_459 : Cond.instanceMethod yX1_give ∈ m_tb := m_tb_mem.mpr ⟨ck_4 (List.mem_of_getElem? (i := 107) rfl), rfl⟩
theorem mw_460 : Cond.methodLink "LifeList$Editions" 62 yX1_middle ∈ m_tb := m_tb_mem.mpr ⟨ck_4 (List.mem_of_getElem? (i := 101) rfl), rfl⟩
theorem mw_461 : Cond.instanceMethod yX1_middle ∈ m_tb := m_tb_mem.mpr ⟨ck_4 (List.mem_of_getElem? (i := 103) rfl), rfl⟩
theorem mw_462 : Cond.methodLink "LifeList$Joins" 5 Lib.objectInit ∈ m_tb := m_tb_mem.mpr ⟨ck_1 (List.mem_of_getElem? (i := 85) rfl), rfl⟩
theorem mw_463 : Cond.instanceMethod yX3_init ∈ m_tb := m_tb_mem.mpr ⟨ck_1 (List.mem_of_getElem? (i := 89) rfl), rfl⟩
theorem mw_464 : Cond.methodLink "LifeList$Joins" 35 yX2_gather ∈ m_tb := m_tb_mem.mpr ⟨ck_2 (List.mem_of_getElem? (i := 226) rfl), rfl⟩
theorem mw_465 : Cond.instanceMethod yX2_gather ∈ m_tb := m_tb_mem.mpr ⟨ck_2 (List.mem_of_getElem? (i := 228) rfl), rfl⟩
theorem mw_466 : Cond.methodLink "LifeList$Joins" 53 yX2_weigh ∈ m_tb := m_tb_mem.mpr ⟨ck_2 (List.mem_of_getElem? (i := 232) rfl), rfl⟩
theorem mw_467 : Cond.instanceMethod yX2_weigh ∈ m_tb := m_tb_mem.mpr ⟨ck_2 (List.mem_of_getElem? (i := 234) rfl), rfl⟩
theorem mw_468 : Cond.methodLink "LifeList$Joins" 57 yX3_solve ∈ m_tb := m_tb_mem.mpr ⟨ck_2 (List.mem_of_getElem? (i := 237) rfl), rfl⟩
theorem mw_469 : Cond.instanceMethod yX3_solve ∈ m_tb := m_tb_mem.mpr ⟨ck_2 (List.mem_of_getElem? (i := 238) rfl), rfl⟩
theorem mw_470 : Cond.selects "LifeList$Matching" yX3_solve yX3_solve ∈ m_tb := m_tb_mem.mpr ⟨ck_2 (List.mem_of_getElem? (i := 239) rfl), rfl⟩
theorem mw_471 : Cond.methodLink "LifeList$Joins" 64 yX3_columnOf ∈ m_tb := m_tb_mem.mpr ⟨ck_3 (List.mem_of_getElem? (i := 22) rfl), rfl⟩
theorem mw_472 : Cond.instanceMethod yX3_columnOf ∈ m_tb := m_tb_mem.mpr ⟨ck_3 (List.mem_of_getElem? (i := 19) rfl), rfl⟩
theorem mw_473 : Cond.selects "LifeList$Matching" yX3_columnOf yX3_columnOf ∈ m_tb := m_tb_mem.mpr ⟨ck_3 (List.mem_of_getElem? (i := 20) rfl), rfl⟩
theorem mw_474 : Cond.methodLink "LifeList$Joins" 78 yX4_scoreFor ∈ m_tb := m_tb_mem.mpr ⟨ck_2 (List.mem_of_getElem? (i := 236) rfl), rfl⟩
theorem mw_475 : Cond.instanceMethod yX4_scoreFor ∈ m_tb := m_tb_mem.mpr ⟨ck_2 (List.mem_of_getElem? (i := 186) rfl), rfl⟩
theorem mw_476 : Cond.selects "LifeList$Mentions" yX4_scoreFor yX4_scoreFor ∈ m_tb := m_tb_mem.mpr ⟨ck_2 (List.mem_of_getElem? (i := 187) rfl), rfl⟩
theorem mw_477 : Cond.methodLink "LifeList$Joins" 82 yX2_seatOf ∈ m_tb := m_tb_mem.mpr ⟨ck_3 (List.mem_of_getElem? (i := 27) rfl), rfl⟩
theorem mw_478 : Cond.instanceMethod yX2_seatOf ∈ m_tb := m_tb_mem.mpr ⟨ck_3 (List.mem_of_getElem? (i := 28) rfl), rfl⟩
theorem mw_479 : Cond.selects "LifeList$Joins" yX2_seatOf yX2_seatOf ∈ m_tb := m_tb_mem.mpr ⟨ck_3 (List.mem_of_getElem? (i := 29) rfl), rfl⟩
theorem mw_480 : Cond.static yX10_isWithin ∈ m_tb := m_tb_mem.mpr ⟨ck_2 (List.mem_of_getElem? (i := 0) rfl), rfl⟩
theorem mw_481 : Cond.methodLink "LifeList$Joins" 89 yX2_join ∈ m_tb := m_tb_mem.mpr ⟨ck_3 (List.mem_of_getElem? (i := 58) rfl), rfl⟩
theorem mw_482 : Cond.instanceMethod yX2_join ∈ m_tb := m_tb_mem.mpr ⟨ck_2 (List.mem_of_getElem? (i := 223) rfl), rfl⟩
theorem mw_483 : Cond.selects "LifeList$Joins" yX2_join yX2_join ∈ m_tb := m_tb_mem.mpr ⟨ck_2 (List.mem_of_getElem? (i := 224) rfl), rfl⟩
theorem mw_484 : Cond.methodLink "LifeList$Joins" 92 yX2_isSure ∈ m_tb := m_tb_mem.mpr ⟨ck_3 (List.mem_of_getElem? (i := 59) rfl), rfl⟩
theorem mw_485 : Cond.instanceMethod yX2_isSure ∈ m_tb := m_tb_mem.mpr ⟨ck_3 (List.mem_of_getElem? (i := 37) rfl), rfl⟩
theorem mw_486 : Cond.selects "LifeList$Joins" yX2_isSure yX2_isSure ∈ m_tb := m_tb_mem.mpr ⟨ck_3 (List.mem_of_getElem? (i := 38) rfl), rfl⟩
theorem mw_487 : Cond.methodLink "LifeList$Matching" 7 Lib.objectInit ∈ m_tb := m_tb_mem.mpr ⟨ck_1 (List.mem_of_getElem? (i := 91) rfl), rfl⟩
theorem mw_488 : Cond.methodLink "LifeList$Matching" 39 yJ7_fill_d0a16 ∈ m_tb := m_tb_mem.mpr ⟨ck_3 (List.mem_of_getElem? (i := 1) rfl), rfl⟩
theorem mw_489 : Cond.static yJ7_fill_d0a16 ∈ m_tb := m_tb_mem.mpr ⟨ck_3 (List.mem_of_getElem? (i := 2) rfl), rfl⟩
theorem mw_490 : Cond.methodLink "LifeList$Matching" 45 yJ7_fill_53178 ∈ m_tb := m_tb_mem.mpr ⟨ck_3 (List.mem_of_getElem? (i := 4) rfl), rfl⟩
theorem mw_491 : Cond.methodLink "LifeList$Matching" 52 yX3_seat ∈ m_tb := m_tb_mem.mpr ⟨ck_3 (List.mem_of_getElem? (i := 5) rfl), rfl⟩
theorem mw_492 : Cond.instanceMethod yX3_seat ∈ m_tb := m_tb_mem.mpr ⟨ck_3 (List.mem_of_getElem? (i := 7) rfl), rfl⟩
theorem mw_493 : Cond.methodLink "LifeList$Matching" 56 yX3_columnOf ∈ m_tb := m_tb_mem.mpr ⟨ck_3 (List.mem_of_getElem? (i := 18) rfl), rfl⟩
theorem mw_494 : Cond.methodLink "LifeList$Matching" 65 yX3_reachNext ∈ m_tb := m_tb_mem.mpr ⟨ck_3 (List.mem_of_getElem? (i := 10) rfl), rfl⟩
theorem mw_495 : Cond.instanceMethod yX3_reachNext ∈ m_tb := m_tb_mem.mpr ⟨ck_3 (List.mem_of_getElem? (i := 12) rfl), rfl⟩
theorem mw_496 : Cond.methodLink "LifeList$Matching" 68 yX3_shiftPrices ∈ m_tb := m_tb_mem.mpr ⟨ck_3 (List.mem_of_getElem? (i := 14) rfl), rfl⟩
theorem mw_497 : Cond.instanceMethod yX3_shiftPrices ∈ m_tb := m_tb_mem.mpr ⟨ck_3 (List.mem_of_getElem? (i := 16) rfl), rfl⟩
theorem mw_498 : Cond.methodLink "LifeList$Mentions" 3 Lib.objectInit ∈ m_tb := m_tb_mem.mpr ⟨ck_1 (List.mem_of_getElem? (i := 31) rfl), rfl⟩
theorem mw_499 : Cond.methodLink "LifeList$Mentions" 70 yX4_isSizeFit ∈ m_tb := m_tb_mem.mpr ⟨ck_2 (List.mem_of_getElem? (i := 189) rfl), rfl⟩
theorem mw_500 : Cond.instanceMethod yX4_isSizeFit ∈ m_tb := m_tb_mem.mpr ⟨ck_2 (List.mem_of_getElem? (i := 191) rfl), rfl⟩
theorem mw_501 : Cond.methodLink "LifeList$Mentions" 74 yX8_titleIn ∈ m_tb := m_tb_mem.mpr ⟨ck_2 (List.mem_of_getElem? (i := 201) rfl), rfl⟩
theorem mw_502 : Cond.instanceMethod yX8_titleIn ∈ m_tb := m_tb_mem.mpr ⟨ck_2 (List.mem_of_getElem? (i := 60) rfl), rfl⟩
theorem mw_503 : Cond.selects "LifeList$Works" yX8_titleIn yX8_titleIn ∈ m_tb := m_tb_mem.mpr ⟨ck_2 (List.mem_of_getElem? (i := 61) rfl), rfl⟩
theorem mw_504 : Cond.methodLink "LifeList$Mentions" 80 yJ6_bitCount_0f7a4 ∈ m_tb := m_tb_mem.mpr ⟨ck_2 (List.mem_of_getElem? (i := 202) rfl), rfl⟩
theorem mw_505 : Cond.static yJ6_bitCount_0f7a4 ∈ m_tb := m_tb_mem.mpr ⟨ck_2 (List.mem_of_getElem? (i := 203) rfl), rfl⟩
theorem mw_506 : Cond.methodLink "LifeList$Mentions" 86 yX5_theOwner ∈ m_tb := m_tb_mem.mpr ⟨ck_2 (List.mem_of_getElem? (i := 208) rfl), rfl⟩
theorem mw_507 : Cond.instanceMethod yX5_theOwner ∈ m_tb := m_tb_mem.mpr ⟨ck_2 (List.mem_of_getElem? (i := 99) rfl), rfl⟩
theorem mw_508 : Cond.selects "LifeList$Owners" yX5_theOwner yX5_theOwner ∈ m_tb := m_tb_mem.mpr ⟨ck_2 (List.mem_of_getElem? (i := 100) rfl), rfl⟩
theorem mw_509 : Cond.methodLink "LifeList$Mentions" 92 yX4_scoreFor ∈ m_tb := m_tb_mem.mpr ⟨ck_2 (List.mem_of_getElem? (i := 217) rfl), rfl⟩
theorem mw_510 : Cond.methodLink "LifeList$Mentions" 95 yX4_countFits ∈ m_tb := m_tb_mem.mpr ⟨ck_3 (List.mem_of_getElem? (i := 53) rfl), rfl⟩
theorem mw_511 : Cond.instanceMethod yX4_countFits ∈ m_tb := m_tb_mem.mpr ⟨ck_2 (List.mem_of_getElem? (i := 214) rfl), rfl⟩
theorem mw_512 : Cond.selects "LifeList$Mentions" yX4_countFits yX4_countFits ∈ m_tb := m_tb_mem.mpr ⟨ck_2 (List.mem_of_getElem? (i := 215) rfl), rfl⟩
theorem mw_513 : Cond.methodLink "LifeList$Mentions" 98 yX8_heightIn ∈ m_tb := m_tb_mem.mpr ⟨ck_2 (List.mem_of_getElem? (i := 193) rfl), rfl⟩
theorem mw_514 : Cond.instanceMethod yX8_heightIn ∈ m_tb := m_tb_mem.mpr ⟨ck_2 (List.mem_of_getElem? (i := 64) rfl), rfl⟩
theorem mw_515 : Cond.selects "LifeList$Works" yX8_heightIn yX8_heightIn ∈ m_tb := m_tb_mem.mpr ⟨ck_2 (List.mem_of_getElem? (i := 65) rfl), rfl⟩
theorem mw_516 : Cond.methodLink "LifeList$Mentions" 101 yX8_widthIn ∈ m_tb := m_tb_mem.mpr ⟨ck_2 (List.mem_of_getElem? (i := 194) rfl), rfl⟩
theorem mw_517 : Cond.instanceMethod yX8_widthIn ∈ m_tb := m_tb_mem.mpr ⟨ck_2 (List.mem_of_getElem? (i := 68) rfl), rfl⟩
theorem mw_518 : Cond.selects "LifeList$Works" yX8_widthIn yX8_widthIn ∈ m_tb := m_tb_mem.mpr ⟨ck_2 (List.mem_of_getElem? (i := 69) rfl), rfl⟩
theorem mw_519 : Cond.methodLink "LifeList$Mentions" 104 yX4_areSidesFit ∈ m_tb := m_tb_mem.mpr ⟨ck_2 (List.mem_of_getElem? (i := 195) rfl), rfl⟩
theorem mw_520 : Cond.instanceMethod yX4_areSidesFit ∈ m_tb := m_tb_mem.mpr ⟨ck_2 (List.mem_of_getElem? (i := 197) rfl), rfl⟩
theorem mw_521 : Cond.methodLink "LifeList$Mentions" 108 Lib.Math.min.name ∈ m_tb := m_tb_mem.mpr ⟨ck_2 (List.mem_of_getElem? (i := 199) rfl), rfl⟩
theorem mw_522 : Cond.static Lib.Math.min.name ∈ m_tb := m_tb_mem.mpr ⟨ck_2 (List.mem_of_getElem? (i := 127) rfl), rfl⟩
theorem mw_523 : Cond.initialized "java/lang/Math" ∈ m_tb := m_tb_mem.mpr ⟨ck_0 (List.mem_of_getElem? (i := 15) rfl), rfl⟩
theorem mw_524 : Cond.code Lib.Math.min.name Lib.Math.min.code 2 (some .int) ∈ m_tb := m_tb_mem.mpr ⟨ck_2 (List.mem_of_getElem? (i := 128) rfl), rfl⟩
theorem mw_525 : Cond.methodLink "LifeList$Mentions" 113 Lib.Math.max.name ∈ m_tb := m_tb_mem.mpr ⟨ck_2 (List.mem_of_getElem? (i := 200) rfl), rfl⟩
theorem mw_526 : Cond.static Lib.Math.max.name ∈ m_tb := m_tb_mem.mpr ⟨ck_2 (List.mem_of_getElem? (i := 124) rfl), rfl⟩
theorem mw_527 : Cond.code Lib.Math.max.name Lib.Math.max.code 2 (some .int) ∈ m_tb := m_tb_mem.mpr ⟨ck_2 (List.mem_of_getElem? (i := 125) rfl), rfl⟩
theorem mw_528 : Cond.methodLink "LifeList$Owners" 3 Lib.objectInit ∈ m_tb := m_tb_mem.mpr ⟨ck_0 (List.mem_of_getElem? (i := 103) rfl), rfl⟩
theorem mw_529 : Cond.methodLink "LifeList$Owners" 38 yX5_areTwoAtOnce ∈ m_tb := m_tb_mem.mpr ⟨ck_2 (List.mem_of_getElem? (i := 119) rfl), rfl⟩
theorem mw_530 : Cond.instanceMethod yX5_areTwoAtOnce ∈ m_tb := m_tb_mem.mpr ⟨ck_2 (List.mem_of_getElem? (i := 121) rfl), rfl⟩
theorem mw_531 : Cond.methodLink "LifeList$Owners" 42 Lib.Math.max.name ∈ m_tb := m_tb_mem.mpr ⟨ck_2 (List.mem_of_getElem? (i := 123) rfl), rfl⟩
theorem mw_532 : Cond.methodLink "LifeList$Owners" 48 Lib.Math.min.name ∈ m_tb := m_tb_mem.mpr ⟨ck_2 (List.mem_of_getElem? (i := 126) rfl), rfl⟩
theorem mw_533 : Cond.methodLink "LifeList$Owners" 51 yX5_whoMay ∈ m_tb := m_tb_mem.mpr ⟨ck_2 (List.mem_of_getElem? (i := 137) rfl), rfl⟩
theorem mw_534 : Cond.instanceMethod yX5_whoMay ∈ m_tb := m_tb_mem.mpr ⟨ck_2 (List.mem_of_getElem? (i := 108) rfl), rfl⟩
theorem mw_535 : Cond.selects "LifeList$Owners" yX5_whoMay yX5_whoMay ∈ m_tb := m_tb_mem.mpr ⟨ck_2 (List.mem_of_getElem? (i := 109) rfl), rfl⟩
theorem mw_536 : Cond.methodLink "LifeList$Rules" 3 Lib.objectInit ∈ m_tb := m_tb_mem.mpr ⟨ck_0 (List.mem_of_getElem? (i := 132) rfl), rfl⟩
theorem mw_537 : Cond.methodLink "LifeList$Rules" 27 arraycopyName ∈ m_tb := m_tb_mem.mpr ⟨ck_0 (List.mem_of_getElem? (i := 136) rfl), rfl⟩
theorem mw_538 : Cond.native arraycopyName ∈ m_tb := m_tb_mem.mpr ⟨ck_0 (List.mem_of_getElem? (i := 138) rfl), rfl⟩
theorem mw_539 : Cond.static arraycopyName ∈ m_tb := m_tb_mem.mpr ⟨ck_0 (List.mem_of_getElem? (i := 137) rfl), rfl⟩
theorem mw_540 : Cond.initialized "java/lang/System" ∈ m_tb := m_tb_mem.mpr ⟨ck_0 (List.mem_of_getElem? (i := 5) rfl), rfl⟩
theorem mw_541 : Cond.methodLink "LifeList$Rules" 33 yX6_byteAt ∈ m_tb := m_tb_mem.mpr ⟨ck_3 (List.mem_of_getElem? (i := 138) rfl), rfl⟩
theorem mw_542 : Cond.static yX6_byteAt ∈ m_tb := m_tb_mem.mpr ⟨ck_3 (List.mem_of_getElem? (i := 139) rfl), rfl⟩
theorem mw_543 : Cond.methodLink "LifeList$Rules" 45 yJ6_bitCount_0f7a4 ∈ m_tb := m_tb_mem.mpr ⟨ck_4 (List.mem_of_getElem? (i := 51) rfl), rfl⟩
theorem mw_544 : Cond.methodLink "LifeList$Rules" 57 yX6_readClauses ∈ m_tb := m_tb_mem.mpr ⟨ck_3 (List.mem_of_getElem? (i := 154) rfl), rfl⟩
theorem mw_545 : Cond.instanceMethod yX6_readClauses ∈ m_tb := m_tb_mem.mpr ⟨ck_3 (List.mem_of_getElem? (i := 156) rfl), rfl⟩
theorem mw_546 : Cond.methodLink "LifeList$Rules" 61 yX6_enforce ∈ m_tb := m_tb_mem.mpr ⟨ck_4 (List.mem_of_getElem? (i := 26) rfl), rfl⟩
theorem mw_547 : Cond.instanceMethod yX6_enforce ∈ m_tb := m_tb_mem.mpr ⟨ck_4 (List.mem_of_getElem? (i := 28) rfl), rfl⟩
theorem mw_548 : Cond.methodLink "LifeList$Rules" 70 yX6_readClause ∈ m_tb := m_tb_mem.mpr ⟨ck_3 (List.mem_of_getElem? (i := 158) rfl), rfl⟩
theorem mw_549 : Cond.instanceMethod yX6_readClause ∈ m_tb := m_tb_mem.mpr ⟨ck_3 (List.mem_of_getElem? (i := 160) rfl), rfl⟩
theorem mw_550 : Cond.methodLink "LifeList$Rules" 73 yX6_skipBlanks ∈ m_tb := m_tb_mem.mpr ⟨ck_3 (List.mem_of_getElem? (i := 166) rfl), rfl⟩
theorem mw_551 : Cond.instanceMethod yX6_skipBlanks ∈ m_tb := m_tb_mem.mpr ⟨ck_3 (List.mem_of_getElem? (i := 168) rfl), rfl⟩
theorem mw_552 : Cond.methodLink "LifeList$Rules" 76 yX6_blame ∈ m_tb := m_tb_mem.mpr ⟨ck_4 (List.mem_of_getElem? (i := 13) rfl), rfl⟩
theorem mw_553 : Cond.instanceMethod yX6_blame ∈ m_tb := m_tb_mem.mpr ⟨ck_4 (List.mem_of_getElem? (i := 15) rfl), rfl⟩
theorem mw_554 : Cond.methodLink "LifeList$Rules" 80 yX6_readSign ∈ m_tb := m_tb_mem.mpr ⟨ck_4 (List.mem_of_getElem? (i := 22) rfl), rfl⟩
theorem mw_555 : Cond.instanceMethod yX6_readSign ∈ m_tb := m_tb_mem.mpr ⟨ck_4 (List.mem_of_getElem? (i := 24) rfl), rfl⟩
theorem mw_556 : Cond.methodLink "LifeList$Rules" 84 yX6_readKind ∈ m_tb := m_tb_mem.mpr ⟨ck_3 (List.mem_of_getElem? (i := 162) rfl), rfl⟩
theorem mw_557 : Cond.instanceMethod yX6_readKind ∈ m_tb := m_tb_mem.mpr ⟨ck_3 (List.mem_of_getElem? (i := 164) rfl), rfl⟩
theorem mw_558 : Cond.methodLink "LifeList$Rules" 87 yX6_readNumber ∈ m_tb := m_tb_mem.mpr ⟨ck_4 (List.mem_of_getElem? (i := 17) rfl), rfl⟩
theorem mw_559 : Cond.instanceMethod yX6_readNumber ∈ m_tb := m_tb_mem.mpr ⟨ck_4 (List.mem_of_getElem? (i := 19) rfl), rfl⟩
theorem mw_560 : Cond.methodLink "LifeList$Rules" 93 ⟨"java/lang/String", "indexOf", "(I)I"⟩ ∈ m_tb := m_tb_mem.mpr ⟨ck_3 (List.mem_of_getElem? (i := 171) rfl), rfl⟩
theorem mw_561 : Cond.methodLink "LifeList$Rules" 98 Lib.Math.min.name ∈ m_tb := m_tb_mem.mpr ⟨ck_4 (List.mem_of_getElem? (i := 21) rfl), rfl⟩
theorem mw_562 : Cond.methodLink "LifeList$Sheets" 3 Lib.objectInit ∈ m_tb := m_tb_mem.mpr ⟨ck_1 (List.mem_of_getElem? (i := 186) rfl), rfl⟩
theorem mw_563 : Cond.methodLink "LifeList$Sheets" 23 yJ7_fill_53178 ∈ m_tb := m_tb_mem.mpr ⟨ck_1 (List.mem_of_getElem? (i := 188) rfl), rfl⟩
theorem mw_564 : Cond.methodLink "LifeList$Works" 3 Lib.objectInit ∈ m_tb := m_tb_mem.mpr ⟨ck_0 (List.mem_of_getElem? (i := 36) rfl), rfl⟩
theorem mw_565 : Cond.methodLink "LifeList$Years" 3 Lib.objectInit ∈ m_tb := m_tb_mem.mpr ⟨ck_0 (List.mem_of_getElem? (i := 214) rfl), rfl⟩
theorem mw_566 : Cond.methodLink "LifeList$Years" 54 yX0_reckonAll ∈ m_tb := m_tb_mem.mpr ⟨ck_2 (List.mem_of_getElem? (i := 162) rfl), rfl⟩
theorem mw_567 : Cond.instanceMethod yX0_reckonAll ∈ m_tb := m_tb_mem.mpr ⟨ck_2 (List.mem_of_getElem? (i := 163) rfl), rfl⟩
theorem mw_568 : Cond.selects "LifeList$Committee" yX0_reckonAll yX0_reckonAll ∈ m_tb := m_tb_mem.mpr ⟨ck_2 (List.mem_of_getElem? (i := 164) rfl), rfl⟩
theorem mw_569 : Cond.methodLink "LifeList$Years" 62 yX9_isStruck ∈ m_tb := m_tb_mem.mpr ⟨ck_2 (List.mem_of_getElem? (i := 171) rfl), rfl⟩
theorem mw_570 : Cond.instanceMethod yX9_isStruck ∈ m_tb := m_tb_mem.mpr ⟨ck_2 (List.mem_of_getElem? (i := 173) rfl), rfl⟩
theorem mw_571 : Cond.methodLink "LifeList$Years" 68 arraycopyName ∈ m_tb := m_tb_mem.mpr ⟨ck_2 (List.mem_of_getElem? (i := 175) rfl), rfl⟩
theorem mw_572 : Cond.methodLink "LifeList$Years" 74 yX9_raiseLows ∈ m_tb := m_tb_mem.mpr ⟨ck_2 (List.mem_of_getElem? (i := 176) rfl), rfl⟩
theorem mw_573 : Cond.instanceMethod yX9_raiseLows ∈ m_tb := m_tb_mem.mpr ⟨ck_2 (List.mem_of_getElem? (i := 178) rfl), rfl⟩
theorem mw_574 : Cond.methodLink "LifeList$Years" 83 yX9_lowerHighs ∈ m_tb := m_tb_mem.mpr ⟨ck_2 (List.mem_of_getElem? (i := 180) rfl), rfl⟩
theorem mw_575 : Cond.instanceMethod yX9_lowerHighs ∈ m_tb := m_tb_mem.mpr ⟨ck_2 (List.mem_of_getElem? (i := 182) rfl), rfl⟩
theorem mw_576 : Cond.methodLink "LifeList$Years" 89 Lib.Math.min.name ∈ m_tb := m_tb_mem.mpr ⟨ck_2 (List.mem_of_getElem? (i := 184) rfl), rfl⟩
theorem mw_577 : Cond.methodLink "LifeList$Years" 95 yX9_chooseAsides ∈ m_tb := m_tb_mem.mpr ⟨ck_3 (List.mem_of_getElem? (i := 102) rfl), rfl⟩
theorem mw_578 : Cond.instanceMethod yX9_chooseAsides ∈ m_tb := m_tb_mem.mpr ⟨ck_3 (List.mem_of_getElem? (i := 104) rfl), rfl⟩
theorem mw_579 : Cond.methodLink "LifeList$Years" 98 yX9_isFreeWithout ∈ m_tb := m_tb_mem.mpr ⟨ck_3 (List.mem_of_getElem? (i := 106) rfl), rfl⟩
theorem mw_580 : Cond.instanceMethod yX9_isFreeWithout ∈ m_tb := m_tb_mem.mpr ⟨ck_3 (List.mem_of_getElem? (i := 108) rfl), rfl⟩
theorem mw_581 : Cond.methodLink "LifeList$Years" 101 yX9_chooseNext ∈ m_tb := m_tb_mem.mpr ⟨ck_3 (List.mem_of_getElem? (i := 118) rfl), rfl⟩
theorem mw_582 : Cond.instanceMethod yX9_chooseNext ∈ m_tb := m_tb_mem.mpr ⟨ck_3 (List.mem_of_getElem? (i := 120) rfl), rfl⟩
theorem mw_583 : Cond.methodLink "LifeList$Years" 104 yX9_putAside ∈ m_tb := m_tb_mem.mpr ⟨ck_3 (List.mem_of_getElem? (i := 110) rfl), rfl⟩
theorem mw_584 : Cond.instanceMethod yX9_putAside ∈ m_tb := m_tb_mem.mpr ⟨ck_3 (List.mem_of_getElem? (i := 112) rfl), rfl⟩
theorem mw_585 : Cond.methodLink "LifeList$Years" 108 yX9_asideAt ∈ m_tb := m_tb_mem.mpr ⟨ck_3 (List.mem_of_getElem? (i := 114) rfl), rfl⟩
theorem mw_586 : Cond.instanceMethod yX9_asideAt ∈ m_tb := m_tb_mem.mpr ⟨ck_3 (List.mem_of_getElem? (i := 115) rfl), rfl⟩
theorem mw_587 : Cond.selects "LifeList$Years" yX9_asideAt yX9_asideAt ∈ m_tb := m_tb_mem.mpr ⟨ck_3 (List.mem_of_getElem? (i := 116) rfl), rfl⟩
theorem mw_588 : Cond.methodLink "LifeList" 1 Lib.objectInit ∈ m_tb := m_tb_mem.mpr ⟨ck_0 (List.mem_of_getElem? (i := 28) rfl), rfl⟩
theorem mw_589 : Cond.instanceMethod yX8_init ∈ m_tb := m_tb_mem.mpr ⟨ck_0 (List.mem_of_getElem? (i := 34) rfl), rfl⟩
theorem mw_590 : Cond.instanceMethod yX5_init ∈ m_tb := m_tb_mem.mpr ⟨ck_0 (List.mem_of_getElem? (i := 101) rfl), rfl⟩
theorem mw_591 : Cond.methodLink "LifeList" 25 yX6_init ∈ m_tb := m_tb_mem.mpr ⟨ck_0 (List.mem_of_getElem? (i := 129) rfl), rfl⟩
theorem mw_592 : Cond.instanceMethod yX6_init ∈ m_tb := m_tb_mem.mpr ⟨ck_0 (List.mem_of_getElem? (i := 130) rfl), rfl⟩
theorem mw_593 : Cond.instanceMethod yX0_init ∈ m_tb := m_tb_mem.mpr ⟨ck_0 (List.mem_of_getElem? (i := 163) rfl), rfl⟩
theorem mw_594 : Cond.methodLink "LifeList" 39 yX9_init ∈ m_tb := m_tb_mem.mpr ⟨ck_0 (List.mem_of_getElem? (i := 211) rfl), rfl⟩
theorem mw_595 : Cond.instanceMethod yX9_init ∈ m_tb := m_tb_mem.mpr ⟨ck_0 (List.mem_of_getElem? (i := 212) rfl), rfl⟩
theorem mw_596 : Cond.methodLink "LifeList" 48 yX4_init ∈ m_tb := m_tb_mem.mpr ⟨ck_1 (List.mem_of_getElem? (i := 28) rfl), rfl⟩
theorem mw_597 : Cond.instanceMethod yX4_init ∈ m_tb := m_tb_mem.mpr ⟨ck_1 (List.mem_of_getElem? (i := 29) rfl), rfl⟩
theorem mw_598 : Cond.methodLink "LifeList" 57 yX2_init ∈ m_tb := m_tb_mem.mpr ⟨ck_1 (List.mem_of_getElem? (i := 82) rfl), rfl⟩
theorem mw_599 : Cond.instanceMethod yX2_init ∈ m_tb := m_tb_mem.mpr ⟨ck_1 (List.mem_of_getElem? (i := 83) rfl), rfl⟩
theorem mw_600 : Cond.methodLink "LifeList" 66 yX1_init ∈ m_tb := m_tb_mem.mpr ⟨ck_1 (List.mem_of_getElem? (i := 148) rfl), rfl⟩
theorem mw_601 : Cond.instanceMethod yX1_init ∈ m_tb := m_tb_mem.mpr ⟨ck_1 (List.mem_of_getElem? (i := 149) rfl), rfl⟩
theorem mw_602 : Cond.methodLink "LifeList" 75 yX7_init ∈ m_tb := m_tb_mem.mpr ⟨ck_1 (List.mem_of_getElem? (i := 183) rfl), rfl⟩
theorem mw_603 : Cond.instanceMethod yX7_init ∈ m_tb := m_tb_mem.mpr ⟨ck_1 (List.mem_of_getElem? (i := 184) rfl), rfl⟩
theorem mw_604 : Cond.methodLink "LifeList" 80 yX10_isToldWell ∈ m_tb := m_tb_mem.mpr ⟨ck_1 (List.mem_of_getElem? (i := 233) rfl), rfl⟩
theorem mw_605 : Cond.static yX10_isToldWell ∈ m_tb := m_tb_mem.mpr ⟨ck_1 (List.mem_of_getElem? (i := 234) rfl), rfl⟩
theorem mw_606 : Cond.methodLink "LifeList" 84 yX8_add ∈ m_tb := m_tb_mem.mpr ⟨ck_2 (List.mem_of_getElem? (i := 11) rfl), rfl⟩
theorem mw_607 : Cond.instanceMethod yX8_add ∈ m_tb := m_tb_mem.mpr ⟨ck_2 (List.mem_of_getElem? (i := 12) rfl), rfl⟩
theorem mw_608 : Cond.selects "LifeList$Works" yX8_add yX8_add ∈ m_tb := m_tb_mem.mpr ⟨ck_2 (List.mem_of_getElem? (i := 13) rfl), rfl⟩
theorem mw_609 : Cond.methodLink "LifeList" 88 yX8_has ∈ m_tb := m_tb_mem.mpr ⟨ck_2 (List.mem_of_getElem? (i := 19) rfl), rfl⟩
theorem mw_610 : Cond.instanceMethod yX8_has ∈ m_tb := m_tb_mem.mpr ⟨ck_2 (List.mem_of_getElem? (i := 20) rfl), rfl⟩
theorem mw_611 : Cond.selects "LifeList$Works" yX8_has yX8_has ∈ m_tb := m_tb_mem.mpr ⟨ck_2 (List.mem_of_getElem? (i := 21) rfl), rfl⟩
theorem mw_612 : Cond.methodLink "LifeList" 92 yX8_isPainted ∈ m_tb := m_tb_mem.mpr ⟨ck_2 (List.mem_of_getElem? (i := 23) rfl), rfl⟩
theorem mw_613 : Cond.instanceMethod yX8_isPainted ∈ m_tb := m_tb_mem.mpr ⟨ck_2 (List.mem_of_getElem? (i := 24) rfl), rfl⟩
theorem mw_614 : Cond.selects "LifeList$Works" yX8_isPainted yX8_isPainted ∈ m_tb := m_tb_mem.mpr ⟨ck_2 (List.mem_of_getElem? (i := 25) rfl), rfl⟩
theorem mw_615 : Cond.methodLink "LifeList" 99 yX10_isYear ∈ m_tb := m_tb_mem.mpr ⟨ck_2 (List.mem_of_getElem? (i := 8) rfl), rfl⟩
theorem mw_616 : Cond.static yX10_isYear ∈ m_tb := m_tb_mem.mpr ⟨ck_2 (List.mem_of_getElem? (i := 9) rfl), rfl⟩
theorem mw_617 : Cond.methodLink "LifeList" 102 yX10_isTitle ∈ m_tb := m_tb_mem.mpr ⟨ck_2 (List.mem_of_getElem? (i := 2) rfl), rfl⟩
theorem mw_618 : Cond.static yX10_isTitle ∈ m_tb := m_tb_mem.mpr ⟨ck_2 (List.mem_of_getElem? (i := 3) rfl), rfl⟩
theorem mw_619 : Cond.methodLink "LifeList" 105 yX8_addTitle ∈ m_tb := m_tb_mem.mpr ⟨ck_2 (List.mem_of_getElem? (i := 35) rfl), rfl⟩
theorem mw_620 : Cond.instanceMethod yX8_addTitle ∈ m_tb := m_tb_mem.mpr ⟨ck_2 (List.mem_of_getElem? (i := 36) rfl), rfl⟩
theorem mw_621 : Cond.selects "LifeList$Works" yX8_addTitle yX8_addTitle ∈ m_tb := m_tb_mem.mpr ⟨ck_2 (List.mem_of_getElem? (i := 37) rfl), rfl⟩
theorem mw_622 : Cond.methodLink "LifeList" 109 yX10_isSide ∈ m_tb := m_tb_mem.mpr ⟨ck_1 (List.mem_of_getElem? (i := 236) rfl), rfl⟩
theorem mw_623 : Cond.static yX10_isSide ∈ m_tb := m_tb_mem.mpr ⟨ck_1 (List.mem_of_getElem? (i := 237) rfl), rfl⟩
theorem mw_624 : Cond.methodLink "LifeList" 112 yX8_isOnPaper ∈ m_tb := m_tb_mem.mpr ⟨ck_2 (List.mem_of_getElem? (i := 43) rfl), rfl⟩
theorem mw_625 : Cond.instanceMethod yX8_isOnPaper ∈ m_tb := m_tb_mem.mpr ⟨ck_2 (List.mem_of_getElem? (i := 44) rfl), rfl⟩
theorem mw_626 : Cond.selects "LifeList$Works" yX8_isOnPaper yX8_isOnPaper ∈ m_tb := m_tb_mem.mpr ⟨ck_2 (List.mem_of_getElem? (i := 45) rfl), rfl⟩
theorem mw_627 : Cond.methodLink "LifeList" 115 yX8_trim ∈ m_tb := m_tb_mem.mpr ⟨ck_2 (List.mem_of_getElem? (i := 47) rfl), rfl⟩
theorem mw_628 : Cond.instanceMethod yX8_trim ∈ m_tb := m_tb_mem.mpr ⟨ck_2 (List.mem_of_getElem? (i := 48) rfl), rfl⟩
theorem mw_629 : Cond.selects "LifeList$Works" yX8_trim yX8_trim ∈ m_tb := m_tb_mem.mpr ⟨ck_2 (List.mem_of_getElem? (i := 49) rfl), rfl⟩
theorem mw_630 : Cond.methodLink "LifeList" 138 yX8_titleIn ∈ m_tb := m_tb_mem.mpr ⟨ck_2 (List.mem_of_getElem? (i := 59) rfl), rfl⟩
theorem mw_631 : Cond.methodLink "LifeList" 142 yX8_heightIn ∈ m_tb := m_tb_mem.mpr ⟨ck_2 (List.mem_of_getElem? (i := 63) rfl), rfl⟩
theorem mw_632 : Cond.methodLink "LifeList" 145 yX8_widthIn ∈ m_tb := m_tb_mem.mpr ⟨ck_2 (List.mem_of_getElem? (i := 67) rfl), rfl⟩
theorem mw_633 : Cond.methodLink "LifeList" 148 yX10_bit ∈ m_tb := m_tb_mem.mpr ⟨ck_2 (List.mem_of_getElem? (i := 75) rfl), rfl⟩
theorem mw_634 : Cond.static yX10_bit ∈ m_tb := m_tb_mem.mpr ⟨ck_2 (List.mem_of_getElem? (i := 76) rfl), rfl⟩
theorem mw_635 : Cond.methodLink "LifeList" 152 yX10_isHoldingWell ∈ m_tb := m_tb_mem.mpr ⟨ck_2 (List.mem_of_getElem? (i := 82) rfl), rfl⟩
theorem mw_636 : Cond.instanceMethod yX10_isHoldingWell ∈ m_tb := m_tb_mem.mpr ⟨ck_2 (List.mem_of_getElem? (i := 84) rfl), rfl⟩
theorem mw_637 : Cond.methodLink "LifeList" 156 yX5_add ∈ m_tb := m_tb_mem.mpr ⟨ck_2 (List.mem_of_getElem? (i := 86) rfl), rfl⟩
theorem mw_638 : Cond.instanceMethod yX5_add ∈ m_tb := m_tb_mem.mpr ⟨ck_2 (List.mem_of_getElem? (i := 87) rfl), rfl⟩
theorem mw_639 : Cond.selects "LifeList$Owners" yX5_add yX5_add ∈ m_tb := m_tb_mem.mpr ⟨ck_2 (List.mem_of_getElem? (i := 88) rfl), rfl⟩
theorem mw_640 : Cond.methodLink "LifeList" 163 yX5_theOwner ∈ m_tb := m_tb_mem.mpr ⟨ck_2 (List.mem_of_getElem? (i := 98) rfl), rfl⟩
theorem mw_641 : Cond.methodLink "LifeList" 166 yX5_whoMay ∈ m_tb := m_tb_mem.mpr ⟨ck_2 (List.mem_of_getElem? (i := 107) rfl), rfl⟩
theorem mw_642 : Cond.methodLink "LifeList" 169 yX5_firstTwoAtOnce ∈ m_tb := m_tb_mem.mpr ⟨ck_2 (List.mem_of_getElem? (i := 115) rfl), rfl⟩
theorem mw_643 : Cond.instanceMethod yX5_firstTwoAtOnce ∈ m_tb := m_tb_mem.mpr ⟨ck_2 (List.mem_of_getElem? (i := 116) rfl), rfl⟩
theorem mw_644 : Cond.selects "LifeList$Owners" yX5_firstTwoAtOnce yX5_firstTwoAtOnce ∈ m_tb := m_tb_mem.mpr ⟨ck_2 (List.mem_of_getElem? (i := 117) rfl), rfl⟩
theorem mw_645 : Cond.methodLink "LifeList" 173 yX5_firstGap ∈ m_tb := m_tb_mem.mpr ⟨ck_2 (List.mem_of_getElem? (i := 133) rfl), rfl⟩
theorem mw_646 : Cond.instanceMethod yX5_firstGap ∈ m_tb := m_tb_mem.mpr ⟨ck_2 (List.mem_of_getElem? (i := 134) rfl), rfl⟩
theorem mw_647 : Cond.selects "LifeList$Owners" yX5_firstGap yX5_firstGap ∈ m_tb := m_tb_mem.mpr ⟨ck_2 (List.mem_of_getElem? (i := 135) rfl), rfl⟩
theorem mw_648 : Cond.methodLink "LifeList" 176 yX10_isWithin ∈ m_tb := m_tb_mem.mpr ⟨ck_1 (List.mem_of_getElem? (i := 239) rfl), rfl⟩
theorem mw_649 : Cond.methodLink "LifeList" 180 yX10_isBits ∈ m_tb := m_tb_mem.mpr ⟨ck_2 (List.mem_of_getElem? (i := 5) rfl), rfl⟩
theorem mw_650 : Cond.static yX10_isBits ∈ m_tb := m_tb_mem.mpr ⟨ck_2 (List.mem_of_getElem? (i := 6) rfl), rfl⟩
theorem mw_651 : Cond.methodLink "LifeList" 184 yX4_add ∈ m_tb := m_tb_mem.mpr ⟨ck_2 (List.mem_of_getElem? (i := 142) rfl), rfl⟩
theorem mw_652 : Cond.instanceMethod yX4_add ∈ m_tb := m_tb_mem.mpr ⟨ck_2 (List.mem_of_getElem? (i := 143) rfl), rfl⟩
theorem mw_653 : Cond.selects "LifeList$Mentions" yX4_add yX4_add ∈ m_tb := m_tb_mem.mpr ⟨ck_2 (List.mem_of_getElem? (i := 144) rfl), rfl⟩
theorem mw_654 : Cond.methodLink "LifeList" 187 yX4_measure ∈ m_tb := m_tb_mem.mpr ⟨ck_2 (List.mem_of_getElem? (i := 146) rfl), rfl⟩
theorem mw_655 : Cond.instanceMethod yX4_measure ∈ m_tb := m_tb_mem.mpr ⟨ck_2 (List.mem_of_getElem? (i := 147) rfl), rfl⟩
theorem mw_656 : Cond.selects "LifeList$Mentions" yX4_measure yX4_measure ∈ m_tb := m_tb_mem.mpr ⟨ck_2 (List.mem_of_getElem? (i := 148) rfl), rfl⟩
theorem mw_657 : Cond.methodLink "LifeList" 191 yX4_has ∈ m_tb := m_tb_mem.mpr ⟨ck_2 (List.mem_of_getElem? (i := 154) rfl), rfl⟩
theorem mw_658 : Cond.instanceMethod yX4_has ∈ m_tb := m_tb_mem.mpr ⟨ck_2 (List.mem_of_getElem? (i := 155) rfl), rfl⟩
theorem mw_659 : Cond.selects "LifeList$Mentions" yX4_has yX4_has ∈ m_tb := m_tb_mem.mpr ⟨ck_2 (List.mem_of_getElem? (i := 156) rfl), rfl⟩
theorem mw_660 : Cond.methodLink "LifeList" 192 yX9_reckon ∈ m_tb := m_tb_mem.mpr ⟨ck_2 (List.mem_of_getElem? (i := 158) rfl), rfl⟩
theorem mw_661 : Cond.instanceMethod yX9_reckon ∈ m_tb := m_tb_mem.mpr ⟨ck_2 (List.mem_of_getElem? (i := 159) rfl), rfl⟩
theorem mw_662 : Cond.selects "LifeList$Years" yX9_reckon yX9_reckon ∈ m_tb := m_tb_mem.mpr ⟨ck_2 (List.mem_of_getElem? (i := 160) rfl), rfl⟩
theorem mw_663 : Cond.methodLink "LifeList" 195 yX4_scoreFor ∈ m_tb := m_tb_mem.mpr ⟨ck_2 (List.mem_of_getElem? (i := 185) rfl), rfl⟩
theorem mw_664 : Cond.methodLink "LifeList" 198 yX4_countFits ∈ m_tb := m_tb_mem.mpr ⟨ck_2 (List.mem_of_getElem? (i := 213) rfl), rfl⟩
theorem mw_665 : Cond.methodLink "LifeList" 204 yX2_join ∈ m_tb := m_tb_mem.mpr ⟨ck_2 (List.mem_of_getElem? (i := 222) rfl), rfl⟩
theorem mw_666 : Cond.methodLink "LifeList" 208 yX2_workFor ∈ m_tb := m_tb_mem.mpr ⟨ck_3 (List.mem_of_getElem? (i := 23) rfl), rfl⟩
theorem mw_667 : Cond.instanceMethod yX2_workFor ∈ m_tb := m_tb_mem.mpr ⟨ck_3 (List.mem_of_getElem? (i := 24) rfl), rfl⟩
theorem mw_668 : Cond.selects "LifeList$Joins" yX2_workFor yX2_workFor ∈ m_tb := m_tb_mem.mpr ⟨ck_3 (List.mem_of_getElem? (i := 25) rfl), rfl⟩
theorem mw_669 : Cond.methodLink "LifeList" 211 yX2_seatOf ∈ m_tb := m_tb_mem.mpr ⟨ck_3 (List.mem_of_getElem? (i := 35) rfl), rfl⟩
theorem mw_670 : Cond.methodLink "LifeList" 214 yX2_isSure ∈ m_tb := m_tb_mem.mpr ⟨ck_3 (List.mem_of_getElem? (i := 36) rfl), rfl⟩
theorem mw_671 : Cond.methodLink "LifeList" 220 yX4_countLost ∈ m_tb := m_tb_mem.mpr ⟨ck_3 (List.mem_of_getElem? (i := 49) rfl), rfl⟩
theorem mw_672 : Cond.instanceMethod yX4_countLost ∈ m_tb := m_tb_mem.mpr ⟨ck_3 (List.mem_of_getElem? (i := 50) rfl), rfl⟩
theorem mw_673 : Cond.selects "LifeList$Mentions" yX4_countLost yX4_countLost ∈ m_tb := m_tb_mem.mpr ⟨ck_3 (List.mem_of_getElem? (i := 51) rfl), rfl⟩
theorem mw_674 : Cond.methodLink "LifeList" 224 yX2_countJoined ∈ m_tb := m_tb_mem.mpr ⟨ck_3 (List.mem_of_getElem? (i := 54) rfl), rfl⟩
theorem mw_675 : Cond.instanceMethod yX2_countJoined ∈ m_tb := m_tb_mem.mpr ⟨ck_3 (List.mem_of_getElem? (i := 55) rfl), rfl⟩
theorem mw_676 : Cond.selects "LifeList$Joins" yX2_countJoined yX2_countJoined ∈ m_tb := m_tb_mem.mpr ⟨ck_3 (List.mem_of_getElem? (i := 56) rfl), rfl⟩
theorem mw_677 : Cond.methodLink "LifeList" 227 yX2_sureWorks ∈ m_tb := m_tb_mem.mpr ⟨ck_3 (List.mem_of_getElem? (i := 64) rfl), rfl⟩
theorem mw_678 : Cond.instanceMethod yX2_sureWorks ∈ m_tb := m_tb_mem.mpr ⟨ck_3 (List.mem_of_getElem? (i := 65) rfl), rfl⟩
theorem mw_679 : Cond.selects "LifeList$Joins" yX2_sureWorks yX2_sureWorks ∈ m_tb := m_tb_mem.mpr ⟨ck_3 (List.mem_of_getElem? (i := 66) rfl), rfl⟩
theorem mw_680 : Cond.methodLink "LifeList" 231 yJ13_bitCount_95d88 ∈ m_tb := m_tb_mem.mpr ⟨ck_3 (List.mem_of_getElem? (i := 68) rfl), rfl⟩
theorem mw_681 : Cond.static yJ13_bitCount_95d88 ∈ m_tb := m_tb_mem.mpr ⟨ck_3 (List.mem_of_getElem? (i := 69) rfl), rfl⟩
theorem mw_682 : Cond.methodLink "LifeList" 237 yX9_add ∈ m_tb := m_tb_mem.mpr ⟨ck_3 (List.mem_of_getElem? (i := 78) rfl), rfl⟩
theorem mw_683 : Cond.instanceMethod yX9_add ∈ m_tb := m_tb_mem.mpr ⟨ck_3 (List.mem_of_getElem? (i := 79) rfl), rfl⟩
theorem mw_684 : Cond.selects "LifeList$Years" yX9_add yX9_add ∈ m_tb := m_tb_mem.mpr ⟨ck_3 (List.mem_of_getElem? (i := 80) rfl), rfl⟩
theorem mw_685 : Cond.methodLink "LifeList" 249 yX9_findAsides ∈ m_tb := m_tb_mem.mpr ⟨ck_3 (List.mem_of_getElem? (i := 98) rfl), rfl⟩
theorem mw_686 : Cond.instanceMethod yX9_findAsides ∈ m_tb := m_tb_mem.mpr ⟨ck_3 (List.mem_of_getElem? (i := 99) rfl), rfl⟩
theorem mw_687 : Cond.selects "LifeList$Years" yX9_findAsides yX9_findAsides ∈ m_tb := m_tb_mem.mpr ⟨ck_3 (List.mem_of_getElem? (i := 100) rfl), rfl⟩
theorem mw_688 : Cond.methodLink "LifeList" 252 yX9_asideAt ∈ m_tb := m_tb_mem.mpr ⟨ck_3 (List.mem_of_getElem? (i := 126) rfl), rfl⟩
theorem mw_689 : Cond.methodLink "LifeList" 258 yX6_areTypable ∈ m_tb := m_tb_mem.mpr ⟨ck_3 (List.mem_of_getElem? (i := 135) rfl), rfl⟩
theorem mw_690 : Cond.static yX6_areTypable ∈ m_tb := m_tb_mem.mpr ⟨ck_3 (List.mem_of_getElem? (i := 136) rfl), rfl⟩
theorem mw_691 : Cond.methodLink "LifeList" 262 yX6_append ∈ m_tb := m_tb_mem.mpr ⟨ck_3 (List.mem_of_getElem? (i := 142) rfl), rfl⟩
theorem mw_692 : Cond.instanceMethod yX6_append ∈ m_tb := m_tb_mem.mpr ⟨ck_3 (List.mem_of_getElem? (i := 143) rfl), rfl⟩
theorem mw_693 : Cond.selects "LifeList$Rules" yX6_append yX6_append ∈ m_tb := m_tb_mem.mpr ⟨ck_3 (List.mem_of_getElem? (i := 144) rfl), rfl⟩
theorem mw_694 : Cond.methodLink "LifeList" 266 yX6_readTape ∈ m_tb := m_tb_mem.mpr ⟨ck_3 (List.mem_of_getElem? (i := 150) rfl), rfl⟩
theorem mw_695 : Cond.instanceMethod yX6_readTape ∈ m_tb := m_tb_mem.mpr ⟨ck_3 (List.mem_of_getElem? (i := 151) rfl), rfl⟩
theorem mw_696 : Cond.selects "LifeList$Rules" yX6_readTape yX6_readTape ∈ m_tb := m_tb_mem.mpr ⟨ck_3 (List.mem_of_getElem? (i := 152) rfl), rfl⟩
theorem mw_697 : Cond.methodLink "LifeList" 273 yX0_kinOfAny ∈ m_tb := m_tb_mem.mpr ⟨ck_4 (List.mem_of_getElem? (i := 43) rfl), rfl⟩
theorem mw_698 : Cond.instanceMethod yX0_kinOfAny ∈ m_tb := m_tb_mem.mpr ⟨ck_4 (List.mem_of_getElem? (i := 44) rfl), rfl⟩
theorem mw_699 : Cond.selects "LifeList$Committee" yX0_kinOfAny yX0_kinOfAny ∈ m_tb := m_tb_mem.mpr ⟨ck_4 (List.mem_of_getElem? (i := 45) rfl), rfl⟩
theorem mw_700 : Cond.methodLink "LifeList" 276 yX6_isPassed ∈ m_tb := m_tb_mem.mpr ⟨ck_4 (List.mem_of_getElem? (i := 47) rfl), rfl⟩
theorem mw_701 : Cond.instanceMethod yX6_isPassed ∈ m_tb := m_tb_mem.mpr ⟨ck_4 (List.mem_of_getElem? (i := 48) rfl), rfl⟩
theorem mw_702 : Cond.selects "LifeList$Rules" yX6_isPassed yX6_isPassed ∈ m_tb := m_tb_mem.mpr ⟨ck_4 (List.mem_of_getElem? (i := 49) rfl), rfl⟩
theorem mw_703 : Cond.methodLink "LifeList" 279 yX0_add ∈ m_tb := m_tb_mem.mpr ⟨ck_4 (List.mem_of_getElem? (i := 52) rfl), rfl⟩
theorem mw_704 : Cond.instanceMethod yX0_add ∈ m_tb := m_tb_mem.mpr ⟨ck_4 (List.mem_of_getElem? (i := 53) rfl), rfl⟩
theorem mw_705 : Cond.selects "LifeList$Committee" yX0_add yX0_add ∈ m_tb := m_tb_mem.mpr ⟨ck_4 (List.mem_of_getElem? (i := 54) rfl), rfl⟩
theorem mw_706 : Cond.methodLink "LifeList" 282 yX0_noteVoters ∈ m_tb := m_tb_mem.mpr ⟨ck_4 (List.mem_of_getElem? (i := 56) rfl), rfl⟩
theorem mw_707 : Cond.instanceMethod yX0_noteVoters ∈ m_tb := m_tb_mem.mpr ⟨ck_4 (List.mem_of_getElem? (i := 57) rfl), rfl⟩
theorem mw_708 : Cond.selects "LifeList$Committee" yX0_noteVoters yX0_noteVoters ∈ m_tb := m_tb_mem.mpr ⟨ck_4 (List.mem_of_getElem? (i := 58) rfl), rfl⟩
theorem mw_709 : Cond.methodLink "LifeList" 303 yX10_isAsOf ∈ m_tb := m_tb_mem.mpr ⟨ck_4 (List.mem_of_getElem? (i := 68) rfl), rfl⟩
theorem mw_710 : Cond.instanceMethod yX10_isAsOf ∈ m_tb := m_tb_mem.mpr ⟨ck_4 (List.mem_of_getElem? (i := 70) rfl), rfl⟩
theorem mw_711 : Cond.methodLink "LifeList" 306 yX0_reckon ∈ m_tb := m_tb_mem.mpr ⟨ck_4 (List.mem_of_getElem? (i := 72) rfl), rfl⟩
theorem mw_712 : Cond.methodLink "LifeList" 313 yX10_leansOnOneNotIn ∈ m_tb := m_tb_mem.mpr ⟨ck_4 (List.mem_of_getElem? (i := 77) rfl), rfl⟩
theorem mw_713 : Cond.instanceMethod yX10_leansOnOneNotIn ∈ m_tb := m_tb_mem.mpr ⟨ck_4 (List.mem_of_getElem? (i := 79) rfl), rfl⟩
theorem mw_714 : Cond.methodLink "LifeList" 316 yX8_isLeaning ∈ m_tb := m_tb_mem.mpr ⟨ck_4 (List.mem_of_getElem? (i := 81) rfl), rfl⟩
theorem mw_715 : Cond.instanceMethod yX8_isLeaning ∈ m_tb := m_tb_mem.mpr ⟨ck_4 (List.mem_of_getElem? (i := 82) rfl), rfl⟩
theorem mw_716 : Cond.selects "LifeList$Works" yX8_isLeaning yX8_isLeaning ∈ m_tb := m_tb_mem.mpr ⟨ck_4 (List.mem_of_getElem? (i := 83) rfl), rfl⟩
theorem mw_717 : Cond.methodLink "LifeList" 320 yX1_publish ∈ m_tb := m_tb_mem.mpr ⟨ck_4 (List.mem_of_getElem? (i := 93) rfl), rfl⟩
theorem mw_718 : Cond.instanceMethod yX1_publish ∈ m_tb := m_tb_mem.mpr ⟨ck_4 (List.mem_of_getElem? (i := 94) rfl), rfl⟩
theorem mw_719 : Cond.selects "LifeList$Editions" yX1_publish yX1_publish ∈ m_tb := m_tb_mem.mpr ⟨ck_4 (List.mem_of_getElem? (i := 95) rfl), rfl⟩
theorem mw_720 : Cond.methodLink "LifeList" 323 yX1_numberOf ∈ m_tb := m_tb_mem.mpr ⟨ck_4 (List.mem_of_getElem? (i := 113) rfl), rfl⟩
theorem mw_721 : Cond.instanceMethod yX1_numberOf ∈ m_tb := m_tb_mem.mpr ⟨ck_4 (List.mem_of_getElem? (i := 114) rfl), rfl⟩
theorem mw_722 : Cond.selects "LifeList$Editions" yX1_numberOf yX1_numberOf ∈ m_tb := m_tb_mem.mpr ⟨ck_4 (List.mem_of_getElem? (i := 115) rfl), rfl⟩
theorem mw_723 : Cond.methodLink "LifeList" 327 yX10_countStates ∈ m_tb := m_tb_mem.mpr ⟨ck_4 (List.mem_of_getElem? (i := 121) rfl), rfl⟩
theorem mw_724 : Cond.instanceMethod yX10_countStates ∈ m_tb := m_tb_mem.mpr ⟨ck_4 (List.mem_of_getElem? (i := 123) rfl), rfl⟩
theorem mw_725 : Cond.methodLink "LifeList" 330 yX10_isSheet ∈ m_tb := m_tb_mem.mpr ⟨ck_4 (List.mem_of_getElem? (i := 130) rfl), rfl⟩
theorem mw_726 : Cond.static yX10_isSheet ∈ m_tb := m_tb_mem.mpr ⟨ck_4 (List.mem_of_getElem? (i := 131) rfl), rfl⟩
theorem mw_727 : Cond.methodLink "LifeList" 333 yX10_isLane ∈ m_tb := m_tb_mem.mpr ⟨ck_4 (List.mem_of_getElem? (i := 133) rfl), rfl⟩
theorem mw_728 : Cond.static yX10_isLane ∈ m_tb := m_tb_mem.mpr ⟨ck_4 (List.mem_of_getElem? (i := 134) rfl), rfl⟩
theorem mw_729 : Cond.methodLink "LifeList" 336 yX7_lay ∈ m_tb := m_tb_mem.mpr ⟨ck_4 (List.mem_of_getElem? (i := 136) rfl), rfl⟩
theorem mw_730 : Cond.instanceMethod yX7_lay ∈ m_tb := m_tb_mem.mpr ⟨ck_4 (List.mem_of_getElem? (i := 137) rfl), rfl⟩
theorem mw_731 : Cond.selects "LifeList$Sheets" yX7_lay yX7_lay ∈ m_tb := m_tb_mem.mpr ⟨ck_4 (List.mem_of_getElem? (i := 138) rfl), rfl⟩
theorem mw_732 : Cond.methodLink "LifeList" 342 yX7_refuse ∈ m_tb := m_tb_mem.mpr ⟨ck_4 (List.mem_of_getElem? (i := 148) rfl), rfl⟩
theorem mw_733 : Cond.instanceMethod yX7_refuse ∈ m_tb := m_tb_mem.mpr ⟨ck_4 (List.mem_of_getElem? (i := 149) rfl), rfl⟩
theorem mw_734 : Cond.selects "LifeList$Sheets" yX7_refuse yX7_refuse ∈ m_tb := m_tb_mem.mpr ⟨ck_4 (List.mem_of_getElem? (i := 150) rfl), rfl⟩
theorem mw_735 : Cond.methodLink "LifeList" 348 yX0_reckonAll ∈ m_tb := m_tb_mem.mpr ⟨ck_4 (List.mem_of_getElem? (i := 125) rfl), rfl⟩
theorem mw_736 : Cond.methodLink "LifeListModel" 7 yX11_in ∈ m_tb := m_tb_mem.mpr ⟨ck_5 (List.mem_of_getElem? (i := 111) rfl), rfl⟩
theorem mw_737 : Cond.static yX11_in ∈ m_tb := m_tb_mem.mpr ⟨ck_5 (List.mem_of_getElem? (i := 112) rfl), rfl⟩
theorem mw_738 : Cond.methodLink "LifeListModel" 11 Lib.objectInit ∈ m_tb := m_tb_mem.mpr ⟨ck_4 (List.mem_of_getElem? (i := 161) rfl), rfl⟩
theorem mw_739 : Cond.methodLink "LifeListModel" 162 yX11_isSides ∈ m_tb := m_tb_mem.mpr ⟨ck_5 (List.mem_of_getElem? (i := 106) rfl), rfl⟩
theorem mw_740 : Cond.static yX11_isSides ∈ m_tb := m_tb_mem.mpr ⟨ck_5 (List.mem_of_getElem? (i := 107) rfl), rfl⟩
theorem mw_741 : Cond.methodLink "LifeListModel" 168 yX11_isYear ∈ m_tb := m_tb_mem.mpr ⟨ck_5 (List.mem_of_getElem? (i := 115) rfl), rfl⟩
theorem mw_742 : Cond.static yX11_isYear ∈ m_tb := m_tb_mem.mpr ⟨ck_5 (List.mem_of_getElem? (i := 116) rfl), rfl⟩
theorem mw_743 : Cond.methodLink "LifeListModel" 176 yX11_isTold ∈ m_tb := m_tb_mem.mpr ⟨ck_5 (List.mem_of_getElem? (i := 103) rfl), rfl⟩
theorem mw_744 : Cond.static yX11_isTold ∈ m_tb := m_tb_mem.mpr ⟨ck_5 (List.mem_of_getElem? (i := 104) rfl), rfl⟩
theorem mw_745 : Cond.methodLink "LifeListModel" 180 yX11_add ∈ m_tb := m_tb_mem.mpr ⟨ck_5 (List.mem_of_getElem? (i := 120) rfl), rfl⟩
theorem mw_746 : Cond.instanceMethod yX11_add ∈ m_tb := m_tb_mem.mpr ⟨ck_5 (List.mem_of_getElem? (i := 122) rfl), rfl⟩
theorem mw_747 : Cond.methodLink "LifeListModel" 184 yX11_isWork ∈ m_tb := m_tb_mem.mpr ⟨ck_5 (List.mem_of_getElem? (i := 128) rfl), rfl⟩
theorem mw_748 : Cond.instanceMethod yX11_isWork ∈ m_tb := m_tb_mem.mpr ⟨ck_5 (List.mem_of_getElem? (i := 130) rfl), rfl⟩
theorem mw_749 : Cond.methodLink "LifeListModel" 187 yX11_isCut ∈ m_tb := m_tb_mem.mpr ⟨ck_5 (List.mem_of_getElem? (i := 161) rfl), rfl⟩
theorem mw_750 : Cond.instanceMethod yX11_isCut ∈ m_tb := m_tb_mem.mpr ⟨ck_5 (List.mem_of_getElem? (i := 163) rfl), rfl⟩
theorem mw_751 : Cond.methodLink "LifeListModel" 192 yX11_titleOf ∈ m_tb := m_tb_mem.mpr ⟨ck_5 (List.mem_of_getElem? (i := 153) rfl), rfl⟩
theorem mw_752 : Cond.instanceMethod yX11_titleOf ∈ m_tb := m_tb_mem.mpr ⟨ck_5 (List.mem_of_getElem? (i := 155) rfl), rfl⟩
theorem mw_753 : Cond.methodLink "LifeListModel" 196 yX11_heightOf ∈ m_tb := m_tb_mem.mpr ⟨ck_5 (List.mem_of_getElem? (i := 157) rfl), rfl⟩
theorem mw_754 : Cond.instanceMethod yX11_heightOf ∈ m_tb := m_tb_mem.mpr ⟨ck_5 (List.mem_of_getElem? (i := 159) rfl), rfl⟩
theorem mw_755 : Cond.methodLink "LifeListModel" 199 yX11_widthOf ∈ m_tb := m_tb_mem.mpr ⟨ck_5 (List.mem_of_getElem? (i := 165) rfl), rfl⟩
theorem mw_756 : Cond.instanceMethod yX11_widthOf ∈ m_tb := m_tb_mem.mpr ⟨ck_5 (List.mem_of_getElem? (i := 167) rfl), rfl⟩
theorem mw_757 : Cond.methodLink "LifeListModel" 207 yX11_isHolding ∈ m_tb := m_tb_mem.mpr ⟨ck_5 (List.mem_of_getElem? (i := 177) rfl), rfl⟩
theorem mw_758 : Cond.instanceMethod yX11_isHolding ∈ m_tb := m_tb_mem.mpr ⟨ck_5 (List.mem_of_getElem? (i := 179) rfl), rfl⟩
theorem mw_759 : Cond.methodLink "LifeListModel" 211 yX11_keepHolding ∈ m_tb := m_tb_mem.mpr ⟨ck_5 (List.mem_of_getElem? (i := 182) rfl), rfl⟩
theorem mw_760 : Cond.instanceMethod yX11_keepHolding ∈ m_tb := m_tb_mem.mpr ⟨ck_5 (List.mem_of_getElem? (i := 184) rfl), rfl⟩
theorem mw_761 : Cond.methodLink "LifeListModel" 215 yX11_ownerOf ∈ m_tb := m_tb_mem.mpr ⟨ck_5 (List.mem_of_getElem? (i := 194) rfl), rfl⟩
theorem mw_762 : Cond.instanceMethod yX11_ownerOf ∈ m_tb := m_tb_mem.mpr ⟨ck_5 (List.mem_of_getElem? (i := 196) rfl), rfl⟩
theorem mw_763 : Cond.methodLink "LifeListModel" 218 yX11_mayHold ∈ m_tb := m_tb_mem.mpr ⟨ck_5 (List.mem_of_getElem? (i := 202) rfl), rfl⟩
theorem mw_764 : Cond.instanceMethod yX11_mayHold ∈ m_tb := m_tb_mem.mpr ⟨ck_5 (List.mem_of_getElem? (i := 204) rfl), rfl⟩
theorem mw_765 : Cond.methodLink "LifeListModel" 231 yX11_stateOf ∈ m_tb := m_tb_mem.mpr ⟨ck_6 (List.mem_of_getElem? (i := 0) rfl), rfl⟩
theorem mw_766 : Cond.instanceMethod yX11_stateOf ∈ m_tb := m_tb_mem.mpr ⟨ck_6 (List.mem_of_getElem? (i := 2) rfl), rfl⟩
theorem mw_767 : Cond.methodLink "LifeListModel" 235 yX11_findCounting ∈ m_tb := m_tb_mem.mpr ⟨ck_5 (List.mem_of_getElem? (i := 236) rfl), rfl⟩
theorem mw_768 : Cond.instanceMethod yX11_findCounting ∈ m_tb := m_tb_mem.mpr ⟨ck_5 (List.mem_of_getElem? (i := 238) rfl), rfl⟩
theorem mw_769 : Cond.methodLink "LifeListModel" 242 yX11_findLeast ∈ m_tb := m_tb_mem.mpr ⟨ck_6 (List.mem_of_getElem? (i := 4) rfl), rfl⟩
theorem mw_770 : Cond.instanceMethod yX11_findLeast ∈ m_tb := m_tb_mem.mpr ⟨ck_6 (List.mem_of_getElem? (i := 6) rfl), rfl⟩
theorem mw_771 : Cond.methodLink "LifeListModel" 248 yX11_findMost ∈ m_tb := m_tb_mem.mpr ⟨ck_6 (List.mem_of_getElem? (i := 8) rfl), rfl⟩
theorem mw_772 : Cond.instanceMethod yX11_findMost ∈ m_tb := m_tb_mem.mpr ⟨ck_6 (List.mem_of_getElem? (i := 10) rfl), rfl⟩
theorem mw_773 : Cond.methodLink "LifeListModel" 252 yX11_refresh ∈ m_tb := m_tb_mem.mpr ⟨ck_5 (List.mem_of_getElem? (i := 228) rfl), rfl⟩
theorem mw_774 : Cond.instanceMethod yX11_refresh ∈ m_tb := m_tb_mem.mpr ⟨ck_5 (List.mem_of_getElem? (i := 230) rfl), rfl⟩
theorem mw_775 : Cond.methodLink "LifeListModel" 255 yX11_isWell ∈ m_tb := m_tb_mem.mpr ⟨ck_6 (List.mem_of_getElem? (i := 28) rfl), rfl⟩
theorem mw_776 : Cond.instanceMethod yX11_isWell ∈ m_tb := m_tb_mem.mpr ⟨ck_6 (List.mem_of_getElem? (i := 30) rfl), rfl⟩
theorem mw_777 : Cond.methodLink "LifeListModel" 258 yX11_countsAt ∈ m_tb := m_tb_mem.mpr ⟨ck_6 (List.mem_of_getElem? (i := 32) rfl), rfl⟩
theorem mw_778 : Cond.instanceMethod yX11_countsAt ∈ m_tb := m_tb_mem.mpr ⟨ck_6 (List.mem_of_getElem? (i := 34) rfl), rfl⟩
theorem mw_779 : Cond.methodLink "LifeListModel" 261 yX11_findAsides ∈ m_tb := m_tb_mem.mpr ⟨ck_6 (List.mem_of_getElem? (i := 24) rfl), rfl⟩
theorem mw_780 : Cond.instanceMethod yX11_findAsides ∈ m_tb := m_tb_mem.mpr ⟨ck_6 (List.mem_of_getElem? (i := 26) rfl), rfl⟩
theorem mw_781 : Cond.methodLink "LifeListModel" 264 yX11_findYears ∈ m_tb := m_tb_mem.mpr ⟨ck_5 (List.mem_of_getElem? (i := 232) rfl), rfl⟩
theorem mw_782 : Cond.instanceMethod yX11_findYears ∈ m_tb := m_tb_mem.mpr ⟨ck_5 (List.mem_of_getElem? (i := 234) rfl), rfl⟩
theorem mw_783 : Cond.methodLink "LifeListModel" 267 yX11_lookAside ∈ m_tb := m_tb_mem.mpr ⟨ck_6 (List.mem_of_getElem? (i := 20) rfl), rfl⟩
theorem mw_784 : Cond.instanceMethod yX11_lookAside ∈ m_tb := m_tb_mem.mpr ⟨ck_6 (List.mem_of_getElem? (i := 22) rfl), rfl⟩
theorem mw_785 : Cond.methodLink "LifeListModel" 279 yX11_standsFor ∈ m_tb := m_tb_mem.mpr ⟨ck_6 (List.mem_of_getElem? (i := 66) rfl), rfl⟩
theorem mw_786 : Cond.static yX11_standsFor ∈ m_tb := m_tb_mem.mpr ⟨ck_6 (List.mem_of_getElem? (i := 67) rfl), rfl⟩
theorem mw_787 : Cond.methodLink "LifeListModel" 283 yX11_fitsSides ∈ m_tb := m_tb_mem.mpr ⟨ck_6 (List.mem_of_getElem? (i := 63) rfl), rfl⟩
theorem mw_788 : Cond.static yX11_fitsSides ∈ m_tb := m_tb_mem.mpr ⟨ck_6 (List.mem_of_getElem? (i := 64) rfl), rfl⟩
theorem mw_789 : Cond.methodLink "LifeListModel" 287 yX11_fitsSizes ∈ m_tb := m_tb_mem.mpr ⟨ck_6 (List.mem_of_getElem? (i := 59) rfl), rfl⟩
theorem mw_790 : Cond.instanceMethod yX11_fitsSizes ∈ m_tb := m_tb_mem.mpr ⟨ck_6 (List.mem_of_getElem? (i := 61) rfl), rfl⟩
theorem mw_791 : Cond.methodLink "LifeListModel" 290 yX11_ones ∈ m_tb := m_tb_mem.mpr ⟨ck_6 (List.mem_of_getElem? (i := 69) rfl), rfl⟩
theorem mw_792 : Cond.static yX11_ones ∈ m_tb := m_tb_mem.mpr ⟨ck_6 (List.mem_of_getElem? (i := 70) rfl), rfl⟩
theorem mw_793 : Cond.methodLink "LifeListModel" 294 yX11_isMention ∈ m_tb := m_tb_mem.mpr ⟨ck_6 (List.mem_of_getElem? (i := 51) rfl), rfl⟩
theorem mw_794 : Cond.instanceMethod yX11_isMention ∈ m_tb := m_tb_mem.mpr ⟨ck_6 (List.mem_of_getElem? (i := 53) rfl), rfl⟩
theorem mw_795 : Cond.methodLink "LifeListModel" 297 yX11_scoreOf ∈ m_tb := m_tb_mem.mpr ⟨ck_6 (List.mem_of_getElem? (i := 55) rfl), rfl⟩
theorem mw_796 : Cond.instanceMethod yX11_scoreOf ∈ m_tb := m_tb_mem.mpr ⟨ck_6 (List.mem_of_getElem? (i := 57) rfl), rfl⟩
theorem mw_797 : Cond.methodLink "LifeListModel" 300 yX11_rivalsOf ∈ m_tb := m_tb_mem.mpr ⟨ck_6 (List.mem_of_getElem? (i := 76) rfl), rfl⟩
theorem mw_798 : Cond.instanceMethod yX11_rivalsOf ∈ m_tb := m_tb_mem.mpr ⟨ck_6 (List.mem_of_getElem? (i := 78) rfl), rfl⟩
theorem mw_799 : Cond.methodLink "LifeListModel" 306 yX11_addWork ∈ m_tb := m_tb_mem.mpr ⟨ck_6 (List.mem_of_getElem? (i := 100) rfl), rfl⟩
theorem mw_800 : Cond.instanceMethod yX11_addWork ∈ m_tb := m_tb_mem.mpr ⟨ck_6 (List.mem_of_getElem? (i := 102) rfl), rfl⟩
theorem mw_801 : Cond.methodLink "LifeListModel" 310 yX11_fillTable ∈ m_tb := m_tb_mem.mpr ⟨ck_6 (List.mem_of_getElem? (i := 92) rfl), rfl⟩
theorem mw_802 : Cond.instanceMethod yX11_fillTable ∈ m_tb := m_tb_mem.mpr ⟨ck_6 (List.mem_of_getElem? (i := 94) rfl), rfl⟩
theorem mw_803 : Cond.methodLink "LifeListModel" 313 yX11_greatest ∈ m_tb := m_tb_mem.mpr ⟨ck_6 (List.mem_of_getElem? (i := 96) rfl), rfl⟩
theorem mw_804 : Cond.instanceMethod yX11_greatest ∈ m_tb := m_tb_mem.mpr ⟨ck_6 (List.mem_of_getElem? (i := 98) rfl), rfl⟩
theorem mw_805 : Cond.methodLink "LifeListModel" 316 yX11_canJoin ∈ m_tb := m_tb_mem.mpr ⟨ck_6 (List.mem_of_getElem? (i := 104) rfl), rfl⟩
theorem mw_806 : Cond.instanceMethod yX11_canJoin ∈ m_tb := m_tb_mem.mpr ⟨ck_6 (List.mem_of_getElem? (i := 106) rfl), rfl⟩
theorem mw_807 : Cond.methodLink "LifeListModel" 319 yX11_takeOut ∈ m_tb := m_tb_mem.mpr ⟨ck_6 (List.mem_of_getElem? (i := 108) rfl), rfl⟩
theorem mw_808 : Cond.instanceMethod yX11_takeOut ∈ m_tb := m_tb_mem.mpr ⟨ck_6 (List.mem_of_getElem? (i := 110) rfl), rfl⟩
theorem mw_809 : Cond.methodLink "LifeListModel" 325 yX11_joinEvent ∈ m_tb := m_tb_mem.mpr ⟨ck_6 (List.mem_of_getElem? (i := 88) rfl), rfl⟩
theorem mw_810 : Cond.instanceMethod yX11_joinEvent ∈ m_tb := m_tb_mem.mpr ⟨ck_6 (List.mem_of_getElem? (i := 90) rfl), rfl⟩
theorem mw_811 : Cond.methodLink "LifeListModel" 328 yX11_joinAll ∈ m_tb := m_tb_mem.mpr ⟨ck_6 (List.mem_of_getElem? (i := 84) rfl), rfl⟩
theorem mw_812 : Cond.instanceMethod yX11_joinAll ∈ m_tb := m_tb_mem.mpr ⟨ck_6 (List.mem_of_getElem? (i := 86) rfl), rfl⟩
theorem mw_813 : Cond.methodLink "LifeListModel" 333 yX11_hasSure ∈ m_tb := m_tb_mem.mpr ⟨ck_6 (List.mem_of_getElem? (i := 129) rfl), rfl⟩
theorem mw_814 : Cond.instanceMethod yX11_hasSure ∈ m_tb := m_tb_mem.mpr ⟨ck_6 (List.mem_of_getElem? (i := 131) rfl), rfl⟩
theorem mw_815 : Cond.methodLink "LifeListModel" 354 yX11_next ∈ m_tb := m_tb_mem.mpr ⟨ck_6 (List.mem_of_getElem? (i := 159) rfl), rfl⟩
theorem mw_816 : Cond.instanceMethod yX11_next ∈ m_tb := m_tb_mem.mpr ⟨ck_6 (List.mem_of_getElem? (i := 161) rfl), rfl⟩
theorem mw_817 : Cond.methodLink "LifeListModel" 361 yX11_number ∈ m_tb := m_tb_mem.mpr ⟨ck_6 (List.mem_of_getElem? (i := 163) rfl), rfl⟩
theorem mw_818 : Cond.instanceMethod yX11_number ∈ m_tb := m_tb_mem.mpr ⟨ck_6 (List.mem_of_getElem? (i := 165) rfl), rfl⟩
theorem mw_819 : Cond.methodLink "LifeListModel" 364 yX11_takes ∈ m_tb := m_tb_mem.mpr ⟨ck_6 (List.mem_of_getElem? (i := 169) rfl), rfl⟩
theorem mw_820 : Cond.instanceMethod yX11_takes ∈ m_tb := m_tb_mem.mpr ⟨ck_6 (List.mem_of_getElem? (i := 171) rfl), rfl⟩
theorem mw_821 : Cond.methodLink "LifeListModel" 367 yX11_readClause ∈ m_tb := m_tb_mem.mpr ⟨ck_6 (List.mem_of_getElem? (i := 155) rfl), rfl⟩
theorem mw_822 : Cond.instanceMethod yX11_readClause ∈ m_tb := m_tb_mem.mpr ⟨ck_6 (List.mem_of_getElem? (i := 157) rfl), rfl⟩
theorem mw_823 : Cond.methodLink "LifeListModel" 371 yX11_readAll ∈ m_tb := m_tb_mem.mpr ⟨ck_6 (List.mem_of_getElem? (i := 151) rfl), rfl⟩
theorem mw_824 : Cond.instanceMethod yX11_readAll ∈ m_tb := m_tb_mem.mpr ⟨ck_6 (List.mem_of_getElem? (i := 153) rfl), rfl⟩
theorem mw_825 : Cond.methodLink "LifeListModel" 374 yX11_ruleOf ∈ m_tb := m_tb_mem.mpr ⟨ck_6 (List.mem_of_getElem? (i := 182) rfl), rfl⟩
theorem mw_826 : Cond.instanceMethod yX11_ruleOf ∈ m_tb := m_tb_mem.mpr ⟨ck_6 (List.mem_of_getElem? (i := 184) rfl), rfl⟩
theorem mw_827 : Cond.methodLink "LifeListModel" 379 yX11_rulePart ∈ m_tb := m_tb_mem.mpr ⟨ck_6 (List.mem_of_getElem? (i := 178) rfl), rfl⟩
theorem mw_828 : Cond.instanceMethod yX11_rulePart ∈ m_tb := m_tb_mem.mpr ⟨ck_6 (List.mem_of_getElem? (i := 180) rfl), rfl⟩
theorem mw_829 : Cond.methodLink "LifeListModel" 386 yX11_isAsOf ∈ m_tb := m_tb_mem.mpr ⟨ck_6 (List.mem_of_getElem? (i := 200) rfl), rfl⟩
theorem mw_830 : Cond.instanceMethod yX11_isAsOf ∈ m_tb := m_tb_mem.mpr ⟨ck_6 (List.mem_of_getElem? (i := 202) rfl), rfl⟩
theorem mw_831 : Cond.methodLink "LifeListModel" 392 yX11_isAhead ∈ m_tb := m_tb_mem.mpr ⟨ck_6 (List.mem_of_getElem? (i := 216) rfl), rfl⟩
theorem mw_832 : Cond.instanceMethod yX11_isAhead ∈ m_tb := m_tb_mem.mpr ⟨ck_6 (List.mem_of_getElem? (i := 218) rfl), rfl⟩
theorem mw_833 : Cond.methodLink "LifeListModel" 395 yX11_isSheet ∈ m_tb := m_tb_mem.mpr ⟨ck_6 (List.mem_of_getElem? (i := 232) rfl), rfl⟩
theorem mw_834 : Cond.static yX11_isSheet ∈ m_tb := m_tb_mem.mpr ⟨ck_6 (List.mem_of_getElem? (i := 233) rfl), rfl⟩
theorem mw_835 : Cond.methodLink "LifeListLaw" 9 yX10_init ∈ m_tb := m_tb_mem.mpr ⟨ck_0 (List.mem_of_getElem? (i := 25) rfl), rfl⟩
theorem mw_836 : Cond.instanceMethod yX10_init ∈ m_tb := m_tb_mem.mpr ⟨ck_0 (List.mem_of_getElem? (i := 26) rfl), rfl⟩
theorem mw_837 : Cond.methodLink "LifeListLaw" 12 yX11_init ∈ m_tb := m_tb_mem.mpr ⟨ck_4 (List.mem_of_getElem? (i := 158) rfl), rfl⟩
theorem mw_838 : Cond.instanceMethod yX11_init ∈ m_tb := m_tb_mem.mpr ⟨ck_4 (List.mem_of_getElem? (i := 159) rfl), rfl⟩
theorem mw_839 : Cond.methodLink "LifeListLaw" 13 yX10_work ∈ m_tb := m_tb_mem.mpr ⟨ck_1 (List.mem_of_getElem? (i := 229) rfl), rfl⟩
theorem mw_840 : Cond.instanceMethod yX10_work ∈ m_tb := m_tb_mem.mpr ⟨ck_1 (List.mem_of_getElem? (i := 230) rfl), rfl⟩
theorem mw_841 : Cond.selects "LifeList" yX10_work yX10_work ∈ m_tb := m_tb_mem.mpr ⟨ck_1 (List.mem_of_getElem? (i := 231) rfl), rfl⟩
theorem mw_842 : Cond.methodLink "LifeListLaw" 17 yX11_work ∈ m_tb := m_tb_mem.mpr ⟨ck_5 (List.mem_of_getElem? (i := 99) rfl), rfl⟩
theorem mw_843 : Cond.instanceMethod yX11_work ∈ m_tb := m_tb_mem.mpr ⟨ck_5 (List.mem_of_getElem? (i := 100) rfl), rfl⟩
theorem mw_844 : Cond.selects "LifeListModel" yX11_work yX11_work ∈ m_tb := m_tb_mem.mpr ⟨ck_5 (List.mem_of_getElem? (i := 101) rfl), rfl⟩
theorem mw_845 : Cond.methodLink "LifeListLaw" 18 yX10_version ∈ m_tb := m_tb_mem.mpr ⟨ck_2 (List.mem_of_getElem? (i := 15) rfl), rfl⟩
theorem mw_846 : Cond.instanceMethod yX10_version ∈ m_tb := m_tb_mem.mpr ⟨ck_2 (List.mem_of_getElem? (i := 16) rfl), rfl⟩
theorem mw_847 : Cond.selects "LifeList" yX10_version yX10_version ∈ m_tb := m_tb_mem.mpr ⟨ck_2 (List.mem_of_getElem? (i := 17) rfl), rfl⟩
theorem mw_848 : Cond.methodLink "LifeListLaw" 21 yX11_version ∈ m_tb := m_tb_mem.mpr ⟨ck_5 (List.mem_of_getElem? (i := 124) rfl), rfl⟩
theorem mw_849 : Cond.instanceMethod yX11_version ∈ m_tb := m_tb_mem.mpr ⟨ck_5 (List.mem_of_getElem? (i := 125) rfl), rfl⟩
theorem mw_850 : Cond.selects "LifeListModel" yX11_version yX11_version ∈ m_tb := m_tb_mem.mpr ⟨ck_5 (List.mem_of_getElem? (i := 126) rfl), rfl⟩
theorem mw_851 : Cond.methodLink "LifeListLaw" 22 yX10_print ∈ m_tb := m_tb_mem.mpr ⟨ck_2 (List.mem_of_getElem? (i := 27) rfl), rfl⟩
theorem mw_852 : Cond.instanceMethod yX10_print ∈ m_tb := m_tb_mem.mpr ⟨ck_2 (List.mem_of_getElem? (i := 28) rfl), rfl⟩
theorem mw_853 : Cond.selects "LifeList" yX10_print yX10_print ∈ m_tb := m_tb_mem.mpr ⟨ck_2 (List.mem_of_getElem? (i := 29) rfl), rfl⟩
theorem mw_854 : Cond.methodLink "LifeListLaw" 26 yX11_print ∈ m_tb := m_tb_mem.mpr ⟨ck_5 (List.mem_of_getElem? (i := 132) rfl), rfl⟩
theorem mw_855 : Cond.instanceMethod yX11_print ∈ m_tb := m_tb_mem.mpr ⟨ck_5 (List.mem_of_getElem? (i := 133) rfl), rfl⟩
theorem mw_856 : Cond.selects "LifeListModel" yX11_print yX11_print ∈ m_tb := m_tb_mem.mpr ⟨ck_5 (List.mem_of_getElem? (i := 134) rfl), rfl⟩
theorem mw_857 : Cond.methodLink "LifeListLaw" 27 yX10_retitle ∈ m_tb := m_tb_mem.mpr ⟨ck_2 (List.mem_of_getElem? (i := 31) rfl), rfl⟩
theorem mw_858 : Cond.instanceMethod yX10_retitle ∈ m_tb := m_tb_mem.mpr ⟨ck_2 (List.mem_of_getElem? (i := 32) rfl), rfl⟩
theorem mw_859 : Cond.selects "LifeList" yX10_retitle yX10_retitle ∈ m_tb := m_tb_mem.mpr ⟨ck_2 (List.mem_of_getElem? (i := 33) rfl), rfl⟩
theorem mw_860 : Cond.methodLink "LifeListLaw" 31 yX11_retitle ∈ m_tb := m_tb_mem.mpr ⟨ck_5 (List.mem_of_getElem? (i := 136) rfl), rfl⟩
theorem mw_861 : Cond.instanceMethod yX11_retitle ∈ m_tb := m_tb_mem.mpr ⟨ck_5 (List.mem_of_getElem? (i := 137) rfl), rfl⟩
theorem mw_862 : Cond.selects "LifeListModel" yX11_retitle yX11_retitle ∈ m_tb := m_tb_mem.mpr ⟨ck_5 (List.mem_of_getElem? (i := 138) rfl), rfl⟩
theorem mw_863 : Cond.methodLink "LifeListLaw" 32 yX10_cut ∈ m_tb := m_tb_mem.mpr ⟨ck_2 (List.mem_of_getElem? (i := 39) rfl), rfl⟩
theorem mw_864 : Cond.instanceMethod yX10_cut ∈ m_tb := m_tb_mem.mpr ⟨ck_2 (List.mem_of_getElem? (i := 40) rfl), rfl⟩
theorem mw_865 : Cond.selects "LifeList" yX10_cut yX10_cut ∈ m_tb := m_tb_mem.mpr ⟨ck_2 (List.mem_of_getElem? (i := 41) rfl), rfl⟩
theorem mw_866 : Cond.methodLink "LifeListLaw" 36 yX11_cut ∈ m_tb := m_tb_mem.mpr ⟨ck_5 (List.mem_of_getElem? (i := 140) rfl), rfl⟩
theorem mw_867 : Cond.instanceMethod yX11_cut ∈ m_tb := m_tb_mem.mpr ⟨ck_5 (List.mem_of_getElem? (i := 141) rfl), rfl⟩
theorem mw_868 : Cond.selects "LifeListModel" yX11_cut yX11_cut ∈ m_tb := m_tb_mem.mpr ⟨ck_5 (List.mem_of_getElem? (i := 142) rfl), rfl⟩
theorem mw_869 : Cond.methodLink "LifeListLaw" 37 yX10_told ∈ m_tb := m_tb_mem.mpr ⟨ck_2 (List.mem_of_getElem? (i := 51) rfl), rfl⟩
theorem mw_870 : Cond.instanceMethod yX10_told ∈ m_tb := m_tb_mem.mpr ⟨ck_2 (List.mem_of_getElem? (i := 52) rfl), rfl⟩
theorem mw_871 : Cond.selects "LifeList" yX10_told yX10_told ∈ m_tb := m_tb_mem.mpr ⟨ck_2 (List.mem_of_getElem? (i := 53) rfl), rfl⟩
theorem mw_872 : Cond.methodLink "LifeListLaw" 41 yX11_told ∈ m_tb := m_tb_mem.mpr ⟨ck_5 (List.mem_of_getElem? (i := 144) rfl), rfl⟩
theorem mw_873 : Cond.instanceMethod yX11_told ∈ m_tb := m_tb_mem.mpr ⟨ck_5 (List.mem_of_getElem? (i := 145) rfl), rfl⟩
theorem mw_874 : Cond.selects "LifeListModel" yX11_told yX11_told ∈ m_tb := m_tb_mem.mpr ⟨ck_5 (List.mem_of_getElem? (i := 146) rfl), rfl⟩
theorem mw_875 : Cond.methodLink "LifeListLaw" 42 yX10_then ∈ m_tb := m_tb_mem.mpr ⟨ck_2 (List.mem_of_getElem? (i := 55) rfl), rfl⟩
theorem mw_876 : Cond.instanceMethod yX10_then ∈ m_tb := m_tb_mem.mpr ⟨ck_2 (List.mem_of_getElem? (i := 56) rfl), rfl⟩
theorem mw_877 : Cond.selects "LifeList" yX10_then yX10_then ∈ m_tb := m_tb_mem.mpr ⟨ck_2 (List.mem_of_getElem? (i := 57) rfl), rfl⟩
theorem mw_878 : Cond.methodLink "LifeListLaw" 45 yX11_then ∈ m_tb := m_tb_mem.mpr ⟨ck_5 (List.mem_of_getElem? (i := 148) rfl), rfl⟩
theorem mw_879 : Cond.instanceMethod yX11_then ∈ m_tb := m_tb_mem.mpr ⟨ck_5 (List.mem_of_getElem? (i := 149) rfl), rfl⟩
theorem mw_880 : Cond.selects "LifeListModel" yX11_then yX11_then ∈ m_tb := m_tb_mem.mpr ⟨ck_5 (List.mem_of_getElem? (i := 150) rfl), rfl⟩
theorem mw_881 : Cond.methodLink "LifeListLaw" 46 yX10_turned ∈ m_tb := m_tb_mem.mpr ⟨ck_2 (List.mem_of_getElem? (i := 71) rfl), rfl⟩
theorem mw_882 : Cond.instanceMethod yX10_turned ∈ m_tb := m_tb_mem.mpr ⟨ck_2 (List.mem_of_getElem? (i := 72) rfl), rfl⟩
theorem mw_883 : Cond.selects "LifeList" yX10_turned yX10_turned ∈ m_tb := m_tb_mem.mpr ⟨ck_2 (List.mem_of_getElem? (i := 73) rfl), rfl⟩
theorem mw_884 : Cond.methodLink "LifeListLaw" 50 yX11_turned ∈ m_tb := m_tb_mem.mpr ⟨ck_5 (List.mem_of_getElem? (i := 169) rfl), rfl⟩
theorem mw_885 : Cond.instanceMethod yX11_turned ∈ m_tb := m_tb_mem.mpr ⟨ck_5 (List.mem_of_getElem? (i := 170) rfl), rfl⟩
theorem mw_886 : Cond.selects "LifeListModel" yX11_turned yX11_turned ∈ m_tb := m_tb_mem.mpr ⟨ck_5 (List.mem_of_getElem? (i := 171) rfl), rfl⟩
theorem mw_887 : Cond.methodLink "LifeListLaw" 51 yX10_holding ∈ m_tb := m_tb_mem.mpr ⟨ck_2 (List.mem_of_getElem? (i := 78) rfl), rfl⟩
theorem mw_888 : Cond.instanceMethod yX10_holding ∈ m_tb := m_tb_mem.mpr ⟨ck_2 (List.mem_of_getElem? (i := 79) rfl), rfl⟩
theorem mw_889 : Cond.selects "LifeList" yX10_holding yX10_holding ∈ m_tb := m_tb_mem.mpr ⟨ck_2 (List.mem_of_getElem? (i := 80) rfl), rfl⟩
theorem mw_890 : Cond.methodLink "LifeListLaw" 54 yX11_holding ∈ m_tb := m_tb_mem.mpr ⟨ck_5 (List.mem_of_getElem? (i := 173) rfl), rfl⟩
theorem mw_891 : Cond.instanceMethod yX11_holding ∈ m_tb := m_tb_mem.mpr ⟨ck_5 (List.mem_of_getElem? (i := 174) rfl), rfl⟩
theorem mw_892 : Cond.selects "LifeListModel" yX11_holding yX11_holding ∈ m_tb := m_tb_mem.mpr ⟨ck_5 (List.mem_of_getElem? (i := 175) rfl), rfl⟩
theorem mw_893 : Cond.methodLink "LifeListLaw" 55 yX10_unhold ∈ m_tb := m_tb_mem.mpr ⟨ck_2 (List.mem_of_getElem? (i := 90) rfl), rfl⟩
theorem mw_894 : Cond.instanceMethod yX10_unhold ∈ m_tb := m_tb_mem.mpr ⟨ck_2 (List.mem_of_getElem? (i := 91) rfl), rfl⟩
theorem mw_895 : Cond.selects "LifeList" yX10_unhold yX10_unhold ∈ m_tb := m_tb_mem.mpr ⟨ck_2 (List.mem_of_getElem? (i := 92) rfl), rfl⟩
theorem mw_896 : Cond.methodLink "LifeListLaw" 59 yX11_unhold ∈ m_tb := m_tb_mem.mpr ⟨ck_5 (List.mem_of_getElem? (i := 186) rfl), rfl⟩
theorem mw_897 : Cond.instanceMethod yX11_unhold ∈ m_tb := m_tb_mem.mpr ⟨ck_5 (List.mem_of_getElem? (i := 187) rfl), rfl⟩
theorem mw_898 : Cond.selects "LifeListModel" yX11_unhold yX11_unhold ∈ m_tb := m_tb_mem.mpr ⟨ck_5 (List.mem_of_getElem? (i := 188) rfl), rfl⟩
theorem mw_899 : Cond.methodLink "LifeListLaw" 60 yX10_owner ∈ m_tb := m_tb_mem.mpr ⟨ck_2 (List.mem_of_getElem? (i := 94) rfl), rfl⟩
theorem mw_900 : Cond.instanceMethod yX10_owner ∈ m_tb := m_tb_mem.mpr ⟨ck_2 (List.mem_of_getElem? (i := 95) rfl), rfl⟩
theorem mw_901 : Cond.selects "LifeList" yX10_owner yX10_owner ∈ m_tb := m_tb_mem.mpr ⟨ck_2 (List.mem_of_getElem? (i := 96) rfl), rfl⟩
theorem mw_902 : Cond.methodLink "LifeListLaw" 63 yX11_owner ∈ m_tb := m_tb_mem.mpr ⟨ck_5 (List.mem_of_getElem? (i := 190) rfl), rfl⟩
theorem mw_903 : Cond.instanceMethod yX11_owner ∈ m_tb := m_tb_mem.mpr ⟨ck_5 (List.mem_of_getElem? (i := 191) rfl), rfl⟩
theorem mw_904 : Cond.selects "LifeListModel" yX11_owner yX11_owner ∈ m_tb := m_tb_mem.mpr ⟨ck_5 (List.mem_of_getElem? (i := 192) rfl), rfl⟩
theorem mw_905 : Cond.methodLink "LifeListLaw" 64 yX10_may ∈ m_tb := m_tb_mem.mpr ⟨ck_2 (List.mem_of_getElem? (i := 103) rfl), rfl⟩
theorem mw_906 : Cond.instanceMethod yX10_may ∈ m_tb := m_tb_mem.mpr ⟨ck_2 (List.mem_of_getElem? (i := 104) rfl), rfl⟩
theorem mw_907 : Cond.selects "LifeList" yX10_may yX10_may ∈ m_tb := m_tb_mem.mpr ⟨ck_2 (List.mem_of_getElem? (i := 105) rfl), rfl⟩
theorem mw_908 : Cond.methodLink "LifeListLaw" 67 yX11_may ∈ m_tb := m_tb_mem.mpr ⟨ck_5 (List.mem_of_getElem? (i := 198) rfl), rfl⟩
theorem mw_909 : Cond.instanceMethod yX11_may ∈ m_tb := m_tb_mem.mpr ⟨ck_5 (List.mem_of_getElem? (i := 199) rfl), rfl⟩
theorem mw_910 : Cond.selects "LifeListModel" yX11_may yX11_may ∈ m_tb := m_tb_mem.mpr ⟨ck_5 (List.mem_of_getElem? (i := 200) rfl), rfl⟩
theorem mw_911 : Cond.methodLink "LifeListLaw" 68 yX10_twice ∈ m_tb := m_tb_mem.mpr ⟨ck_2 (List.mem_of_getElem? (i := 111) rfl), rfl⟩
theorem mw_912 : Cond.instanceMethod yX10_twice ∈ m_tb := m_tb_mem.mpr ⟨ck_2 (List.mem_of_getElem? (i := 112) rfl), rfl⟩
theorem mw_913 : Cond.selects "LifeList" yX10_twice yX10_twice ∈ m_tb := m_tb_mem.mpr ⟨ck_2 (List.mem_of_getElem? (i := 113) rfl), rfl⟩
theorem mw_914 : Cond.methodLink "LifeListLaw" 71 yX11_twice ∈ m_tb := m_tb_mem.mpr ⟨ck_5 (List.mem_of_getElem? (i := 206) rfl), rfl⟩
theorem mw_915 : Cond.instanceMethod yX11_twice ∈ m_tb := m_tb_mem.mpr ⟨ck_5 (List.mem_of_getElem? (i := 207) rfl), rfl⟩
theorem mw_916 : Cond.selects "LifeListModel" yX11_twice yX11_twice ∈ m_tb := m_tb_mem.mpr ⟨ck_5 (List.mem_of_getElem? (i := 208) rfl), rfl⟩
theorem mw_917 : Cond.methodLink "LifeListLaw" 72 yX10_gap ∈ m_tb := m_tb_mem.mpr ⟨ck_2 (List.mem_of_getElem? (i := 129) rfl), rfl⟩
theorem mw_918 : Cond.instanceMethod yX10_gap ∈ m_tb := m_tb_mem.mpr ⟨ck_2 (List.mem_of_getElem? (i := 130) rfl), rfl⟩
theorem mw_919 : Cond.selects "LifeList" yX10_gap yX10_gap ∈ m_tb := m_tb_mem.mpr ⟨ck_2 (List.mem_of_getElem? (i := 131) rfl), rfl⟩
theorem mw_920 : Cond.methodLink "LifeListLaw" 75 yX11_gap ∈ m_tb := m_tb_mem.mpr ⟨ck_5 (List.mem_of_getElem? (i := 210) rfl), rfl⟩
theorem mw_921 : Cond.instanceMethod yX11_gap ∈ m_tb := m_tb_mem.mpr ⟨ck_5 (List.mem_of_getElem? (i := 211) rfl), rfl⟩
theorem mw_922 : Cond.selects "LifeListModel" yX11_gap yX11_gap ∈ m_tb := m_tb_mem.mpr ⟨ck_5 (List.mem_of_getElem? (i := 212) rfl), rfl⟩
theorem mw_923 : Cond.methodLink "LifeListLaw" 76 yX10_mention ∈ m_tb := m_tb_mem.mpr ⟨ck_2 (List.mem_of_getElem? (i := 138) rfl), rfl⟩
theorem mw_924 : Cond.instanceMethod yX10_mention ∈ m_tb := m_tb_mem.mpr ⟨ck_2 (List.mem_of_getElem? (i := 139) rfl), rfl⟩
theorem mw_925 : Cond.selects "LifeList" yX10_mention yX10_mention ∈ m_tb := m_tb_mem.mpr ⟨ck_2 (List.mem_of_getElem? (i := 140) rfl), rfl⟩
theorem mw_926 : Cond.methodLink "LifeListLaw" 80 yX11_mention ∈ m_tb := m_tb_mem.mpr ⟨ck_6 (List.mem_of_getElem? (i := 40) rfl), rfl⟩
theorem mw_927 : Cond.instanceMethod yX11_mention ∈ m_tb := m_tb_mem.mpr ⟨ck_6 (List.mem_of_getElem? (i := 41) rfl), rfl⟩
theorem mw_928 : Cond.selects "LifeListModel" yX11_mention yX11_mention ∈ m_tb := m_tb_mem.mpr ⟨ck_6 (List.mem_of_getElem? (i := 42) rfl), rfl⟩
theorem mw_929 : Cond.methodLink "LifeListLaw" 81 yX10_score ∈ m_tb := m_tb_mem.mpr ⟨ck_2 (List.mem_of_getElem? (i := 150) rfl), rfl⟩
theorem mw_930 : Cond.instanceMethod yX10_score ∈ m_tb := m_tb_mem.mpr ⟨ck_2 (List.mem_of_getElem? (i := 151) rfl), rfl⟩
theorem mw_931 : Cond.selects "LifeList" yX10_score yX10_score ∈ m_tb := m_tb_mem.mpr ⟨ck_2 (List.mem_of_getElem? (i := 152) rfl), rfl⟩
theorem mw_932 : Cond.methodLink "LifeListLaw" 84 yX11_score ∈ m_tb := m_tb_mem.mpr ⟨ck_6 (List.mem_of_getElem? (i := 47) rfl), rfl⟩
theorem mw_933 : Cond.instanceMethod yX11_score ∈ m_tb := m_tb_mem.mpr ⟨ck_6 (List.mem_of_getElem? (i := 48) rfl), rfl⟩
theorem mw_934 : Cond.selects "LifeListModel" yX11_score yX11_score ∈ m_tb := m_tb_mem.mpr ⟨ck_6 (List.mem_of_getElem? (i := 49) rfl), rfl⟩
theorem mw_935 : Cond.methodLink "LifeListLaw" 85 yX10_rivals ∈ m_tb := m_tb_mem.mpr ⟨ck_2 (List.mem_of_getElem? (i := 209) rfl), rfl⟩
theorem mw_936 : Cond.instanceMethod yX10_rivals ∈ m_tb := m_tb_mem.mpr ⟨ck_2 (List.mem_of_getElem? (i := 210) rfl), rfl⟩
theorem mw_937 : Cond.selects "LifeList" yX10_rivals yX10_rivals ∈ m_tb := m_tb_mem.mpr ⟨ck_2 (List.mem_of_getElem? (i := 211) rfl), rfl⟩
theorem mw_938 : Cond.methodLink "LifeListLaw" 88 yX11_rivals ∈ m_tb := m_tb_mem.mpr ⟨ck_6 (List.mem_of_getElem? (i := 72) rfl), rfl⟩
theorem mw_939 : Cond.instanceMethod yX11_rivals ∈ m_tb := m_tb_mem.mpr ⟨ck_6 (List.mem_of_getElem? (i := 73) rfl), rfl⟩
theorem mw_940 : Cond.selects "LifeListModel" yX11_rivals yX11_rivals ∈ m_tb := m_tb_mem.mpr ⟨ck_6 (List.mem_of_getElem? (i := 74) rfl), rfl⟩
theorem mw_941 : Cond.methodLink "LifeListLaw" 89 yX10_joined ∈ m_tb := m_tb_mem.mpr ⟨ck_2 (List.mem_of_getElem? (i := 218) rfl), rfl⟩
theorem mw_942 : Cond.instanceMethod yX10_joined ∈ m_tb := m_tb_mem.mpr ⟨ck_2 (List.mem_of_getElem? (i := 219) rfl), rfl⟩
theorem mw_943 : Cond.selects "LifeList" yX10_joined yX10_joined ∈ m_tb := m_tb_mem.mpr ⟨ck_2 (List.mem_of_getElem? (i := 220) rfl), rfl⟩
theorem mw_944 : Cond.methodLink "LifeListLaw" 92 yX11_joined ∈ m_tb := m_tb_mem.mpr ⟨ck_6 (List.mem_of_getElem? (i := 80) rfl), rfl⟩
theorem mw_945 : Cond.instanceMethod yX11_joined ∈ m_tb := m_tb_mem.mpr ⟨ck_6 (List.mem_of_getElem? (i := 81) rfl), rfl⟩
theorem mw_946 : Cond.selects "LifeListModel" yX11_joined yX11_joined ∈ m_tb := m_tb_mem.mpr ⟨ck_6 (List.mem_of_getElem? (i := 82) rfl), rfl⟩
theorem mw_947 : Cond.methodLink "LifeListLaw" 93 yX10_sure ∈ m_tb := m_tb_mem.mpr ⟨ck_3 (List.mem_of_getElem? (i := 31) rfl), rfl⟩
theorem mw_948 : Cond.instanceMethod yX10_sure ∈ m_tb := m_tb_mem.mpr ⟨ck_3 (List.mem_of_getElem? (i := 32) rfl), rfl⟩
theorem mw_949 : Cond.selects "LifeList" yX10_sure yX10_sure ∈ m_tb := m_tb_mem.mpr ⟨ck_3 (List.mem_of_getElem? (i := 33) rfl), rfl⟩
theorem mw_950 : Cond.methodLink "LifeListLaw" 96 yX11_sure ∈ m_tb := m_tb_mem.mpr ⟨ck_6 (List.mem_of_getElem? (i := 112) rfl), rfl⟩
theorem mw_951 : Cond.instanceMethod yX11_sure ∈ m_tb := m_tb_mem.mpr ⟨ck_6 (List.mem_of_getElem? (i := 113) rfl), rfl⟩
theorem mw_952 : Cond.selects "LifeListModel" yX11_sure yX11_sure ∈ m_tb := m_tb_mem.mpr ⟨ck_6 (List.mem_of_getElem? (i := 114) rfl), rfl⟩
theorem mw_953 : Cond.methodLink "LifeListLaw" 97 yX10_sum ∈ m_tb := m_tb_mem.mpr ⟨ck_3 (List.mem_of_getElem? (i := 41) rfl), rfl⟩
theorem mw_954 : Cond.instanceMethod yX10_sum ∈ m_tb := m_tb_mem.mpr ⟨ck_3 (List.mem_of_getElem? (i := 42) rfl), rfl⟩
theorem mw_955 : Cond.selects "LifeList" yX10_sum yX10_sum ∈ m_tb := m_tb_mem.mpr ⟨ck_3 (List.mem_of_getElem? (i := 43) rfl), rfl⟩
theorem mw_956 : Cond.methodLink "LifeListLaw" 100 yX11_sum ∈ m_tb := m_tb_mem.mpr ⟨ck_6 (List.mem_of_getElem? (i := 116) rfl), rfl⟩
theorem mw_957 : Cond.instanceMethod yX11_sum ∈ m_tb := m_tb_mem.mpr ⟨ck_6 (List.mem_of_getElem? (i := 117) rfl), rfl⟩
theorem mw_958 : Cond.selects "LifeListModel" yX11_sum yX11_sum ∈ m_tb := m_tb_mem.mpr ⟨ck_6 (List.mem_of_getElem? (i := 118) rfl), rfl⟩
theorem mw_959 : Cond.methodLink "LifeListLaw" 101 yX10_mentions ∈ m_tb := m_tb_mem.mpr ⟨ck_3 (List.mem_of_getElem? (i := 45) rfl), rfl⟩
theorem mw_960 : Cond.instanceMethod yX10_mentions ∈ m_tb := m_tb_mem.mpr ⟨ck_3 (List.mem_of_getElem? (i := 46) rfl), rfl⟩
theorem mw_961 : Cond.selects "LifeList" yX10_mentions yX10_mentions ∈ m_tb := m_tb_mem.mpr ⟨ck_3 (List.mem_of_getElem? (i := 47) rfl), rfl⟩
theorem mw_962 : Cond.methodLink "LifeListLaw" 104 yX11_mentions ∈ m_tb := m_tb_mem.mpr ⟨ck_6 (List.mem_of_getElem? (i := 120) rfl), rfl⟩
theorem mw_963 : Cond.instanceMethod yX11_mentions ∈ m_tb := m_tb_mem.mpr ⟨ck_6 (List.mem_of_getElem? (i := 121) rfl), rfl⟩
theorem mw_964 : Cond.selects "LifeListModel" yX11_mentions yX11_mentions ∈ m_tb := m_tb_mem.mpr ⟨ck_6 (List.mem_of_getElem? (i := 122) rfl), rfl⟩
theorem mw_965 : Cond.methodLink "LifeListLaw" 105 yX10_counted ∈ m_tb := m_tb_mem.mpr ⟨ck_3 (List.mem_of_getElem? (i := 60) rfl), rfl⟩
theorem mw_966 : Cond.instanceMethod yX10_counted ∈ m_tb := m_tb_mem.mpr ⟨ck_3 (List.mem_of_getElem? (i := 61) rfl), rfl⟩
theorem mw_967 : Cond.selects "LifeList" yX10_counted yX10_counted ∈ m_tb := m_tb_mem.mpr ⟨ck_3 (List.mem_of_getElem? (i := 62) rfl), rfl⟩
theorem mw_968 : Cond.methodLink "LifeListLaw" 108 yX11_counted ∈ m_tb := m_tb_mem.mpr ⟨ck_6 (List.mem_of_getElem? (i := 124) rfl), rfl⟩
theorem mw_969 : Cond.instanceMethod yX11_counted ∈ m_tb := m_tb_mem.mpr ⟨ck_6 (List.mem_of_getElem? (i := 125) rfl), rfl⟩
theorem mw_970 : Cond.selects "LifeListModel" yX11_counted yX11_counted ∈ m_tb := m_tb_mem.mpr ⟨ck_6 (List.mem_of_getElem? (i := 126) rfl), rfl⟩
theorem mw_971 : Cond.methodLink "LifeListLaw" 109 yX10_clue ∈ m_tb := m_tb_mem.mpr ⟨ck_3 (List.mem_of_getElem? (i := 74) rfl), rfl⟩
theorem mw_972 : Cond.instanceMethod yX10_clue ∈ m_tb := m_tb_mem.mpr ⟨ck_3 (List.mem_of_getElem? (i := 75) rfl), rfl⟩
theorem mw_973 : Cond.selects "LifeList" yX10_clue yX10_clue ∈ m_tb := m_tb_mem.mpr ⟨ck_3 (List.mem_of_getElem? (i := 76) rfl), rfl⟩
theorem mw_974 : Cond.methodLink "LifeListLaw" 112 yX11_clue ∈ m_tb := m_tb_mem.mpr ⟨ck_5 (List.mem_of_getElem? (i := 214) rfl), rfl⟩
theorem mw_975 : Cond.instanceMethod yX11_clue ∈ m_tb := m_tb_mem.mpr ⟨ck_5 (List.mem_of_getElem? (i := 215) rfl), rfl⟩
theorem mw_976 : Cond.selects "LifeListModel" yX11_clue yX11_clue ∈ m_tb := m_tb_mem.mpr ⟨ck_5 (List.mem_of_getElem? (i := 216) rfl), rfl⟩
theorem mw_977 : Cond.methodLink "LifeListLaw" 113 yX10_use ∈ m_tb := m_tb_mem.mpr ⟨ck_3 (List.mem_of_getElem? (i := 82) rfl), rfl⟩
theorem mw_978 : Cond.instanceMethod yX10_use ∈ m_tb := m_tb_mem.mpr ⟨ck_3 (List.mem_of_getElem? (i := 83) rfl), rfl⟩
theorem mw_979 : Cond.selects "LifeList" yX10_use yX10_use ∈ m_tb := m_tb_mem.mpr ⟨ck_3 (List.mem_of_getElem? (i := 84) rfl), rfl⟩
theorem mw_980 : Cond.methodLink "LifeListLaw" 117 yX11_use ∈ m_tb := m_tb_mem.mpr ⟨ck_5 (List.mem_of_getElem? (i := 220) rfl), rfl⟩
theorem mw_981 : Cond.instanceMethod yX11_use ∈ m_tb := m_tb_mem.mpr ⟨ck_5 (List.mem_of_getElem? (i := 221) rfl), rfl⟩
theorem mw_982 : Cond.selects "LifeListModel" yX11_use yX11_use ∈ m_tb := m_tb_mem.mpr ⟨ck_5 (List.mem_of_getElem? (i := 222) rfl), rfl⟩
theorem mw_983 : Cond.methodLink "LifeListLaw" 118 yX10_made ∈ m_tb := m_tb_mem.mpr ⟨ck_3 (List.mem_of_getElem? (i := 86) rfl), rfl⟩
theorem mw_984 : Cond.instanceMethod yX10_made ∈ m_tb := m_tb_mem.mpr ⟨ck_3 (List.mem_of_getElem? (i := 87) rfl), rfl⟩
theorem mw_985 : Cond.selects "LifeList" yX10_made yX10_made ∈ m_tb := m_tb_mem.mpr ⟨ck_3 (List.mem_of_getElem? (i := 88) rfl), rfl⟩
theorem mw_986 : Cond.methodLink "LifeListLaw" 121 yX11_made ∈ m_tb := m_tb_mem.mpr ⟨ck_5 (List.mem_of_getElem? (i := 224) rfl), rfl⟩
theorem mw_987 : Cond.instanceMethod yX11_made ∈ m_tb := m_tb_mem.mpr ⟨ck_5 (List.mem_of_getElem? (i := 225) rfl), rfl⟩
theorem mw_988 : Cond.selects "LifeListModel" yX11_made yX11_made ∈ m_tb := m_tb_mem.mpr ⟨ck_5 (List.mem_of_getElem? (i := 226) rfl), rfl⟩
theorem mw_989 : Cond.methodLink "LifeListLaw" 122 yX10_quarrel ∈ m_tb := m_tb_mem.mpr ⟨ck_3 (List.mem_of_getElem? (i := 90) rfl), rfl⟩
theorem mw_990 : Cond.instanceMethod yX10_quarrel ∈ m_tb := m_tb_mem.mpr ⟨ck_3 (List.mem_of_getElem? (i := 91) rfl), rfl⟩
theorem mw_991 : Cond.selects "LifeList" yX10_quarrel yX10_quarrel ∈ m_tb := m_tb_mem.mpr ⟨ck_3 (List.mem_of_getElem? (i := 92) rfl), rfl⟩
theorem mw_992 : Cond.methodLink "LifeListLaw" 125 yX11_quarrel ∈ m_tb := m_tb_mem.mpr ⟨ck_6 (List.mem_of_getElem? (i := 12) rfl), rfl⟩
theorem mw_993 : Cond.instanceMethod yX11_quarrel ∈ m_tb := m_tb_mem.mpr ⟨ck_6 (List.mem_of_getElem? (i := 13) rfl), rfl⟩
theorem mw_994 : Cond.selects "LifeListModel" yX11_quarrel yX11_quarrel ∈ m_tb := m_tb_mem.mpr ⟨ck_6 (List.mem_of_getElem? (i := 14) rfl), rfl⟩
theorem mw_995 : Cond.methodLink "LifeListLaw" 126 yX10_asides ∈ m_tb := m_tb_mem.mpr ⟨ck_3 (List.mem_of_getElem? (i := 94) rfl), rfl⟩
theorem mw_996 : Cond.instanceMethod yX10_asides ∈ m_tb := m_tb_mem.mpr ⟨ck_3 (List.mem_of_getElem? (i := 95) rfl), rfl⟩
theorem mw_997 : Cond.selects "LifeList" yX10_asides yX10_asides ∈ m_tb := m_tb_mem.mpr ⟨ck_3 (List.mem_of_getElem? (i := 96) rfl), rfl⟩
theorem mw_998 : Cond.methodLink "LifeListLaw" 129 yX11_asides ∈ m_tb := m_tb_mem.mpr ⟨ck_6 (List.mem_of_getElem? (i := 16) rfl), rfl⟩
theorem mw_999 : Cond.instanceMethod yX11_asides ∈ m_tb := m_tb_mem.mpr ⟨ck_6 (List.mem_of_getElem? (i := 17) rfl), rfl⟩
theorem mw_1000 : Cond.selects "LifeListModel" yX11_asides yX11_asides ∈ m_tb := m_tb_mem.mpr ⟨ck_6 (List.mem_of_getElem? (i := 18) rfl), rfl⟩
theorem mw_1001 : Cond.methodLink "LifeListLaw" 130 yX10_aside ∈ m_tb := m_tb_mem.mpr ⟨ck_3 (List.mem_of_getElem? (i := 122) rfl), rfl⟩
theorem mw_1002 : Cond.instanceMethod yX10_aside ∈ m_tb := m_tb_mem.mpr ⟨ck_3 (List.mem_of_getElem? (i := 123) rfl), rfl⟩
theorem mw_1003 : Cond.selects "LifeList" yX10_aside yX10_aside ∈ m_tb := m_tb_mem.mpr ⟨ck_3 (List.mem_of_getElem? (i := 124) rfl), rfl⟩
theorem mw_1004 : Cond.methodLink "LifeListLaw" 133 yX11_aside ∈ m_tb := m_tb_mem.mpr ⟨ck_6 (List.mem_of_getElem? (i := 36) rfl), rfl⟩
theorem mw_1005 : Cond.instanceMethod yX11_aside ∈ m_tb := m_tb_mem.mpr ⟨ck_6 (List.mem_of_getElem? (i := 37) rfl), rfl⟩
theorem mw_1006 : Cond.selects "LifeListModel" yX11_aside yX11_aside ∈ m_tb := m_tb_mem.mpr ⟨ck_6 (List.mem_of_getElem? (i := 38) rfl), rfl⟩
theorem mw_1007 : Cond.methodLink "LifeListLaw" 134 yX10_kin ∈ m_tb := m_tb_mem.mpr ⟨ck_3 (List.mem_of_getElem? (i := 127) rfl), rfl⟩
theorem mw_1008 : Cond.instanceMethod yX10_kin ∈ m_tb := m_tb_mem.mpr ⟨ck_3 (List.mem_of_getElem? (i := 128) rfl), rfl⟩
theorem mw_1009 : Cond.selects "LifeList" yX10_kin yX10_kin ∈ m_tb := m_tb_mem.mpr ⟨ck_3 (List.mem_of_getElem? (i := 129) rfl), rfl⟩
theorem mw_1010 : Cond.methodLink "LifeListLaw" 137 yX11_kin ∈ m_tb := m_tb_mem.mpr ⟨ck_6 (List.mem_of_getElem? (i := 133) rfl), rfl⟩
theorem mw_1011 : Cond.instanceMethod yX11_kin ∈ m_tb := m_tb_mem.mpr ⟨ck_6 (List.mem_of_getElem? (i := 134) rfl), rfl⟩
theorem mw_1012 : Cond.selects "LifeListModel" yX11_kin yX11_kin ∈ m_tb := m_tb_mem.mpr ⟨ck_6 (List.mem_of_getElem? (i := 135) rfl), rfl⟩
theorem mw_1013 : Cond.methodLink "LifeListLaw" 140 yX10_type ∈ m_tb := m_tb_mem.mpr ⟨ck_3 (List.mem_of_getElem? (i := 131) rfl), rfl⟩
theorem mw_1014 : Cond.instanceMethod yX10_type ∈ m_tb := m_tb_mem.mpr ⟨ck_3 (List.mem_of_getElem? (i := 132) rfl), rfl⟩
theorem mw_1015 : Cond.selects "LifeList" yX10_type yX10_type ∈ m_tb := m_tb_mem.mpr ⟨ck_3 (List.mem_of_getElem? (i := 133) rfl), rfl⟩
theorem mw_1016 : Cond.methodLink "LifeListLaw" 144 yX11_type ∈ m_tb := m_tb_mem.mpr ⟨ck_6 (List.mem_of_getElem? (i := 139) rfl), rfl⟩
theorem mw_1017 : Cond.instanceMethod yX11_type ∈ m_tb := m_tb_mem.mpr ⟨ck_6 (List.mem_of_getElem? (i := 140) rfl), rfl⟩
theorem mw_1018 : Cond.selects "LifeListModel" yX11_type yX11_type ∈ m_tb := m_tb_mem.mpr ⟨ck_6 (List.mem_of_getElem? (i := 141) rfl), rfl⟩
theorem mw_1019 : Cond.methodLink "LifeListLaw" 145 yX10_rules ∈ m_tb := m_tb_mem.mpr ⟨ck_3 (List.mem_of_getElem? (i := 146) rfl), rfl⟩
theorem mw_1020 : Cond.instanceMethod yX10_rules ∈ m_tb := m_tb_mem.mpr ⟨ck_3 (List.mem_of_getElem? (i := 147) rfl), rfl⟩
theorem mw_1021 : Cond.selects "LifeList" yX10_rules yX10_rules ∈ m_tb := m_tb_mem.mpr ⟨ck_3 (List.mem_of_getElem? (i := 148) rfl), rfl⟩
theorem mw_1022 : Cond.methodLink "LifeListLaw" 148 yX11_rules ∈ m_tb := m_tb_mem.mpr ⟨ck_6 (List.mem_of_getElem? (i := 147) rfl), rfl⟩
theorem mw_1023 : Cond.instanceMethod yX11_rules ∈ m_tb := m_tb_mem.mpr ⟨ck_6 (List.mem_of_getElem? (i := 148) rfl), rfl⟩
theorem mw_1024 : Cond.selects "LifeListModel" yX11_rules yX11_rules ∈ m_tb := m_tb_mem.mpr ⟨ck_6 (List.mem_of_getElem? (i := 149) rfl), rfl⟩
theorem mw_1025 : Cond.methodLink "LifeListLaw" 149 yX10_rule ∈ m_tb := m_tb_mem.mpr ⟨ck_4 (List.mem_of_getElem? (i := 35) rfl), rfl⟩
theorem mw_1026 : Cond.instanceMethod yX10_rule ∈ m_tb := m_tb_mem.mpr ⟨ck_4 (List.mem_of_getElem? (i := 36) rfl), rfl⟩
theorem mw_1027 : Cond.selects "LifeList" yX10_rule yX10_rule ∈ m_tb := m_tb_mem.mpr ⟨ck_4 (List.mem_of_getElem? (i := 37) rfl), rfl⟩
theorem mw_1028 : Cond.methodLink "LifeListLaw" 152 yX11_rule ∈ m_tb := m_tb_mem.mpr ⟨ck_6 (List.mem_of_getElem? (i := 173) rfl), rfl⟩
theorem mw_1029 : Cond.instanceMethod yX11_rule ∈ m_tb := m_tb_mem.mpr ⟨ck_6 (List.mem_of_getElem? (i := 174) rfl), rfl⟩
theorem mw_1030 : Cond.selects "LifeListModel" yX11_rule yX11_rule ∈ m_tb := m_tb_mem.mpr ⟨ck_6 (List.mem_of_getElem? (i := 175) rfl), rfl⟩
theorem mw_1031 : Cond.methodLink "LifeListLaw" 153 yX10_vote ∈ m_tb := m_tb_mem.mpr ⟨ck_4 (List.mem_of_getElem? (i := 39) rfl), rfl⟩
theorem mw_1032 : Cond.instanceMethod yX10_vote ∈ m_tb := m_tb_mem.mpr ⟨ck_4 (List.mem_of_getElem? (i := 40) rfl), rfl⟩
theorem mw_1033 : Cond.selects "LifeList" yX10_vote yX10_vote ∈ m_tb := m_tb_mem.mpr ⟨ck_4 (List.mem_of_getElem? (i := 41) rfl), rfl⟩
theorem mw_1034 : Cond.methodLink "LifeListLaw" 157 yX11_vote ∈ m_tb := m_tb_mem.mpr ⟨ck_6 (List.mem_of_getElem? (i := 186) rfl), rfl⟩
theorem mw_1035 : Cond.instanceMethod yX11_vote ∈ m_tb := m_tb_mem.mpr ⟨ck_6 (List.mem_of_getElem? (i := 187) rfl), rfl⟩
theorem mw_1036 : Cond.selects "LifeListModel" yX11_vote yX11_vote ∈ m_tb := m_tb_mem.mpr ⟨ck_6 (List.mem_of_getElem? (i := 188) rfl), rfl⟩
theorem mw_1037 : Cond.methodLink "LifeListLaw" 158 yX10_votes ∈ m_tb := m_tb_mem.mpr ⟨ck_4 (List.mem_of_getElem? (i := 60) rfl), rfl⟩
theorem mw_1038 : Cond.instanceMethod yX10_votes ∈ m_tb := m_tb_mem.mpr ⟨ck_4 (List.mem_of_getElem? (i := 61) rfl), rfl⟩
theorem mw_1039 : Cond.selects "LifeList" yX10_votes yX10_votes ∈ m_tb := m_tb_mem.mpr ⟨ck_4 (List.mem_of_getElem? (i := 62) rfl), rfl⟩
theorem mw_1040 : Cond.methodLink "LifeListLaw" 161 yX11_votes ∈ m_tb := m_tb_mem.mpr ⟨ck_6 (List.mem_of_getElem? (i := 191) rfl), rfl⟩
theorem mw_1041 : Cond.instanceMethod yX11_votes ∈ m_tb := m_tb_mem.mpr ⟨ck_6 (List.mem_of_getElem? (i := 192) rfl), rfl⟩
theorem mw_1042 : Cond.selects "LifeListModel" yX11_votes yX11_votes ∈ m_tb := m_tb_mem.mpr ⟨ck_6 (List.mem_of_getElem? (i := 193) rfl), rfl⟩
theorem mw_1043 : Cond.methodLink "LifeListLaw" 162 yX10_state ∈ m_tb := m_tb_mem.mpr ⟨ck_4 (List.mem_of_getElem? (i := 64) rfl), rfl⟩
theorem mw_1044 : Cond.instanceMethod yX10_state ∈ m_tb := m_tb_mem.mpr ⟨ck_4 (List.mem_of_getElem? (i := 65) rfl), rfl⟩
theorem mw_1045 : Cond.selects "LifeList" yX10_state yX10_state ∈ m_tb := m_tb_mem.mpr ⟨ck_4 (List.mem_of_getElem? (i := 66) rfl), rfl⟩
theorem mw_1046 : Cond.methodLink "LifeListLaw" 165 yX11_state ∈ m_tb := m_tb_mem.mpr ⟨ck_6 (List.mem_of_getElem? (i := 196) rfl), rfl⟩
theorem mw_1047 : Cond.instanceMethod yX11_state ∈ m_tb := m_tb_mem.mpr ⟨ck_6 (List.mem_of_getElem? (i := 197) rfl), rfl⟩
theorem mw_1048 : Cond.selects "LifeListModel" yX11_state yX11_state ∈ m_tb := m_tb_mem.mpr ⟨ck_6 (List.mem_of_getElem? (i := 198) rfl), rfl⟩
theorem mw_1049 : Cond.methodLink "LifeListLaw" 166 yX10_unsure ∈ m_tb := m_tb_mem.mpr ⟨ck_4 (List.mem_of_getElem? (i := 73) rfl), rfl⟩
theorem mw_1050 : Cond.instanceMethod yX10_unsure ∈ m_tb := m_tb_mem.mpr ⟨ck_4 (List.mem_of_getElem? (i := 74) rfl), rfl⟩
theorem mw_1051 : Cond.selects "LifeList" yX10_unsure yX10_unsure ∈ m_tb := m_tb_mem.mpr ⟨ck_4 (List.mem_of_getElem? (i := 75) rfl), rfl⟩
theorem mw_1052 : Cond.methodLink "LifeListLaw" 169 yX11_unsure ∈ m_tb := m_tb_mem.mpr ⟨ck_6 (List.mem_of_getElem? (i := 204) rfl), rfl⟩
theorem mw_1053 : Cond.instanceMethod yX11_unsure ∈ m_tb := m_tb_mem.mpr ⟨ck_6 (List.mem_of_getElem? (i := 205) rfl), rfl⟩
theorem mw_1054 : Cond.selects "LifeListModel" yX11_unsure yX11_unsure ∈ m_tb := m_tb_mem.mpr ⟨ck_6 (List.mem_of_getElem? (i := 206) rfl), rfl⟩
theorem mw_1055 : Cond.methodLink "LifeListLaw" 170 yX10_leaning ∈ m_tb := m_tb_mem.mpr ⟨ck_4 (List.mem_of_getElem? (i := 85) rfl), rfl⟩
theorem mw_1056 : Cond.instanceMethod yX10_leaning ∈ m_tb := m_tb_mem.mpr ⟨ck_4 (List.mem_of_getElem? (i := 86) rfl), rfl⟩
theorem mw_1057 : Cond.selects "LifeList" yX10_leaning yX10_leaning ∈ m_tb := m_tb_mem.mpr ⟨ck_4 (List.mem_of_getElem? (i := 87) rfl), rfl⟩
theorem mw_1058 : Cond.methodLink "LifeListLaw" 173 yX11_leaning ∈ m_tb := m_tb_mem.mpr ⟨ck_6 (List.mem_of_getElem? (i := 208) rfl), rfl⟩
theorem mw_1059 : Cond.instanceMethod yX11_leaning ∈ m_tb := m_tb_mem.mpr ⟨ck_6 (List.mem_of_getElem? (i := 209) rfl), rfl⟩
theorem mw_1060 : Cond.selects "LifeListModel" yX11_leaning yX11_leaning ∈ m_tb := m_tb_mem.mpr ⟨ck_6 (List.mem_of_getElem? (i := 210) rfl), rfl⟩
theorem mw_1061 : Cond.methodLink "LifeListLaw" 174 yX10_edition ∈ m_tb := m_tb_mem.mpr ⟨ck_4 (List.mem_of_getElem? (i := 89) rfl), rfl⟩
theorem mw_1062 : Cond.instanceMethod yX10_edition ∈ m_tb := m_tb_mem.mpr ⟨ck_4 (List.mem_of_getElem? (i := 90) rfl), rfl⟩
theorem mw_1063 : Cond.selects "LifeList" yX10_edition yX10_edition ∈ m_tb := m_tb_mem.mpr ⟨ck_4 (List.mem_of_getElem? (i := 91) rfl), rfl⟩
theorem mw_1064 : Cond.methodLink "LifeListLaw" 177 yX11_edition ∈ m_tb := m_tb_mem.mpr ⟨ck_6 (List.mem_of_getElem? (i := 212) rfl), rfl⟩
theorem mw_1065 : Cond.instanceMethod yX11_edition ∈ m_tb := m_tb_mem.mpr ⟨ck_6 (List.mem_of_getElem? (i := 213) rfl), rfl⟩
theorem mw_1066 : Cond.selects "LifeListModel" yX11_edition yX11_edition ∈ m_tb := m_tb_mem.mpr ⟨ck_6 (List.mem_of_getElem? (i := 214) rfl), rfl⟩
theorem mw_1067 : Cond.methodLink "LifeListLaw" 178 yX10_number ∈ m_tb := m_tb_mem.mpr ⟨ck_4 (List.mem_of_getElem? (i := 109) rfl), rfl⟩
theorem mw_1068 : Cond.instanceMethod yX10_number ∈ m_tb := m_tb_mem.mpr ⟨ck_4 (List.mem_of_getElem? (i := 110) rfl), rfl⟩
theorem mw_1069 : Cond.selects "LifeList" yX10_number yX10_number ∈ m_tb := m_tb_mem.mpr ⟨ck_4 (List.mem_of_getElem? (i := 111) rfl), rfl⟩
theorem mw_1070 : Cond.methodLink "LifeListLaw" 181 yX11_number_ ∈ m_tb := m_tb_mem.mpr ⟨ck_6 (List.mem_of_getElem? (i := 220) rfl), rfl⟩
theorem mw_1071 : Cond.instanceMethod yX11_number_ ∈ m_tb := m_tb_mem.mpr ⟨ck_6 (List.mem_of_getElem? (i := 221) rfl), rfl⟩
theorem mw_1072 : Cond.selects "LifeListModel" yX11_number_ yX11_number_ ∈ m_tb := m_tb_mem.mpr ⟨ck_6 (List.mem_of_getElem? (i := 222) rfl), rfl⟩
theorem mw_1073 : Cond.methodLink "LifeListLaw" 182 yX10_count ∈ m_tb := m_tb_mem.mpr ⟨ck_4 (List.mem_of_getElem? (i := 117) rfl), rfl⟩
theorem mw_1074 : Cond.instanceMethod yX10_count ∈ m_tb := m_tb_mem.mpr ⟨ck_4 (List.mem_of_getElem? (i := 118) rfl), rfl⟩
theorem mw_1075 : Cond.selects "LifeList" yX10_count yX10_count ∈ m_tb := m_tb_mem.mpr ⟨ck_4 (List.mem_of_getElem? (i := 119) rfl), rfl⟩
theorem mw_1076 : Cond.methodLink "LifeListLaw" 185 yX11_count ∈ m_tb := m_tb_mem.mpr ⟨ck_6 (List.mem_of_getElem? (i := 224) rfl), rfl⟩
theorem mw_1077 : Cond.instanceMethod yX11_count ∈ m_tb := m_tb_mem.mpr ⟨ck_6 (List.mem_of_getElem? (i := 225) rfl), rfl⟩
theorem mw_1078 : Cond.selects "LifeListModel" yX11_count yX11_count ∈ m_tb := m_tb_mem.mpr ⟨ck_6 (List.mem_of_getElem? (i := 226) rfl), rfl⟩
theorem mw_1079 : Cond.methodLink "LifeListLaw" 186 yX10_sheet ∈ m_tb := m_tb_mem.mpr ⟨ck_4 (List.mem_of_getElem? (i := 126) rfl), rfl⟩
theorem mw_1080 : Cond.instanceMethod yX10_sheet ∈ m_tb := m_tb_mem.mpr ⟨ck_4 (List.mem_of_getElem? (i := 127) rfl), rfl⟩
theorem mw_1081 : Cond.selects "LifeList" yX10_sheet yX10_sheet ∈ m_tb := m_tb_mem.mpr ⟨ck_4 (List.mem_of_getElem? (i := 128) rfl), rfl⟩
theorem mw_1082 : Cond.methodLink "LifeListLaw" 189 yX11_sheet ∈ m_tb := m_tb_mem.mpr ⟨ck_6 (List.mem_of_getElem? (i := 228) rfl), rfl⟩
theorem mw_1083 : Cond.instanceMethod yX11_sheet ∈ m_tb := m_tb_mem.mpr ⟨ck_6 (List.mem_of_getElem? (i := 229) rfl), rfl⟩
theorem mw_1084 : Cond.selects "LifeListModel" yX11_sheet yX11_sheet ∈ m_tb := m_tb_mem.mpr ⟨ck_6 (List.mem_of_getElem? (i := 230) rfl), rfl⟩
theorem mw_1085 : Cond.methodLink "LifeListLaw" 190 yX10_drop ∈ m_tb := m_tb_mem.mpr ⟨ck_4 (List.mem_of_getElem? (i := 140) rfl), rfl⟩
theorem mw_1086 : Cond.instanceMethod yX10_drop ∈ m_tb := m_tb_mem.mpr ⟨ck_4 (List.mem_of_getElem? (i := 141) rfl), rfl⟩
theorem mw_1087 : Cond.selects "LifeList" yX10_drop yX10_drop ∈ m_tb := m_tb_mem.mpr ⟨ck_4 (List.mem_of_getElem? (i := 142) rfl), rfl⟩
theorem mw_1088 : Cond.methodLink "LifeListLaw" 193 yX11_drop ∈ m_tb := m_tb_mem.mpr ⟨ck_6 (List.mem_of_getElem? (i := 235) rfl), rfl⟩
theorem mw_1089 : Cond.instanceMethod yX11_drop ∈ m_tb := m_tb_mem.mpr ⟨ck_6 (List.mem_of_getElem? (i := 236) rfl), rfl⟩
theorem mw_1090 : Cond.selects "LifeListModel" yX11_drop yX11_drop ∈ m_tb := m_tb_mem.mpr ⟨ck_6 (List.mem_of_getElem? (i := 237) rfl), rfl⟩
theorem mw_1091 : Cond.methodLink "LifeListLaw" 194 yX10_item ∈ m_tb := m_tb_mem.mpr ⟨ck_4 (List.mem_of_getElem? (i := 144) rfl), rfl⟩
theorem mw_1092 : Cond.instanceMethod yX10_item ∈ m_tb := m_tb_mem.mpr ⟨ck_4 (List.mem_of_getElem? (i := 145) rfl), rfl⟩
theorem mw_1093 : Cond.selects "LifeList" yX10_item yX10_item ∈ m_tb := m_tb_mem.mpr ⟨ck_4 (List.mem_of_getElem? (i := 146) rfl), rfl⟩
theorem mw_1094 : Cond.methodLink "LifeListLaw" 197 yX11_item ∈ m_tb := m_tb_mem.mpr ⟨ck_6 (List.mem_of_getElem? (i := 239) rfl), rfl⟩
theorem mw_1095 : Cond.instanceMethod yX11_item ∈ m_tb := m_tb_mem.mpr ⟨ck_7 (List.mem_of_getElem? (i := 0) rfl), rfl⟩
theorem mw_1096 : Cond.selects "LifeListModel" yX11_item yX11_item ∈ m_tb := m_tb_mem.mpr ⟨ck_7 (List.mem_of_getElem? (i := 1) rfl), rfl⟩
theorem mw_1097 : Cond.methodLink "LifeListLaw" 198 yX10_holdings ∈ m_tb := m_tb_mem.mpr ⟨ck_4 (List.mem_of_getElem? (i := 152) rfl), rfl⟩
theorem mw_1098 : Cond.instanceMethod yX10_holdings ∈ m_tb := m_tb_mem.mpr ⟨ck_4 (List.mem_of_getElem? (i := 153) rfl), rfl⟩
theorem mw_1099 : Cond.selects "LifeList" yX10_holdings yX10_holdings ∈ m_tb := m_tb_mem.mpr ⟨ck_4 (List.mem_of_getElem? (i := 154) rfl), rfl⟩
theorem mw_1100 : Cond.methodLink "LifeListLaw" 201 yX11_holdings ∈ m_tb := m_tb_mem.mpr ⟨ck_7 (List.mem_of_getElem? (i := 3) rfl), rfl⟩
theorem mw_1101 : Cond.instanceMethod yX11_holdings ∈ m_tb := m_tb_mem.mpr ⟨ck_7 (List.mem_of_getElem? (i := 4) rfl), rfl⟩
theorem mw_1102 : Cond.selects "LifeListModel" yX11_holdings yX11_holdings ∈ m_tb := m_tb_mem.mpr ⟨ck_7 (List.mem_of_getElem? (i := 5) rfl), rfl⟩
theorem mw_1103 : Cond.code yX0_init cX0_init 1 none ∈ m_tb := m_tb_mem.mpr ⟨ck_0 (List.mem_of_getElem? (i := 164) rfl), rfl⟩
theorem mw_1104 : Cond.code yX0_kinOfAny cX0_kinOfAny 4 (some .int) ∈ m_tb := m_tb_mem.mpr ⟨ck_4 (List.mem_of_getElem? (i := 46) rfl), rfl⟩
theorem mw_1105 : Cond.code yX0_add cX0_add 5 (some .int) ∈ m_tb := m_tb_mem.mpr ⟨ck_4 (List.mem_of_getElem? (i := 55) rfl), rfl⟩
theorem mw_1106 : Cond.code yX0_noteVoters cX0_noteVoters 4 none ∈ m_tb := m_tb_mem.mpr ⟨ck_4 (List.mem_of_getElem? (i := 59) rfl), rfl⟩
theorem mw_1107 : Cond.code yX0_reckonAll cX0_reckonAll 1 none ∈ m_tb := m_tb_mem.mpr ⟨ck_2 (List.mem_of_getElem? (i := 165) rfl), rfl⟩
theorem mw_1108 : Cond.code yX0_reckon cX0_reckon 5 none ∈ m_tb := m_tb_mem.mpr ⟨ck_2 (List.mem_of_getElem? (i := 169) rfl), rfl⟩
theorem mw_1109 : Cond.code yX1_init cX1_init 4 none ∈ m_tb := m_tb_mem.mpr ⟨ck_1 (List.mem_of_getElem? (i := 150) rfl), rfl⟩
theorem mw_1110 : Cond.code yX1_numberOf cX1_numberOf 2 (some .int) ∈ m_tb := m_tb_mem.mpr ⟨ck_4 (List.mem_of_getElem? (i := 116) rfl), rfl⟩
theorem mw_1111 : Cond.code yX1_publish cX1_publish 6 (some .int) ∈ m_tb := m_tb_mem.mpr ⟨ck_4 (List.mem_of_getElem? (i := 96) rfl), rfl⟩
theorem mw_1112 : Cond.code yX1_give cX1_give 3 (some .boolean) ∈ m_tb := m_tb_mem.mpr ⟨ck_4 (List.mem_of_getElem? (i := 108) rfl), rfl⟩
theorem mw_1113 : Cond.code yX1_sortThoseIn cX1_sortThoseIn 4 (some .int) ∈ m_tb := m_tb_mem.mpr ⟨ck_4 (List.mem_of_getElem? (i := 100) rfl), rfl⟩
theorem mw_1114 : Cond.code yX1_middle cX1_middle 2 (some .int) ∈ m_tb := m_tb_mem.mpr ⟨ck_4 (List.mem_of_getElem? (i := 104) rfl), rfl⟩
theorem mw_1115 : Cond.code yX2_init cX2_init 3 none ∈ m_tb := m_tb_mem.mpr ⟨ck_1 (List.mem_of_getElem? (i := 84) rfl), rfl⟩
theorem mw_1116 : Cond.code yX2_join cX2_join 7 none ∈ m_tb := m_tb_mem.mpr ⟨ck_2 (List.mem_of_getElem? (i := 225) rfl), rfl⟩
theorem mw_1117 : Cond.code yX2_gather cX2_gather 4 none ∈ m_tb := m_tb_mem.mpr ⟨ck_2 (List.mem_of_getElem? (i := 229) rfl), rfl⟩
theorem mw_1118 : Cond.code yX2_weigh cX2_weigh 8 none ∈ m_tb := m_tb_mem.mpr ⟨ck_2 (List.mem_of_getElem? (i := 235) rfl), rfl⟩
theorem mw_1119 : Cond.code yX2_seatOf cX2_seatOf 3 (some .int) ∈ m_tb := m_tb_mem.mpr ⟨ck_3 (List.mem_of_getElem? (i := 30) rfl), rfl⟩
theorem mw_1120 : Cond.code yX2_workFor cX2_workFor 3 (some .int) ∈ m_tb := m_tb_mem.mpr ⟨ck_3 (List.mem_of_getElem? (i := 26) rfl), rfl⟩
theorem mw_1121 : Cond.code yX2_isSure cX2_isSure 7 (some .boolean) ∈ m_tb := m_tb_mem.mpr ⟨ck_3 (List.mem_of_getElem? (i := 39) rfl), rfl⟩
theorem mw_1122 : Cond.code yX2_countJoined cX2_countJoined 5 (some .int) ∈ m_tb := m_tb_mem.mpr ⟨ck_3 (List.mem_of_getElem? (i := 57) rfl), rfl⟩
theorem mw_1123 : Cond.code yX2_sureWorks cX2_sureWorks 6 (some .long) ∈ m_tb := m_tb_mem.mpr ⟨ck_3 (List.mem_of_getElem? (i := 67) rfl), rfl⟩
theorem mw_1124 : Cond.code yX3_init cX3_init 1 none ∈ m_tb := m_tb_mem.mpr ⟨ck_1 (List.mem_of_getElem? (i := 90) rfl), rfl⟩
theorem mw_1125 : Cond.code yX3_solve cX3_solve 5 (some .long) ∈ m_tb := m_tb_mem.mpr ⟨ck_3 (List.mem_of_getElem? (i := 0) rfl), rfl⟩
theorem mw_1126 : Cond.code yX3_columnOf cX3_columnOf 3 (some .int) ∈ m_tb := m_tb_mem.mpr ⟨ck_3 (List.mem_of_getElem? (i := 21) rfl), rfl⟩
theorem mw_1127 : Cond.code yX3_seat cX3_seat 5 none ∈ m_tb := m_tb_mem.mpr ⟨ck_3 (List.mem_of_getElem? (i := 8) rfl), rfl⟩
theorem mw_1128 : Cond.code yX3_reachNext cX3_reachNext 9 (some .int) ∈ m_tb := m_tb_mem.mpr ⟨ck_3 (List.mem_of_getElem? (i := 13) rfl), rfl⟩
theorem mw_1129 : Cond.code yX3_shiftPrices cX3_shiftPrices 4 none ∈ m_tb := m_tb_mem.mpr ⟨ck_3 (List.mem_of_getElem? (i := 17) rfl), rfl⟩
theorem mw_1130 : Cond.code yX4_init cX4_init 5 none ∈ m_tb := m_tb_mem.mpr ⟨ck_1 (List.mem_of_getElem? (i := 30) rfl), rfl⟩
theorem mw_1131 : Cond.code yX4_has cX4_has 2 (some .boolean) ∈ m_tb := m_tb_mem.mpr ⟨ck_2 (List.mem_of_getElem? (i := 157) rfl), rfl⟩
theorem mw_1132 : Cond.code yX4_add cX4_add 6 (some .int) ∈ m_tb := m_tb_mem.mpr ⟨ck_2 (List.mem_of_getElem? (i := 145) rfl), rfl⟩
theorem mw_1133 : Cond.code yX4_measure cX4_measure 6 none ∈ m_tb := m_tb_mem.mpr ⟨ck_2 (List.mem_of_getElem? (i := 149) rfl), rfl⟩
theorem mw_1134 : Cond.code yX4_scoreFor cX4_scoreFor 6 (some .int) ∈ m_tb := m_tb_mem.mpr ⟨ck_2 (List.mem_of_getElem? (i := 188) rfl), rfl⟩
theorem mw_1135 : Cond.code yX4_countFits cX4_countFits 4 (some .int) ∈ m_tb := m_tb_mem.mpr ⟨ck_2 (List.mem_of_getElem? (i := 216) rfl), rfl⟩
theorem mw_1136 : Cond.code yX4_countLost cX4_countLost 3 (some .int) ∈ m_tb := m_tb_mem.mpr ⟨ck_3 (List.mem_of_getElem? (i := 52) rfl), rfl⟩
theorem mw_1137 : Cond.code yX4_isSizeFit cX4_isSizeFit 5 (some .boolean) ∈ m_tb := m_tb_mem.mpr ⟨ck_2 (List.mem_of_getElem? (i := 192) rfl), rfl⟩
theorem mw_1138 : Cond.code yX4_areSidesFit cX4_areSidesFit 11 (some .boolean) ∈ m_tb := m_tb_mem.mpr ⟨ck_2 (List.mem_of_getElem? (i := 198) rfl), rfl⟩
theorem mw_1139 : Cond.code yX5_init cX5_init 1 none ∈ m_tb := m_tb_mem.mpr ⟨ck_0 (List.mem_of_getElem? (i := 102) rfl), rfl⟩
theorem mw_1140 : Cond.code yX5_add cX5_add 7 (some .int) ∈ m_tb := m_tb_mem.mpr ⟨ck_2 (List.mem_of_getElem? (i := 89) rfl), rfl⟩
theorem mw_1141 : Cond.code yX5_theOwner cX5_theOwner 5 (some .int) ∈ m_tb := m_tb_mem.mpr ⟨ck_2 (List.mem_of_getElem? (i := 101) rfl), rfl⟩
theorem mw_1142 : Cond.code yX5_whoMay cX5_whoMay 5 (some .int) ∈ m_tb := m_tb_mem.mpr ⟨ck_2 (List.mem_of_getElem? (i := 110) rfl), rfl⟩
theorem mw_1143 : Cond.code yX5_firstTwoAtOnce cX5_firstTwoAtOnce 4 (some .int) ∈ m_tb := m_tb_mem.mpr ⟨ck_2 (List.mem_of_getElem? (i := 118) rfl), rfl⟩
theorem mw_1144 : Cond.code yX5_areTwoAtOnce cX5_areTwoAtOnce 5 (some .boolean) ∈ m_tb := m_tb_mem.mpr ⟨ck_2 (List.mem_of_getElem? (i := 122) rfl), rfl⟩
theorem mw_1145 : Cond.code yX5_firstGap cX5_firstGap 4 (some .int) ∈ m_tb := m_tb_mem.mpr ⟨ck_2 (List.mem_of_getElem? (i := 136) rfl), rfl⟩
theorem mw_1146 : Cond.code yX6_init cX6_init 2 none ∈ m_tb := m_tb_mem.mpr ⟨ck_0 (List.mem_of_getElem? (i := 131) rfl), rfl⟩
theorem mw_1147 : Cond.code yX6_areTypable cX6_areTypable 4 (some .boolean) ∈ m_tb := m_tb_mem.mpr ⟨ck_3 (List.mem_of_getElem? (i := 137) rfl), rfl⟩
theorem mw_1148 : Cond.code yX6_byteAt cX6_byteAt 3 (some .int) ∈ m_tb := m_tb_mem.mpr ⟨ck_3 (List.mem_of_getElem? (i := 140) rfl), rfl⟩
theorem mw_1149 : Cond.code yX6_append cX6_append 5 (some .int) ∈ m_tb := m_tb_mem.mpr ⟨ck_3 (List.mem_of_getElem? (i := 145) rfl), rfl⟩
theorem mw_1150 : Cond.code yX6_isPassed cX6_isPassed 6 (some .boolean) ∈ m_tb := m_tb_mem.mpr ⟨ck_4 (List.mem_of_getElem? (i := 50) rfl), rfl⟩
theorem mw_1151 : Cond.code yX6_readTape cX6_readTape 2 (some .int) ∈ m_tb := m_tb_mem.mpr ⟨ck_3 (List.mem_of_getElem? (i := 153) rfl), rfl⟩
theorem mw_1152 : Cond.code yX6_enforce cX6_enforce 3 none ∈ m_tb := m_tb_mem.mpr ⟨ck_4 (List.mem_of_getElem? (i := 29) rfl), rfl⟩
theorem mw_1153 : Cond.code yX6_readClauses cX6_readClauses 2 (some .int) ∈ m_tb := m_tb_mem.mpr ⟨ck_3 (List.mem_of_getElem? (i := 157) rfl), rfl⟩
theorem mw_1154 : Cond.code yX6_readClause cX6_readClause 5 none ∈ m_tb := m_tb_mem.mpr ⟨ck_3 (List.mem_of_getElem? (i := 161) rfl), rfl⟩
theorem mw_1155 : Cond.code yX6_readKind cX6_readKind 2 (some .int) ∈ m_tb := m_tb_mem.mpr ⟨ck_3 (List.mem_of_getElem? (i := 165) rfl), rfl⟩
theorem mw_1156 : Cond.code yX6_readSign cX6_readSign 2 none ∈ m_tb := m_tb_mem.mpr ⟨ck_4 (List.mem_of_getElem? (i := 25) rfl), rfl⟩
theorem mw_1157 : Cond.code yX6_readNumber cX6_readNumber 5 (some .int) ∈ m_tb := m_tb_mem.mpr ⟨ck_4 (List.mem_of_getElem? (i := 20) rfl), rfl⟩
theorem mw_1158 : Cond.code yX6_skipBlanks cX6_skipBlanks 1 none ∈ m_tb := m_tb_mem.mpr ⟨ck_3 (List.mem_of_getElem? (i := 169) rfl), rfl⟩
theorem mw_1159 : Cond.code yX6_blame cX6_blame 2 none ∈ m_tb := m_tb_mem.mpr ⟨ck_4 (List.mem_of_getElem? (i := 16) rfl), rfl⟩
theorem mw_1160 : Cond.code yX7_init cX7_init 1 none ∈ m_tb := m_tb_mem.mpr ⟨ck_1 (List.mem_of_getElem? (i := 185) rfl), rfl⟩
theorem mw_1161 : Cond.code yX7_lay cX7_lay 4 none ∈ m_tb := m_tb_mem.mpr ⟨ck_4 (List.mem_of_getElem? (i := 139) rfl), rfl⟩
theorem mw_1162 : Cond.code yX7_refuse cX7_refuse 5 (some .int) ∈ m_tb := m_tb_mem.mpr ⟨ck_4 (List.mem_of_getElem? (i := 151) rfl), rfl⟩
theorem mw_1163 : Cond.code yX8_init cX8_init 1 none ∈ m_tb := m_tb_mem.mpr ⟨ck_0 (List.mem_of_getElem? (i := 35) rfl), rfl⟩
theorem mw_1164 : Cond.code yX8_has cX8_has 2 (some .boolean) ∈ m_tb := m_tb_mem.mpr ⟨ck_2 (List.mem_of_getElem? (i := 22) rfl), rfl⟩
theorem mw_1165 : Cond.code yX8_isPainted cX8_isPainted 2 (some .boolean) ∈ m_tb := m_tb_mem.mpr ⟨ck_2 (List.mem_of_getElem? (i := 26) rfl), rfl⟩
theorem mw_1166 : Cond.code yX8_isOnPaper cX8_isOnPaper 2 (some .boolean) ∈ m_tb := m_tb_mem.mpr ⟨ck_2 (List.mem_of_getElem? (i := 46) rfl), rfl⟩
theorem mw_1167 : Cond.code yX8_add cX8_add 8 (some .int) ∈ m_tb := m_tb_mem.mpr ⟨ck_2 (List.mem_of_getElem? (i := 14) rfl), rfl⟩
theorem mw_1168 : Cond.code yX8_addTitle cX8_addTitle 5 (some .int) ∈ m_tb := m_tb_mem.mpr ⟨ck_2 (List.mem_of_getElem? (i := 38) rfl), rfl⟩
theorem mw_1169 : Cond.code yX8_trim cX8_trim 7 (some .int) ∈ m_tb := m_tb_mem.mpr ⟨ck_2 (List.mem_of_getElem? (i := 50) rfl), rfl⟩
theorem mw_1170 : Cond.code yX8_titleIn cX8_titleIn 5 (some .int) ∈ m_tb := m_tb_mem.mpr ⟨ck_2 (List.mem_of_getElem? (i := 62) rfl), rfl⟩
theorem mw_1171 : Cond.code yX8_heightIn cX8_heightIn 3 (some .int) ∈ m_tb := m_tb_mem.mpr ⟨ck_2 (List.mem_of_getElem? (i := 66) rfl), rfl⟩
theorem mw_1172 : Cond.code yX8_widthIn cX8_widthIn 3 (some .int) ∈ m_tb := m_tb_mem.mpr ⟨ck_2 (List.mem_of_getElem? (i := 70) rfl), rfl⟩
theorem mw_1173 : Cond.code yX8_isLeaning cX8_isLeaning 5 (some .boolean) ∈ m_tb := m_tb_mem.mpr ⟨ck_4 (List.mem_of_getElem? (i := 84) rfl), rfl⟩
theorem mw_1174 : Cond.code yX9_init cX9_init 3 none ∈ m_tb := m_tb_mem.mpr ⟨ck_0 (List.mem_of_getElem? (i := 213) rfl), rfl⟩
theorem mw_1175 : Cond.code yX9_add cX9_add 4 (some .int) ∈ m_tb := m_tb_mem.mpr ⟨ck_3 (List.mem_of_getElem? (i := 81) rfl), rfl⟩
theorem mw_1176 : Cond.code yX9_reckon cX9_reckon 2 none ∈ m_tb := m_tb_mem.mpr ⟨ck_2 (List.mem_of_getElem? (i := 161) rfl), rfl⟩
theorem mw_1177 : Cond.code yX9_isStruck cX9_isStruck 2 (some .boolean) ∈ m_tb := m_tb_mem.mpr ⟨ck_2 (List.mem_of_getElem? (i := 174) rfl), rfl⟩
theorem mw_1178 : Cond.code yX9_raiseLows cX9_raiseLows 7 (some .boolean) ∈ m_tb := m_tb_mem.mpr ⟨ck_2 (List.mem_of_getElem? (i := 179) rfl), rfl⟩
theorem mw_1179 : Cond.code yX9_lowerHighs cX9_lowerHighs 5 none ∈ m_tb := m_tb_mem.mpr ⟨ck_2 (List.mem_of_getElem? (i := 183) rfl), rfl⟩
theorem mw_1180 : Cond.code yX9_findAsides cX9_findAsides 2 (some .int) ∈ m_tb := m_tb_mem.mpr ⟨ck_3 (List.mem_of_getElem? (i := 101) rfl), rfl⟩
theorem mw_1181 : Cond.code yX9_asideAt cX9_asideAt 2 (some .int) ∈ m_tb := m_tb_mem.mpr ⟨ck_3 (List.mem_of_getElem? (i := 117) rfl), rfl⟩
theorem mw_1182 : Cond.code yX9_chooseAsides cX9_chooseAsides 3 (some .boolean) ∈ m_tb := m_tb_mem.mpr ⟨ck_3 (List.mem_of_getElem? (i := 105) rfl), rfl⟩
theorem mw_1183 : Cond.code yX9_isFreeWithout cX9_isFreeWithout 3 (some .boolean) ∈ m_tb := m_tb_mem.mpr ⟨ck_3 (List.mem_of_getElem? (i := 109) rfl), rfl⟩
theorem mw_1184 : Cond.code yX9_putAside cX9_putAside 4 none ∈ m_tb := m_tb_mem.mpr ⟨ck_3 (List.mem_of_getElem? (i := 113) rfl), rfl⟩
theorem mw_1185 : Cond.code yX9_chooseNext cX9_chooseNext 4 (some .boolean) ∈ m_tb := m_tb_mem.mpr ⟨ck_3 (List.mem_of_getElem? (i := 121) rfl), rfl⟩
theorem mw_1186 : Cond.code yX10_init cX10_init 1 none ∈ m_tb := m_tb_mem.mpr ⟨ck_0 (List.mem_of_getElem? (i := 27) rfl), rfl⟩
theorem mw_1187 : Cond.code yX10_work cX10_work 7 (some .int) ∈ m_tb := m_tb_mem.mpr ⟨ck_1 (List.mem_of_getElem? (i := 232) rfl), rfl⟩
theorem mw_1188 : Cond.code yX10_version cX10_version 7 (some .int) ∈ m_tb := m_tb_mem.mpr ⟨ck_2 (List.mem_of_getElem? (i := 18) rfl), rfl⟩
theorem mw_1189 : Cond.code yX10_print cX10_print 9 (some .int) ∈ m_tb := m_tb_mem.mpr ⟨ck_2 (List.mem_of_getElem? (i := 30) rfl), rfl⟩
theorem mw_1190 : Cond.code yX10_retitle cX10_retitle 4 (some .int) ∈ m_tb := m_tb_mem.mpr ⟨ck_2 (List.mem_of_getElem? (i := 34) rfl), rfl⟩
theorem mw_1191 : Cond.code yX10_cut cX10_cut 5 (some .int) ∈ m_tb := m_tb_mem.mpr ⟨ck_2 (List.mem_of_getElem? (i := 42) rfl), rfl⟩
theorem mw_1192 : Cond.code yX10_told cX10_told 3 (some .int) ∈ m_tb := m_tb_mem.mpr ⟨ck_2 (List.mem_of_getElem? (i := 54) rfl), rfl⟩
theorem mw_1193 : Cond.code yX10_then cX10_then 4 (some .int) ∈ m_tb := m_tb_mem.mpr ⟨ck_2 (List.mem_of_getElem? (i := 58) rfl), rfl⟩
theorem mw_1194 : Cond.code yX10_turned cX10_turned 2 (some .int) ∈ m_tb := m_tb_mem.mpr ⟨ck_2 (List.mem_of_getElem? (i := 74) rfl), rfl⟩
theorem mw_1195 : Cond.code yX10_holding cX10_holding 7 (some .int) ∈ m_tb := m_tb_mem.mpr ⟨ck_2 (List.mem_of_getElem? (i := 81) rfl), rfl⟩
theorem mw_1196 : Cond.code yX10_unhold cX10_unhold 1 (some .int) ∈ m_tb := m_tb_mem.mpr ⟨ck_2 (List.mem_of_getElem? (i := 93) rfl), rfl⟩
theorem mw_1197 : Cond.code yX10_owner cX10_owner 3 (some .int) ∈ m_tb := m_tb_mem.mpr ⟨ck_2 (List.mem_of_getElem? (i := 97) rfl), rfl⟩
theorem mw_1198 : Cond.code yX10_may cX10_may 3 (some .int) ∈ m_tb := m_tb_mem.mpr ⟨ck_2 (List.mem_of_getElem? (i := 106) rfl), rfl⟩
theorem mw_1199 : Cond.code yX10_twice cX10_twice 2 (some .int) ∈ m_tb := m_tb_mem.mpr ⟨ck_2 (List.mem_of_getElem? (i := 114) rfl), rfl⟩
theorem mw_1200 : Cond.code yX10_gap cX10_gap 3 (some .int) ∈ m_tb := m_tb_mem.mpr ⟨ck_2 (List.mem_of_getElem? (i := 132) rfl), rfl⟩
theorem mw_1201 : Cond.code yX10_mention cX10_mention 14 (some .int) ∈ m_tb := m_tb_mem.mpr ⟨ck_2 (List.mem_of_getElem? (i := 141) rfl), rfl⟩
theorem mw_1202 : Cond.code yX10_score cX10_score 3 (some .int) ∈ m_tb := m_tb_mem.mpr ⟨ck_2 (List.mem_of_getElem? (i := 153) rfl), rfl⟩
theorem mw_1203 : Cond.code yX10_rivals cX10_rivals 2 (some .int) ∈ m_tb := m_tb_mem.mpr ⟨ck_2 (List.mem_of_getElem? (i := 212) rfl), rfl⟩
theorem mw_1204 : Cond.code yX10_joined cX10_joined 2 (some .int) ∈ m_tb := m_tb_mem.mpr ⟨ck_2 (List.mem_of_getElem? (i := 221) rfl), rfl⟩
theorem mw_1205 : Cond.code yX10_sure cX10_sure 2 (some .int) ∈ m_tb := m_tb_mem.mpr ⟨ck_3 (List.mem_of_getElem? (i := 34) rfl), rfl⟩
theorem mw_1206 : Cond.code yX10_sum cX10_sum 2 (some .int) ∈ m_tb := m_tb_mem.mpr ⟨ck_3 (List.mem_of_getElem? (i := 44) rfl), rfl⟩
theorem mw_1207 : Cond.code yX10_mentions cX10_mentions 2 (some .int) ∈ m_tb := m_tb_mem.mpr ⟨ck_3 (List.mem_of_getElem? (i := 48) rfl), rfl⟩
theorem mw_1208 : Cond.code yX10_counted cX10_counted 12 (some .int) ∈ m_tb := m_tb_mem.mpr ⟨ck_3 (List.mem_of_getElem? (i := 63) rfl), rfl⟩
theorem mw_1209 : Cond.code yX10_clue cX10_clue 4 (some .int) ∈ m_tb := m_tb_mem.mpr ⟨ck_3 (List.mem_of_getElem? (i := 77) rfl), rfl⟩
theorem mw_1210 : Cond.code yX10_use cX10_use 4 (some .int) ∈ m_tb := m_tb_mem.mpr ⟨ck_3 (List.mem_of_getElem? (i := 85) rfl), rfl⟩
theorem mw_1211 : Cond.code yX10_made cX10_made 3 (some .int) ∈ m_tb := m_tb_mem.mpr ⟨ck_3 (List.mem_of_getElem? (i := 89) rfl), rfl⟩
theorem mw_1212 : Cond.code yX10_quarrel cX10_quarrel 1 (some .int) ∈ m_tb := m_tb_mem.mpr ⟨ck_3 (List.mem_of_getElem? (i := 93) rfl), rfl⟩
theorem mw_1213 : Cond.code yX10_asides cX10_asides 1 (some .int) ∈ m_tb := m_tb_mem.mpr ⟨ck_3 (List.mem_of_getElem? (i := 97) rfl), rfl⟩
theorem mw_1214 : Cond.code yX10_aside cX10_aside 3 (some .int) ∈ m_tb := m_tb_mem.mpr ⟨ck_3 (List.mem_of_getElem? (i := 125) rfl), rfl⟩
theorem mw_1215 : Cond.code yX10_kin cX10_kin 4 (some .int) ∈ m_tb := m_tb_mem.mpr ⟨ck_3 (List.mem_of_getElem? (i := 130) rfl), rfl⟩
theorem mw_1216 : Cond.code yX10_type cX10_type 4 (some .int) ∈ m_tb := m_tb_mem.mpr ⟨ck_3 (List.mem_of_getElem? (i := 134) rfl), rfl⟩
theorem mw_1217 : Cond.code yX10_rules cX10_rules 1 (some .int) ∈ m_tb := m_tb_mem.mpr ⟨ck_3 (List.mem_of_getElem? (i := 149) rfl), rfl⟩
theorem mw_1218 : Cond.code yX10_rule cX10_rule 3 (some .int) ∈ m_tb := m_tb_mem.mpr ⟨ck_4 (List.mem_of_getElem? (i := 38) rfl), rfl⟩
theorem mw_1219 : Cond.code yX10_vote cX10_vote 10 (some .int) ∈ m_tb := m_tb_mem.mpr ⟨ck_4 (List.mem_of_getElem? (i := 42) rfl), rfl⟩
theorem mw_1220 : Cond.code yX10_votes cX10_votes 3 (some .int) ∈ m_tb := m_tb_mem.mpr ⟨ck_4 (List.mem_of_getElem? (i := 63) rfl), rfl⟩
theorem mw_1221 : Cond.code yX10_state cX10_state 4 (some .int) ∈ m_tb := m_tb_mem.mpr ⟨ck_4 (List.mem_of_getElem? (i := 67) rfl), rfl⟩
theorem mw_1222 : Cond.code yX10_unsure cX10_unsure 5 (some .int) ∈ m_tb := m_tb_mem.mpr ⟨ck_4 (List.mem_of_getElem? (i := 76) rfl), rfl⟩
theorem mw_1223 : Cond.code yX10_leaning cX10_leaning 4 (some .int) ∈ m_tb := m_tb_mem.mpr ⟨ck_4 (List.mem_of_getElem? (i := 88) rfl), rfl⟩
theorem mw_1224 : Cond.code yX10_edition cX10_edition 1 (some .int) ∈ m_tb := m_tb_mem.mpr ⟨ck_4 (List.mem_of_getElem? (i := 92) rfl), rfl⟩
theorem mw_1225 : Cond.code yX10_number cX10_number 2 (some .int) ∈ m_tb := m_tb_mem.mpr ⟨ck_4 (List.mem_of_getElem? (i := 112) rfl), rfl⟩
theorem mw_1226 : Cond.code yX10_count cX10_count 2 (some .int) ∈ m_tb := m_tb_mem.mpr ⟨ck_4 (List.mem_of_getElem? (i := 120) rfl), rfl⟩
theorem mw_1227 : Cond.code yX10_sheet cX10_sheet 4 (some .int) ∈ m_tb := m_tb_mem.mpr ⟨ck_4 (List.mem_of_getElem? (i := 129) rfl), rfl⟩
theorem mw_1228 : Cond.code yX10_drop cX10_drop 3 (some .int) ∈ m_tb := m_tb_mem.mpr ⟨ck_4 (List.mem_of_getElem? (i := 143) rfl), rfl⟩
theorem mw_1229 : Cond.code yX10_item cX10_item 6 (some .int) ∈ m_tb := m_tb_mem.mpr ⟨ck_4 (List.mem_of_getElem? (i := 147) rfl), rfl⟩
theorem mw_1230 : Cond.code yX10_holdings cX10_holdings 9 (some .int) ∈ m_tb := m_tb_mem.mpr ⟨ck_4 (List.mem_of_getElem? (i := 155) rfl), rfl⟩
theorem mw_1231 : Cond.code yX10_isWithin cX10_isWithin 3 (some .boolean) ∈ m_tb := m_tb_mem.mpr ⟨ck_2 (List.mem_of_getElem? (i := 1) rfl), rfl⟩
theorem mw_1232 : Cond.code yX10_isYear cX10_isYear 1 (some .boolean) ∈ m_tb := m_tb_mem.mpr ⟨ck_2 (List.mem_of_getElem? (i := 10) rfl), rfl⟩
theorem mw_1233 : Cond.code yX10_isBits cX10_isBits 2 (some .boolean) ∈ m_tb := m_tb_mem.mpr ⟨ck_2 (List.mem_of_getElem? (i := 7) rfl), rfl⟩
theorem mw_1234 : Cond.code yX10_isTitle cX10_isTitle 1 (some .boolean) ∈ m_tb := m_tb_mem.mpr ⟨ck_2 (List.mem_of_getElem? (i := 4) rfl), rfl⟩
theorem mw_1235 : Cond.code yX10_isSide cX10_isSide 1 (some .boolean) ∈ m_tb := m_tb_mem.mpr ⟨ck_1 (List.mem_of_getElem? (i := 238) rfl), rfl⟩
theorem mw_1236 : Cond.code yX10_isToldWell cX10_isToldWell 5 (some .boolean) ∈ m_tb := m_tb_mem.mpr ⟨ck_1 (List.mem_of_getElem? (i := 235) rfl), rfl⟩
theorem mw_1237 : Cond.code yX10_isSheet cX10_isSheet 1 (some .boolean) ∈ m_tb := m_tb_mem.mpr ⟨ck_4 (List.mem_of_getElem? (i := 132) rfl), rfl⟩
theorem mw_1238 : Cond.code yX10_isLane cX10_isLane 1 (some .boolean) ∈ m_tb := m_tb_mem.mpr ⟨ck_4 (List.mem_of_getElem? (i := 135) rfl), rfl⟩
theorem mw_1239 : Cond.code yX10_bit cX10_bit 1 (some .int) ∈ m_tb := m_tb_mem.mpr ⟨ck_2 (List.mem_of_getElem? (i := 77) rfl), rfl⟩
theorem mw_1240 : Cond.code yX10_isHoldingWell cX10_isHoldingWell 7 (some .boolean) ∈ m_tb := m_tb_mem.mpr ⟨ck_2 (List.mem_of_getElem? (i := 85) rfl), rfl⟩
theorem mw_1241 : Cond.code yX10_isAsOf cX10_isAsOf 3 (some .boolean) ∈ m_tb := m_tb_mem.mpr ⟨ck_4 (List.mem_of_getElem? (i := 71) rfl), rfl⟩
theorem mw_1242 : Cond.code yX10_leansOnOneNotIn cX10_leansOnOneNotIn 3 (some .boolean) ∈ m_tb := m_tb_mem.mpr ⟨ck_4 (List.mem_of_getElem? (i := 80) rfl), rfl⟩
theorem mw_1243 : Cond.code yX10_countStates cX10_countStates 4 (some .int) ∈ m_tb := m_tb_mem.mpr ⟨ck_4 (List.mem_of_getElem? (i := 124) rfl), rfl⟩
theorem mw_1244 : Cond.code yX11_in cX11_in 6 (some .boolean) ∈ m_tb := m_tb_mem.mpr ⟨ck_5 (List.mem_of_getElem? (i := 113) rfl), rfl⟩
theorem mw_1245 : Cond.code yX11_isYear cX11_isYear 1 (some .boolean) ∈ m_tb := m_tb_mem.mpr ⟨ck_5 (List.mem_of_getElem? (i := 117) rfl), rfl⟩
theorem mw_1246 : Cond.code yX11_init cX11_init 2 none ∈ m_tb := m_tb_mem.mpr ⟨ck_4 (List.mem_of_getElem? (i := 160) rfl), rfl⟩
theorem mw_1247 : Cond.code yX11_isWork cX11_isWork 2 (some .boolean) ∈ m_tb := m_tb_mem.mpr ⟨ck_5 (List.mem_of_getElem? (i := 131) rfl), rfl⟩
theorem mw_1248 : Cond.code yX11_isSides cX11_isSides 2 (some .boolean) ∈ m_tb := m_tb_mem.mpr ⟨ck_5 (List.mem_of_getElem? (i := 108) rfl), rfl⟩
theorem mw_1249 : Cond.code yX11_isTold cX11_isTold 5 (some .boolean) ∈ m_tb := m_tb_mem.mpr ⟨ck_5 (List.mem_of_getElem? (i := 105) rfl), rfl⟩
theorem mw_1250 : Cond.code yX11_add cX11_add 9 (some .int) ∈ m_tb := m_tb_mem.mpr ⟨ck_5 (List.mem_of_getElem? (i := 123) rfl), rfl⟩
theorem mw_1251 : Cond.code yX11_work cX11_work 7 (some .int) ∈ m_tb := m_tb_mem.mpr ⟨ck_5 (List.mem_of_getElem? (i := 102) rfl), rfl⟩
theorem mw_1252 : Cond.code yX11_version cX11_version 7 (some .int) ∈ m_tb := m_tb_mem.mpr ⟨ck_5 (List.mem_of_getElem? (i := 127) rfl), rfl⟩
theorem mw_1253 : Cond.code yX11_print cX11_print 8 (some .int) ∈ m_tb := m_tb_mem.mpr ⟨ck_5 (List.mem_of_getElem? (i := 135) rfl), rfl⟩
theorem mw_1254 : Cond.code yX11_retitle cX11_retitle 5 (some .int) ∈ m_tb := m_tb_mem.mpr ⟨ck_5 (List.mem_of_getElem? (i := 139) rfl), rfl⟩
theorem mw_1255 : Cond.code yX11_cut cX11_cut 6 (some .int) ∈ m_tb := m_tb_mem.mpr ⟨ck_5 (List.mem_of_getElem? (i := 143) rfl), rfl⟩
theorem mw_1256 : Cond.code yX11_told cX11_told 3 (some .int) ∈ m_tb := m_tb_mem.mpr ⟨ck_5 (List.mem_of_getElem? (i := 147) rfl), rfl⟩
theorem mw_1257 : Cond.code yX11_titleOf cX11_titleOf 4 (some .int) ∈ m_tb := m_tb_mem.mpr ⟨ck_5 (List.mem_of_getElem? (i := 156) rfl), rfl⟩
theorem mw_1258 : Cond.code yX11_isCut cX11_isCut 3 (some .boolean) ∈ m_tb := m_tb_mem.mpr ⟨ck_5 (List.mem_of_getElem? (i := 164) rfl), rfl⟩
theorem mw_1259 : Cond.code yX11_heightOf cX11_heightOf 3 (some .int) ∈ m_tb := m_tb_mem.mpr ⟨ck_5 (List.mem_of_getElem? (i := 160) rfl), rfl⟩
theorem mw_1260 : Cond.code yX11_widthOf cX11_widthOf 3 (some .int) ∈ m_tb := m_tb_mem.mpr ⟨ck_5 (List.mem_of_getElem? (i := 168) rfl), rfl⟩
theorem mw_1261 : Cond.code yX11_then cX11_then 4 (some .int) ∈ m_tb := m_tb_mem.mpr ⟨ck_5 (List.mem_of_getElem? (i := 151) rfl), rfl⟩
theorem mw_1262 : Cond.code yX11_turned cX11_turned 2 (some .int) ∈ m_tb := m_tb_mem.mpr ⟨ck_5 (List.mem_of_getElem? (i := 172) rfl), rfl⟩
theorem mw_1263 : Cond.code yX11_isHolding cX11_isHolding 8 (some .boolean) ∈ m_tb := m_tb_mem.mpr ⟨ck_5 (List.mem_of_getElem? (i := 180) rfl), rfl⟩
theorem mw_1264 : Cond.code yX11_keepHolding cX11_keepHolding 8 none ∈ m_tb := m_tb_mem.mpr ⟨ck_5 (List.mem_of_getElem? (i := 185) rfl), rfl⟩
theorem mw_1265 : Cond.code yX11_holding cX11_holding 7 (some .int) ∈ m_tb := m_tb_mem.mpr ⟨ck_5 (List.mem_of_getElem? (i := 176) rfl), rfl⟩
theorem mw_1266 : Cond.code yX11_unhold cX11_unhold 1 (some .int) ∈ m_tb := m_tb_mem.mpr ⟨ck_5 (List.mem_of_getElem? (i := 189) rfl), rfl⟩
theorem mw_1267 : Cond.code yX11_ownerOf cX11_ownerOf 6 (some .int) ∈ m_tb := m_tb_mem.mpr ⟨ck_5 (List.mem_of_getElem? (i := 197) rfl), rfl⟩
theorem mw_1268 : Cond.code yX11_mayHold cX11_mayHold 6 (some .int) ∈ m_tb := m_tb_mem.mpr ⟨ck_5 (List.mem_of_getElem? (i := 205) rfl), rfl⟩
theorem mw_1269 : Cond.code yX11_owner cX11_owner 3 (some .int) ∈ m_tb := m_tb_mem.mpr ⟨ck_5 (List.mem_of_getElem? (i := 193) rfl), rfl⟩
theorem mw_1270 : Cond.code yX11_may cX11_may 3 (some .int) ∈ m_tb := m_tb_mem.mpr ⟨ck_5 (List.mem_of_getElem? (i := 201) rfl), rfl⟩
theorem mw_1271 : Cond.code yX11_twice cX11_twice 8 (some .int) ∈ m_tb := m_tb_mem.mpr ⟨ck_5 (List.mem_of_getElem? (i := 209) rfl), rfl⟩
theorem mw_1272 : Cond.code yX11_gap cX11_gap 4 (some .int) ∈ m_tb := m_tb_mem.mpr ⟨ck_5 (List.mem_of_getElem? (i := 213) rfl), rfl⟩
theorem mw_1273 : Cond.code yX11_clue cX11_clue 4 (some .int) ∈ m_tb := m_tb_mem.mpr ⟨ck_5 (List.mem_of_getElem? (i := 217) rfl), rfl⟩
theorem mw_1274 : Cond.code yX11_use cX11_use 4 (some .int) ∈ m_tb := m_tb_mem.mpr ⟨ck_5 (List.mem_of_getElem? (i := 223) rfl), rfl⟩
theorem mw_1275 : Cond.code yX11_findCounting cX11_findCounting 4 (some .int) ∈ m_tb := m_tb_mem.mpr ⟨ck_5 (List.mem_of_getElem? (i := 239) rfl), rfl⟩
theorem mw_1276 : Cond.code yX11_findLeast cX11_findLeast 5 (some .boolean) ∈ m_tb := m_tb_mem.mpr ⟨ck_6 (List.mem_of_getElem? (i := 7) rfl), rfl⟩
theorem mw_1277 : Cond.code yX11_findMost cX11_findMost 5 none ∈ m_tb := m_tb_mem.mpr ⟨ck_6 (List.mem_of_getElem? (i := 11) rfl), rfl⟩
theorem mw_1278 : Cond.code yX11_findYears cX11_findYears 2 none ∈ m_tb := m_tb_mem.mpr ⟨ck_5 (List.mem_of_getElem? (i := 235) rfl), rfl⟩
theorem mw_1279 : Cond.code yX11_made cX11_made 3 (some .int) ∈ m_tb := m_tb_mem.mpr ⟨ck_5 (List.mem_of_getElem? (i := 227) rfl), rfl⟩
theorem mw_1280 : Cond.code yX11_quarrel cX11_quarrel 1 (some .int) ∈ m_tb := m_tb_mem.mpr ⟨ck_6 (List.mem_of_getElem? (i := 15) rfl), rfl⟩
theorem mw_1281 : Cond.code yX11_isWell cX11_isWell 2 (some .boolean) ∈ m_tb := m_tb_mem.mpr ⟨ck_6 (List.mem_of_getElem? (i := 31) rfl), rfl⟩
theorem mw_1282 : Cond.code yX11_countsAt cX11_countsAt 2 (some .boolean) ∈ m_tb := m_tb_mem.mpr ⟨ck_6 (List.mem_of_getElem? (i := 35) rfl), rfl⟩
theorem mw_1283 : Cond.code yX11_findAsides cX11_findAsides 4 (some .int) ∈ m_tb := m_tb_mem.mpr ⟨ck_6 (List.mem_of_getElem? (i := 27) rfl), rfl⟩
theorem mw_1284 : Cond.code yX11_lookAside cX11_lookAside 2 (some .int) ∈ m_tb := m_tb_mem.mpr ⟨ck_6 (List.mem_of_getElem? (i := 23) rfl), rfl⟩
theorem mw_1285 : Cond.code yX11_asides cX11_asides 1 (some .int) ∈ m_tb := m_tb_mem.mpr ⟨ck_6 (List.mem_of_getElem? (i := 19) rfl), rfl⟩
theorem mw_1286 : Cond.code yX11_aside cX11_aside 3 (some .int) ∈ m_tb := m_tb_mem.mpr ⟨ck_6 (List.mem_of_getElem? (i := 39) rfl), rfl⟩
theorem mw_1287 : Cond.code yX11_mention cX11_mention 12 (some .int) ∈ m_tb := m_tb_mem.mpr ⟨ck_6 (List.mem_of_getElem? (i := 43) rfl), rfl⟩
theorem mw_1288 : Cond.code yX11_standsFor cX11_standsFor 5 (some .boolean) ∈ m_tb := m_tb_mem.mpr ⟨ck_6 (List.mem_of_getElem? (i := 68) rfl), rfl⟩
theorem mw_1289 : Cond.code yX11_fitsSides cX11_fitsSides 8 (some .boolean) ∈ m_tb := m_tb_mem.mpr ⟨ck_6 (List.mem_of_getElem? (i := 65) rfl), rfl⟩
theorem mw_1290 : Cond.code yX11_fitsSizes cX11_fitsSizes 6 (some .boolean) ∈ m_tb := m_tb_mem.mpr ⟨ck_6 (List.mem_of_getElem? (i := 62) rfl), rfl⟩
theorem mw_1291 : Cond.code yX11_ones cX11_ones 3 (some .int) ∈ m_tb := m_tb_mem.mpr ⟨ck_6 (List.mem_of_getElem? (i := 71) rfl), rfl⟩
theorem mw_1292 : Cond.code yX11_scoreOf cX11_scoreOf 8 (some .int) ∈ m_tb := m_tb_mem.mpr ⟨ck_6 (List.mem_of_getElem? (i := 58) rfl), rfl⟩
theorem mw_1293 : Cond.code yX11_isMention cX11_isMention 2 (some .boolean) ∈ m_tb := m_tb_mem.mpr ⟨ck_6 (List.mem_of_getElem? (i := 54) rfl), rfl⟩
theorem mw_1294 : Cond.code yX11_score cX11_score 3 (some .int) ∈ m_tb := m_tb_mem.mpr ⟨ck_6 (List.mem_of_getElem? (i := 50) rfl), rfl⟩
theorem mw_1295 : Cond.code yX11_rivalsOf cX11_rivalsOf 4 (some .int) ∈ m_tb := m_tb_mem.mpr ⟨ck_6 (List.mem_of_getElem? (i := 79) rfl), rfl⟩
theorem mw_1296 : Cond.code yX11_rivals cX11_rivals 2 (some .int) ∈ m_tb := m_tb_mem.mpr ⟨ck_6 (List.mem_of_getElem? (i := 75) rfl), rfl⟩
theorem mw_1297 : Cond.code yX11_greatest cX11_greatest 5 (some .int) ∈ m_tb := m_tb_mem.mpr ⟨ck_6 (List.mem_of_getElem? (i := 99) rfl), rfl⟩
theorem mw_1298 : Cond.code yX11_addWork cX11_addWork 7 none ∈ m_tb := m_tb_mem.mpr ⟨ck_6 (List.mem_of_getElem? (i := 103) rfl), rfl⟩
theorem mw_1299 : Cond.code yX11_fillTable cX11_fillTable 3 none ∈ m_tb := m_tb_mem.mpr ⟨ck_6 (List.mem_of_getElem? (i := 95) rfl), rfl⟩
theorem mw_1300 : Cond.code yX11_takeOut cX11_takeOut 4 none ∈ m_tb := m_tb_mem.mpr ⟨ck_6 (List.mem_of_getElem? (i := 111) rfl), rfl⟩
theorem mw_1301 : Cond.code yX11_joinEvent cX11_joinEvent 7 none ∈ m_tb := m_tb_mem.mpr ⟨ck_6 (List.mem_of_getElem? (i := 91) rfl), rfl⟩
theorem mw_1302 : Cond.code yX11_canJoin cX11_canJoin 7 (some .boolean) ∈ m_tb := m_tb_mem.mpr ⟨ck_6 (List.mem_of_getElem? (i := 107) rfl), rfl⟩
theorem mw_1303 : Cond.code yX11_refresh cX11_refresh 1 none ∈ m_tb := m_tb_mem.mpr ⟨ck_5 (List.mem_of_getElem? (i := 231) rfl), rfl⟩
theorem mw_1304 : Cond.code yX11_joinAll cX11_joinAll 2 none ∈ m_tb := m_tb_mem.mpr ⟨ck_6 (List.mem_of_getElem? (i := 87) rfl), rfl⟩
theorem mw_1305 : Cond.code yX11_joined cX11_joined 2 (some .int) ∈ m_tb := m_tb_mem.mpr ⟨ck_6 (List.mem_of_getElem? (i := 83) rfl), rfl⟩
theorem mw_1306 : Cond.code yX11_sure cX11_sure 2 (some .int) ∈ m_tb := m_tb_mem.mpr ⟨ck_6 (List.mem_of_getElem? (i := 115) rfl), rfl⟩
theorem mw_1307 : Cond.code yX11_sum cX11_sum 2 (some .int) ∈ m_tb := m_tb_mem.mpr ⟨ck_6 (List.mem_of_getElem? (i := 119) rfl), rfl⟩
theorem mw_1308 : Cond.code yX11_mentions cX11_mentions 4 (some .int) ∈ m_tb := m_tb_mem.mpr ⟨ck_6 (List.mem_of_getElem? (i := 123) rfl), rfl⟩
theorem mw_1309 : Cond.code yX11_hasSure cX11_hasSure 5 (some .boolean) ∈ m_tb := m_tb_mem.mpr ⟨ck_6 (List.mem_of_getElem? (i := 132) rfl), rfl⟩
theorem mw_1310 : Cond.code yX11_counted cX11_counted 10 (some .int) ∈ m_tb := m_tb_mem.mpr ⟨ck_6 (List.mem_of_getElem? (i := 127) rfl), rfl⟩
theorem mw_1311 : Cond.code yX11_kin cX11_kin 4 (some .int) ∈ m_tb := m_tb_mem.mpr ⟨ck_6 (List.mem_of_getElem? (i := 136) rfl), rfl⟩
theorem mw_1312 : Cond.code yX11_type cX11_type 5 (some .int) ∈ m_tb := m_tb_mem.mpr ⟨ck_6 (List.mem_of_getElem? (i := 142) rfl), rfl⟩
theorem mw_1313 : Cond.code yX11_next cX11_next 1 (some .int) ∈ m_tb := m_tb_mem.mpr ⟨ck_6 (List.mem_of_getElem? (i := 162) rfl), rfl⟩
theorem mw_1314 : Cond.code yX11_number cX11_number 6 (some .int) ∈ m_tb := m_tb_mem.mpr ⟨ck_6 (List.mem_of_getElem? (i := 166) rfl), rfl⟩
theorem mw_1315 : Cond.code yX11_takes cX11_takes 3 (some .boolean) ∈ m_tb := m_tb_mem.mpr ⟨ck_6 (List.mem_of_getElem? (i := 172) rfl), rfl⟩
theorem mw_1316 : Cond.code yX11_readClause cX11_readClause 6 (some .boolean) ∈ m_tb := m_tb_mem.mpr ⟨ck_6 (List.mem_of_getElem? (i := 158) rfl), rfl⟩
theorem mw_1317 : Cond.code yX11_readAll cX11_readAll 4 (some .int) ∈ m_tb := m_tb_mem.mpr ⟨ck_6 (List.mem_of_getElem? (i := 154) rfl), rfl⟩
theorem mw_1318 : Cond.code yX11_rules cX11_rules 3 (some .int) ∈ m_tb := m_tb_mem.mpr ⟨ck_6 (List.mem_of_getElem? (i := 150) rfl), rfl⟩
theorem mw_1319 : Cond.code yX11_ruleOf cX11_ruleOf 3 (some .int) ∈ m_tb := m_tb_mem.mpr ⟨ck_6 (List.mem_of_getElem? (i := 185) rfl), rfl⟩
theorem mw_1320 : Cond.code yX11_rulePart cX11_rulePart 4 (some .int) ∈ m_tb := m_tb_mem.mpr ⟨ck_6 (List.mem_of_getElem? (i := 181) rfl), rfl⟩
theorem mw_1321 : Cond.code yX11_rule cX11_rule 3 (some .int) ∈ m_tb := m_tb_mem.mpr ⟨ck_6 (List.mem_of_getElem? (i := 176) rfl), rfl⟩
theorem mw_1322 : Cond.code yX11_vote cX11_vote 13 (some .int) ∈ m_tb := m_tb_mem.mpr ⟨ck_6 (List.mem_of_getElem? (i := 189) rfl), rfl⟩
theorem mw_1323 : Cond.code yX11_votes cX11_votes 3 (some .int) ∈ m_tb := m_tb_mem.mpr ⟨ck_6 (List.mem_of_getElem? (i := 194) rfl), rfl⟩
theorem mw_1324 : Cond.code yX11_stateOf cX11_stateOf 8 (some .int) ∈ m_tb := m_tb_mem.mpr ⟨ck_6 (List.mem_of_getElem? (i := 3) rfl), rfl⟩
theorem mw_1325 : Cond.code yX11_isAsOf cX11_isAsOf 3 (some .boolean) ∈ m_tb := m_tb_mem.mpr ⟨ck_6 (List.mem_of_getElem? (i := 203) rfl), rfl⟩
theorem mw_1326 : Cond.code yX11_state cX11_state 4 (some .int) ∈ m_tb := m_tb_mem.mpr ⟨ck_6 (List.mem_of_getElem? (i := 199) rfl), rfl⟩
theorem mw_1327 : Cond.code yX11_unsure cX11_unsure 7 (some .int) ∈ m_tb := m_tb_mem.mpr ⟨ck_6 (List.mem_of_getElem? (i := 207) rfl), rfl⟩
theorem mw_1328 : Cond.code yX11_leaning cX11_leaning 6 (some .int) ∈ m_tb := m_tb_mem.mpr ⟨ck_6 (List.mem_of_getElem? (i := 211) rfl), rfl⟩
theorem mw_1329 : Cond.code yX11_isAhead cX11_isAhead 5 (some .boolean) ∈ m_tb := m_tb_mem.mpr ⟨ck_6 (List.mem_of_getElem? (i := 219) rfl), rfl⟩
theorem mw_1330 : Cond.code yX11_edition cX11_edition 8 (some .int) ∈ m_tb := m_tb_mem.mpr ⟨ck_6 (List.mem_of_getElem? (i := 215) rfl), rfl⟩
theorem mw_1331 : Cond.code yX11_number_ cX11_number_ 2 (some .int) ∈ m_tb := m_tb_mem.mpr ⟨ck_6 (List.mem_of_getElem? (i := 223) rfl), rfl⟩
theorem mw_1332 : Cond.code yX11_count cX11_count 4 (some .int) ∈ m_tb := m_tb_mem.mpr ⟨ck_6 (List.mem_of_getElem? (i := 227) rfl), rfl⟩
theorem mw_1333 : Cond.code yX11_isSheet cX11_isSheet 2 (some .boolean) ∈ m_tb := m_tb_mem.mpr ⟨ck_6 (List.mem_of_getElem? (i := 234) rfl), rfl⟩
theorem mw_1334 : Cond.code yX11_sheet cX11_sheet 5 (some .int) ∈ m_tb := m_tb_mem.mpr ⟨ck_6 (List.mem_of_getElem? (i := 231) rfl), rfl⟩
theorem mw_1335 : Cond.code yX11_drop cX11_drop 2 (some .int) ∈ m_tb := m_tb_mem.mpr ⟨ck_6 (List.mem_of_getElem? (i := 238) rfl), rfl⟩
theorem mw_1336 : Cond.code yX11_item cX11_item 5 (some .int) ∈ m_tb := m_tb_mem.mpr ⟨ck_7 (List.mem_of_getElem? (i := 2) rfl), rfl⟩
theorem mw_1337 : Cond.code yX11_holdings cX11_holdings 7 (some .int) ∈ m_tb := m_tb_mem.mpr ⟨ck_7 (List.mem_of_getElem? (i := 6) rfl), rfl⟩
theorem mw_1338 : Cond.code yJ6_bitCount_0f7a4 cJ6_bitCount_0f7a4 1 (some .int) ∈ m_tb := m_tb_mem.mpr ⟨ck_2 (List.mem_of_getElem? (i := 204) rfl), rfl⟩
theorem mw_1339 : Cond.initialized "java/lang/Integer" ∈ m_tb := m_tb_mem.mpr ⟨ck_0 (List.mem_of_getElem? (i := 16) rfl), rfl⟩
theorem mw_1340 : Cond.code yJ13_bitCount_95d88 cJ13_bitCount_95d88 2 (some .int) ∈ m_tb := m_tb_mem.mpr ⟨ck_3 (List.mem_of_getElem? (i := 70) rfl), rfl⟩
theorem mw_1341 : Cond.initialized "java/lang/Long" ∈ m_tb := m_tb_mem.mpr ⟨ck_0 (List.mem_of_getElem? (i := 17) rfl), rfl⟩
theorem mw_1342 : Cond.code yJ7_fill_d0a16 cJ7_fill_d0a16 5 none ∈ m_tb := m_tb_mem.mpr ⟨ck_3 (List.mem_of_getElem? (i := 3) rfl), rfl⟩
theorem mw_1343 : Cond.initialized "java/util/Arrays" ∈ m_tb := m_tb_mem.mpr ⟨ck_0 (List.mem_of_getElem? (i := 12) rfl), rfl⟩
theorem mw_1344 : Cond.code yJ7_fill_53178 cJ7_fill_53178 4 none ∈ m_tb := m_tb_mem.mpr ⟨ck_1 (List.mem_of_getElem? (i := 154) rfl), rfl⟩
theorem mp_0 : Cond.selects "LifeList" yX10_isHoldingWell yX10_isHoldingWell ∈ m_tb := m_tb_mem.mpr ⟨List.mem_append_left _ (List.mem_of_getElem? (i := 0) rfl), rfl⟩
theorem mp_1 : Cond.selects "LifeList$Owners" yX5_areTwoAtOnce yX5_areTwoAtOnce ∈ m_tb := m_tb_mem.mpr ⟨List.mem_append_left _ (List.mem_of_getElem? (i := 1) rfl), rfl⟩
theorem mp_2 : Cond.selects "LifeList$Years" yX9_isStruck yX9_isStruck ∈ m_tb := m_tb_mem.mpr ⟨List.mem_append_left _ (List.mem_of_getElem? (i := 2) rfl), rfl⟩
theorem mp_3 : Cond.selects "LifeList$Years" yX9_raiseLows yX9_raiseLows ∈ m_tb := m_tb_mem.mpr ⟨List.mem_append_left _ (List.mem_of_getElem? (i := 3) rfl), rfl⟩
theorem mp_4 : Cond.selects "LifeList$Years" yX9_lowerHighs yX9_lowerHighs ∈ m_tb := m_tb_mem.mpr ⟨List.mem_append_left _ (List.mem_of_getElem? (i := 4) rfl), rfl⟩
theorem mp_5 : Cond.selects "LifeList$Mentions" yX4_isSizeFit yX4_isSizeFit ∈ m_tb := m_tb_mem.mpr ⟨List.mem_append_left _ (List.mem_of_getElem? (i := 5) rfl), rfl⟩
theorem mp_6 : Cond.selects "LifeList$Mentions" yX4_areSidesFit yX4_areSidesFit ∈ m_tb := m_tb_mem.mpr ⟨List.mem_append_left _ (List.mem_of_getElem? (i := 6) rfl), rfl⟩
theorem mp_7 : Cond.selects "LifeList$Joins" yX2_gather yX2_gather ∈ m_tb := m_tb_mem.mpr ⟨List.mem_append_left _ (List.mem_of_getElem? (i := 7) rfl), rfl⟩
theorem mp_8 : Cond.selects "LifeList$Joins" yX2_weigh yX2_weigh ∈ m_tb := m_tb_mem.mpr ⟨List.mem_append_left _ (List.mem_of_getElem? (i := 8) rfl), rfl⟩
theorem mp_9 : Cond.selects "LifeList$Matching" yX3_seat yX3_seat ∈ m_tb := m_tb_mem.mpr ⟨List.mem_append_left _ (List.mem_of_getElem? (i := 9) rfl), rfl⟩
theorem mp_10 : Cond.selects "LifeList$Matching" yX3_reachNext yX3_reachNext ∈ m_tb := m_tb_mem.mpr ⟨List.mem_append_left _ (List.mem_of_getElem? (i := 10) rfl), rfl⟩
theorem mp_11 : Cond.selects "LifeList$Matching" yX3_shiftPrices yX3_shiftPrices ∈ m_tb := m_tb_mem.mpr ⟨List.mem_append_left _ (List.mem_of_getElem? (i := 11) rfl), rfl⟩
theorem mp_12 : Cond.selects "LifeList$Years" yX9_chooseAsides yX9_chooseAsides ∈ m_tb := m_tb_mem.mpr ⟨List.mem_append_left _ (List.mem_of_getElem? (i := 12) rfl), rfl⟩
theorem mp_13 : Cond.selects "LifeList$Years" yX9_isFreeWithout yX9_isFreeWithout ∈ m_tb := m_tb_mem.mpr ⟨List.mem_append_left _ (List.mem_of_getElem? (i := 13) rfl), rfl⟩
theorem mp_14 : Cond.selects "LifeList$Years" yX9_putAside yX9_putAside ∈ m_tb := m_tb_mem.mpr ⟨List.mem_append_left _ (List.mem_of_getElem? (i := 14) rfl), rfl⟩
theorem mp_15 : Cond.selects "LifeList$Years" yX9_chooseNext yX9_chooseNext ∈ m_tb := m_tb_mem.mpr ⟨List.mem_append_left _ (List.mem_of_getElem? (i := 15) rfl), rfl⟩
theorem mp_16 : Cond.selects "LifeList$Rules" yX6_readClauses yX6_readClauses ∈ m_tb := m_tb_mem.mpr ⟨List.mem_append_left _ (List.mem_of_getElem? (i := 16) rfl), rfl⟩
theorem mp_17 : Cond.selects "LifeList$Rules" yX6_readClause yX6_readClause ∈ m_tb := m_tb_mem.mpr ⟨List.mem_append_left _ (List.mem_of_getElem? (i := 17) rfl), rfl⟩
theorem mp_18 : Cond.selects "LifeList$Rules" yX6_readKind yX6_readKind ∈ m_tb := m_tb_mem.mpr ⟨List.mem_append_left _ (List.mem_of_getElem? (i := 18) rfl), rfl⟩
theorem mp_19 : Cond.selects "LifeList$Rules" yX6_skipBlanks yX6_skipBlanks ∈ m_tb := m_tb_mem.mpr ⟨List.mem_append_left _ (List.mem_of_getElem? (i := 19) rfl), rfl⟩
theorem mp_20 : Cond.selects "LifeList$Rules" yX6_blame yX6_blame ∈ m_tb := m_tb_mem.mpr ⟨List.mem_append_left _ (List.mem_of_getElem? (i := 20) rfl), rfl⟩
theorem mp_21 : Cond.selects "LifeList$Rules" yX6_readNumber yX6_readNumber ∈ m_tb := m_tb_mem.mpr ⟨List.mem_append_left _ (List.mem_of_getElem? (i := 21) rfl), rfl⟩
theorem mp_22 : Cond.selects "LifeList$Rules" yX6_readSign yX6_readSign ∈ m_tb := m_tb_mem.mpr ⟨List.mem_append_left _ (List.mem_of_getElem? (i := 22) rfl), rfl⟩
theorem mp_23 : Cond.selects "LifeList$Rules" yX6_enforce yX6_enforce ∈ m_tb := m_tb_mem.mpr ⟨List.mem_append_left _ (List.mem_of_getElem? (i := 23) rfl), rfl⟩
theorem mp_24 : Cond.selects "LifeList" yX10_isAsOf yX10_isAsOf ∈ m_tb := m_tb_mem.mpr ⟨List.mem_append_left _ (List.mem_of_getElem? (i := 24) rfl), rfl⟩
theorem mp_25 : Cond.selects "LifeList" yX10_leansOnOneNotIn yX10_leansOnOneNotIn ∈ m_tb := m_tb_mem.mpr ⟨List.mem_append_left _ (List.mem_of_getElem? (i := 25) rfl), rfl⟩
theorem mp_26 : Cond.selects "LifeList$Editions" yX1_sortThoseIn yX1_sortThoseIn ∈ m_tb := m_tb_mem.mpr ⟨List.mem_append_left _ (List.mem_of_getElem? (i := 26) rfl), rfl⟩
theorem mp_27 : Cond.selects "LifeList$Editions" yX1_middle yX1_middle ∈ m_tb := m_tb_mem.mpr ⟨List.mem_append_left _ (List.mem_of_getElem? (i := 27) rfl), rfl⟩
theorem mp_28 : Cond.selects "LifeList$Editions" yX1_give yX1_give ∈ m_tb := m_tb_mem.mpr ⟨List.mem_append_left _ (List.mem_of_getElem? (i := 28) rfl), rfl⟩
theorem mp_29 : Cond.selects "LifeList" yX10_countStates yX10_countStates ∈ m_tb := m_tb_mem.mpr ⟨List.mem_append_left _ (List.mem_of_getElem? (i := 29) rfl), rfl⟩
theorem mp_30 : Cond.selects "LifeListModel" yX11_add yX11_add ∈ m_tb := m_tb_mem.mpr ⟨List.mem_append_left _ (List.mem_of_getElem? (i := 30) rfl), rfl⟩
theorem mp_31 : Cond.selects "LifeListModel" yX11_isWork yX11_isWork ∈ m_tb := m_tb_mem.mpr ⟨List.mem_append_left _ (List.mem_of_getElem? (i := 31) rfl), rfl⟩
theorem mp_32 : Cond.selects "LifeListModel" yX11_titleOf yX11_titleOf ∈ m_tb := m_tb_mem.mpr ⟨List.mem_append_left _ (List.mem_of_getElem? (i := 32) rfl), rfl⟩
theorem mp_33 : Cond.selects "LifeListModel" yX11_heightOf yX11_heightOf ∈ m_tb := m_tb_mem.mpr ⟨List.mem_append_left _ (List.mem_of_getElem? (i := 33) rfl), rfl⟩
theorem mp_34 : Cond.selects "LifeListModel" yX11_isCut yX11_isCut ∈ m_tb := m_tb_mem.mpr ⟨List.mem_append_left _ (List.mem_of_getElem? (i := 34) rfl), rfl⟩
theorem mp_35 : Cond.selects "LifeListModel" yX11_widthOf yX11_widthOf ∈ m_tb := m_tb_mem.mpr ⟨List.mem_append_left _ (List.mem_of_getElem? (i := 35) rfl), rfl⟩
theorem mp_36 : Cond.selects "LifeListModel" yX11_isHolding yX11_isHolding ∈ m_tb := m_tb_mem.mpr ⟨List.mem_append_left _ (List.mem_of_getElem? (i := 36) rfl), rfl⟩
theorem mp_37 : Cond.selects "LifeListModel" yX11_keepHolding yX11_keepHolding ∈ m_tb := m_tb_mem.mpr ⟨List.mem_append_left _ (List.mem_of_getElem? (i := 37) rfl), rfl⟩
theorem mp_38 : Cond.selects "LifeListModel" yX11_ownerOf yX11_ownerOf ∈ m_tb := m_tb_mem.mpr ⟨List.mem_append_left _ (List.mem_of_getElem? (i := 38) rfl), rfl⟩
theorem mp_39 : Cond.selects "LifeListModel" yX11_mayHold yX11_mayHold ∈ m_tb := m_tb_mem.mpr ⟨List.mem_append_left _ (List.mem_of_getElem? (i := 39) rfl), rfl⟩
theorem mp_40 : Cond.selects "LifeListModel" yX11_refresh yX11_refresh ∈ m_tb := m_tb_mem.mpr ⟨List.mem_append_left _ (List.mem_of_getElem? (i := 40) rfl), rfl⟩
theorem mp_41 : Cond.selects "LifeListModel" yX11_findYears yX11_findYears ∈ m_tb := m_tb_mem.mpr ⟨List.mem_append_left _ (List.mem_of_getElem? (i := 41) rfl), rfl⟩
theorem mp_42 : Cond.selects "LifeListModel" yX11_findCounting yX11_findCounting ∈ m_tb := m_tb_mem.mpr ⟨List.mem_append_left _ (List.mem_of_getElem? (i := 42) rfl), rfl⟩
theorem mp_43 : Cond.selects "LifeListModel" yX11_stateOf yX11_stateOf ∈ m_tb := m_tb_mem.mpr ⟨List.mem_append_left _ (List.mem_of_getElem? (i := 43) rfl), rfl⟩
theorem mp_44 : Cond.selects "LifeListModel" yX11_findLeast yX11_findLeast ∈ m_tb := m_tb_mem.mpr ⟨List.mem_append_left _ (List.mem_of_getElem? (i := 44) rfl), rfl⟩
theorem mp_45 : Cond.selects "LifeListModel" yX11_findMost yX11_findMost ∈ m_tb := m_tb_mem.mpr ⟨List.mem_append_left _ (List.mem_of_getElem? (i := 45) rfl), rfl⟩
theorem mp_46 : Cond.selects "LifeListModel" yX11_lookAside yX11_lookAside ∈ m_tb := m_tb_mem.mpr ⟨List.mem_append_left _ (List.mem_of_getElem? (i := 46) rfl), rfl⟩
theorem mp_47 : Cond.selects "LifeListModel" yX11_findAsides yX11_findAsides ∈ m_tb := m_tb_mem.mpr ⟨List.mem_append_left _ (List.mem_of_getElem? (i := 47) rfl), rfl⟩
theorem mp_48 : Cond.selects "LifeListModel" yX11_isWell yX11_isWell ∈ m_tb := m_tb_mem.mpr ⟨List.mem_append_left _ (List.mem_of_getElem? (i := 48) rfl), rfl⟩
theorem mp_49 : Cond.selects "LifeListModel" yX11_countsAt yX11_countsAt ∈ m_tb := m_tb_mem.mpr ⟨List.mem_append_left _ (List.mem_of_getElem? (i := 49) rfl), rfl⟩
theorem mp_50 : Cond.selects "LifeListModel" yX11_isMention yX11_isMention ∈ m_tb := m_tb_mem.mpr ⟨List.mem_append_left _ (List.mem_of_getElem? (i := 50) rfl), rfl⟩
theorem mp_51 : Cond.selects "LifeListModel" yX11_scoreOf yX11_scoreOf ∈ m_tb := m_tb_mem.mpr ⟨List.mem_append_left _ (List.mem_of_getElem? (i := 51) rfl), rfl⟩
theorem mp_52 : Cond.selects "LifeListModel" yX11_fitsSizes yX11_fitsSizes ∈ m_tb := m_tb_mem.mpr ⟨List.mem_append_left _ (List.mem_of_getElem? (i := 52) rfl), rfl⟩
theorem mp_53 : Cond.selects "LifeListModel" yX11_rivalsOf yX11_rivalsOf ∈ m_tb := m_tb_mem.mpr ⟨List.mem_append_left _ (List.mem_of_getElem? (i := 53) rfl), rfl⟩
theorem mp_54 : Cond.selects "LifeListModel" yX11_joinAll yX11_joinAll ∈ m_tb := m_tb_mem.mpr ⟨List.mem_append_left _ (List.mem_of_getElem? (i := 54) rfl), rfl⟩
theorem mp_55 : Cond.selects "LifeListModel" yX11_joinEvent yX11_joinEvent ∈ m_tb := m_tb_mem.mpr ⟨List.mem_append_left _ (List.mem_of_getElem? (i := 55) rfl), rfl⟩
theorem mp_56 : Cond.selects "LifeListModel" yX11_fillTable yX11_fillTable ∈ m_tb := m_tb_mem.mpr ⟨List.mem_append_left _ (List.mem_of_getElem? (i := 56) rfl), rfl⟩
theorem mp_57 : Cond.selects "LifeListModel" yX11_greatest yX11_greatest ∈ m_tb := m_tb_mem.mpr ⟨List.mem_append_left _ (List.mem_of_getElem? (i := 57) rfl), rfl⟩
theorem mp_58 : Cond.selects "LifeListModel" yX11_addWork yX11_addWork ∈ m_tb := m_tb_mem.mpr ⟨List.mem_append_left _ (List.mem_of_getElem? (i := 58) rfl), rfl⟩
theorem mp_59 : Cond.selects "LifeListModel" yX11_canJoin yX11_canJoin ∈ m_tb := m_tb_mem.mpr ⟨List.mem_append_left _ (List.mem_of_getElem? (i := 59) rfl), rfl⟩
theorem mp_60 : Cond.selects "LifeListModel" yX11_takeOut yX11_takeOut ∈ m_tb := m_tb_mem.mpr ⟨List.mem_append_left _ (List.mem_of_getElem? (i := 60) rfl), rfl⟩
theorem mp_61 : Cond.selects "LifeListModel" yX11_hasSure yX11_hasSure ∈ m_tb := m_tb_mem.mpr ⟨List.mem_append_left _ (List.mem_of_getElem? (i := 61) rfl), rfl⟩
theorem mp_62 : Cond.selects "LifeListModel" yX11_readAll yX11_readAll ∈ m_tb := m_tb_mem.mpr ⟨List.mem_append_left _ (List.mem_of_getElem? (i := 62) rfl), rfl⟩
theorem mp_63 : Cond.selects "LifeListModel" yX11_readClause yX11_readClause ∈ m_tb := m_tb_mem.mpr ⟨List.mem_append_left _ (List.mem_of_getElem? (i := 63) rfl), rfl⟩
theorem mp_64 : Cond.selects "LifeListModel" yX11_next yX11_next ∈ m_tb := m_tb_mem.mpr ⟨List.mem_append_left _ (List.mem_of_getElem? (i := 64) rfl), rfl⟩
theorem mp_65 : Cond.selects "LifeListModel" yX11_number yX11_number ∈ m_tb := m_tb_mem.mpr ⟨List.mem_append_left _ (List.mem_of_getElem? (i := 65) rfl), rfl⟩
theorem mp_66 : Cond.selects "LifeListModel" yX11_takes yX11_takes ∈ m_tb := m_tb_mem.mpr ⟨List.mem_append_left _ (List.mem_of_getElem? (i := 66) rfl), rfl⟩
theorem mp_67 : Cond.selects "LifeListModel" yX11_rulePart yX11_rulePart ∈ m_tb := m_tb_mem.mpr ⟨List.mem_append_left _ (List.mem_of_getElem? (i := 67) rfl), rfl⟩
theorem mp_68 : Cond.selects "LifeListModel" yX11_ruleOf yX11_ruleOf ∈ m_tb := m_tb_mem.mpr ⟨List.mem_append_left _ (List.mem_of_getElem? (i := 68) rfl), rfl⟩
theorem mp_69 : Cond.selects "LifeListModel" yX11_isAsOf yX11_isAsOf ∈ m_tb := m_tb_mem.mpr ⟨List.mem_append_left _ (List.mem_of_getElem? (i := 69) rfl), rfl⟩
theorem mp_70 : Cond.selects "LifeListModel" yX11_isAhead yX11_isAhead ∈ m_tb := m_tb_mem.mpr ⟨List.mem_append_left _ (List.mem_of_getElem? (i := 70) rfl), rfl⟩
