theorem sw_cI1 : Cond.code Jvm.Free.StrIndexOf.indexOf1N Jvm.Free.StrIndexOf.indexOf1B 2 (some .int) ∈ m_tb := m_tb_mem.mpr ⟨ck_3 (List.mem_of_getElem? (i := 174) rfl), rfl⟩
theorem sw_cI2 : Cond.code Jvm.Free.StrIndexOf.indexOf2N Jvm.Free.StrIndexOf.indexOf2B 3 (some .int) ∈ m_tb := m_tb_mem.mpr ⟨ck_3 (List.mem_of_getElem? (i := 178) rfl), rfl⟩
theorem sw_cIL : Cond.code Jvm.Free.StrIndexOf.S2.IL Jvm.Lib.String.isLatin1.code 1 (some .boolean) ∈ m_tb := m_tb_mem.mpr ⟨ck_3 (List.mem_of_getElem? (i := 182) rfl), rfl⟩
theorem sw_cLN : Cond.code Jvm.Free.StrIndexOf.S2.LN Jvm.Lib.String.length.code 1 (some .int) ∈ m_tb := m_tb_mem.mpr ⟨ck_3 (List.mem_of_getElem? (i := 188) rfl), rfl⟩
theorem sw_cCO : Cond.code Jvm.Lib.Cold.length.CO Jvm.Lib.String.coder.code 1 (some .byte) ∈ m_tb := m_tb_mem.mpr ⟨ck_3 (List.mem_of_getElem? (i := 192) rfl), rfl⟩
theorem sw_cIX : Cond.code Jvm.Free.SL1IndexOf.indexOfN Jvm.Free.SL1IndexOf.indexOfB 4 (some .int) ∈ m_tb := m_tb_mem.mpr ⟨ck_3 (List.mem_of_getElem? (i := 195) rfl), rfl⟩
theorem sw_cCE : Cond.code Jvm.Free.SL1IndexOf.canEncodeN Jvm.Free.SL1IndexOf.canEncodeB 1 (some .boolean) ∈ m_tb := m_tb_mem.mpr ⟨ck_3 (List.mem_of_getElem? (i := 198) rfl), rfl⟩
theorem sw_cIC : Cond.code Jvm.Free.SL1IndexOf.indexOfCharN Jvm.Free.SL1IndexOf.indexOfCharB 6 (some .int) ∈ m_tb := m_tb_mem.mpr ⟨ck_3 (List.mem_of_getElem? (i := 203) rfl), rfl⟩
theorem sw_cMX : Cond.code Lib.Math.max.name Lib.Math.max.code 2 (some .int) ∈ m_tb := m_tb_mem.mpr ⟨ck_2 (List.mem_of_getElem? (i := 125) rfl), rfl⟩
theorem sw_cMN : Cond.code Lib.Math.min.name Lib.Math.min.code 2 (some .int) ∈ m_tb := m_tb_mem.mpr ⟨ck_2 (List.mem_of_getElem? (i := 128) rfl), rfl⟩
theorem sw_iI1 : Cond.instanceMethod Jvm.Free.StrIndexOf.indexOf1N ∈ m_tb := m_tb_mem.mpr ⟨ck_3 (List.mem_of_getElem? (i := 172) rfl), rfl⟩
theorem sw_sI1 : Cond.selects "java/lang/String" Jvm.Free.StrIndexOf.indexOf1N Jvm.Free.StrIndexOf.indexOf1N ∈ m_tb := m_tb_mem.mpr ⟨ck_3 (List.mem_of_getElem? (i := 173) rfl), rfl⟩
theorem sw_iI2 : Cond.instanceMethod Jvm.Free.StrIndexOf.indexOf2N ∈ m_tb := m_tb_mem.mpr ⟨ck_3 (List.mem_of_getElem? (i := 176) rfl), rfl⟩
theorem sw_sI2 : Cond.selects "java/lang/String" Jvm.Free.StrIndexOf.indexOf2N Jvm.Free.StrIndexOf.indexOf2N ∈ m_tb := m_tb_mem.mpr ⟨ck_3 (List.mem_of_getElem? (i := 177) rfl), rfl⟩
theorem sw_iIL : Cond.instanceMethod Jvm.Free.StrIndexOf.S2.IL ∈ m_tb := m_tb_mem.mpr ⟨ck_3 (List.mem_of_getElem? (i := 180) rfl), rfl⟩
theorem sw_sIL : Cond.selects "java/lang/String" Jvm.Free.StrIndexOf.S2.IL Jvm.Free.StrIndexOf.S2.IL ∈ m_tb := m_tb_mem.mpr ⟨ck_3 (List.mem_of_getElem? (i := 181) rfl), rfl⟩
theorem sw_iLN : Cond.instanceMethod Jvm.Free.StrIndexOf.S2.LN ∈ m_tb := m_tb_mem.mpr ⟨ck_3 (List.mem_of_getElem? (i := 186) rfl), rfl⟩
theorem sw_sLN : Cond.selects "java/lang/String" Jvm.Free.StrIndexOf.S2.LN Jvm.Free.StrIndexOf.S2.LN ∈ m_tb := m_tb_mem.mpr ⟨ck_3 (List.mem_of_getElem? (i := 187) rfl), rfl⟩
theorem sw_iCO : Cond.instanceMethod Jvm.Lib.Cold.length.CO ∈ m_tb := m_tb_mem.mpr ⟨ck_3 (List.mem_of_getElem? (i := 190) rfl), rfl⟩
theorem sw_sCO : Cond.selects "java/lang/String" Jvm.Lib.Cold.length.CO Jvm.Lib.Cold.length.CO ∈ m_tb := m_tb_mem.mpr ⟨ck_3 (List.mem_of_getElem? (i := 191) rfl), rfl⟩
theorem sw_tIX : Cond.static Jvm.Free.SL1IndexOf.indexOfN ∈ m_tb := m_tb_mem.mpr ⟨ck_3 (List.mem_of_getElem? (i := 194) rfl), rfl⟩
theorem sw_tCE : Cond.static Jvm.Free.SL1IndexOf.canEncodeN ∈ m_tb := m_tb_mem.mpr ⟨ck_3 (List.mem_of_getElem? (i := 197) rfl), rfl⟩
theorem sw_tIC : Cond.static Jvm.Free.SL1IndexOf.indexOfCharN ∈ m_tb := m_tb_mem.mpr ⟨ck_3 (List.mem_of_getElem? (i := 202) rfl), rfl⟩
theorem sw_tMX : Cond.static Lib.Math.max.name ∈ m_tb := m_tb_mem.mpr ⟨ck_2 (List.mem_of_getElem? (i := 124) rfl), rfl⟩
theorem sw_tMN : Cond.static Lib.Math.min.name ∈ m_tb := m_tb_mem.mpr ⟨ck_2 (List.mem_of_getElem? (i := 127) rfl), rfl⟩
theorem sw_lI2 : Cond.methodLink "java/lang/String" 633 Jvm.Free.StrIndexOf.indexOf2N ∈ m_tb := m_tb_mem.mpr ⟨ck_3 (List.mem_of_getElem? (i := 175) rfl), rfl⟩
theorem sw_lIL : Cond.methodLink "java/lang/String" 492 Jvm.Free.StrIndexOf.S2.IL ∈ m_tb := m_tb_mem.mpr ⟨ck_3 (List.mem_of_getElem? (i := 179) rfl), rfl⟩
theorem sw_lLN : Cond.methodLink "java/lang/String" 505 Jvm.Free.StrIndexOf.S2.LN ∈ m_tb := m_tb_mem.mpr ⟨ck_3 (List.mem_of_getElem? (i := 185) rfl), rfl⟩
theorem sw_lIX : Cond.methodLink "java/lang/String" 637 Jvm.Free.SL1IndexOf.indexOfN ∈ m_tb := m_tb_mem.mpr ⟨ck_3 (List.mem_of_getElem? (i := 193) rfl), rfl⟩
theorem sw_lCO : Cond.methodLink "java/lang/String" 335 Jvm.Lib.Cold.length.CO ∈ m_tb := m_tb_mem.mpr ⟨ck_3 (List.mem_of_getElem? (i := 189) rfl), rfl⟩
theorem sw_lCE : Cond.methodLink "java/lang/StringLatin1" 88 Jvm.Free.SL1IndexOf.canEncodeN ∈ m_tb := m_tb_mem.mpr ⟨ck_3 (List.mem_of_getElem? (i := 196) rfl), rfl⟩
theorem sw_lMX : Cond.methodLink "java/lang/StringLatin1" 92 Lib.Math.max.name ∈ m_tb := m_tb_mem.mpr ⟨ck_3 (List.mem_of_getElem? (i := 199) rfl), rfl⟩
theorem sw_lMN : Cond.methodLink "java/lang/StringLatin1" 38 Lib.Math.min.name ∈ m_tb := m_tb_mem.mpr ⟨ck_3 (List.mem_of_getElem? (i := 200) rfl), rfl⟩
theorem sw_lIC : Cond.methodLink "java/lang/StringLatin1" 95 Jvm.Free.SL1IndexOf.indexOfCharN ∈ m_tb := m_tb_mem.mpr ⟨ck_3 (List.mem_of_getElem? (i := 201) rfl), rfl⟩
theorem sw_lI1 : Cond.methodLink "LifeList$Rules" 93 Jvm.Free.StrIndexOf.indexOf1N ∈ m_tb := m_tb_mem.mpr ⟨ck_3 (List.mem_of_getElem? (i := 171) rfl), rfl⟩
theorem sw_f9 : Cond.fieldLink "java/lang/String" 9 "java/lang/String" "value" "[B" ∈ m_tb := m_tb_mem.mpr ⟨ck_7 (List.mem_of_getElem? (i := 9) rfl), rfl⟩
theorem sw_f38 : Cond.fieldLink "java/lang/String" 38 "java/lang/String" "COMPACT_STRINGS" "Z" ∈ m_tb := m_tb_mem.mpr ⟨ck_3 (List.mem_of_getElem? (i := 183) rfl), rfl⟩
theorem sw_f15 : Cond.fieldLink "java/lang/String" 15 "java/lang/String" "coder" "B" ∈ m_tb := m_tb_mem.mpr ⟨ck_7 (List.mem_of_getElem? (i := 8) rfl), rfl⟩
theorem sw_nS : Cond.initialized "java/lang/String" ∈ m_tb := m_tb_mem.mpr ⟨ck_0 (List.mem_of_getElem? (i := 18) rfl), rfl⟩
theorem sw_nL : Cond.initialized "java/lang/StringLatin1" ∈ m_tb := m_tb_mem.mpr ⟨ck_0 (List.mem_of_getElem? (i := 19) rfl), rfl⟩
theorem sw_nM : Cond.initialized "java/lang/Math" ∈ m_tb := m_tb_mem.mpr ⟨ck_0 (List.mem_of_getElem? (i := 15) rfl), rfl⟩
