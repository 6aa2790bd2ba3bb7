/-! the words of the tables, by their places: made by wip/whole/gen_words.py -/
theorem zm0 {i : Nat} {q : MethodName × Nat} (h : lw_privs[i]? = some q) (g : goodWord (Cond.selects q.1.cls q.1 q.1) = true) : Cond.selects q.1.cls q.1 q.1 ∈ zU := zU_in (List.mem_append_left _ (List.mem_map.mpr ⟨q, List.mem_of_getElem? h, rfl⟩)) g
theorem zm1 {i : Nat} {w : Cond} (h : tables_1_1[i]? = some w) (g : goodWord w = true) : w ∈ zU := by
  have h9 := List.mem_of_getElem? h
  exact zU_in (List.mem_append_right _ (List.mem_append_left _ h9)) g
theorem zm2 {i : Nat} {w : Cond} (h : tables_1_2[i]? = some w) (g : goodWord w = true) : w ∈ zU := by
  have h9 := List.mem_of_getElem? h
  exact zU_in (List.mem_append_right _ (List.mem_append_right _ (List.mem_append_left _ h9))) g
theorem zm3 {i : Nat} {w : Cond} (h : tables_1_3[i]? = some w) (g : goodWord w = true) : w ∈ zU := by
  have h9 := List.mem_of_getElem? h
  exact zU_in (List.mem_append_right _ (List.mem_append_right _ (List.mem_append_right _ (List.mem_append_left _ h9)))) g
theorem zm4 {i : Nat} {w : Cond} (h : tables_1_4[i]? = some w) (g : goodWord w = true) : w ∈ zU := by
  have h9 := List.mem_of_getElem? h
  exact zU_in (List.mem_append_right _ (List.mem_append_right _ (List.mem_append_right _ (List.mem_append_right _ (List.mem_append_left _ h9))))) g
theorem zm5 {i : Nat} {w : Cond} (h : tables_1_5[i]? = some w) (g : goodWord w = true) : w ∈ zU := by
  have h9 := List.mem_of_getElem? h
  exact zU_in (List.mem_append_right _ (List.mem_append_right _ (List.mem_append_right _ (List.mem_append_right _ (List.mem_append_right _ (List.mem_append_left _ h9)))))) g
theorem zm6 {i : Nat} {w : Cond} (h : tables_1_6[i]? = some w) (g : goodWord w = true) : w ∈ zU := by
  have h9 := List.mem_of_getElem? h
  exact zU_in (List.mem_append_right _ (List.mem_append_right _ (List.mem_append_right _ (List.mem_append_right _ (List.mem_append_right _ (List.mem_append_right _ (List.mem_append_left _ h9))))))) g
theorem zm7 {i : Nat} {w : Cond} (h : tables_1_7[i]? = some w) (g : goodWord w = true) : w ∈ zU := by
  have h9 := List.mem_of_getElem? h
  exact zU_in (List.mem_append_right _ (List.mem_append_right _ (List.mem_append_right _ (List.mem_append_right _ (List.mem_append_right _ (List.mem_append_right _ (List.mem_append_right _ (List.mem_append_left _ h9)))))))) g
theorem zm8 {i : Nat} {w : Cond} (h : tables_1_8[i]? = some w) (g : goodWord w = true) : w ∈ zU := by
  have h9 := List.mem_of_getElem? h
  exact zU_in (List.mem_append_right _ (List.mem_append_right _ (List.mem_append_right _ (List.mem_append_right _ (List.mem_append_right _ (List.mem_append_right _ (List.mem_append_right _ (List.mem_append_right _ (h9))))))))) g
theorem zk_L_8 : Cond.classLink RL 8 RX6 ∈ zU := zm1 (i := 21) (by decide +kernel) rfl
theorem zl_L_87 : Cond.methodLink RL 87 yX6_init ∈ zU := zm1 (i := 23) (by decide +kernel) rfl
theorem zl_X6_1 : Cond.methodLink RX6 1 ⟨"java/lang/Object", "<init>", "()V"⟩ ∈ zU := zm1 (i := 26) (by decide +kernel) rfl
theorem zk_X6_7 : Cond.classLink RX6 7 RX2 ∈ zU := zm1 (i := 29) (by decide +kernel) rfl
theorem zl_X2_3 : Cond.methodLink RX2 3 ⟨"java/lang/Object", "<init>", "()V"⟩ ∈ zU := zm1 (i := 34) (by decide +kernel) rfl
theorem zf_X2_9 : Cond.fieldLink RX2 9 RX2 "bytes" "[I" ∈ zU := zm1 (i := 35) (by decide +kernel) rfl
theorem zf_X2_15 : Cond.fieldLink RX2 15 RX2 "values" "[I" ∈ zU := zm1 (i := 36) (by decide +kernel) rfl
theorem zf_X6_70 : Cond.fieldLink RX6 70 RX2 "values" "[I" ∈ zU := zm1 (i := 37) (by decide +kernel) rfl
theorem zf_X6_23 : Cond.fieldLink RX6 23 RX2 "length" "I" ∈ zU := zm1 (i := 38) (by decide +kernel) rfl
theorem zf_X2_22 : Cond.fieldLink RX2 22 RX2 "length" "I" ∈ zU := zm1 (i := 39) (by decide +kernel) rfl
theorem zf_X2_25 : Cond.fieldLink RX2 25 RX2 "errorFound" "I" ∈ zU := zm1 (i := 40) (by decide +kernel) rfl
theorem zf_X6_46 : Cond.fieldLink RX6 46 RX2 "errorFound" "I" ∈ zU := zm1 (i := 41) (by decide +kernel) rfl
theorem zf_X2_18 : Cond.fieldLink RX2 18 RX2 "errorPlace" "I" ∈ zU := zm1 (i := 42) (by decide +kernel) rfl
theorem zf_X6_78 : Cond.fieldLink RX6 78 RX2 "errorPlace" "I" ∈ zU := zm1 (i := 43) (by decide +kernel) rfl
theorem zf_X6_51 : Cond.fieldLink RX6 51 RX2 "blockCount" "I" ∈ zU := zm1 (i := 44) (by decide +kernel) rfl
theorem zf_X2_92 : Cond.fieldLink RX2 92 RX2 "blockCount" "I" ∈ zU := zm1 (i := 45) (by decide +kernel) rfl
theorem zf_X6_54 : Cond.fieldLink RX6 54 RX2 "blockSize" "I" ∈ zU := zm1 (i := 46) (by decide +kernel) rfl
theorem zf_X2_99 : Cond.fieldLink RX2 99 RX2 "blockSize" "I" ∈ zU := zm1 (i := 47) (by decide +kernel) rfl
theorem zf_X6_57 : Cond.fieldLink RX6 57 RX2 "logicalCount" "I" ∈ zU := zm1 (i := 48) (by decide +kernel) rfl
theorem zf_X2_102 : Cond.fieldLink RX2 102 RX2 "logicalCount" "I" ∈ zU := zm1 (i := 49) (by decide +kernel) rfl
theorem zf_X6_60 : Cond.fieldLink RX6 60 RX2 "every" "I" ∈ zU := zm1 (i := 50) (by decide +kernel) rfl
theorem zf_X2_108 : Cond.fieldLink RX2 108 RX2 "every" "I" ∈ zU := zm1 (i := 51) (by decide +kernel) rfl
theorem zf_X2_28 : Cond.fieldLink RX2 28 RX2 "valueCount" "I" ∈ zU := zm1 (i := 52) (by decide +kernel) rfl
theorem zf_X6_67 : Cond.fieldLink RX6 67 RX2 "valueCount" "I" ∈ zU := zm1 (i := 53) (by decide +kernel) rfl
theorem zf_X2_31 : Cond.fieldLink RX2 31 RX2 "step" "I" ∈ zU := zm1 (i := 54) (by decide +kernel) rfl
theorem zk_X6_16 : Cond.classLink RX6 16 RX0 ∈ zU := zm1 (i := 79) (by decide +kernel) rfl
theorem zl_X0_3 : Cond.methodLink RX0 3 ⟨"java/lang/Object", "<init>", "()V"⟩ ∈ zU := zm1 (i := 84) (by decide +kernel) rfl
theorem zk_X0_9 : Cond.classLink RX0 9 RX1 ∈ zU := zm1 (i := 85) (by decide +kernel) rfl
theorem zl_X1_3 : Cond.methodLink RX1 3 ⟨"java/lang/Object", "<init>", "()V"⟩ ∈ zU := zm1 (i := 90) (by decide +kernel) rfl
theorem zf_X1_9 : Cond.fieldLink RX1 9 RX1 "kind" "[I" ∈ zU := zm1 (i := 91) (by decide +kernel) rfl
theorem zf_X5_35 : Cond.fieldLink RX5 35 RX1 "kind" "[I" ∈ zU := zm1 (i := 92) (by decide +kernel) rfl
theorem zf_X0_99 : Cond.fieldLink RX0 99 RX1 "kind" "[I" ∈ zU := zm1 (i := 93) (by decide +kernel) rfl
theorem zf_X6_288 : Cond.fieldLink RX6 288 RX1 "kind" "[I" ∈ zU := zm1 (i := 94) (by decide +kernel) rfl
theorem zf_X1_15 : Cond.fieldLink RX1 15 RX1 "index" "[I" ∈ zU := zm1 (i := 95) (by decide +kernel) rfl
theorem zf_X5_38 : Cond.fieldLink RX5 38 RX1 "index" "[I" ∈ zU := zm1 (i := 96) (by decide +kernel) rfl
theorem zf_X0_102 : Cond.fieldLink RX0 102 RX1 "index" "[I" ∈ zU := zm1 (i := 97) (by decide +kernel) rfl
theorem zf_X6_291 : Cond.fieldLink RX6 291 RX1 "index" "[I" ∈ zU := zm1 (i := 98) (by decide +kernel) rfl
theorem zf_X1_18 : Cond.fieldLink RX1 18 RX1 "group" "[I" ∈ zU := zm1 (i := 99) (by decide +kernel) rfl
theorem zf_X5_47 : Cond.fieldLink RX5 47 RX1 "group" "[I" ∈ zU := zm1 (i := 100) (by decide +kernel) rfl
theorem zf_X0_112 : Cond.fieldLink RX0 112 RX1 "group" "[I" ∈ zU := zm1 (i := 101) (by decide +kernel) rfl
theorem zf_X6_294 : Cond.fieldLink RX6 294 RX1 "group" "[I" ∈ zU := zm1 (i := 102) (by decide +kernel) rfl
theorem zf_X1_21 : Cond.fieldLink RX1 21 RX1 "version" "[I" ∈ zU := zm1 (i := 103) (by decide +kernel) rfl
theorem zf_X5_30 : Cond.fieldLink RX5 30 RX1 "version" "[I" ∈ zU := zm1 (i := 104) (by decide +kernel) rfl
theorem zf_X0_105 : Cond.fieldLink RX0 105 RX1 "version" "[I" ∈ zU := zm1 (i := 105) (by decide +kernel) rfl
theorem zf_X6_297 : Cond.fieldLink RX6 297 RX1 "version" "[I" ∈ zU := zm1 (i := 106) (by decide +kernel) rfl
theorem zf_X1_24 : Cond.fieldLink RX1 24 RX1 "sequence" "[I" ∈ zU := zm1 (i := 107) (by decide +kernel) rfl
theorem zf_X6_300 : Cond.fieldLink RX6 300 RX1 "sequence" "[I" ∈ zU := zm1 (i := 108) (by decide +kernel) rfl
theorem zf_X1_27 : Cond.fieldLink RX1 27 RX1 "value" "[I" ∈ zU := zm1 (i := 109) (by decide +kernel) rfl
theorem zf_X0_135 : Cond.fieldLink RX0 135 RX1 "value" "[I" ∈ zU := zm1 (i := 110) (by decide +kernel) rfl
theorem zf_X6_303 : Cond.fieldLink RX6 303 RX1 "value" "[I" ∈ zU := zm1 (i := 111) (by decide +kernel) rfl
theorem zf_X1_30 : Cond.fieldLink RX1 30 RX1 "mapped" "[I" ∈ zU := zm1 (i := 112) (by decide +kernel) rfl
theorem zf_X0_199 : Cond.fieldLink RX0 199 RX1 "mapped" "[I" ∈ zU := zm1 (i := 113) (by decide +kernel) rfl
theorem zf_X1_33 : Cond.fieldLink RX1 33 RX1 "copied" "[Z" ∈ zU := zm1 (i := 114) (by decide +kernel) rfl
theorem zf_X0_95 : Cond.fieldLink RX0 95 RX1 "copied" "[Z" ∈ zU := zm1 (i := 115) (by decide +kernel) rfl
theorem zf_X1_37 : Cond.fieldLink RX1 37 RX1 "used" "[I" ∈ zU := zm1 (i := 116) (by decide +kernel) rfl
theorem zf_X0_121 : Cond.fieldLink RX0 121 RX1 "used" "[I" ∈ zU := zm1 (i := 117) (by decide +kernel) rfl
theorem zf_X6_272 : Cond.fieldLink RX6 272 RX1 "used" "[I" ∈ zU := zm1 (i := 118) (by decide +kernel) rfl
theorem zf_X1_40 : Cond.fieldLink RX1 40 RX1 "wear" "[I" ∈ zU := zm1 (i := 119) (by decide +kernel) rfl
theorem zf_X0_168 : Cond.fieldLink RX0 168 RX1 "wear" "[I" ∈ zU := zm1 (i := 120) (by decide +kernel) rfl
theorem zf_X6_269 : Cond.fieldLink RX6 269 RX1 "wear" "[I" ∈ zU := zm1 (i := 121) (by decide +kernel) rfl
theorem zf_X1_43 : Cond.fieldLink RX1 43 RX1 "blockCount" "I" ∈ zU := zm1 (i := 122) (by decide +kernel) rfl
theorem zf_X0_47 : Cond.fieldLink RX0 47 RX1 "blockCount" "I" ∈ zU := zm1 (i := 123) (by decide +kernel) rfl
theorem zf_X6_239 : Cond.fieldLink RX6 239 RX1 "blockCount" "I" ∈ zU := zm1 (i := 124) (by decide +kernel) rfl
theorem zf_X1_47 : Cond.fieldLink RX1 47 RX1 "blockSize" "I" ∈ zU := zm1 (i := 125) (by decide +kernel) rfl
theorem zf_X0_115 : Cond.fieldLink RX0 115 RX1 "blockSize" "I" ∈ zU := zm1 (i := 126) (by decide +kernel) rfl
theorem zf_X6_240 : Cond.fieldLink RX6 240 RX1 "blockSize" "I" ∈ zU := zm1 (i := 127) (by decide +kernel) rfl
theorem zf_X1_50 : Cond.fieldLink RX1 50 RX1 "placeCount" "I" ∈ zU := zm1 (i := 128) (by decide +kernel) rfl
theorem zf_X5_54 : Cond.fieldLink RX5 54 RX1 "placeCount" "I" ∈ zU := zm1 (i := 129) (by decide +kernel) rfl
theorem zf_X0_224 : Cond.fieldLink RX0 224 RX1 "placeCount" "I" ∈ zU := zm1 (i := 130) (by decide +kernel) rfl
theorem zf_X1_57 : Cond.fieldLink RX1 57 RX1 "lastSequence" "I" ∈ zU := zm1 (i := 131) (by decide +kernel) rfl
theorem zf_X1_60 : Cond.fieldLink RX1 60 RX1 "programCount" "I" ∈ zU := zm1 (i := 132) (by decide +kernel) rfl
theorem zf_X6_309 : Cond.fieldLink RX6 309 RX1 "programCount" "I" ∈ zU := zm1 (i := 133) (by decide +kernel) rfl
theorem zf_X1_63 : Cond.fieldLink RX1 63 RX1 "eraseCount" "I" ∈ zU := zm1 (i := 134) (by decide +kernel) rfl
theorem zf_X6_312 : Cond.fieldLink RX6 312 RX1 "eraseCount" "I" ∈ zU := zm1 (i := 135) (by decide +kernel) rfl
theorem zf_X1_66 : Cond.fieldLink RX1 66 RX1 "copyCount" "I" ∈ zU := zm1 (i := 136) (by decide +kernel) rfl
theorem zf_X6_315 : Cond.fieldLink RX6 315 RX1 "copyCount" "I" ∈ zU := zm1 (i := 137) (by decide +kernel) rfl
theorem zf_X1_69 : Cond.fieldLink RX1 69 RX1 "armed" "I" ∈ zU := zm1 (i := 138) (by decide +kernel) rfl
theorem zf_X6_217 : Cond.fieldLink RX6 217 RX1 "armed" "I" ∈ zU := zm1 (i := 139) (by decide +kernel) rfl
theorem zk_X0_18 : Cond.classLink RX0 18 RX3 ∈ zU := zm1 (i := 178) (by decide +kernel) rfl
theorem zl_X3_3 : Cond.methodLink RX3 3 ⟨"java/lang/Object", "<init>", "()V"⟩ ∈ zU := zm1 (i := 183) (by decide +kernel) rfl
theorem zf_X3_9 : Cond.fieldLink RX3 9 RX3 "states" "[I" ∈ zU := zm1 (i := 184) (by decide +kernel) rfl
theorem zf_X3_15 : Cond.fieldLink RX3 15 RX3 "begun" "I" ∈ zU := zm1 (i := 185) (by decide +kernel) rfl
theorem zf_X0_54 : Cond.fieldLink RX0 54 RX3 "begun" "I" ∈ zU := zm1 (i := 186) (by decide +kernel) rfl
theorem zf_X6_95 : Cond.fieldLink RX6 95 RX3 "begun" "I" ∈ zU := zm1 (i := 187) (by decide +kernel) rfl
theorem zk_X0_25 : Cond.classLink RX0 25 RX4 ∈ zU := zm1 (i := 193) (by decide +kernel) rfl
theorem zl_X4_3 : Cond.methodLink RX4 3 ⟨"java/lang/Object", "<init>", "()V"⟩ ∈ zU := zm1 (i := 198) (by decide +kernel) rfl
theorem zf_X4_9 : Cond.fieldLink RX4 9 RX4 "committed" "[I" ∈ zU := zm1 (i := 199) (by decide +kernel) rfl
theorem zf_X4_15 : Cond.fieldLink RX4 15 RX4 "shadows" "[I" ∈ zU := zm1 (i := 200) (by decide +kernel) rfl
theorem zf_X4_18 : Cond.fieldLink RX4 18 RX4 "owners" "[I" ∈ zU := zm1 (i := 201) (by decide +kernel) rfl
theorem zf_X4_21 : Cond.fieldLink RX4 21 RX4 "kept" "[I" ∈ zU := zm1 (i := 202) (by decide +kernel) rfl
theorem zf_X4_24 : Cond.fieldLink RX4 24 RX4 "pages" "I" ∈ zU := zm1 (i := 203) (by decide +kernel) rfl
theorem zf_X6_236 : Cond.fieldLink RX6 236 RX4 "pages" "I" ∈ zU := zm1 (i := 204) (by decide +kernel) rfl
theorem zf_X4_28 : Cond.fieldLink RX4 28 RX4 "parts" "I" ∈ zU := zm1 (i := 205) (by decide +kernel) rfl
theorem zf_X0_128 : Cond.fieldLink RX0 128 RX4 "parts" "I" ∈ zU := zm1 (i := 206) (by decide +kernel) rfl
theorem zf_X6_201 : Cond.fieldLink RX6 201 RX4 "parts" "I" ∈ zU := zm1 (i := 207) (by decide +kernel) rfl
theorem zf_X4_34 : Cond.fieldLink RX4 34 RX4 "readerBits" "I" ∈ zU := zm1 (i := 208) (by decide +kernel) rfl
theorem zf_X6_252 : Cond.fieldLink RX6 252 RX4 "readerBits" "I" ∈ zU := zm1 (i := 209) (by decide +kernel) rfl
theorem zk_X0_32 : Cond.classLink RX0 32 RX5 ∈ zU := zm1 (i := 225) (by decide +kernel) rfl
theorem zl_X5_3 : Cond.methodLink RX5 3 ⟨"java/lang/Object", "<init>", "()V"⟩ ∈ zU := zm1 (i := 230) (by decide +kernel) rfl
theorem zf_X5_9 : Cond.fieldLink RX5 9 RX5 "log" "[I" ∈ zU := zm1 (i := 231) (by decide +kernel) rfl
theorem zf_X5_15 : Cond.fieldLink RX5 15 RX5 "newest" "[I" ∈ zU := zm1 (i := 232) (by decide +kernel) rfl
theorem zf_X5_26 : Cond.fieldLink RX5 26 RX5 "size" "I" ∈ zU := zm1 (i := 233) (by decide +kernel) rfl
theorem zf_X0_12 : Cond.fieldLink RX0 12 RX0 "flash" "LTransactionalFlash$Flash;" ∈ zU := zm2 (i := 1) (by decide +kernel) rfl
theorem zf_X6_213 : Cond.fieldLink RX6 213 RX0 "flash" "LTransactionalFlash$Flash;" ∈ zU := zm2 (i := 2) (by decide +kernel) rfl
theorem zf_X0_21 : Cond.fieldLink RX0 21 RX0 "ledger" "LTransactionalFlash$Ledger;" ∈ zU := zm2 (i := 3) (by decide +kernel) rfl
theorem zf_X6_81 : Cond.fieldLink RX6 81 RX0 "ledger" "LTransactionalFlash$Ledger;" ∈ zU := zm2 (i := 4) (by decide +kernel) rfl
theorem zf_X0_28 : Cond.fieldLink RX0 28 RX0 "table" "LTransactionalFlash$PageTable;" ∈ zU := zm2 (i := 5) (by decide +kernel) rfl
theorem zf_X6_107 : Cond.fieldLink RX6 107 RX0 "table" "LTransactionalFlash$PageTable;" ∈ zU := zm2 (i := 6) (by decide +kernel) rfl
theorem zf_X0_35 : Cond.fieldLink RX0 35 RX0 "replay" "LTransactionalFlash$Replay;" ∈ zU := zm2 (i := 7) (by decide +kernel) rfl
theorem zf_X0_39 : Cond.fieldLink RX0 39 RX0 "liveIn" "[I" ∈ zU := zm2 (i := 8) (by decide +kernel) rfl
theorem zf_X0_84 : Cond.fieldLink RX0 84 RX0 "on" "Z" ∈ zU := zm2 (i := 9) (by decide +kernel) rfl
theorem zf_X6_85 : Cond.fieldLink RX6 85 RX0 "on" "Z" ∈ zU := zm2 (i := 10) (by decide +kernel) rfl
theorem zf_X0_43 : Cond.fieldLink RX0 43 RX0 "active" "I" ∈ zU := zm2 (i := 11) (by decide +kernel) rfl
theorem zf_X6_255 : Cond.fieldLink RX6 255 RX0 "active" "I" ∈ zU := zm2 (i := 12) (by decide +kernel) rfl
theorem zf_X0_60 : Cond.fieldLink RX0 60 RX0 "every" "I" ∈ zU := zm2 (i := 13) (by decide +kernel) rfl
theorem zf_X0_63 : Cond.fieldLink RX0 63 RX0 "commitCount" "I" ∈ zU := zm2 (i := 14) (by decide +kernel) rfl
theorem zf_X6_324 : Cond.fieldLink RX6 324 RX0 "commitCount" "I" ∈ zU := zm2 (i := 15) (by decide +kernel) rfl
theorem zf_X0_66 : Cond.fieldLink RX0 66 RX0 "checkpointCount" "I" ∈ zU := zm2 (i := 16) (by decide +kernel) rfl
theorem zf_X0_69 : Cond.fieldLink RX0 69 RX0 "latest" "I" ∈ zU := zm2 (i := 17) (by decide +kernel) rfl
theorem zf_X6_208 : Cond.fieldLink RX6 208 RX0 "latest" "I" ∈ zU := zm2 (i := 18) (by decide +kernel) rfl
theorem zf_X0_72 : Cond.fieldLink RX0 72 RX0 "latestEnd" "I" ∈ zU := zm2 (i := 19) (by decide +kernel) rfl
theorem zf_X0_75 : Cond.fieldLink RX0 75 RX0 "inTheMaking" "I" ∈ zU := zm2 (i := 20) (by decide +kernel) rfl
theorem zf_X0_78 : Cond.fieldLink RX0 78 RX0 "writeCount" "I" ∈ zU := zm2 (i := 21) (by decide +kernel) rfl
theorem zf_X6_318 : Cond.fieldLink RX6 318 RX0 "writeCount" "I" ∈ zU := zm2 (i := 22) (by decide +kernel) rfl
theorem zf_X0_81 : Cond.fieldLink RX0 81 RX0 "lossCount" "I" ∈ zU := zm2 (i := 23) (by decide +kernel) rfl
theorem zf_X6_327 : Cond.fieldLink RX6 327 RX0 "lossCount" "I" ∈ zU := zm2 (i := 24) (by decide +kernel) rfl
theorem zf_X6_10 : Cond.fieldLink RX6 10 RX6 "text" "LTransactionalFlash$FormatText;" ∈ zU := zm2 (i := 56) (by decide +kernel) rfl
theorem zf_X6_19 : Cond.fieldLink RX6 19 RX6 "device" "LTransactionalFlash$Device;" ∈ zU := zm2 (i := 57) (by decide +kernel) rfl
theorem zl_L_104 : Cond.methodLink RL 104 yX6_errorCode ∈ zU := zm2 (i := 63) (by decide +kernel) rfl
theorem zl_L_108 : Cond.methodLink RL 108 yX6_errorPosition ∈ zU := zm2 (i := 67) (by decide +kernel) rfl
theorem zl_L_142 : Cond.methodLink RL 142 yX6_isOn ∈ zU := zm2 (i := 71) (by decide +kernel) rfl
theorem zl_L_156 : Cond.methodLink RL 156 yX6_logicalPages ∈ zU := zm2 (i := 75) (by decide +kernel) rfl
theorem zl_L_160 : Cond.methodLink RL 160 yX6_blocks ∈ zU := zm2 (i := 79) (by decide +kernel) rfl
theorem zl_L_164 : Cond.methodLink RL 164 yX6_pagesPerBlock ∈ zU := zm2 (i := 83) (by decide +kernel) rfl
theorem zl_L_177 : Cond.methodLink RL 177 yX6_transactions ∈ zU := zm2 (i := 87) (by decide +kernel) rfl
theorem zl_L_187 : Cond.methodLink RL 187 yX6_readers ∈ zU := zm2 (i := 91) (by decide +kernel) rfl
theorem zl_L_191 : Cond.methodLink RL 191 yX6_activeBlock ∈ zU := zm2 (i := 95) (by decide +kernel) rfl
theorem zl_L_195 : Cond.methodLink RL 195 yX6_freeBlocks ∈ zU := zm2 (i := 99) (by decide +kernel) rfl
theorem zl_X6_258 : Cond.methodLink RX6 258 yX1_countFreeBlocks ∈ zU := zm2 (i := 103) (by decide +kernel) rfl
theorem zl_L_199 : Cond.methodLink RL 199 yX6_validPages ∈ zU := zm2 (i := 107) (by decide +kernel) rfl
theorem zl_X6_261 : Cond.methodLink RX6 261 yX0_countLive ∈ zU := zm2 (i := 111) (by decide +kernel) rfl
theorem zl_X0_118 : Cond.methodLink RX0 118 yX0_isLive ∈ zU := zm2 (i := 115) (by decide +kernel) rfl
theorem zl_X0_91 : Cond.methodLink RX0 91 yX1_hasPlace ∈ zU := zm2 (i := 119) (by decide +kernel) rfl
theorem zl_X0_108 : Cond.methodLink RX0 108 yX4_keeps ∈ zU := zm2 (i := 123) (by decide +kernel) rfl
theorem zl_L_212 : Cond.methodLink RL 212 yX6_programs ∈ zU := zm2 (i := 127) (by decide +kernel) rfl
theorem zl_L_216 : Cond.methodLink RL 216 yX6_erases ∈ zU := zm2 (i := 131) (by decide +kernel) rfl
theorem zl_L_220 : Cond.methodLink RL 220 yX6_copies ∈ zU := zm2 (i := 135) (by decide +kernel) rfl
theorem zl_L_224 : Cond.methodLink RL 224 yX6_writes ∈ zU := zm2 (i := 139) (by decide +kernel) rfl
theorem zl_L_228 : Cond.methodLink RL 228 yX6_wearGap ∈ zU := zm2 (i := 143) (by decide +kernel) rfl
theorem zl_X6_321 : Cond.methodLink RX6 321 yX1_wearDifference ∈ zU := zm2 (i := 147) (by decide +kernel) rfl
theorem zl_X1_83 : Cond.methodLink RX1 83 yJ9_min_7cf53 ∈ zU := zm2 (i := 151) (by decide +kernel) rfl
theorem zl_X1_89 : Cond.methodLink RX1 89 yJ9_max_7cf53 ∈ zU := zm2 (i := 154) (by decide +kernel) rfl
theorem zl_L_232 : Cond.methodLink RL 232 yX6_lastCheckpoint ∈ zU := zm2 (i := 157) (by decide +kernel) rfl
theorem zl_L_236 : Cond.methodLink RL 236 yX6_commits ∈ zU := zm2 (i := 161) (by decide +kernel) rfl
theorem zl_L_240 : Cond.methodLink RL 240 yX6_losses ∈ zU := zm2 (i := 165) (by decide +kernel) rfl
theorem zl_L_244 : Cond.methodLink RL 244 yX6_victim ∈ zU := zm2 (i := 169) (by decide +kernel) rfl
theorem zl_X6_330 : Cond.methodLink RX6 330 yX0_nextVictim ∈ zU := zm2 (i := 173) (by decide +kernel) rfl
theorem zl_X0_153 : Cond.methodLink RX0 153 yX1_leastWornFreeBlock ∈ zU := zm2 (i := 177) (by decide +kernel) rfl
theorem zl_X0_156 : Cond.methodLink RX0 156 yX1_countFreeBlocks ∈ zU := zm2 (i := 181) (by decide +kernel) rfl
theorem zl_X0_124 : Cond.methodLink RX0 124 yX0_countLive ∈ zU := zm2 (i := 182) (by decide +kernel) rfl
theorem zl_X0_159 : Cond.methodLink RX0 159 yX0_chooseVictim ∈ zU := zm2 (i := 183) (by decide +kernel) rfl
theorem zl_X0_138 : Cond.methodLink RX0 138 yX1_countFreePages ∈ zU := zm2 (i := 187) (by decide +kernel) rfl
theorem zl_X1_72 : Cond.methodLink RX1 72 yX1_hasBlock ∈ zU := zm2 (i := 191) (by decide +kernel) rfl
theorem zl_X0_165 : Cond.methodLink RX0 165 yX0_isBetterVictim ∈ zU := zm2 (i := 195) (by decide +kernel) rfl
theorem zl_L_91 : Cond.methodLink RL 91 yL_feed ∈ zU := zm2 (i := 199) (by decide +kernel) rfl
theorem zk_L_13 : Cond.classLink RL 13 "java/lang/IllegalStateException" ∈ zU := zm2 (i := 202) (by decide +kernel) rfl
theorem zl_L_7 : Cond.methodLink RL 7 yX6_feed ∈ zU := zm2 (i := 203) (by decide +kernel) rfl
theorem zk_X6_27 : Cond.classLink RX6 27 "java/lang/IllegalStateException" ∈ zU := zm2 (i := 207) (by decide +kernel) rfl
theorem zl_X6_31 : Cond.methodLink RX6 31 ⟨"java/lang/IllegalStateException", "<init>", "(Ljava/lang/String;)V"⟩ ∈ zU := zm3 (i := 9) (by decide +kernel) rfl
theorem zl_X6_34 : Cond.methodLink RX6 34 yX2_append ∈ zU := zm3 (i := 35) (by decide +kernel) rfl
theorem zl_L_100 : Cond.methodLink RL 100 yL_format ∈ zU := zm3 (i := 39) (by decide +kernel) rfl
theorem zk_L_19 : Cond.classLink RL 19 "java/lang/IllegalArgumentException" ∈ zU := zm3 (i := 42) (by decide +kernel) rfl
theorem zl_L_15 : Cond.methodLink RL 15 yX6_format ∈ zU := zm3 (i := 43) (by decide +kernel) rfl
theorem zk_X6_38 : Cond.classLink RX6 38 "java/lang/IllegalArgumentException" ∈ zU := zm3 (i := 47) (by decide +kernel) rfl
theorem zl_X6_42 : Cond.methodLink RX6 42 ⟨"java/lang/IllegalArgumentException", "<init>", "(Ljava/lang/String;)V"⟩ ∈ zU := zm3 (i := 57) (by decide +kernel) rfl
theorem zl_X6_43 : Cond.methodLink RX6 43 yX2_parse ∈ zU := zm3 (i := 63) (by decide +kernel) rfl
theorem zl_X2_34 : Cond.methodLink RX2 34 yX2_isLetter ∈ zU := zm3 (i := 67) (by decide +kernel) rfl
theorem zl_X2_38 : Cond.methodLink RX2 38 yX2_isDigit ∈ zU := zm3 (i := 70) (by decide +kernel) rfl
theorem zl_X2_41 : Cond.methodLink RX2 41 yX2_endOfRun ∈ zU := zm3 (i := 73) (by decide +kernel) rfl
theorem zl_X2_45 : Cond.methodLink RX2 45 yJ9_max_7cf53 ∈ zU := zm3 (i := 77) (by decide +kernel) rfl
theorem zl_X2_51 : Cond.methodLink RX2 51 yX2_takeRun ∈ zU := zm3 (i := 78) (by decide +kernel) rfl
theorem zl_X2_62 : Cond.methodLink RX2 62 yX2_takeWord ∈ zU := zm3 (i := 82) (by decide +kernel) rfl
theorem zl_X2_68 : Cond.methodLink RX2 68 yX2_wordDue ∈ zU := zm3 (i := 86) (by decide +kernel) rfl
theorem zl_X2_72 : Cond.methodLink RX2 72 yJ0_length_8abf5 ∈ zU := zm3 (i := 96) (by decide +kernel) rfl
theorem zl_X2_76 : Cond.methodLink RX2 76 yJ0_charAt_5068e ∈ zU := zm3 (i := 106) (by decide +kernel) rfl
theorem zl_X2_65 : Cond.methodLink RX2 65 yX2_takeNumber ∈ zU := zm3 (i := 144) (by decide +kernel) rfl
theorem zl_X2_95 : Cond.methodLink RX2 95 yX2_stepOnIf ∈ zU := zm3 (i := 148) (by decide +kernel) rfl
theorem zl_X2_105 : Cond.methodLink RX2 105 yX2_hasSpaceFor ∈ zU := zm3 (i := 152) (by decide +kernel) rfl
theorem zl_X2_110 : Cond.methodLink RX2 110 yX2_takeValue ∈ zU := zm3 (i := 156) (by decide +kernel) rfl
theorem zl_X2_54 : Cond.methodLink RX2 54 yX2_setError ∈ zU := zm3 (i := 160) (by decide +kernel) rfl
theorem zl_X2_58 : Cond.methodLink RX2 58 yX2_takeSemicolon ∈ zU := zm3 (i := 164) (by decide +kernel) rfl
theorem zl_X6_63 : Cond.methodLink RX6 63 yX0_beginAnew ∈ zU := zm3 (i := 169) (by decide +kernel) rfl
theorem zl_X0_50 : Cond.methodLink RX0 50 yX1_clearAll ∈ zU := zm3 (i := 173) (by decide +kernel) rfl
theorem zl_X1_53 : Cond.methodLink RX1 53 yX1_clearPage ∈ zU := zm3 (i := 177) (by decide +kernel) rfl
theorem zl_X0_57 : Cond.methodLink RX0 57 yX4_clearAll ∈ zU := zm3 (i := 181) (by decide +kernel) rfl
theorem zl_X4_31 : Cond.methodLink RX4 31 yX4_forget ∈ zU := zm3 (i := 185) (by decide +kernel) rfl
theorem zl_X6_74 : Cond.methodLink RX6 74 yX0_writeOutside ∈ zU := zm3 (i := 189) (by decide +kernel) rfl
theorem zl_X0_177 : Cond.methodLink RX0 177 yX0_program ∈ zU := zm3 (i := 193) (by decide +kernel) rfl
theorem zl_X0_142 : Cond.methodLink RX0 142 yX0_makeRoom ∈ zU := zm3 (i := 197) (by decide +kernel) rfl
theorem zl_X0_162 : Cond.methodLink RX0 162 yX0_collect ∈ zU := zm3 (i := 201) (by decide +kernel) rfl
theorem zl_X0_146 : Cond.methodLink RX0 146 yX1_program ∈ zU := zm3 (i := 205) (by decide +kernel) rfl
theorem zl_X1_76 : Cond.methodLink RX1 76 yX1_losesPower ∈ zU := zm3 (i := 209) (by decide +kernel) rfl
theorem zl_X0_171 : Cond.methodLink RX0 171 yX1_makeCopy ∈ zU := zm3 (i := 213) (by decide +kernel) rfl
theorem zl_X1_80 : Cond.methodLink RX1 80 yX1_hasPlace ∈ zU := zm3 (i := 217) (by decide +kernel) rfl
theorem zl_X0_174 : Cond.methodLink RX0 174 yX1_erase ∈ zU := zm3 (i := 218) (by decide +kernel) rfl
theorem zl_X0_150 : Cond.methodLink RX0 150 yX0_losePower ∈ zU := zm3 (i := 222) (by decide +kernel) rfl
theorem zl_X0_88 : Cond.methodLink RX0 88 yX4_forget ∈ zU := zm3 (i := 226) (by decide +kernel) rfl
theorem zl_X0_184 : Cond.methodLink RX0 184 yX4_setCommitted ∈ zU := zm3 (i := 227) (by decide +kernel) rfl
theorem zl_X4_37 : Cond.methodLink RX4 37 yX4_has ∈ zU := zm3 (i := 231) (by decide +kernel) rfl
theorem zl_X0_187 : Cond.methodLink RX0 187 yX0_makeCheckpoint ∈ zU := zm3 (i := 235) (by decide +kernel) rfl
theorem zl_X0_196 : Cond.methodLink RX0 196 yX0_fillMapPage ∈ zU := zm3 (i := 239) (by decide +kernel) rfl
theorem zl_X0_202 : Cond.methodLink RX0 202 yX4_versionSeenBy ∈ zU := zm4 (i := 3) (by decide +kernel) rfl
theorem zl_L_112 : Cond.methodLink RL 112 yL_begin ∈ zU := zm4 (i := 7) (by decide +kernel) rfl
theorem zl_L_21 : Cond.methodLink RL 21 yX6_begin ∈ zU := zm4 (i := 10) (by decide +kernel) rfl
theorem zl_X6_89 : Cond.methodLink RX6 89 yX3_countOpen ∈ zU := zm4 (i := 14) (by decide +kernel) rfl
theorem zl_X6_100 : Cond.methodLink RX6 100 yX3_open ∈ zU := zm4 (i := 19) (by decide +kernel) rfl
theorem zl_L_116 : Cond.methodLink RL 116 yL_write ∈ zU := zm4 (i := 23) (by decide +kernel) rfl
theorem zk_L_29 : Cond.classLink RL 29 "java/util/NoSuchElementException" ∈ zU := zm4 (i := 26) (by decide +kernel) rfl
theorem zl_L_25 : Cond.methodLink RL 25 yX6_write ∈ zU := zm4 (i := 27) (by decide +kernel) rfl
theorem zl_X6_103 : Cond.methodLink RX6 103 yX6_isNoneOrKnown ∈ zU := zm4 (i := 31) (by decide +kernel) rfl
theorem zl_X6_155 : Cond.methodLink RX6 155 yX3_knows ∈ zU := zm4 (i := 35) (by decide +kernel) rfl
theorem zl_X6_111 : Cond.methodLink RX6 111 yX4_has ∈ zU := zm4 (i := 39) (by decide +kernel) rfl
theorem zk_X6_116 : Cond.classLink RX6 116 "java/util/NoSuchElementException" ∈ zU := zm4 (i := 40) (by decide +kernel) rfl
theorem zl_X6_120 : Cond.methodLink RX6 120 ⟨"java/util/NoSuchElementException", "<init>", "(Ljava/lang/String;)V"⟩ ∈ zU := zm4 (i := 50) (by decide +kernel) rfl
theorem zo_X6_121 : Cond.constant RX6 121 (999999 : Int32) ∈ zU := zm4 (i := 56) (by decide +kernel) rfl
theorem zl_X6_124 : Cond.methodLink RX6 124 yX6_isNoneOrOpen ∈ zU := zm4 (i := 58) (by decide +kernel) rfl
theorem zl_X6_160 : Cond.methodLink RX6 160 yX3_isOpen ∈ zU := zm4 (i := 62) (by decide +kernel) rfl
theorem zl_X3_23 : Cond.methodLink RX3 23 yX3_stateOf ∈ zU := zm4 (i := 66) (by decide +kernel) rfl
theorem zl_X3_19 : Cond.methodLink RX3 19 yX3_knows ∈ zU := zm4 (i := 70) (by decide +kernel) rfl
theorem zl_X6_127 : Cond.methodLink RX6 127 yX4_isLockedAgainst ∈ zU := zm4 (i := 71) (by decide +kernel) rfl
theorem zl_X4_41 : Cond.methodLink RX4 41 yX4_ownerOf ∈ zU := zm4 (i := 75) (by decide +kernel) rfl
theorem zl_X6_133 : Cond.methodLink RX6 133 yX0_pagesOfNextCommit ∈ zU := zm4 (i := 80) (by decide +kernel) rfl
theorem zl_X6_136 : Cond.methodLink RX6 136 yX0_hasRoomFor ∈ zU := zm4 (i := 84) (by decide +kernel) rfl
theorem zl_X6_141 : Cond.methodLink RX6 141 yX0_writeInside ∈ zU := zm4 (i := 89) (by decide +kernel) rfl
theorem zl_X0_180 : Cond.methodLink RX0 180 yX4_putInShadow ∈ zU := zm4 (i := 93) (by decide +kernel) rfl
theorem zl_L_120 : Cond.methodLink RL 120 yL_read ∈ zU := zm4 (i := 98) (by decide +kernel) rfl
theorem zl_L_31 : Cond.methodLink RL 31 yX6_read ∈ zU := zm4 (i := 101) (by decide +kernel) rfl
theorem zl_X6_149 : Cond.methodLink RX6 149 yX4_versionSeenBy ∈ zU := zm4 (i := 106) (by decide +kernel) rfl
theorem zl_X6_152 : Cond.methodLink RX6 152 yX0_valueOf ∈ zU := zm4 (i := 107) (by decide +kernel) rfl
theorem zl_X0_131 : Cond.methodLink RX0 131 yX1_findData ∈ zU := zm4 (i := 111) (by decide +kernel) rfl
theorem zl_L_124 : Cond.methodLink RL 124 yL_commit ∈ zU := zm4 (i := 115) (by decide +kernel) rfl
theorem zl_L_35 : Cond.methodLink RL 35 yX6_commit ∈ zU := zm4 (i := 118) (by decide +kernel) rfl
theorem zl_X6_165 : Cond.methodLink RX6 165 yX4_countLocked ∈ zU := zm4 (i := 124) (by decide +kernel) rfl
theorem zl_X6_169 : Cond.methodLink RX6 169 yX0_commitTransaction ∈ zU := zm4 (i := 128) (by decide +kernel) rfl
theorem zl_X0_190 : Cond.methodLink RX0 190 yX3_close ∈ zU := zm4 (i := 132) (by decide +kernel) rfl
theorem zl_X0_193 : Cond.methodLink RX0 193 yX4_commitShadows ∈ zU := zm4 (i := 136) (by decide +kernel) rfl
theorem zl_X4_45 : Cond.methodLink RX4 45 yX4_release ∈ zU := zm4 (i := 140) (by decide +kernel) rfl
theorem zl_L_127 : Cond.methodLink RL 127 yL_abort ∈ zU := zm4 (i := 144) (by decide +kernel) rfl
theorem zl_L_38 : Cond.methodLink RL 38 yX6_abort ∈ zU := zm4 (i := 147) (by decide +kernel) rfl
theorem zl_X6_174 : Cond.methodLink RX6 174 yX4_release ∈ zU := zm4 (i := 152) (by decide +kernel) rfl
theorem zl_X6_177 : Cond.methodLink RX6 177 yX3_close ∈ zU := zm4 (i := 153) (by decide +kernel) rfl
theorem zl_L_130 : Cond.methodLink RL 130 yL_openReader ∈ zU := zm4 (i := 154) (by decide +kernel) rfl
theorem zl_L_41 : Cond.methodLink RL 41 yX6_openReader ∈ zU := zm4 (i := 157) (by decide +kernel) rfl
theorem zl_X6_181 : Cond.methodLink RX6 181 yX4_addReader ∈ zU := zm4 (i := 161) (by decide +kernel) rfl
theorem zl_X4_49 : Cond.methodLink RX4 49 yX4_hasReader ∈ zU := zm4 (i := 165) (by decide +kernel) rfl
theorem zl_L_133 : Cond.methodLink RL 133 yL_readBy ∈ zU := zm4 (i := 170) (by decide +kernel) rfl
theorem zl_L_44 : Cond.methodLink RL 44 yX6_readBy ∈ zU := zm4 (i := 173) (by decide +kernel) rfl
theorem zl_X6_186 : Cond.methodLink RX6 186 yX4_hasReader ∈ zU := zm4 (i := 177) (by decide +kernel) rfl
theorem zl_X6_191 : Cond.methodLink RX6 191 yX4_versionKeptBy ∈ zU := zm4 (i := 179) (by decide +kernel) rfl
theorem zl_L_136 : Cond.methodLink RL 136 yL_closeReader ∈ zU := zm4 (i := 183) (by decide +kernel) rfl
theorem zl_L_47 : Cond.methodLink RL 47 yX6_closeReader ∈ zU := zm4 (i := 186) (by decide +kernel) rfl
theorem zl_X6_196 : Cond.methodLink RX6 196 yX4_removeReader ∈ zU := zm4 (i := 191) (by decide +kernel) rfl
theorem zl_X4_52 : Cond.methodLink RX4 52 yJ6_bitCount_0f7a4 ∈ zU := zm4 (i := 195) (by decide +kernel) rfl
theorem zl_L_139 : Cond.methodLink RL 139 yL_checkpoint ∈ zU := zm4 (i := 201) (by decide +kernel) rfl
theorem zl_L_50 : Cond.methodLink RL 50 yX6_checkpoint ∈ zU := zm4 (i := 204) (by decide +kernel) rfl
theorem zl_X6_204 : Cond.methodLink RX6 204 yX0_makeCheckpoint ∈ zU := zm4 (i := 209) (by decide +kernel) rfl
theorem zl_L_147 : Cond.methodLink RL 147 yL_arm ∈ zU := zm4 (i := 210) (by decide +kernel) rfl
theorem zl_L_53 : Cond.methodLink RL 53 yX6_arm ∈ zU := zm4 (i := 213) (by decide +kernel) rfl
theorem zl_X6_222 : Cond.methodLink RX6 222 yX0_isFormatted ∈ zU := zm4 (i := 218) (by decide +kernel) rfl
theorem zl_L_150 : Cond.methodLink RL 150 yL_powerOff ∈ zU := zm4 (i := 222) (by decide +kernel) rfl
theorem zl_L_56 : Cond.methodLink RL 56 yX6_powerOff ∈ zU := zm4 (i := 225) (by decide +kernel) rfl
theorem zl_X6_225 : Cond.methodLink RX6 225 yX0_losePower ∈ zU := zm4 (i := 229) (by decide +kernel) rfl
theorem zl_L_153 : Cond.methodLink RL 153 yL_recover ∈ zU := zm4 (i := 230) (by decide +kernel) rfl
theorem zl_L_59 : Cond.methodLink RL 59 yX6_recover ∈ zU := zm4 (i := 233) (by decide +kernel) rfl
theorem zl_X6_230 : Cond.methodLink RX6 230 yX0_restore ∈ zU := zm4 (i := 238) (by decide +kernel) rfl
theorem zl_X0_205 : Cond.methodLink RX0 205 yX1_findLatestEnd ∈ zU := zm5 (i := 2) (by decide +kernel) rfl
theorem zl_X0_208 : Cond.methodLink RX0 208 yX0_readMap ∈ zU := zm5 (i := 6) (by decide +kernel) rfl
theorem zl_X0_211 : Cond.methodLink RX0 211 yX5_apply ∈ zU := zm5 (i := 10) (by decide +kernel) rfl
theorem zl_X5_18 : Cond.methodLink RX5 18 yX5_gather ∈ zU := zm5 (i := 14) (by decide +kernel) rfl
theorem zl_X5_22 : Cond.methodLink RX5 22 yX5_sortByVersion ∈ zU := zm5 (i := 18) (by decide +kernel) rfl
theorem zl_X5_41 : Cond.methodLink RX5 41 yX4_setCommitted ∈ zU := zm5 (i := 22) (by decide +kernel) rfl
theorem zl_X5_50 : Cond.methodLink RX5 50 yX5_applyCommit ∈ zU := zm5 (i := 23) (by decide +kernel) rfl
theorem zl_X5_57 : Cond.methodLink RX5 57 yJ9_max_7cf53 ∈ zU := zm5 (i := 27) (by decide +kernel) rfl
theorem zl_X0_215 : Cond.methodLink RX0 215 yX3_loseOpen ∈ zU := zm5 (i := 28) (by decide +kernel) rfl
theorem zl_X0_218 : Cond.methodLink RX0 218 yX0_eraseDeadBlocks ∈ zU := zm5 (i := 32) (by decide +kernel) rfl
theorem zl_X0_221 : Cond.methodLink RX0 221 yX1_findNewestBlock ∈ zU := zm5 (i := 36) (by decide +kernel) rfl
theorem zl_X6_233 : Cond.methodLink RX6 233 yX4_countWritten ∈ zU := zm5 (i := 40) (by decide +kernel) rfl
theorem zl_L_168 : Cond.methodLink RL 168 yL_version ∈ zU := zm5 (i := 44) (by decide +kernel) rfl
theorem zl_L_62 : Cond.methodLink RL 62 yX6_version ∈ zU := zm5 (i := 47) (by decide +kernel) rfl
theorem zl_L_171 : Cond.methodLink RL 171 yL_place ∈ zU := zm5 (i := 52) (by decide +kernel) rfl
theorem zl_L_65 : Cond.methodLink RL 65 yX6_place ∈ zU := zm5 (i := 55) (by decide +kernel) rfl
theorem zl_X6_243 : Cond.methodLink RX6 243 yX1_findData ∈ zU := zm5 (i := 59) (by decide +kernel) rfl
theorem zl_L_174 : Cond.methodLink RL 174 yL_lockedBy ∈ zU := zm5 (i := 60) (by decide +kernel) rfl
theorem zl_L_68 : Cond.methodLink RL 68 yX6_lockedBy ∈ zU := zm5 (i := 63) (by decide +kernel) rfl
theorem zl_X6_246 : Cond.methodLink RX6 246 yX4_ownerOf ∈ zU := zm5 (i := 67) (by decide +kernel) rfl
theorem zl_L_181 : Cond.methodLink RL 181 yL_state ∈ zU := zm5 (i := 68) (by decide +kernel) rfl
theorem zl_L_71 : Cond.methodLink RL 71 yX6_state ∈ zU := zm5 (i := 71) (by decide +kernel) rfl
theorem zl_X6_249 : Cond.methodLink RX6 249 yX3_stateOf ∈ zU := zm5 (i := 75) (by decide +kernel) rfl
theorem zl_L_184 : Cond.methodLink RL 184 yL_locks ∈ zU := zm5 (i := 76) (by decide +kernel) rfl
theorem zl_L_74 : Cond.methodLink RL 74 yX6_locks ∈ zU := zm5 (i := 79) (by decide +kernel) rfl
theorem zl_L_203 : Cond.methodLink RL 203 yL_block ∈ zU := zm5 (i := 83) (by decide +kernel) rfl
theorem zl_L_77 : Cond.methodLink RL 77 yX6_block ∈ zU := zm5 (i := 86) (by decide +kernel) rfl
theorem zl_X6_264 : Cond.methodLink RX6 264 yX1_hasBlock ∈ zU := zm5 (i := 90) (by decide +kernel) rfl
theorem zl_X6_275 : Cond.methodLink RX6 275 yX0_countLiveIn ∈ zU := zm5 (i := 92) (by decide +kernel) rfl
theorem zl_X6_278 : Cond.methodLink RX6 278 yX1_countTornIn ∈ zU := zm5 (i := 96) (by decide +kernel) rfl
theorem zl_L_206 : Cond.methodLink RL 206 yL_flashPage ∈ zU := zm5 (i := 101) (by decide +kernel) rfl
theorem zl_L_80 : Cond.methodLink RL 80 yX6_flashPage ∈ zU := zm5 (i := 104) (by decide +kernel) rfl
theorem zl_X6_283 : Cond.methodLink RX6 283 yX1_hasPlace ∈ zU := zm5 (i := 108) (by decide +kernel) rfl
theorem zl_L_209 : Cond.methodLink RL 209 yL_isValid ∈ zU := zm5 (i := 110) (by decide +kernel) rfl
theorem zl_L_83 : Cond.methodLink RL 83 yX6_isValid ∈ zU := zm5 (i := 113) (by decide +kernel) rfl
theorem zl_X6_306 : Cond.methodLink RX6 306 yX0_isLive ∈ zU := zm5 (i := 117) (by decide +kernel) rfl
theorem zk_L_88 : Cond.classLink RL 88 RX7 ∈ zU := zm5 (i := 118) (by decide +kernel) rfl
theorem zl_L_90 : Cond.methodLink RL 90 yX7_init ∈ zU := zm5 (i := 120) (by decide +kernel) rfl
theorem zl_X7_1 : Cond.methodLink RX7 1 ⟨"java/lang/Object", "<init>", "()V"⟩ ∈ zU := zm5 (i := 123) (by decide +kernel) rfl
theorem zf_X7_69 : Cond.fieldLink RX7 69 RX7 "thrown" "I" ∈ zU := zm5 (i := 124) (by decide +kernel) rfl
theorem zf_X7_79 : Cond.fieldLink RX7 79 RX7 "blocks" "I" ∈ zU := zm5 (i := 125) (by decide +kernel) rfl
theorem zf_X7_82 : Cond.fieldLink RX7 82 RX7 "pages" "I" ∈ zU := zm5 (i := 126) (by decide +kernel) rfl
theorem zf_X7_72 : Cond.fieldLink RX7 72 RX7 "logical" "I" ∈ zU := zm5 (i := 127) (by decide +kernel) rfl
theorem zf_X7_248 : Cond.fieldLink RX7 248 RX7 "every" "I" ∈ zU := zm5 (i := 128) (by decide +kernel) rfl
theorem zf_X7_208 : Cond.fieldLink RX7 208 RX7 "newBlocks" "I" ∈ zU := zm5 (i := 129) (by decide +kernel) rfl
theorem zf_X7_211 : Cond.fieldLink RX7 211 RX7 "newPages" "I" ∈ zU := zm5 (i := 130) (by decide +kernel) rfl
theorem zf_X7_205 : Cond.fieldLink RX7 205 RX7 "newLogical" "I" ∈ zU := zm5 (i := 131) (by decide +kernel) rfl
theorem zf_X7_224 : Cond.fieldLink RX7 224 RX7 "newEvery" "I" ∈ zU := zm5 (i := 132) (by decide +kernel) rfl
theorem zf_X7_7 : Cond.fieldLink RX7 7 RX7 "fill" "[I" ∈ zU := zm5 (i := 133) (by decide +kernel) rfl
theorem zf_X7_231 : Cond.fieldLink RX7 231 RX7 "fillMany" "I" ∈ zU := zm5 (i := 134) (by decide +kernel) rfl
theorem zf_X7_13 : Cond.fieldLink RX7 13 RX7 "kind" "[I" ∈ zU := zm5 (i := 135) (by decide +kernel) rfl
theorem zf_X7_16 : Cond.fieldLink RX7 16 RX7 "index" "[I" ∈ zU := zm5 (i := 136) (by decide +kernel) rfl
theorem zf_X7_19 : Cond.fieldLink RX7 19 RX7 "group" "[I" ∈ zU := zm5 (i := 137) (by decide +kernel) rfl
theorem zf_X7_22 : Cond.fieldLink RX7 22 RX7 "version" "[I" ∈ zU := zm5 (i := 138) (by decide +kernel) rfl
theorem zf_X7_25 : Cond.fieldLink RX7 25 RX7 "sequence" "[I" ∈ zU := zm5 (i := 139) (by decide +kernel) rfl
theorem zf_X7_28 : Cond.fieldLink RX7 28 RX7 "value" "[I" ∈ zU := zm5 (i := 140) (by decide +kernel) rfl
theorem zf_X7_31 : Cond.fieldLink RX7 31 RX7 "mapped" "[I" ∈ zU := zm5 (i := 141) (by decide +kernel) rfl
theorem zf_X7_34 : Cond.fieldLink RX7 34 RX7 "eraseCount" "[I" ∈ zU := zm5 (i := 142) (by decide +kernel) rfl
theorem zf_X7_111 : Cond.fieldLink RX7 111 RX7 "latestSequence" "I" ∈ zU := zm5 (i := 143) (by decide +kernel) rfl
theorem zf_X7_114 : Cond.fieldLink RX7 114 RX7 "programs" "I" ∈ zU := zm5 (i := 144) (by decide +kernel) rfl
theorem zf_X7_117 : Cond.fieldLink RX7 117 RX7 "erases" "I" ∈ zU := zm5 (i := 145) (by decide +kernel) rfl
theorem zf_X7_120 : Cond.fieldLink RX7 120 RX7 "copies" "I" ∈ zU := zm5 (i := 146) (by decide +kernel) rfl
theorem zf_X7_123 : Cond.fieldLink RX7 123 RX7 "writes" "I" ∈ zU := zm5 (i := 147) (by decide +kernel) rfl
theorem zf_X7_108 : Cond.fieldLink RX7 108 RX7 "losses" "I" ∈ zU := zm5 (i := 148) (by decide +kernel) rfl
theorem zf_X7_126 : Cond.fieldLink RX7 126 RX7 "armed" "I" ∈ zU := zm5 (i := 149) (by decide +kernel) rfl
theorem zf_X7_104 : Cond.fieldLink RX7 104 RX7 "on" "Z" ∈ zU := zm5 (i := 150) (by decide +kernel) rfl
theorem zf_X7_37 : Cond.fieldLink RX7 37 RX7 "committed" "[I" ∈ zU := zm5 (i := 151) (by decide +kernel) rfl
theorem zf_X7_40 : Cond.fieldLink RX7 40 RX7 "locker" "[I" ∈ zU := zm5 (i := 152) (by decide +kernel) rfl
theorem zf_X7_43 : Cond.fieldLink RX7 43 RX7 "shadow" "[I" ∈ zU := zm5 (i := 153) (by decide +kernel) rfl
theorem zf_X7_46 : Cond.fieldLink RX7 46 RX7 "readerVersion" "[I" ∈ zU := zm5 (i := 154) (by decide +kernel) rfl
theorem zf_X7_49 : Cond.fieldLink RX7 49 RX7 "isReader" "[Z" ∈ zU := zm5 (i := 155) (by decide +kernel) rfl
theorem zf_X7_53 : Cond.fieldLink RX7 53 RX7 "active" "I" ∈ zU := zm5 (i := 156) (by decide +kernel) rfl
theorem zf_X7_89 : Cond.fieldLink RX7 89 RX7 "latest" "I" ∈ zU := zm5 (i := 157) (by decide +kernel) rfl
theorem zf_X7_92 : Cond.fieldLink RX7 92 RX7 "endVersion" "I" ∈ zU := zm5 (i := 158) (by decide +kernel) rfl
theorem zf_X7_95 : Cond.fieldLink RX7 95 RX7 "making" "I" ∈ zU := zm5 (i := 159) (by decide +kernel) rfl
theorem zf_X7_98 : Cond.fieldLink RX7 98 RX7 "commits" "I" ∈ zU := zm5 (i := 160) (by decide +kernel) rfl
theorem zf_X7_57 : Cond.fieldLink RX7 57 RX7 "states" "[I" ∈ zU := zm5 (i := 161) (by decide +kernel) rfl
theorem zf_X7_129 : Cond.fieldLink RX7 129 RX7 "begun" "I" ∈ zU := zm5 (i := 162) (by decide +kernel) rfl
theorem zf_X7_132 : Cond.fieldLink RX7 132 RX7 "checkpoints" "I" ∈ zU := zm5 (i := 163) (by decide +kernel) rfl
theorem zf_X7_60 : Cond.fieldLink RX7 60 RX7 "buffer" "[I" ∈ zU := zm5 (i := 164) (by decide +kernel) rfl
theorem zf_X7_135 : Cond.fieldLink RX7 135 RX7 "buffered" "I" ∈ zU := zm5 (i := 165) (by decide +kernel) rfl
theorem zf_X7_154 : Cond.fieldLink RX7 154 RX7 "position" "I" ∈ zU := zm5 (i := 166) (by decide +kernel) rfl
theorem zf_X7_151 : Cond.fieldLink RX7 151 RX7 "end" "I" ∈ zU := zm5 (i := 167) (by decide +kernel) rfl
theorem zf_X7_171 : Cond.fieldLink RX7 171 RX7 "lastEnd" "I" ∈ zU := zm5 (i := 168) (by decide +kernel) rfl
theorem zf_X7_160 : Cond.fieldLink RX7 160 RX7 "tokenAt" "I" ∈ zU := zm5 (i := 169) (by decide +kernel) rfl
theorem zf_X7_189 : Cond.fieldLink RX7 189 RX7 "number" "I" ∈ zU := zm5 (i := 170) (by decide +kernel) rfl
theorem zf_X7_145 : Cond.fieldLink RX7 145 RX7 "code" "I" ∈ zU := zm5 (i := 171) (by decide +kernel) rfl
theorem zf_X7_63 : Cond.fieldLink RX7 63 RX7 "codeAt" "I" ∈ zU := zm5 (i := 172) (by decide +kernel) rfl
theorem zf_X7_178 : Cond.fieldLink RX7 178 RX7 "word" "J" ∈ zU := zm5 (i := 173) (by decide +kernel) rfl
theorem zf_X7_66 : Cond.fieldLink RX7 66 RX7 "greatest" "[I" ∈ zU := zm5 (i := 174) (by decide +kernel) rfl
theorem zl_L_97 : Cond.methodLink RL 97 yX7_thrown ∈ zU := zm6 (i := 38) (by decide +kernel) rfl
theorem zl_L_96 : Cond.methodLink RL 96 yX7_feed ∈ zU := zm6 (i := 42) (by decide +kernel) rfl
theorem zl_X7_138 : Cond.methodLink RX7 138 yX7_refuse ∈ zU := zm6 (i := 46) (by decide +kernel) rfl
theorem zl_X7_141 : Cond.methodLink RX7 141 yX7_append ∈ zU := zm6 (i := 50) (by decide +kernel) rfl
theorem zl_L_107 : Cond.methodLink RL 107 yX7_errorCode ∈ zU := zm6 (i := 54) (by decide +kernel) rfl
theorem zl_X7_148 : Cond.methodLink RX7 148 yX7_told ∈ zU := zm6 (i := 58) (by decide +kernel) rfl
theorem zl_L_111 : Cond.methodLink RL 111 yX7_errorPosition ∈ zU := zm6 (i := 62) (by decide +kernel) rfl
theorem zl_L_103 : Cond.methodLink RL 103 yX7_format ∈ zU := zm6 (i := 66) (by decide +kernel) rfl
theorem zl_X7_85 : Cond.methodLink RX7 85 yX7_in ∈ zU := zm6 (i := 70) (by decide +kernel) rfl
theorem zl_X7_245 : Cond.methodLink RX7 245 yX7_readFormat ∈ zU := zm6 (i := 73) (by decide +kernel) rfl
theorem zl_X7_239 : Cond.methodLink RX7 239 yX7_readHead ∈ zU := zm6 (i := 77) (by decide +kernel) rfl
theorem zo_X7_214 : Cond.constantLong RX7 214 (80186739 : Int64) ∈ zU := zm6 (i := 81) (by decide +kernel) rfl
theorem zl_X7_201 : Cond.methodLink RX7 201 yX7_readSetting ∈ zU := zm6 (i := 82) (by decide +kernel) rfl
theorem zl_X7_192 : Cond.methodLink RX7 192 yX7_takesWord ∈ zU := zm6 (i := 86) (by decide +kernel) rfl
theorem zl_X7_163 : Cond.methodLink RX7 163 yX7_peek ∈ zU := zm6 (i := 90) (by decide +kernel) rfl
theorem zl_X7_157 : Cond.methodLink RX7 157 yX7_byteAt ∈ zU := zm6 (i := 94) (by decide +kernel) rfl
theorem zl_X7_167 : Cond.methodLink RX7 167 yX7_isLetter ∈ zU := zm6 (i := 98) (by decide +kernel) rfl
theorem zl_X7_174 : Cond.methodLink RX7 174 yX7_fails ∈ zU := zm6 (i := 101) (by decide +kernel) rfl
theorem zo_X7_182 : Cond.constantLong RX7 182 (32 : Int64) ∈ zU := zm6 (i := 105) (by decide +kernel) rfl
theorem zo_X7_184 : Cond.constantLong RX7 184 (96 : Int64) ∈ zU := zm6 (i := 106) (by decide +kernel) rfl
theorem zl_X7_196 : Cond.methodLink RX7 196 yX7_readNumber ∈ zU := zm6 (i := 107) (by decide +kernel) rfl
theorem zl_X7_186 : Cond.methodLink RX7 186 yX7_isDigit ∈ zU := zm6 (i := 111) (by decide +kernel) rfl
theorem zo_X7_216 : Cond.constantLong RX7 216 (16817331 : Int64) ∈ zU := zm6 (i := 114) (by decide +kernel) rfl
theorem zl_X7_218 : Cond.methodLink RX7 218 yX7_readLogical ∈ zU := zm6 (i := 115) (by decide +kernel) rfl
theorem zo_X7_199 : Cond.constantLong RX7 199 (13395856428 : Int64) ∈ zU := zm6 (i := 119) (by decide +kernel) rfl
theorem zl_X7_75 : Cond.methodLink RX7 75 yX7_partsOf ∈ zU := zm6 (i := 120) (by decide +kernel) rfl
theorem zo_X7_222 : Cond.constantLong RX7 222 (5969497 : Int64) ∈ zU := zm6 (i := 123) (by decide +kernel) rfl
theorem zl_X7_227 : Cond.methodLink RX7 227 yX7_readSemicolon ∈ zU := zm6 (i := 124) (by decide +kernel) rfl
theorem zl_X7_242 : Cond.methodLink RX7 242 yX7_readFill ∈ zU := zm6 (i := 128) (by decide +kernel) rfl
theorem zo_X7_234 : Cond.constantLong RX7 234 (206220 : Int64) ∈ zU := zm6 (i := 132) (by decide +kernel) rfl
theorem zl_X7_236 : Cond.methodLink RX7 236 yX7_readValue ∈ zU := zm6 (i := 133) (by decide +kernel) rfl
theorem zo_X7_230 : Cond.constant RX7 230 (999999 : Int32) ∈ zU := zm6 (i := 137) (by decide +kernel) rfl
theorem zl_X7_251 : Cond.methodLink RX7 251 yX7_startAnew ∈ zU := zm6 (i := 138) (by decide +kernel) rfl
theorem zl_X7_101 : Cond.methodLink RX7 101 yX7_forgets ∈ zU := zm6 (i := 142) (by decide +kernel) rfl
theorem zl_X7_254 : Cond.methodLink RX7 254 yX7_writesOutside ∈ zU := zm6 (i := 146) (by decide +kernel) rfl
theorem zl_X7_347 : Cond.methodLink RX7 347 yX7_pagesForCommit ∈ zU := zm6 (i := 150) (by decide +kernel) rfl
theorem zl_X7_332 : Cond.methodLink RX7 332 yX7_parts ∈ zU := zm6 (i := 154) (by decide +kernel) rfl
theorem zl_X7_341 : Cond.methodLink RX7 341 yX7_hasRoom ∈ zU := zm6 (i := 158) (by decide +kernel) rfl
theorem zl_X7_325 : Cond.methodLink RX7 325 yX7_validAll ∈ zU := zm6 (i := 162) (by decide +kernel) rfl
theorem zl_X7_279 : Cond.methodLink RX7 279 yX7_validIn ∈ zU := zm6 (i := 166) (by decide +kernel) rfl
theorem zl_X7_276 : Cond.methodLink RX7 276 yX7_isGood ∈ zU := zm6 (i := 170) (by decide +kernel) rfl
theorem zl_X7_270 : Cond.methodLink RX7 270 yX7_isWanted ∈ zU := zm6 (i := 174) (by decide +kernel) rfl
theorem zl_X7_261 : Cond.methodLink RX7 261 yX7_isWantedData ∈ zU := zm6 (i := 178) (by decide +kernel) rfl
theorem zl_X7_258 : Cond.methodLink RX7 258 yX7_isReadBy ∈ zU := zm6 (i := 182) (by decide +kernel) rfl
theorem zl_X7_273 : Cond.methodLink RX7 273 yX7_isNewest ∈ zU := zm6 (i := 186) (by decide +kernel) rfl
theorem zl_X7_264 : Cond.methodLink RX7 264 yX7_flashSize ∈ zU := zm6 (i := 190) (by decide +kernel) rfl
theorem zl_X7_267 : Cond.methodLink RX7 267 yX7_isCopyOf ∈ zU := zm6 (i := 194) (by decide +kernel) rfl
theorem zl_X7_350 : Cond.methodLink RX7 350 yX7_programsData ∈ zU := zm6 (i := 198) (by decide +kernel) rfl
theorem zl_X7_328 : Cond.methodLink RX7 328 yX7_programsPage ∈ zU := zm6 (i := 202) (by decide +kernel) rfl
theorem zl_X7_285 : Cond.methodLink RX7 285 yX7_freeIn ∈ zU := zm6 (i := 206) (by decide +kernel) rfl
theorem zl_X7_282 : Cond.methodLink RX7 282 yX7_kindMany ∈ zU := zm6 (i := 210) (by decide +kernel) rfl
theorem zl_X7_322 : Cond.methodLink RX7 322 yX7_makesRoom ∈ zU := zm6 (i := 214) (by decide +kernel) rfl
theorem zl_X7_310 : Cond.methodLink RX7 310 yX7_freeBlock ∈ zU := zm6 (i := 218) (by decide +kernel) rfl
theorem zl_X7_288 : Cond.methodLink RX7 288 yX7_isFree ∈ zU := zm6 (i := 222) (by decide +kernel) rfl
theorem zl_X7_294 : Cond.methodLink RX7 294 yX7_losesPower ∈ zU := zm6 (i := 226) (by decide +kernel) rfl
theorem zl_X7_313 : Cond.methodLink RX7 313 yX7_freeMany ∈ zU := zm6 (i := 230) (by decide +kernel) rfl
theorem zl_X7_316 : Cond.methodLink RX7 316 yX7_nextVictim ∈ zU := zm6 (i := 234) (by decide +kernel) rfl
theorem zl_X7_319 : Cond.methodLink RX7 319 yX7_collects ∈ zU := zm6 (i := 238) (by decide +kernel) rfl
theorem zl_X7_304 : Cond.methodLink RX7 304 yX7_copiesPage ∈ zU := zm7 (i := 2) (by decide +kernel) rfl
theorem zl_X7_297 : Cond.methodLink RX7 297 yX7_lowestFree ∈ zU := zm7 (i := 6) (by decide +kernel) rfl
theorem zl_X7_300 : Cond.methodLink RX7 300 yX7_programsAt ∈ zU := zm7 (i := 10) (by decide +kernel) rfl
theorem zl_X7_291 : Cond.methodLink RX7 291 yX7_operates ∈ zU := zm7 (i := 14) (by decide +kernel) rfl
theorem zl_X7_307 : Cond.methodLink RX7 307 yX7_erasesBlock ∈ zU := zm7 (i := 18) (by decide +kernel) rfl
theorem zl_X7_353 : Cond.methodLink RX7 353 yX7_countsCommit ∈ zU := zm7 (i := 22) (by decide +kernel) rfl
theorem zl_X7_338 : Cond.methodLink RX7 338 yX7_makesCheckpoint ∈ zU := zm7 (i := 26) (by decide +kernel) rfl
theorem zl_X7_335 : Cond.methodLink RX7 335 yX7_programsMap ∈ zU := zm7 (i := 30) (by decide +kernel) rfl
theorem zl_L_141 : Cond.methodLink RL 141 yX7_checkpoint ∈ zU := zm7 (i := 34) (by decide +kernel) rfl
theorem zl_L_115 : Cond.methodLink RL 115 yX7_begin ∈ zU := zm7 (i := 38) (by decide +kernel) rfl
theorem zl_X7_344 : Cond.methodLink RX7 344 yX7_openMany ∈ zU := zm7 (i := 42) (by decide +kernel) rfl
theorem zl_L_119 : Cond.methodLink RL 119 yX7_write ∈ zU := zm7 (i := 46) (by decide +kernel) rfl
theorem zl_X7_356 : Cond.methodLink RX7 356 yX7_isTransaction ∈ zU := zm7 (i := 50) (by decide +kernel) rfl
theorem zl_X7_359 : Cond.methodLink RX7 359 yX7_isLogical ∈ zU := zm7 (i := 54) (by decide +kernel) rfl
theorem zl_X7_362 : Cond.methodLink RX7 362 yX7_canAct ∈ zU := zm7 (i := 58) (by decide +kernel) rfl
theorem zl_X7_365 : Cond.methodLink RX7 365 yX7_writesIn ∈ zU := zm7 (i := 62) (by decide +kernel) rfl
theorem zl_L_123 : Cond.methodLink RL 123 yX7_read ∈ zU := zm7 (i := 66) (by decide +kernel) rfl
theorem zl_X7_368 : Cond.methodLink RX7 368 yX7_valueOf ∈ zU := zm7 (i := 70) (by decide +kernel) rfl
theorem zl_L_126 : Cond.methodLink RL 126 yX7_commit ∈ zU := zm7 (i := 74) (by decide +kernel) rfl
theorem zl_X7_374 : Cond.methodLink RX7 374 yX7_locksOf ∈ zU := zm7 (i := 78) (by decide +kernel) rfl
theorem zl_X7_377 : Cond.methodLink RX7 377 yX7_commits0 ∈ zU := zm7 (i := 82) (by decide +kernel) rfl
theorem zl_X7_371 : Cond.methodLink RX7 371 yX7_unlocks ∈ zU := zm7 (i := 86) (by decide +kernel) rfl
theorem zl_L_129 : Cond.methodLink RL 129 yX7_abort ∈ zU := zm7 (i := 90) (by decide +kernel) rfl
theorem zl_L_132 : Cond.methodLink RL 132 yX7_openReader ∈ zU := zm7 (i := 94) (by decide +kernel) rfl
theorem zl_X7_380 : Cond.methodLink RX7 380 yX7_readerMany ∈ zU := zm7 (i := 98) (by decide +kernel) rfl
theorem zl_L_135 : Cond.methodLink RL 135 yX7_readBy ∈ zU := zm7 (i := 102) (by decide +kernel) rfl
theorem zl_X7_383 : Cond.methodLink RX7 383 yX7_isOpenReader ∈ zU := zm7 (i := 106) (by decide +kernel) rfl
theorem zl_L_138 : Cond.methodLink RL 138 yX7_closeReader ∈ zU := zm7 (i := 110) (by decide +kernel) rfl
theorem zl_L_146 : Cond.methodLink RL 146 yX7_isOn ∈ zU := zm7 (i := 114) (by decide +kernel) rfl
theorem zl_L_149 : Cond.methodLink RL 149 yX7_arm ∈ zU := zm7 (i := 118) (by decide +kernel) rfl
theorem zl_L_152 : Cond.methodLink RL 152 yX7_powerOff ∈ zU := zm7 (i := 122) (by decide +kernel) rfl
theorem zl_L_155 : Cond.methodLink RL 155 yX7_recover ∈ zU := zm7 (i := 126) (by decide +kernel) rfl
theorem zl_X7_404 : Cond.methodLink RX7 404 yX7_readsCheckpoint ∈ zU := zm7 (i := 130) (by decide +kernel) rfl
theorem zl_X7_386 : Cond.methodLink RX7 386 yX7_latestEnd ∈ zU := zm7 (i := 134) (by decide +kernel) rfl
theorem zl_X7_389 : Cond.methodLink RX7 389 yX7_readsMap ∈ zU := zm7 (i := 138) (by decide +kernel) rfl
theorem zl_X7_407 : Cond.methodLink RX7 407 yX7_appliesAll ∈ zU := zm7 (i := 142) (by decide +kernel) rfl
theorem zl_X7_395 : Cond.methodLink RX7 395 yX7_nextApplied ∈ zU := zm7 (i := 146) (by decide +kernel) rfl
theorem zl_X7_392 : Cond.methodLink RX7 392 yX7_isApplied ∈ zU := zm7 (i := 150) (by decide +kernel) rfl
theorem zl_X7_398 : Cond.methodLink RX7 398 yX7_appliesCommit ∈ zU := zm7 (i := 154) (by decide +kernel) rfl
theorem zl_X7_410 : Cond.methodLink RX7 410 yX7_erasesUseless ∈ zU := zm7 (i := 158) (by decide +kernel) rfl
theorem zl_X7_413 : Cond.methodLink RX7 413 yX7_findsActive ∈ zU := zm7 (i := 162) (by decide +kernel) rfl
theorem zl_X7_401 : Cond.methodLink RX7 401 yX7_isProgrammed ∈ zU := zm7 (i := 166) (by decide +kernel) rfl
theorem zl_L_159 : Cond.methodLink RL 159 yX7_logicalPages ∈ zU := zm7 (i := 170) (by decide +kernel) rfl
theorem zl_L_163 : Cond.methodLink RL 163 yX7_blocks ∈ zU := zm7 (i := 174) (by decide +kernel) rfl
theorem zl_L_167 : Cond.methodLink RL 167 yX7_pagesPerBlock ∈ zU := zm7 (i := 178) (by decide +kernel) rfl
theorem zl_L_170 : Cond.methodLink RL 170 yX7_version ∈ zU := zm7 (i := 182) (by decide +kernel) rfl
theorem zl_L_173 : Cond.methodLink RL 173 yX7_place ∈ zU := zm7 (i := 186) (by decide +kernel) rfl
theorem zl_L_176 : Cond.methodLink RL 176 yX7_lockedBy ∈ zU := zm7 (i := 190) (by decide +kernel) rfl
theorem zl_L_180 : Cond.methodLink RL 180 yX7_transactions ∈ zU := zm7 (i := 194) (by decide +kernel) rfl
theorem zl_L_183 : Cond.methodLink RL 183 yX7_state ∈ zU := zm7 (i := 198) (by decide +kernel) rfl
theorem zl_L_186 : Cond.methodLink RL 186 yX7_locks ∈ zU := zm7 (i := 202) (by decide +kernel) rfl
theorem zl_L_190 : Cond.methodLink RL 190 yX7_readers ∈ zU := zm7 (i := 206) (by decide +kernel) rfl
theorem zl_L_194 : Cond.methodLink RL 194 yX7_activeBlock ∈ zU := zm7 (i := 210) (by decide +kernel) rfl
theorem zl_L_198 : Cond.methodLink RL 198 yX7_freeBlocks ∈ zU := zm7 (i := 214) (by decide +kernel) rfl
theorem zl_L_202 : Cond.methodLink RL 202 yX7_validPages ∈ zU := zm7 (i := 218) (by decide +kernel) rfl
theorem zl_L_205 : Cond.methodLink RL 205 yX7_block ∈ zU := zm7 (i := 222) (by decide +kernel) rfl
theorem zl_X7_416 : Cond.methodLink RX7 416 yX7_isBlock ∈ zU := zm7 (i := 226) (by decide +kernel) rfl
theorem zl_L_208 : Cond.methodLink RL 208 yX7_flashPage ∈ zU := zm7 (i := 230) (by decide +kernel) rfl
theorem zl_L_211 : Cond.methodLink RL 211 yX7_isValid ∈ zU := zm7 (i := 234) (by decide +kernel) rfl
theorem zl_L_215 : Cond.methodLink RL 215 yX7_programs ∈ zU := zm7 (i := 238) (by decide +kernel) rfl
theorem zl_L_219 : Cond.methodLink RL 219 yX7_erases ∈ zU := zm8 (i := 2) (by decide +kernel) rfl
theorem zl_L_223 : Cond.methodLink RL 223 yX7_copies ∈ zU := zm8 (i := 6) (by decide +kernel) rfl
theorem zl_L_227 : Cond.methodLink RL 227 yX7_writes ∈ zU := zm8 (i := 10) (by decide +kernel) rfl
theorem zl_L_231 : Cond.methodLink RL 231 yX7_wearGap ∈ zU := zm8 (i := 14) (by decide +kernel) rfl
theorem zl_L_235 : Cond.methodLink RL 235 yX7_lastCheckpoint ∈ zU := zm8 (i := 18) (by decide +kernel) rfl
theorem zl_L_239 : Cond.methodLink RL 239 yX7_commits ∈ zU := zm8 (i := 22) (by decide +kernel) rfl
theorem zl_L_243 : Cond.methodLink RL 243 yX7_losses ∈ zU := zm8 (i := 26) (by decide +kernel) rfl
theorem zl_L_247 : Cond.methodLink RL 247 yX7_victim ∈ zU := zm8 (i := 30) (by decide +kernel) rfl
theorem zc_X0_isFormatted : zCal RX0 yX0_isFormatted cX0_isFormatted 1 (Option.some .boolean) := ⟨zm4 (i := 219) (by decide +kernel) rfl, zm4 (i := 220) (by decide +kernel) rfl, zm1 (i := 3) (by decide +kernel) rfl, zm4 (i := 221) (by decide +kernel) rfl, ⟨rfl, by decide +kernel, by decide +kernel⟩, by decide +kernel⟩
theorem zc_X0_beginAnew : zCal RX0 yX0_beginAnew cX0_beginAnew 5 none := ⟨zm3 (i := 170) (by decide +kernel) rfl, zm3 (i := 171) (by decide +kernel) rfl, zm1 (i := 3) (by decide +kernel) rfl, zm3 (i := 172) (by decide +kernel) rfl, ⟨rfl, by decide +kernel, by decide +kernel⟩, by decide +kernel⟩
theorem zc_X0_losePower : zCal RX0 yX0_losePower cX0_losePower 1 none := ⟨zm3 (i := 223) (by decide +kernel) rfl, zm3 (i := 224) (by decide +kernel) rfl, zm1 (i := 3) (by decide +kernel) rfl, zm3 (i := 225) (by decide +kernel) rfl, ⟨rfl, by decide +kernel, by decide +kernel⟩, by decide +kernel⟩
theorem zc_X0_isLive : zCal RX0 yX0_isLive cX0_isLive 2 (Option.some .boolean) := ⟨zm2 (i := 116) (by decide +kernel) rfl, zm2 (i := 117) (by decide +kernel) rfl, zm1 (i := 3) (by decide +kernel) rfl, zm2 (i := 118) (by decide +kernel) rfl, ⟨rfl, by decide +kernel, by decide +kernel⟩, by decide +kernel⟩
theorem zc_X0_countLiveIn : zCal RX0 yX0_countLiveIn cX0_countLiveIn 4 (Option.some .int) := ⟨zm5 (i := 93) (by decide +kernel) rfl, zm5 (i := 94) (by decide +kernel) rfl, zm1 (i := 3) (by decide +kernel) rfl, zm5 (i := 95) (by decide +kernel) rfl, ⟨rfl, by decide +kernel, by decide +kernel⟩, by decide +kernel⟩
theorem zc_X0_countLive : zCal RX0 yX0_countLive cX0_countLive 4 (Option.some .int) := ⟨zm2 (i := 112) (by decide +kernel) rfl, zm2 (i := 113) (by decide +kernel) rfl, zm1 (i := 3) (by decide +kernel) rfl, zm2 (i := 114) (by decide +kernel) rfl, ⟨rfl, by decide +kernel, by decide +kernel⟩, by decide +kernel⟩
theorem zc_X0_hasRoomFor : zCal RX0 yX0_hasRoomFor cX0_hasRoomFor 2 (Option.some .boolean) := ⟨zm4 (i := 85) (by decide +kernel) rfl, zm4 (i := 86) (by decide +kernel) rfl, zm1 (i := 3) (by decide +kernel) rfl, zm4 (i := 87) (by decide +kernel) rfl, ⟨rfl, by decide +kernel, by decide +kernel⟩, by decide +kernel⟩
theorem zc_X0_pagesOfNextCommit : zCal RX0 yX0_pagesOfNextCommit cX0_pagesOfNextCommit 1 (Option.some .int) := ⟨zm4 (i := 81) (by decide +kernel) rfl, zm4 (i := 82) (by decide +kernel) rfl, zm1 (i := 3) (by decide +kernel) rfl, zm4 (i := 83) (by decide +kernel) rfl, ⟨rfl, by decide +kernel, by decide +kernel⟩, by decide +kernel⟩
theorem zc_X0_valueOf : zCal RX0 yX0_valueOf cX0_valueOf 4 (Option.some .int) := ⟨zm4 (i := 108) (by decide +kernel) rfl, zm4 (i := 109) (by decide +kernel) rfl, zm1 (i := 3) (by decide +kernel) rfl, zm4 (i := 110) (by decide +kernel) rfl, ⟨rfl, by decide +kernel, by decide +kernel⟩, by decide +kernel⟩
theorem zc_X0_program : zCal RX0 yX0_program cX0_program 6 (Option.some .int) := ⟨zm3 (i := 194) (by decide +kernel) rfl, zm3 (i := 195) (by decide +kernel) rfl, zm1 (i := 3) (by decide +kernel) rfl, zm3 (i := 196) (by decide +kernel) rfl, ⟨rfl, by decide +kernel, by decide +kernel⟩, by decide +kernel⟩
theorem zc_X0_makeRoom : zCal RX0 yX0_makeRoom cX0_makeRoom 3 (Option.some .boolean) := ⟨zm3 (i := 199) (by decide +kernel) rfl, zm0 (i := 14) (q := (yX0_makeRoom, 15)) (by decide +kernel) rfl, zm1 (i := 3) (by decide +kernel) rfl, zm3 (i := 200) (by decide +kernel) rfl, ⟨rfl, by decide +kernel, by decide +kernel⟩, by decide +kernel⟩
theorem zc_X0_chooseVictim : zCal RX0 yX0_chooseVictim cX0_chooseVictim 6 (Option.some .int) := ⟨zm2 (i := 185) (by decide +kernel) rfl, zm0 (i := 0) (q := (yX0_chooseVictim, 15)) (by decide +kernel) rfl, zm1 (i := 3) (by decide +kernel) rfl, zm2 (i := 186) (by decide +kernel) rfl, ⟨rfl, by decide +kernel, by decide +kernel⟩, by decide +kernel⟩
theorem zc_X0_isBetterVictim : zCal RX0 yX0_isBetterVictim cX0_isBetterVictim 3 (Option.some .boolean) := ⟨zm2 (i := 197) (by decide +kernel) rfl, zm0 (i := 1) (q := (yX0_isBetterVictim, 15)) (by decide +kernel) rfl, zm1 (i := 3) (by decide +kernel) rfl, zm2 (i := 198) (by decide +kernel) rfl, ⟨rfl, by decide +kernel, by decide +kernel⟩, by decide +kernel⟩
theorem zc_X0_collect : zCal RX0 yX0_collect cX0_collect 5 (Option.some .boolean) := ⟨zm3 (i := 203) (by decide +kernel) rfl, zm0 (i := 15) (q := (yX0_collect, 15)) (by decide +kernel) rfl, zm1 (i := 3) (by decide +kernel) rfl, zm3 (i := 204) (by decide +kernel) rfl, ⟨rfl, by decide +kernel, by decide +kernel⟩, by decide +kernel⟩
theorem zc_X0_nextVictim : zCal RX0 yX0_nextVictim cX0_nextVictim 2 (Option.some .int) := ⟨zm2 (i := 174) (by decide +kernel) rfl, zm2 (i := 175) (by decide +kernel) rfl, zm1 (i := 3) (by decide +kernel) rfl, zm2 (i := 176) (by decide +kernel) rfl, ⟨rfl, by decide +kernel, by decide +kernel⟩, by decide +kernel⟩
theorem zc_X0_writeInside : zCal RX0 yX0_writeInside cX0_writeInside 5 (Option.some .int) := ⟨zm4 (i := 90) (by decide +kernel) rfl, zm4 (i := 91) (by decide +kernel) rfl, zm1 (i := 3) (by decide +kernel) rfl, zm4 (i := 92) (by decide +kernel) rfl, ⟨rfl, by decide +kernel, by decide +kernel⟩, by decide +kernel⟩
theorem zc_X0_writeOutside : zCal RX0 yX0_writeOutside cX0_writeOutside 5 (Option.some .int) := ⟨zm3 (i := 190) (by decide +kernel) rfl, zm3 (i := 191) (by decide +kernel) rfl, zm1 (i := 3) (by decide +kernel) rfl, zm3 (i := 192) (by decide +kernel) rfl, ⟨rfl, by decide +kernel, by decide +kernel⟩, by decide +kernel⟩
theorem zc_X0_commitTransaction : zCal RX0 yX0_commitTransaction cX0_commitTransaction 3 (Option.some .boolean) := ⟨zm4 (i := 129) (by decide +kernel) rfl, zm4 (i := 130) (by decide +kernel) rfl, zm1 (i := 3) (by decide +kernel) rfl, zm4 (i := 131) (by decide +kernel) rfl, ⟨rfl, by decide +kernel, by decide +kernel⟩, by decide +kernel⟩
theorem zc_X0_makeCheckpoint : zCal RX0 yX0_makeCheckpoint cX0_makeCheckpoint 3 (Option.some .boolean) := ⟨zm3 (i := 236) (by decide +kernel) rfl, zm3 (i := 237) (by decide +kernel) rfl, zm1 (i := 3) (by decide +kernel) rfl, zm3 (i := 238) (by decide +kernel) rfl, ⟨rfl, by decide +kernel, by decide +kernel⟩, by decide +kernel⟩
theorem zc_X0_fillMapPage : zCal RX0 yX0_fillMapPage cX0_fillMapPage 4 none := ⟨zm4 (i := 1) (by decide +kernel) rfl, zm0 (i := 17) (q := (yX0_fillMapPage, 15)) (by decide +kernel) rfl, zm1 (i := 3) (by decide +kernel) rfl, zm4 (i := 2) (by decide +kernel) rfl, ⟨rfl, by decide +kernel, by decide +kernel⟩, by decide +kernel⟩
theorem zc_X0_restore : zCal RX0 yX0_restore cX0_restore 3 (Option.some .boolean) := ⟨zm4 (i := 239) (by decide +kernel) rfl, zm5 (i := 0) (by decide +kernel) rfl, zm1 (i := 3) (by decide +kernel) rfl, zm5 (i := 1) (by decide +kernel) rfl, ⟨rfl, by decide +kernel, by decide +kernel⟩, by decide +kernel⟩
theorem zc_X0_readMap : zCal RX0 yX0_readMap cX0_readMap 3 none := ⟨zm5 (i := 8) (by decide +kernel) rfl, zm0 (i := 20) (q := (yX0_readMap, 15)) (by decide +kernel) rfl, zm1 (i := 3) (by decide +kernel) rfl, zm5 (i := 9) (by decide +kernel) rfl, ⟨rfl, by decide +kernel, by decide +kernel⟩, by decide +kernel⟩
theorem zc_X0_eraseDeadBlocks : zCal RX0 yX0_eraseDeadBlocks cX0_eraseDeadBlocks 2 (Option.some .boolean) := ⟨zm5 (i := 34) (by decide +kernel) rfl, zm0 (i := 24) (q := (yX0_eraseDeadBlocks, 15)) (by decide +kernel) rfl, zm1 (i := 3) (by decide +kernel) rfl, zm5 (i := 35) (by decide +kernel) rfl, ⟨rfl, by decide +kernel, by decide +kernel⟩, by decide +kernel⟩
theorem zc_X1_clearAll : zCal RX1 yX1_clearAll cX1_clearAll 4 none := ⟨zm3 (i := 174) (by decide +kernel) rfl, zm3 (i := 175) (by decide +kernel) rfl, zm1 (i := 4) (by decide +kernel) rfl, zm3 (i := 176) (by decide +kernel) rfl, ⟨rfl, by decide +kernel, by decide +kernel⟩, by decide +kernel⟩
theorem zc_X1_clearPage : zCal RX1 yX1_clearPage cX1_clearPage 3 none := ⟨zm3 (i := 179) (by decide +kernel) rfl, zm0 (i := 13) (q := (yX1_clearPage, 18)) (by decide +kernel) rfl, zm1 (i := 4) (by decide +kernel) rfl, zm3 (i := 180) (by decide +kernel) rfl, ⟨rfl, by decide +kernel, by decide +kernel⟩, by decide +kernel⟩
theorem zc_X1_hasBlock : zCal RX1 yX1_hasBlock cX1_hasBlock 2 (Option.some .boolean) := ⟨zm2 (i := 192) (by decide +kernel) rfl, zm2 (i := 193) (by decide +kernel) rfl, zm1 (i := 4) (by decide +kernel) rfl, zm2 (i := 194) (by decide +kernel) rfl, ⟨rfl, by decide +kernel, by decide +kernel⟩, by decide +kernel⟩
theorem zc_X1_hasPlace : zCal RX1 yX1_hasPlace cX1_hasPlace 2 (Option.some .boolean) := ⟨zm2 (i := 120) (by decide +kernel) rfl, zm2 (i := 121) (by decide +kernel) rfl, zm1 (i := 4) (by decide +kernel) rfl, zm2 (i := 122) (by decide +kernel) rfl, ⟨rfl, by decide +kernel, by decide +kernel⟩, by decide +kernel⟩
theorem zc_X1_losesPower : zCal RX1 yX1_losesPower cX1_losesPower 1 (Option.some .boolean) := ⟨zm3 (i := 211) (by decide +kernel) rfl, zm0 (i := 16) (q := (yX1_losesPower, 18)) (by decide +kernel) rfl, zm1 (i := 4) (by decide +kernel) rfl, zm3 (i := 212) (by decide +kernel) rfl, ⟨rfl, by decide +kernel, by decide +kernel⟩, by decide +kernel⟩
theorem zc_X1_countFreePages : zCal RX1 yX1_countFreePages cX1_countFreePages 2 (Option.some .int) := ⟨zm2 (i := 188) (by decide +kernel) rfl, zm2 (i := 189) (by decide +kernel) rfl, zm1 (i := 4) (by decide +kernel) rfl, zm2 (i := 190) (by decide +kernel) rfl, ⟨rfl, by decide +kernel, by decide +kernel⟩, by decide +kernel⟩
theorem zc_X1_program : zCal RX1 yX1_program cX1_program 7 (Option.some .int) := ⟨zm3 (i := 206) (by decide +kernel) rfl, zm3 (i := 207) (by decide +kernel) rfl, zm1 (i := 4) (by decide +kernel) rfl, zm3 (i := 208) (by decide +kernel) rfl, ⟨rfl, by decide +kernel, by decide +kernel⟩, by decide +kernel⟩
theorem zc_X1_makeCopy : zCal RX1 yX1_makeCopy cX1_makeCopy 4 none := ⟨zm3 (i := 214) (by decide +kernel) rfl, zm3 (i := 215) (by decide +kernel) rfl, zm1 (i := 4) (by decide +kernel) rfl, zm3 (i := 216) (by decide +kernel) rfl, ⟨rfl, by decide +kernel, by decide +kernel⟩, by decide +kernel⟩
theorem zc_X1_erase : zCal RX1 yX1_erase cX1_erase 4 (Option.some .boolean) := ⟨zm3 (i := 219) (by decide +kernel) rfl, zm3 (i := 220) (by decide +kernel) rfl, zm1 (i := 4) (by decide +kernel) rfl, zm3 (i := 221) (by decide +kernel) rfl, ⟨rfl, by decide +kernel, by decide +kernel⟩, by decide +kernel⟩
theorem zc_X1_countFreeBlocks : zCal RX1 yX1_countFreeBlocks cX1_countFreeBlocks 4 (Option.some .int) := ⟨zm2 (i := 104) (by decide +kernel) rfl, zm2 (i := 105) (by decide +kernel) rfl, zm1 (i := 4) (by decide +kernel) rfl, zm2 (i := 106) (by decide +kernel) rfl, ⟨rfl, by decide +kernel, by decide +kernel⟩, by decide +kernel⟩
theorem zc_X1_leastWornFreeBlock : zCal RX1 yX1_leastWornFreeBlock cX1_leastWornFreeBlock 4 (Option.some .int) := ⟨zm2 (i := 178) (by decide +kernel) rfl, zm2 (i := 179) (by decide +kernel) rfl, zm1 (i := 4) (by decide +kernel) rfl, zm2 (i := 180) (by decide +kernel) rfl, ⟨rfl, by decide +kernel, by decide +kernel⟩, by decide +kernel⟩
theorem zc_X1_countTornIn : zCal RX1 yX1_countTornIn cX1_countTornIn 4 (Option.some .int) := ⟨zm5 (i := 97) (by decide +kernel) rfl, zm5 (i := 98) (by decide +kernel) rfl, zm1 (i := 4) (by decide +kernel) rfl, zm5 (i := 99) (by decide +kernel) rfl, ⟨rfl, by decide +kernel, by decide +kernel⟩, by decide +kernel⟩
theorem zc_X1_wearDifference : zCal RX1 yX1_wearDifference cX1_wearDifference 4 (Option.some .int) := ⟨zm2 (i := 148) (by decide +kernel) rfl, zm2 (i := 149) (by decide +kernel) rfl, zm1 (i := 4) (by decide +kernel) rfl, zm2 (i := 150) (by decide +kernel) rfl, ⟨rfl, by decide +kernel, by decide +kernel⟩, by decide +kernel⟩
theorem zc_X1_findData : zCal RX1 yX1_findData cX1_findData 4 (Option.some .int) := ⟨zm4 (i := 112) (by decide +kernel) rfl, zm4 (i := 113) (by decide +kernel) rfl, zm1 (i := 4) (by decide +kernel) rfl, zm4 (i := 114) (by decide +kernel) rfl, ⟨rfl, by decide +kernel, by decide +kernel⟩, by decide +kernel⟩
theorem zc_X1_findLatestEnd : zCal RX1 yX1_findLatestEnd cX1_findLatestEnd 3 (Option.some .int) := ⟨zm5 (i := 3) (by decide +kernel) rfl, zm5 (i := 4) (by decide +kernel) rfl, zm1 (i := 4) (by decide +kernel) rfl, zm5 (i := 5) (by decide +kernel) rfl, ⟨rfl, by decide +kernel, by decide +kernel⟩, by decide +kernel⟩
theorem zc_X1_findNewestBlock : zCal RX1 yX1_findNewestBlock cX1_findNewestBlock 6 (Option.some .int) := ⟨zm5 (i := 37) (by decide +kernel) rfl, zm5 (i := 38) (by decide +kernel) rfl, zm1 (i := 4) (by decide +kernel) rfl, zm5 (i := 39) (by decide +kernel) rfl, ⟨rfl, by decide +kernel, by decide +kernel⟩, by decide +kernel⟩
theorem zc_X2_append : zCal RX2 yX2_append cX2_append 3 none := ⟨zm3 (i := 36) (by decide +kernel) rfl, zm3 (i := 37) (by decide +kernel) rfl, zm1 (i := 2) (by decide +kernel) rfl, zm3 (i := 38) (by decide +kernel) rfl, ⟨rfl, by decide +kernel, by decide +kernel⟩, by decide +kernel⟩
theorem zc_X2_parse : zCal RX2 yX2_parse cX2_parse 7 none := ⟨zm3 (i := 64) (by decide +kernel) rfl, zm3 (i := 65) (by decide +kernel) rfl, zm1 (i := 2) (by decide +kernel) rfl, zm3 (i := 66) (by decide +kernel) rfl, ⟨rfl, by decide +kernel, by decide +kernel⟩, by decide +kernel⟩
theorem zc_X2_setError : zCal RX2 yX2_setError cX2_setError 3 none := ⟨zm3 (i := 162) (by decide +kernel) rfl, zm0 (i := 11) (q := (yX2_setError, 11)) (by decide +kernel) rfl, zm1 (i := 2) (by decide +kernel) rfl, zm3 (i := 163) (by decide +kernel) rfl, ⟨rfl, by decide +kernel, by decide +kernel⟩, by decide +kernel⟩
theorem zc_X2_isLetter : zSta RX2 yX2_isLetter cX2_isLetter 1 (Option.some .boolean) := ⟨zm3 (i := 68) (by decide +kernel) rfl, zm1 (i := 2) (by decide +kernel) rfl, zm3 (i := 69) (by decide +kernel) rfl, ⟨rfl, by decide +kernel, by decide +kernel⟩, by decide +kernel⟩
theorem zc_X2_isDigit : zSta RX2 yX2_isDigit cX2_isDigit 1 (Option.some .boolean) := ⟨zm3 (i := 71) (by decide +kernel) rfl, zm1 (i := 2) (by decide +kernel) rfl, zm3 (i := 72) (by decide +kernel) rfl, ⟨rfl, by decide +kernel, by decide +kernel⟩, by decide +kernel⟩
theorem zc_X2_endOfRun : zCal RX2 yX2_endOfRun cX2_endOfRun 5 (Option.some .int) := ⟨zm3 (i := 75) (by decide +kernel) rfl, zm0 (i := 3) (q := (yX2_endOfRun, 11)) (by decide +kernel) rfl, zm1 (i := 2) (by decide +kernel) rfl, zm3 (i := 76) (by decide +kernel) rfl, ⟨rfl, by decide +kernel, by decide +kernel⟩, by decide +kernel⟩
theorem zc_X2_takeRun : zCal RX2 yX2_takeRun cX2_takeRun 4 (Option.some .int) := ⟨zm3 (i := 80) (by decide +kernel) rfl, zm0 (i := 4) (q := (yX2_takeRun, 11)) (by decide +kernel) rfl, zm1 (i := 2) (by decide +kernel) rfl, zm3 (i := 81) (by decide +kernel) rfl, ⟨rfl, by decide +kernel, by decide +kernel⟩, by decide +kernel⟩
theorem zc_X2_takeSemicolon : zCal RX2 yX2_takeSemicolon cX2_takeSemicolon 1 (Option.some .int) := ⟨zm3 (i := 166) (by decide +kernel) rfl, zm0 (i := 12) (q := (yX2_takeSemicolon, 11)) (by decide +kernel) rfl, zm1 (i := 2) (by decide +kernel) rfl, zm3 (i := 167) (by decide +kernel) rfl, ⟨rfl, by decide +kernel, by decide +kernel⟩, by decide +kernel⟩
theorem zc_X2_takeWord : zCal RX2 yX2_takeWord cX2_takeWord 5 (Option.some .int) := ⟨zm3 (i := 84) (by decide +kernel) rfl, zm0 (i := 5) (q := (yX2_takeWord, 11)) (by decide +kernel) rfl, zm1 (i := 2) (by decide +kernel) rfl, zm3 (i := 85) (by decide +kernel) rfl, ⟨rfl, by decide +kernel, by decide +kernel⟩, by decide +kernel⟩
theorem zc_X2_wordDue : zCal RX2 yX2_wordDue cX2_wordDue 1 (Option.some (.object "java/lang/String")) := ⟨zm3 (i := 88) (by decide +kernel) rfl, zm0 (i := 6) (q := (yX2_wordDue, 11)) (by decide +kernel) rfl, zm1 (i := 2) (by decide +kernel) rfl, zm3 (i := 89) (by decide +kernel) rfl, ⟨rfl, by decide +kernel, by decide +kernel⟩, by decide +kernel⟩
theorem zc_X2_takeNumber : zCal RX2 yX2_takeNumber cX2_takeNumber 5 (Option.some .int) := ⟨zm3 (i := 146) (by decide +kernel) rfl, zm0 (i := 7) (q := (yX2_takeNumber, 11)) (by decide +kernel) rfl, zm1 (i := 2) (by decide +kernel) rfl, zm3 (i := 147) (by decide +kernel) rfl, ⟨rfl, by decide +kernel, by decide +kernel⟩, by decide +kernel⟩
theorem zc_X2_stepOnIf : zCal RX2 yX2_stepOnIf cX2_stepOnIf 2 (Option.some .int) := ⟨zm3 (i := 150) (by decide +kernel) rfl, zm0 (i := 8) (q := (yX2_stepOnIf, 11)) (by decide +kernel) rfl, zm1 (i := 2) (by decide +kernel) rfl, zm3 (i := 151) (by decide +kernel) rfl, ⟨rfl, by decide +kernel, by decide +kernel⟩, by decide +kernel⟩
theorem zc_X2_hasSpaceFor : zCal RX2 yX2_hasSpaceFor cX2_hasSpaceFor 3 (Option.some .boolean) := ⟨zm3 (i := 154) (by decide +kernel) rfl, zm0 (i := 9) (q := (yX2_hasSpaceFor, 11)) (by decide +kernel) rfl, zm1 (i := 2) (by decide +kernel) rfl, zm3 (i := 155) (by decide +kernel) rfl, ⟨rfl, by decide +kernel, by decide +kernel⟩, by decide +kernel⟩
theorem zc_X2_takeValue : zCal RX2 yX2_takeValue cX2_takeValue 2 (Option.some .int) := ⟨zm3 (i := 158) (by decide +kernel) rfl, zm0 (i := 10) (q := (yX2_takeValue, 11)) (by decide +kernel) rfl, zm1 (i := 2) (by decide +kernel) rfl, zm3 (i := 159) (by decide +kernel) rfl, ⟨rfl, by decide +kernel, by decide +kernel⟩, by decide +kernel⟩
theorem zc_X3_knows : zCal RX3 yX3_knows cX3_knows 2 (Option.some .boolean) := ⟨zm4 (i := 36) (by decide +kernel) rfl, zm4 (i := 37) (by decide +kernel) rfl, zm1 (i := 5) (by decide +kernel) rfl, zm4 (i := 38) (by decide +kernel) rfl, ⟨rfl, by decide +kernel, by decide +kernel⟩, by decide +kernel⟩
theorem zc_X3_stateOf : zCal RX3 yX3_stateOf cX3_stateOf 2 (Option.some .int) := ⟨zm4 (i := 67) (by decide +kernel) rfl, zm4 (i := 68) (by decide +kernel) rfl, zm1 (i := 5) (by decide +kernel) rfl, zm4 (i := 69) (by decide +kernel) rfl, ⟨rfl, by decide +kernel, by decide +kernel⟩, by decide +kernel⟩
theorem zc_X3_isOpen : zCal RX3 yX3_isOpen cX3_isOpen 2 (Option.some .boolean) := ⟨zm4 (i := 63) (by decide +kernel) rfl, zm4 (i := 64) (by decide +kernel) rfl, zm1 (i := 5) (by decide +kernel) rfl, zm4 (i := 65) (by decide +kernel) rfl, ⟨rfl, by decide +kernel, by decide +kernel⟩, by decide +kernel⟩
theorem zc_X3_countOpen : zCal RX3 yX3_countOpen cX3_countOpen 3 (Option.some .int) := ⟨zm4 (i := 15) (by decide +kernel) rfl, zm4 (i := 16) (by decide +kernel) rfl, zm1 (i := 5) (by decide +kernel) rfl, zm4 (i := 17) (by decide +kernel) rfl, ⟨rfl, by decide +kernel, by decide +kernel⟩, by decide +kernel⟩
theorem zc_X3_open : zCal RX3 yX3_open cX3_open 1 (Option.some .int) := ⟨zm4 (i := 20) (by decide +kernel) rfl, zm4 (i := 21) (by decide +kernel) rfl, zm1 (i := 5) (by decide +kernel) rfl, zm4 (i := 22) (by decide +kernel) rfl, ⟨rfl, by decide +kernel, by decide +kernel⟩, by decide +kernel⟩
theorem zc_X3_close : zCal RX3 yX3_close cX3_close 3 none := ⟨zm4 (i := 133) (by decide +kernel) rfl, zm4 (i := 134) (by decide +kernel) rfl, zm1 (i := 5) (by decide +kernel) rfl, zm4 (i := 135) (by decide +kernel) rfl, ⟨rfl, by decide +kernel, by decide +kernel⟩, by decide +kernel⟩
theorem zc_X3_loseOpen : zCal RX3 yX3_loseOpen cX3_loseOpen 2 none := ⟨zm5 (i := 29) (by decide +kernel) rfl, zm5 (i := 30) (by decide +kernel) rfl, zm1 (i := 5) (by decide +kernel) rfl, zm5 (i := 31) (by decide +kernel) rfl, ⟨rfl, by decide +kernel, by decide +kernel⟩, by decide +kernel⟩
theorem zc_X4_clearAll : zCal RX4 yX4_clearAll cX4_clearAll 2 none := ⟨zm3 (i := 182) (by decide +kernel) rfl, zm3 (i := 183) (by decide +kernel) rfl, zm1 (i := 6) (by decide +kernel) rfl, zm3 (i := 184) (by decide +kernel) rfl, ⟨rfl, by decide +kernel, by decide +kernel⟩, by decide +kernel⟩
theorem zc_X4_forget : zCal RX4 yX4_forget cX4_forget 2 none := ⟨zm3 (i := 186) (by decide +kernel) rfl, zm3 (i := 187) (by decide +kernel) rfl, zm1 (i := 6) (by decide +kernel) rfl, zm3 (i := 188) (by decide +kernel) rfl, ⟨rfl, by decide +kernel, by decide +kernel⟩, by decide +kernel⟩
theorem zc_X4_has : zCal RX4 yX4_has cX4_has 2 (Option.some .boolean) := ⟨zm3 (i := 232) (by decide +kernel) rfl, zm3 (i := 233) (by decide +kernel) rfl, zm1 (i := 6) (by decide +kernel) rfl, zm3 (i := 234) (by decide +kernel) rfl, ⟨rfl, by decide +kernel, by decide +kernel⟩, by decide +kernel⟩
theorem zc_X4_versionSeenBy : zCal RX4 yX4_versionSeenBy cX4_versionSeenBy 3 (Option.some .int) := ⟨zm4 (i := 4) (by decide +kernel) rfl, zm4 (i := 5) (by decide +kernel) rfl, zm1 (i := 6) (by decide +kernel) rfl, zm4 (i := 6) (by decide +kernel) rfl, ⟨rfl, by decide +kernel, by decide +kernel⟩, by decide +kernel⟩
theorem zc_X4_setCommitted : zCal RX4 yX4_setCommitted cX4_setCommitted 3 none := ⟨zm3 (i := 228) (by decide +kernel) rfl, zm3 (i := 229) (by decide +kernel) rfl, zm1 (i := 6) (by decide +kernel) rfl, zm3 (i := 230) (by decide +kernel) rfl, ⟨rfl, by decide +kernel, by decide +kernel⟩, by decide +kernel⟩
theorem zc_X4_countWritten : zCal RX4 yX4_countWritten cX4_countWritten 3 (Option.some .int) := ⟨zm5 (i := 41) (by decide +kernel) rfl, zm5 (i := 42) (by decide +kernel) rfl, zm1 (i := 6) (by decide +kernel) rfl, zm5 (i := 43) (by decide +kernel) rfl, ⟨rfl, by decide +kernel, by decide +kernel⟩, by decide +kernel⟩
theorem zc_X4_ownerOf : zCal RX4 yX4_ownerOf cX4_ownerOf 2 (Option.some .int) := ⟨zm4 (i := 76) (by decide +kernel) rfl, zm4 (i := 77) (by decide +kernel) rfl, zm1 (i := 6) (by decide +kernel) rfl, zm4 (i := 78) (by decide +kernel) rfl, ⟨rfl, by decide +kernel, by decide +kernel⟩, by decide +kernel⟩
theorem zc_X4_isLockedAgainst : zCal RX4 yX4_isLockedAgainst cX4_isLockedAgainst 4 (Option.some .boolean) := ⟨zm4 (i := 72) (by decide +kernel) rfl, zm4 (i := 73) (by decide +kernel) rfl, zm1 (i := 6) (by decide +kernel) rfl, zm4 (i := 74) (by decide +kernel) rfl, ⟨rfl, by decide +kernel, by decide +kernel⟩, by decide +kernel⟩
theorem zc_X4_putInShadow : zCal RX4 yX4_putInShadow cX4_putInShadow 4 none := ⟨zm4 (i := 94) (by decide +kernel) rfl, zm4 (i := 95) (by decide +kernel) rfl, zm1 (i := 6) (by decide +kernel) rfl, zm4 (i := 96) (by decide +kernel) rfl, ⟨rfl, by decide +kernel, by decide +kernel⟩, by decide +kernel⟩
theorem zc_X4_countLocked : zCal RX4 yX4_countLocked cX4_countLocked 4 (Option.some .int) := ⟨zm4 (i := 125) (by decide +kernel) rfl, zm4 (i := 126) (by decide +kernel) rfl, zm1 (i := 6) (by decide +kernel) rfl, zm4 (i := 127) (by decide +kernel) rfl, ⟨rfl, by decide +kernel, by decide +kernel⟩, by decide +kernel⟩
theorem zc_X4_release : zCal RX4 yX4_release cX4_release 3 none := ⟨zm4 (i := 141) (by decide +kernel) rfl, zm4 (i := 142) (by decide +kernel) rfl, zm1 (i := 6) (by decide +kernel) rfl, zm4 (i := 143) (by decide +kernel) rfl, ⟨rfl, by decide +kernel, by decide +kernel⟩, by decide +kernel⟩
theorem zc_X4_commitShadows : zCal RX4 yX4_commitShadows cX4_commitShadows 3 none := ⟨zm4 (i := 137) (by decide +kernel) rfl, zm4 (i := 138) (by decide +kernel) rfl, zm1 (i := 6) (by decide +kernel) rfl, zm4 (i := 139) (by decide +kernel) rfl, ⟨rfl, by decide +kernel, by decide +kernel⟩, by decide +kernel⟩
theorem zc_X4_hasReader : zCal RX4 yX4_hasReader cX4_hasReader 2 (Option.some .boolean) := ⟨zm4 (i := 166) (by decide +kernel) rfl, zm4 (i := 167) (by decide +kernel) rfl, zm1 (i := 6) (by decide +kernel) rfl, zm4 (i := 168) (by decide +kernel) rfl, ⟨rfl, by decide +kernel, by decide +kernel⟩, by decide +kernel⟩
theorem zc_X4_addReader : zCal RX4 yX4_addReader cX4_addReader 3 (Option.some .int) := ⟨zm4 (i := 162) (by decide +kernel) rfl, zm4 (i := 163) (by decide +kernel) rfl, zm1 (i := 6) (by decide +kernel) rfl, zm4 (i := 164) (by decide +kernel) rfl, ⟨rfl, by decide +kernel, by decide +kernel⟩, by decide +kernel⟩
theorem zc_X4_removeReader : zCal RX4 yX4_removeReader cX4_removeReader 2 (Option.some .int) := ⟨zm4 (i := 192) (by decide +kernel) rfl, zm4 (i := 193) (by decide +kernel) rfl, zm1 (i := 6) (by decide +kernel) rfl, zm4 (i := 194) (by decide +kernel) rfl, ⟨rfl, by decide +kernel, by decide +kernel⟩, by decide +kernel⟩
theorem zc_X4_versionKeptBy : zCal RX4 yX4_versionKeptBy cX4_versionKeptBy 3 (Option.some .int) := ⟨zm4 (i := 180) (by decide +kernel) rfl, zm4 (i := 181) (by decide +kernel) rfl, zm1 (i := 6) (by decide +kernel) rfl, zm4 (i := 182) (by decide +kernel) rfl, ⟨rfl, by decide +kernel, by decide +kernel⟩, by decide +kernel⟩
theorem zc_X4_keeps : zCal RX4 yX4_keeps cX4_keeps 4 (Option.some .boolean) := ⟨zm2 (i := 124) (by decide +kernel) rfl, zm2 (i := 125) (by decide +kernel) rfl, zm1 (i := 6) (by decide +kernel) rfl, zm2 (i := 126) (by decide +kernel) rfl, ⟨rfl, by decide +kernel, by decide +kernel⟩, by decide +kernel⟩
theorem zc_X5_apply : zCal RX5 yX5_apply cX5_apply 9 (Option.some .int) := ⟨zm5 (i := 11) (by decide +kernel) rfl, zm5 (i := 12) (by decide +kernel) rfl, zm1 (i := 7) (by decide +kernel) rfl, zm5 (i := 13) (by decide +kernel) rfl, ⟨rfl, by decide +kernel, by decide +kernel⟩, by decide +kernel⟩
theorem zc_X5_gather : zCal RX5 yX5_gather cX5_gather 6 none := ⟨zm5 (i := 16) (by decide +kernel) rfl, zm0 (i := 21) (q := (yX5_gather, 3)) (by decide +kernel) rfl, zm1 (i := 7) (by decide +kernel) rfl, zm5 (i := 17) (by decide +kernel) rfl, ⟨rfl, by decide +kernel, by decide +kernel⟩, by decide +kernel⟩
theorem zc_X5_sortByVersion : zCal RX5 yX5_sortByVersion cX5_sortByVersion 6 none := ⟨zm5 (i := 20) (by decide +kernel) rfl, zm0 (i := 22) (q := (yX5_sortByVersion, 3)) (by decide +kernel) rfl, zm1 (i := 7) (by decide +kernel) rfl, zm5 (i := 21) (by decide +kernel) rfl, ⟨rfl, by decide +kernel, by decide +kernel⟩, by decide +kernel⟩
theorem zc_X5_applyCommit : zCal RX5 yX5_applyCommit cX5_applyCommit 6 none := ⟨zm5 (i := 25) (by decide +kernel) rfl, zm0 (i := 23) (q := (yX5_applyCommit, 3)) (by decide +kernel) rfl, zm1 (i := 7) (by decide +kernel) rfl, zm5 (i := 26) (by decide +kernel) rfl, ⟨rfl, by decide +kernel, by decide +kernel⟩, by decide +kernel⟩
theorem zc_X6_feed : zCal RX6 yX6_feed cX6_feed 6 (Option.some .int) := ⟨zm2 (i := 204) (by decide +kernel) rfl, zm2 (i := 205) (by decide +kernel) rfl, zm1 (i := 1) (by decide +kernel) rfl, zm2 (i := 206) (by decide +kernel) rfl, ⟨rfl, by decide +kernel, by decide +kernel⟩, by decide +kernel⟩
theorem zc_X6_format : zCal RX6 yX6_format cX6_format 3 (Option.some .int) := ⟨zm3 (i := 44) (by decide +kernel) rfl, zm3 (i := 45) (by decide +kernel) rfl, zm1 (i := 1) (by decide +kernel) rfl, zm3 (i := 46) (by decide +kernel) rfl, ⟨rfl, by decide +kernel, by decide +kernel⟩, by decide +kernel⟩
theorem zc_X6_errorCode : zCal RX6 yX6_errorCode cX6_errorCode 1 (Option.some .int) := ⟨zm2 (i := 64) (by decide +kernel) rfl, zm2 (i := 65) (by decide +kernel) rfl, zm1 (i := 1) (by decide +kernel) rfl, zm2 (i := 66) (by decide +kernel) rfl, ⟨rfl, by decide +kernel, by decide +kernel⟩, by decide +kernel⟩
theorem zc_X6_errorPosition : zCal RX6 yX6_errorPosition cX6_errorPosition 1 (Option.some .int) := ⟨zm2 (i := 68) (by decide +kernel) rfl, zm2 (i := 69) (by decide +kernel) rfl, zm1 (i := 1) (by decide +kernel) rfl, zm2 (i := 70) (by decide +kernel) rfl, ⟨rfl, by decide +kernel, by decide +kernel⟩, by decide +kernel⟩
theorem zc_X6_begin : zCal RX6 yX6_begin cX6_begin 2 (Option.some .int) := ⟨zm4 (i := 11) (by decide +kernel) rfl, zm4 (i := 12) (by decide +kernel) rfl, zm1 (i := 1) (by decide +kernel) rfl, zm4 (i := 13) (by decide +kernel) rfl, ⟨rfl, by decide +kernel, by decide +kernel⟩, by decide +kernel⟩
theorem zc_X6_write : zCal RX6 yX6_write cX6_write 5 (Option.some .int) := ⟨zm4 (i := 28) (by decide +kernel) rfl, zm4 (i := 29) (by decide +kernel) rfl, zm1 (i := 1) (by decide +kernel) rfl, zm4 (i := 30) (by decide +kernel) rfl, ⟨rfl, by decide +kernel, by decide +kernel⟩, by decide +kernel⟩
theorem zc_X6_read : zCal RX6 yX6_read cX6_read 3 (Option.some .int) := ⟨zm4 (i := 102) (by decide +kernel) rfl, zm4 (i := 103) (by decide +kernel) rfl, zm1 (i := 1) (by decide +kernel) rfl, zm4 (i := 104) (by decide +kernel) rfl, ⟨rfl, by decide +kernel, by decide +kernel⟩, by decide +kernel⟩
theorem zc_X6_commit : zCal RX6 yX6_commit cX6_commit 3 (Option.some .int) := ⟨zm4 (i := 119) (by decide +kernel) rfl, zm4 (i := 120) (by decide +kernel) rfl, zm1 (i := 1) (by decide +kernel) rfl, zm4 (i := 121) (by decide +kernel) rfl, ⟨rfl, by decide +kernel, by decide +kernel⟩, by decide +kernel⟩
theorem zc_X6_abort : zCal RX6 yX6_abort cX6_abort 3 (Option.some .int) := ⟨zm4 (i := 148) (by decide +kernel) rfl, zm4 (i := 149) (by decide +kernel) rfl, zm1 (i := 1) (by decide +kernel) rfl, zm4 (i := 150) (by decide +kernel) rfl, ⟨rfl, by decide +kernel, by decide +kernel⟩, by decide +kernel⟩
theorem zc_X6_openReader : zCal RX6 yX6_openReader cX6_openReader 2 (Option.some .int) := ⟨zm4 (i := 158) (by decide +kernel) rfl, zm4 (i := 159) (by decide +kernel) rfl, zm1 (i := 1) (by decide +kernel) rfl, zm4 (i := 160) (by decide +kernel) rfl, ⟨rfl, by decide +kernel, by decide +kernel⟩, by decide +kernel⟩
theorem zc_X6_readBy : zCal RX6 yX6_readBy cX6_readBy 3 (Option.some .int) := ⟨zm4 (i := 174) (by decide +kernel) rfl, zm4 (i := 175) (by decide +kernel) rfl, zm1 (i := 1) (by decide +kernel) rfl, zm4 (i := 176) (by decide +kernel) rfl, ⟨rfl, by decide +kernel, by decide +kernel⟩, by decide +kernel⟩
theorem zc_X6_closeReader : zCal RX6 yX6_closeReader cX6_closeReader 2 (Option.some .int) := ⟨zm4 (i := 187) (by decide +kernel) rfl, zm4 (i := 188) (by decide +kernel) rfl, zm1 (i := 1) (by decide +kernel) rfl, zm4 (i := 189) (by decide +kernel) rfl, ⟨rfl, by decide +kernel, by decide +kernel⟩, by decide +kernel⟩
theorem zc_X6_checkpoint : zCal RX6 yX6_checkpoint cX6_checkpoint 1 (Option.some .int) := ⟨zm4 (i := 205) (by decide +kernel) rfl, zm4 (i := 206) (by decide +kernel) rfl, zm1 (i := 1) (by decide +kernel) rfl, zm4 (i := 207) (by decide +kernel) rfl, ⟨rfl, by decide +kernel, by decide +kernel⟩, by decide +kernel⟩
theorem zc_X6_isOn : zCal RX6 yX6_isOn cX6_isOn 1 (Option.some .boolean) := ⟨zm2 (i := 72) (by decide +kernel) rfl, zm2 (i := 73) (by decide +kernel) rfl, zm1 (i := 1) (by decide +kernel) rfl, zm2 (i := 74) (by decide +kernel) rfl, ⟨rfl, by decide +kernel, by decide +kernel⟩, by decide +kernel⟩
theorem zc_X6_arm : zCal RX6 yX6_arm cX6_arm 3 (Option.some .int) := ⟨zm4 (i := 214) (by decide +kernel) rfl, zm4 (i := 215) (by decide +kernel) rfl, zm1 (i := 1) (by decide +kernel) rfl, zm4 (i := 216) (by decide +kernel) rfl, ⟨rfl, by decide +kernel, by decide +kernel⟩, by decide +kernel⟩
theorem zc_X6_powerOff : zCal RX6 yX6_powerOff cX6_powerOff 1 (Option.some .int) := ⟨zm4 (i := 226) (by decide +kernel) rfl, zm4 (i := 227) (by decide +kernel) rfl, zm1 (i := 1) (by decide +kernel) rfl, zm4 (i := 228) (by decide +kernel) rfl, ⟨rfl, by decide +kernel, by decide +kernel⟩, by decide +kernel⟩
theorem zc_X6_recover : zCal RX6 yX6_recover cX6_recover 1 (Option.some .int) := ⟨zm4 (i := 234) (by decide +kernel) rfl, zm4 (i := 235) (by decide +kernel) rfl, zm1 (i := 1) (by decide +kernel) rfl, zm4 (i := 236) (by decide +kernel) rfl, ⟨rfl, by decide +kernel, by decide +kernel⟩, by decide +kernel⟩
theorem zc_X6_logicalPages : zCal RX6 yX6_logicalPages cX6_logicalPages 1 (Option.some .int) := ⟨zm2 (i := 76) (by decide +kernel) rfl, zm2 (i := 77) (by decide +kernel) rfl, zm1 (i := 1) (by decide +kernel) rfl, zm2 (i := 78) (by decide +kernel) rfl, ⟨rfl, by decide +kernel, by decide +kernel⟩, by decide +kernel⟩
theorem zc_X6_blocks : zCal RX6 yX6_blocks cX6_blocks 1 (Option.some .int) := ⟨zm2 (i := 80) (by decide +kernel) rfl, zm2 (i := 81) (by decide +kernel) rfl, zm1 (i := 1) (by decide +kernel) rfl, zm2 (i := 82) (by decide +kernel) rfl, ⟨rfl, by decide +kernel, by decide +kernel⟩, by decide +kernel⟩
theorem zc_X6_pagesPerBlock : zCal RX6 yX6_pagesPerBlock cX6_pagesPerBlock 1 (Option.some .int) := ⟨zm2 (i := 84) (by decide +kernel) rfl, zm2 (i := 85) (by decide +kernel) rfl, zm1 (i := 1) (by decide +kernel) rfl, zm2 (i := 86) (by decide +kernel) rfl, ⟨rfl, by decide +kernel, by decide +kernel⟩, by decide +kernel⟩
theorem zc_X6_version : zCal RX6 yX6_version cX6_version 2 (Option.some .int) := ⟨zm5 (i := 48) (by decide +kernel) rfl, zm5 (i := 49) (by decide +kernel) rfl, zm1 (i := 1) (by decide +kernel) rfl, zm5 (i := 50) (by decide +kernel) rfl, ⟨rfl, by decide +kernel, by decide +kernel⟩, by decide +kernel⟩
theorem zc_X6_place : zCal RX6 yX6_place cX6_place 2 (Option.some .int) := ⟨zm5 (i := 56) (by decide +kernel) rfl, zm5 (i := 57) (by decide +kernel) rfl, zm1 (i := 1) (by decide +kernel) rfl, zm5 (i := 58) (by decide +kernel) rfl, ⟨rfl, by decide +kernel, by decide +kernel⟩, by decide +kernel⟩
theorem zc_X6_lockedBy : zCal RX6 yX6_lockedBy cX6_lockedBy 2 (Option.some .int) := ⟨zm5 (i := 64) (by decide +kernel) rfl, zm5 (i := 65) (by decide +kernel) rfl, zm1 (i := 1) (by decide +kernel) rfl, zm5 (i := 66) (by decide +kernel) rfl, ⟨rfl, by decide +kernel, by decide +kernel⟩, by decide +kernel⟩
theorem zc_X6_transactions : zCal RX6 yX6_transactions cX6_transactions 1 (Option.some .int) := ⟨zm2 (i := 88) (by decide +kernel) rfl, zm2 (i := 89) (by decide +kernel) rfl, zm1 (i := 1) (by decide +kernel) rfl, zm2 (i := 90) (by decide +kernel) rfl, ⟨rfl, by decide +kernel, by decide +kernel⟩, by decide +kernel⟩
theorem zc_X6_state : zCal RX6 yX6_state cX6_state 2 (Option.some .int) := ⟨zm5 (i := 72) (by decide +kernel) rfl, zm5 (i := 73) (by decide +kernel) rfl, zm1 (i := 1) (by decide +kernel) rfl, zm5 (i := 74) (by decide +kernel) rfl, ⟨rfl, by decide +kernel, by decide +kernel⟩, by decide +kernel⟩
theorem zc_X6_locks : zCal RX6 yX6_locks cX6_locks 2 (Option.some .int) := ⟨zm5 (i := 80) (by decide +kernel) rfl, zm5 (i := 81) (by decide +kernel) rfl, zm1 (i := 1) (by decide +kernel) rfl, zm5 (i := 82) (by decide +kernel) rfl, ⟨rfl, by decide +kernel, by decide +kernel⟩, by decide +kernel⟩
theorem zc_X6_readers : zCal RX6 yX6_readers cX6_readers 1 (Option.some .int) := ⟨zm2 (i := 92) (by decide +kernel) rfl, zm2 (i := 93) (by decide +kernel) rfl, zm1 (i := 1) (by decide +kernel) rfl, zm2 (i := 94) (by decide +kernel) rfl, ⟨rfl, by decide +kernel, by decide +kernel⟩, by decide +kernel⟩
theorem zc_X6_activeBlock : zCal RX6 yX6_activeBlock cX6_activeBlock 1 (Option.some .int) := ⟨zm2 (i := 96) (by decide +kernel) rfl, zm2 (i := 97) (by decide +kernel) rfl, zm1 (i := 1) (by decide +kernel) rfl, zm2 (i := 98) (by decide +kernel) rfl, ⟨rfl, by decide +kernel, by decide +kernel⟩, by decide +kernel⟩
theorem zc_X6_freeBlocks : zCal RX6 yX6_freeBlocks cX6_freeBlocks 1 (Option.some .int) := ⟨zm2 (i := 100) (by decide +kernel) rfl, zm2 (i := 101) (by decide +kernel) rfl, zm1 (i := 1) (by decide +kernel) rfl, zm2 (i := 102) (by decide +kernel) rfl, ⟨rfl, by decide +kernel, by decide +kernel⟩, by decide +kernel⟩
theorem zc_X6_validPages : zCal RX6 yX6_validPages cX6_validPages 1 (Option.some .int) := ⟨zm2 (i := 108) (by decide +kernel) rfl, zm2 (i := 109) (by decide +kernel) rfl, zm1 (i := 1) (by decide +kernel) rfl, zm2 (i := 110) (by decide +kernel) rfl, ⟨rfl, by decide +kernel, by decide +kernel⟩, by decide +kernel⟩
theorem zc_X6_block : zCal RX6 yX6_block cX6_block 4 (Option.some .int) := ⟨zm5 (i := 87) (by decide +kernel) rfl, zm5 (i := 88) (by decide +kernel) rfl, zm1 (i := 1) (by decide +kernel) rfl, zm5 (i := 89) (by decide +kernel) rfl, ⟨rfl, by decide +kernel, by decide +kernel⟩, by decide +kernel⟩
theorem zc_X6_flashPage : zCal RX6 yX6_flashPage cX6_flashPage 4 (Option.some .int) := ⟨zm5 (i := 105) (by decide +kernel) rfl, zm5 (i := 106) (by decide +kernel) rfl, zm1 (i := 1) (by decide +kernel) rfl, zm5 (i := 107) (by decide +kernel) rfl, ⟨rfl, by decide +kernel, by decide +kernel⟩, by decide +kernel⟩
theorem zc_X6_isValid : zCal RX6 yX6_isValid cX6_isValid 2 (Option.some .boolean) := ⟨zm5 (i := 114) (by decide +kernel) rfl, zm5 (i := 115) (by decide +kernel) rfl, zm1 (i := 1) (by decide +kernel) rfl, zm5 (i := 116) (by decide +kernel) rfl, ⟨rfl, by decide +kernel, by decide +kernel⟩, by decide +kernel⟩
theorem zc_X6_programs : zCal RX6 yX6_programs cX6_programs 1 (Option.some .int) := ⟨zm2 (i := 128) (by decide +kernel) rfl, zm2 (i := 129) (by decide +kernel) rfl, zm1 (i := 1) (by decide +kernel) rfl, zm2 (i := 130) (by decide +kernel) rfl, ⟨rfl, by decide +kernel, by decide +kernel⟩, by decide +kernel⟩
theorem zc_X6_erases : zCal RX6 yX6_erases cX6_erases 1 (Option.some .int) := ⟨zm2 (i := 132) (by decide +kernel) rfl, zm2 (i := 133) (by decide +kernel) rfl, zm1 (i := 1) (by decide +kernel) rfl, zm2 (i := 134) (by decide +kernel) rfl, ⟨rfl, by decide +kernel, by decide +kernel⟩, by decide +kernel⟩
theorem zc_X6_copies : zCal RX6 yX6_copies cX6_copies 1 (Option.some .int) := ⟨zm2 (i := 136) (by decide +kernel) rfl, zm2 (i := 137) (by decide +kernel) rfl, zm1 (i := 1) (by decide +kernel) rfl, zm2 (i := 138) (by decide +kernel) rfl, ⟨rfl, by decide +kernel, by decide +kernel⟩, by decide +kernel⟩
theorem zc_X6_writes : zCal RX6 yX6_writes cX6_writes 1 (Option.some .int) := ⟨zm2 (i := 140) (by decide +kernel) rfl, zm2 (i := 141) (by decide +kernel) rfl, zm1 (i := 1) (by decide +kernel) rfl, zm2 (i := 142) (by decide +kernel) rfl, ⟨rfl, by decide +kernel, by decide +kernel⟩, by decide +kernel⟩
theorem zc_X6_wearGap : zCal RX6 yX6_wearGap cX6_wearGap 1 (Option.some .int) := ⟨zm2 (i := 144) (by decide +kernel) rfl, zm2 (i := 145) (by decide +kernel) rfl, zm1 (i := 1) (by decide +kernel) rfl, zm2 (i := 146) (by decide +kernel) rfl, ⟨rfl, by decide +kernel, by decide +kernel⟩, by decide +kernel⟩
theorem zc_X6_lastCheckpoint : zCal RX6 yX6_lastCheckpoint cX6_lastCheckpoint 1 (Option.some .int) := ⟨zm2 (i := 158) (by decide +kernel) rfl, zm2 (i := 159) (by decide +kernel) rfl, zm1 (i := 1) (by decide +kernel) rfl, zm2 (i := 160) (by decide +kernel) rfl, ⟨rfl, by decide +kernel, by decide +kernel⟩, by decide +kernel⟩
theorem zc_X6_commits : zCal RX6 yX6_commits cX6_commits 1 (Option.some .int) := ⟨zm2 (i := 162) (by decide +kernel) rfl, zm2 (i := 163) (by decide +kernel) rfl, zm1 (i := 1) (by decide +kernel) rfl, zm2 (i := 164) (by decide +kernel) rfl, ⟨rfl, by decide +kernel, by decide +kernel⟩, by decide +kernel⟩
theorem zc_X6_losses : zCal RX6 yX6_losses cX6_losses 1 (Option.some .int) := ⟨zm2 (i := 166) (by decide +kernel) rfl, zm2 (i := 167) (by decide +kernel) rfl, zm1 (i := 1) (by decide +kernel) rfl, zm2 (i := 168) (by decide +kernel) rfl, ⟨rfl, by decide +kernel, by decide +kernel⟩, by decide +kernel⟩
theorem zc_X6_victim : zCal RX6 yX6_victim cX6_victim 1 (Option.some .int) := ⟨zm2 (i := 170) (by decide +kernel) rfl, zm2 (i := 171) (by decide +kernel) rfl, zm1 (i := 1) (by decide +kernel) rfl, zm2 (i := 172) (by decide +kernel) rfl, ⟨rfl, by decide +kernel, by decide +kernel⟩, by decide +kernel⟩
theorem zc_X6_isNoneOrKnown : zCal RX6 yX6_isNoneOrKnown cX6_isNoneOrKnown 2 (Option.some .boolean) := ⟨zm4 (i := 33) (by decide +kernel) rfl, zm0 (i := 18) (q := (yX6_isNoneOrKnown, 2)) (by decide +kernel) rfl, zm1 (i := 1) (by decide +kernel) rfl, zm4 (i := 34) (by decide +kernel) rfl, ⟨rfl, by decide +kernel, by decide +kernel⟩, by decide +kernel⟩
theorem zc_X6_isNoneOrOpen : zCal RX6 yX6_isNoneOrOpen cX6_isNoneOrOpen 2 (Option.some .boolean) := ⟨zm4 (i := 60) (by decide +kernel) rfl, zm0 (i := 19) (q := (yX6_isNoneOrOpen, 2)) (by decide +kernel) rfl, zm1 (i := 1) (by decide +kernel) rfl, zm4 (i := 61) (by decide +kernel) rfl, ⟨rfl, by decide +kernel, by decide +kernel⟩, by decide +kernel⟩
theorem zc_X7_thrown : zCal RX7 yX7_thrown cX7_thrown 1 (Option.some .int) := ⟨zm6 (i := 39) (by decide +kernel) rfl, zm6 (i := 40) (by decide +kernel) rfl, zm1 (i := 8) (by decide +kernel) rfl, zm6 (i := 41) (by decide +kernel) rfl, ⟨rfl, by decide +kernel, by decide +kernel⟩, by decide +kernel⟩
theorem zc_X7_refuse : zCal RX7 yX7_refuse cX7_refuse 2 (Option.some .int) := ⟨zm6 (i := 48) (by decide +kernel) rfl, zm0 (i := 25) (q := (yX7_refuse, 51)) (by decide +kernel) rfl, zm1 (i := 8) (by decide +kernel) rfl, zm6 (i := 49) (by decide +kernel) rfl, ⟨rfl, by decide +kernel, by decide +kernel⟩, by decide +kernel⟩
theorem zc_X7_told : zCal RX7 yX7_told cX7_told 2 (Option.some .int) := ⟨zm6 (i := 60) (by decide +kernel) rfl, zm0 (i := 27) (q := (yX7_told, 51)) (by decide +kernel) rfl, zm1 (i := 8) (by decide +kernel) rfl, zm6 (i := 61) (by decide +kernel) rfl, ⟨rfl, by decide +kernel, by decide +kernel⟩, by decide +kernel⟩
theorem zc_X7_in : zSta RX7 yX7_in cX7_in 3 (Option.some .boolean) := ⟨zm6 (i := 71) (by decide +kernel) rfl, zm1 (i := 8) (by decide +kernel) rfl, zm6 (i := 72) (by decide +kernel) rfl, ⟨rfl, by decide +kernel, by decide +kernel⟩, by decide +kernel⟩
theorem zc_X7_partsOf : zSta RX7 yX7_partsOf cX7_partsOf 1 (Option.some .int) := ⟨zm6 (i := 121) (by decide +kernel) rfl, zm1 (i := 8) (by decide +kernel) rfl, zm6 (i := 122) (by decide +kernel) rfl, ⟨rfl, by decide +kernel, by decide +kernel⟩, by decide +kernel⟩
theorem zc_X7_parts : zCal RX7 yX7_parts cX7_parts 1 (Option.some .int) := ⟨zm6 (i := 156) (by decide +kernel) rfl, zm0 (i := 44) (q := (yX7_parts, 51)) (by decide +kernel) rfl, zm1 (i := 8) (by decide +kernel) rfl, zm6 (i := 157) (by decide +kernel) rfl, ⟨rfl, by decide +kernel, by decide +kernel⟩, by decide +kernel⟩
theorem zc_X7_flashSize : zCal RX7 yX7_flashSize cX7_flashSize 1 (Option.some .int) := ⟨zm6 (i := 192) (by decide +kernel) rfl, zm0 (i := 53) (q := (yX7_flashSize, 51)) (by decide +kernel) rfl, zm1 (i := 8) (by decide +kernel) rfl, zm6 (i := 193) (by decide +kernel) rfl, ⟨rfl, by decide +kernel, by decide +kernel⟩, by decide +kernel⟩
theorem zc_X7_isLogical : zCal RX7 yX7_isLogical cX7_isLogical 2 (Option.some .boolean) := ⟨zm7 (i := 56) (by decide +kernel) rfl, zm0 (i := 76) (q := (yX7_isLogical, 51)) (by decide +kernel) rfl, zm1 (i := 8) (by decide +kernel) rfl, zm7 (i := 57) (by decide +kernel) rfl, ⟨rfl, by decide +kernel, by decide +kernel⟩, by decide +kernel⟩
theorem zc_X7_isBlock : zCal RX7 yX7_isBlock cX7_isBlock 2 (Option.some .boolean) := ⟨zm7 (i := 228) (by decide +kernel) rfl, zm0 (i := 95) (q := (yX7_isBlock, 51)) (by decide +kernel) rfl, zm1 (i := 8) (by decide +kernel) rfl, zm7 (i := 229) (by decide +kernel) rfl, ⟨rfl, by decide +kernel, by decide +kernel⟩, by decide +kernel⟩
theorem zc_X7_forgets : zCal RX7 yX7_forgets cX7_forgets 2 none := ⟨zm6 (i := 144) (by decide +kernel) rfl, zm0 (i := 41) (q := (yX7_forgets, 51)) (by decide +kernel) rfl, zm1 (i := 8) (by decide +kernel) rfl, zm6 (i := 145) (by decide +kernel) rfl, ⟨rfl, by decide +kernel, by decide +kernel⟩, by decide +kernel⟩
theorem zc_X7_losesPower : zCal RX7 yX7_losesPower cX7_losesPower 1 none := ⟨zm6 (i := 228) (by decide +kernel) rfl, zm0 (i := 62) (q := (yX7_losesPower, 51)) (by decide +kernel) rfl, zm1 (i := 8) (by decide +kernel) rfl, zm6 (i := 229) (by decide +kernel) rfl, ⟨rfl, by decide +kernel, by decide +kernel⟩, by decide +kernel⟩
theorem zc_X7_startAnew : zCal RX7 yX7_startAnew cX7_startAnew 2 none := ⟨zm6 (i := 140) (by decide +kernel) rfl, zm0 (i := 40) (q := (yX7_startAnew, 51)) (by decide +kernel) rfl, zm1 (i := 8) (by decide +kernel) rfl, zm6 (i := 141) (by decide +kernel) rfl, ⟨rfl, by decide +kernel, by decide +kernel⟩, by decide +kernel⟩
theorem zc_X7_feed : zCal RX7 yX7_feed cX7_feed 6 (Option.some .int) := ⟨zm6 (i := 43) (by decide +kernel) rfl, zm6 (i := 44) (by decide +kernel) rfl, zm1 (i := 8) (by decide +kernel) rfl, zm6 (i := 45) (by decide +kernel) rfl, ⟨rfl, by decide +kernel, by decide +kernel⟩, by decide +kernel⟩
theorem zc_X7_append : zCal RX7 yX7_append cX7_append 3 none := ⟨zm6 (i := 52) (by decide +kernel) rfl, zm0 (i := 26) (q := (yX7_append, 51)) (by decide +kernel) rfl, zm1 (i := 8) (by decide +kernel) rfl, zm6 (i := 53) (by decide +kernel) rfl, ⟨rfl, by decide +kernel, by decide +kernel⟩, by decide +kernel⟩
theorem zc_X7_errorCode : zCal RX7 yX7_errorCode cX7_errorCode 1 (Option.some .int) := ⟨zm6 (i := 55) (by decide +kernel) rfl, zm6 (i := 56) (by decide +kernel) rfl, zm1 (i := 8) (by decide +kernel) rfl, zm6 (i := 57) (by decide +kernel) rfl, ⟨rfl, by decide +kernel, by decide +kernel⟩, by decide +kernel⟩
theorem zc_X7_errorPosition : zCal RX7 yX7_errorPosition cX7_errorPosition 1 (Option.some .int) := ⟨zm6 (i := 63) (by decide +kernel) rfl, zm6 (i := 64) (by decide +kernel) rfl, zm1 (i := 8) (by decide +kernel) rfl, zm6 (i := 65) (by decide +kernel) rfl, ⟨rfl, by decide +kernel, by decide +kernel⟩, by decide +kernel⟩
theorem zc_X7_byteAt : zCal RX7 yX7_byteAt cX7_byteAt 2 (Option.some .int) := ⟨zm6 (i := 96) (by decide +kernel) rfl, zm0 (i := 33) (q := (yX7_byteAt, 51)) (by decide +kernel) rfl, zm1 (i := 8) (by decide +kernel) rfl, zm6 (i := 97) (by decide +kernel) rfl, ⟨rfl, by decide +kernel, by decide +kernel⟩, by decide +kernel⟩
theorem zc_X7_isLetter : zSta RX7 yX7_isLetter cX7_isLetter 1 (Option.some .boolean) := ⟨zm6 (i := 99) (by decide +kernel) rfl, zm1 (i := 8) (by decide +kernel) rfl, zm6 (i := 100) (by decide +kernel) rfl, ⟨rfl, by decide +kernel, by decide +kernel⟩, by decide +kernel⟩
theorem zc_X7_isDigit : zSta RX7 yX7_isDigit cX7_isDigit 1 (Option.some .boolean) := ⟨zm6 (i := 112) (by decide +kernel) rfl, zm1 (i := 8) (by decide +kernel) rfl, zm6 (i := 113) (by decide +kernel) rfl, ⟨rfl, by decide +kernel, by decide +kernel⟩, by decide +kernel⟩
theorem zc_X7_peek : zCal RX7 yX7_peek cX7_peek 1 (Option.some .int) := ⟨zm6 (i := 92) (by decide +kernel) rfl, zm0 (i := 32) (q := (yX7_peek, 51)) (by decide +kernel) rfl, zm1 (i := 8) (by decide +kernel) rfl, zm6 (i := 93) (by decide +kernel) rfl, ⟨rfl, by decide +kernel, by decide +kernel⟩, by decide +kernel⟩
theorem zc_X7_fails : zCal RX7 yX7_fails cX7_fails 3 (Option.some .boolean) := ⟨zm6 (i := 103) (by decide +kernel) rfl, zm0 (i := 34) (q := (yX7_fails, 51)) (by decide +kernel) rfl, zm1 (i := 8) (by decide +kernel) rfl, zm6 (i := 104) (by decide +kernel) rfl, ⟨rfl, by decide +kernel, by decide +kernel⟩, by decide +kernel⟩
theorem zc_X7_takesWord : zCal RX7 yX7_takesWord cX7_takesWord 4 (Option.some .boolean) := ⟨zm6 (i := 88) (by decide +kernel) rfl, zm0 (i := 31) (q := (yX7_takesWord, 51)) (by decide +kernel) rfl, zm1 (i := 8) (by decide +kernel) rfl, zm6 (i := 89) (by decide +kernel) rfl, ⟨rfl, by decide +kernel, by decide +kernel⟩, by decide +kernel⟩
theorem zc_X7_readNumber : zCal RX7 yX7_readNumber cX7_readNumber 4 (Option.some .boolean) := ⟨zm6 (i := 109) (by decide +kernel) rfl, zm0 (i := 35) (q := (yX7_readNumber, 51)) (by decide +kernel) rfl, zm1 (i := 8) (by decide +kernel) rfl, zm6 (i := 110) (by decide +kernel) rfl, ⟨rfl, by decide +kernel, by decide +kernel⟩, by decide +kernel⟩
theorem zc_X7_readSetting : zCal RX7 yX7_readSetting cX7_readSetting 5 (Option.some .boolean) := ⟨zm6 (i := 84) (by decide +kernel) rfl, zm0 (i := 30) (q := (yX7_readSetting, 51)) (by decide +kernel) rfl, zm1 (i := 8) (by decide +kernel) rfl, zm6 (i := 85) (by decide +kernel) rfl, ⟨rfl, by decide +kernel, by decide +kernel⟩, by decide +kernel⟩
theorem zc_X7_readSemicolon : zCal RX7 yX7_readSemicolon cX7_readSemicolon 1 (Option.some .boolean) := ⟨zm6 (i := 126) (by decide +kernel) rfl, zm0 (i := 37) (q := (yX7_readSemicolon, 51)) (by decide +kernel) rfl, zm1 (i := 8) (by decide +kernel) rfl, zm6 (i := 127) (by decide +kernel) rfl, ⟨rfl, by decide +kernel, by decide +kernel⟩, by decide +kernel⟩
theorem zc_X7_readLogical : zCal RX7 yX7_readLogical cX7_readLogical 2 (Option.some .boolean) := ⟨zm6 (i := 117) (by decide +kernel) rfl, zm0 (i := 36) (q := (yX7_readLogical, 51)) (by decide +kernel) rfl, zm1 (i := 8) (by decide +kernel) rfl, zm6 (i := 118) (by decide +kernel) rfl, ⟨rfl, by decide +kernel, by decide +kernel⟩, by decide +kernel⟩
theorem zc_X7_readHead : zCal RX7 yX7_readHead cX7_readHead 1 (Option.some .boolean) := ⟨zm6 (i := 79) (by decide +kernel) rfl, zm0 (i := 29) (q := (yX7_readHead, 51)) (by decide +kernel) rfl, zm1 (i := 8) (by decide +kernel) rfl, zm6 (i := 80) (by decide +kernel) rfl, ⟨rfl, by decide +kernel, by decide +kernel⟩, by decide +kernel⟩
theorem zc_X7_readValue : zCal RX7 yX7_readValue cX7_readValue 1 (Option.some .boolean) := ⟨zm6 (i := 135) (by decide +kernel) rfl, zm0 (i := 39) (q := (yX7_readValue, 51)) (by decide +kernel) rfl, zm1 (i := 8) (by decide +kernel) rfl, zm6 (i := 136) (by decide +kernel) rfl, ⟨rfl, by decide +kernel, by decide +kernel⟩, by decide +kernel⟩
theorem zc_X7_readFill : zCal RX7 yX7_readFill cX7_readFill 1 (Option.some .boolean) := ⟨zm6 (i := 130) (by decide +kernel) rfl, zm0 (i := 38) (q := (yX7_readFill, 51)) (by decide +kernel) rfl, zm1 (i := 8) (by decide +kernel) rfl, zm6 (i := 131) (by decide +kernel) rfl, ⟨rfl, by decide +kernel, by decide +kernel⟩, by decide +kernel⟩
theorem zc_X7_readFormat : zCal RX7 yX7_readFormat cX7_readFormat 1 (Option.some .boolean) := ⟨zm6 (i := 75) (by decide +kernel) rfl, zm0 (i := 28) (q := (yX7_readFormat, 51)) (by decide +kernel) rfl, zm1 (i := 8) (by decide +kernel) rfl, zm6 (i := 76) (by decide +kernel) rfl, ⟨rfl, by decide +kernel, by decide +kernel⟩, by decide +kernel⟩
theorem zc_X7_format : zCal RX7 yX7_format cX7_format 4 (Option.some .int) := ⟨zm6 (i := 67) (by decide +kernel) rfl, zm6 (i := 68) (by decide +kernel) rfl, zm1 (i := 8) (by decide +kernel) rfl, zm6 (i := 69) (by decide +kernel) rfl, ⟨rfl, by decide +kernel, by decide +kernel⟩, by decide +kernel⟩
theorem zc_X7_isProgrammed : zCal RX7 yX7_isProgrammed cX7_isProgrammed 2 (Option.some .boolean) := ⟨zm7 (i := 168) (by decide +kernel) rfl, zm0 (i := 94) (q := (yX7_isProgrammed, 51)) (by decide +kernel) rfl, zm1 (i := 8) (by decide +kernel) rfl, zm7 (i := 169) (by decide +kernel) rfl, ⟨rfl, by decide +kernel, by decide +kernel⟩, by decide +kernel⟩
theorem zc_X7_isReadBy : zCal RX7 yX7_isReadBy cX7_isReadBy 4 (Option.some .boolean) := ⟨zm6 (i := 184) (by decide +kernel) rfl, zm0 (i := 51) (q := (yX7_isReadBy, 51)) (by decide +kernel) rfl, zm1 (i := 8) (by decide +kernel) rfl, zm6 (i := 185) (by decide +kernel) rfl, ⟨rfl, by decide +kernel, by decide +kernel⟩, by decide +kernel⟩
theorem zc_X7_isWantedData : zCal RX7 yX7_isWantedData cX7_isWantedData 4 (Option.some .boolean) := ⟨zm6 (i := 180) (by decide +kernel) rfl, zm0 (i := 50) (q := (yX7_isWantedData, 51)) (by decide +kernel) rfl, zm1 (i := 8) (by decide +kernel) rfl, zm6 (i := 181) (by decide +kernel) rfl, ⟨rfl, by decide +kernel, by decide +kernel⟩, by decide +kernel⟩
theorem zc_X7_isWanted : zCal RX7 yX7_isWanted cX7_isWanted 2 (Option.some .boolean) := ⟨zm6 (i := 176) (by decide +kernel) rfl, zm0 (i := 49) (q := (yX7_isWanted, 51)) (by decide +kernel) rfl, zm1 (i := 8) (by decide +kernel) rfl, zm6 (i := 177) (by decide +kernel) rfl, ⟨rfl, by decide +kernel, by decide +kernel⟩, by decide +kernel⟩
theorem zc_X7_isCopyOf : zCal RX7 yX7_isCopyOf cX7_isCopyOf 3 (Option.some .boolean) := ⟨zm6 (i := 196) (by decide +kernel) rfl, zm0 (i := 54) (q := (yX7_isCopyOf, 51)) (by decide +kernel) rfl, zm1 (i := 8) (by decide +kernel) rfl, zm6 (i := 197) (by decide +kernel) rfl, ⟨rfl, by decide +kernel, by decide +kernel⟩, by decide +kernel⟩
theorem zc_X7_isNewest : zCal RX7 yX7_isNewest cX7_isNewest 3 (Option.some .boolean) := ⟨zm6 (i := 188) (by decide +kernel) rfl, zm0 (i := 52) (q := (yX7_isNewest, 51)) (by decide +kernel) rfl, zm1 (i := 8) (by decide +kernel) rfl, zm6 (i := 189) (by decide +kernel) rfl, ⟨rfl, by decide +kernel, by decide +kernel⟩, by decide +kernel⟩
theorem zc_X7_isGood : zCal RX7 yX7_isGood cX7_isGood 2 (Option.some .boolean) := ⟨zm6 (i := 172) (by decide +kernel) rfl, zm0 (i := 48) (q := (yX7_isGood, 51)) (by decide +kernel) rfl, zm1 (i := 8) (by decide +kernel) rfl, zm6 (i := 173) (by decide +kernel) rfl, ⟨rfl, by decide +kernel, by decide +kernel⟩, by decide +kernel⟩
theorem zc_X7_validIn : zCal RX7 yX7_validIn cX7_validIn 4 (Option.some .int) := ⟨zm6 (i := 168) (by decide +kernel) rfl, zm0 (i := 47) (q := (yX7_validIn, 51)) (by decide +kernel) rfl, zm1 (i := 8) (by decide +kernel) rfl, zm6 (i := 169) (by decide +kernel) rfl, ⟨rfl, by decide +kernel, by decide +kernel⟩, by decide +kernel⟩
theorem zc_X7_validAll : zCal RX7 yX7_validAll cX7_validAll 3 (Option.some .int) := ⟨zm6 (i := 164) (by decide +kernel) rfl, zm0 (i := 46) (q := (yX7_validAll, 51)) (by decide +kernel) rfl, zm1 (i := 8) (by decide +kernel) rfl, zm6 (i := 165) (by decide +kernel) rfl, ⟨rfl, by decide +kernel, by decide +kernel⟩, by decide +kernel⟩
theorem zc_X7_kindMany : zCal RX7 yX7_kindMany cX7_kindMany 5 (Option.some .int) := ⟨zm6 (i := 212) (by decide +kernel) rfl, zm0 (i := 58) (q := (yX7_kindMany, 51)) (by decide +kernel) rfl, zm1 (i := 8) (by decide +kernel) rfl, zm6 (i := 213) (by decide +kernel) rfl, ⟨rfl, by decide +kernel, by decide +kernel⟩, by decide +kernel⟩
theorem zc_X7_freeIn : zCal RX7 yX7_freeIn cX7_freeIn 2 (Option.some .int) := ⟨zm6 (i := 208) (by decide +kernel) rfl, zm0 (i := 57) (q := (yX7_freeIn, 51)) (by decide +kernel) rfl, zm1 (i := 8) (by decide +kernel) rfl, zm6 (i := 209) (by decide +kernel) rfl, ⟨rfl, by decide +kernel, by decide +kernel⟩, by decide +kernel⟩
theorem zc_X7_isFree : zCal RX7 yX7_isFree cX7_isFree 2 (Option.some .boolean) := ⟨zm6 (i := 224) (by decide +kernel) rfl, zm0 (i := 61) (q := (yX7_isFree, 51)) (by decide +kernel) rfl, zm1 (i := 8) (by decide +kernel) rfl, zm6 (i := 225) (by decide +kernel) rfl, ⟨rfl, by decide +kernel, by decide +kernel⟩, by decide +kernel⟩
theorem zc_X7_freeMany : zCal RX7 yX7_freeMany cX7_freeMany 3 (Option.some .int) := ⟨zm6 (i := 232) (by decide +kernel) rfl, zm0 (i := 63) (q := (yX7_freeMany, 51)) (by decide +kernel) rfl, zm1 (i := 8) (by decide +kernel) rfl, zm6 (i := 233) (by decide +kernel) rfl, ⟨rfl, by decide +kernel, by decide +kernel⟩, by decide +kernel⟩
theorem zc_X7_operates : zCal RX7 yX7_operates cX7_operates 1 (Option.some .boolean) := ⟨zm7 (i := 16) (by decide +kernel) rfl, zm0 (i := 69) (q := (yX7_operates, 51)) (by decide +kernel) rfl, zm1 (i := 8) (by decide +kernel) rfl, zm7 (i := 17) (by decide +kernel) rfl, ⟨rfl, by decide +kernel, by decide +kernel⟩, by decide +kernel⟩
theorem zc_X7_erasesBlock : zCal RX7 yX7_erasesBlock cX7_erasesBlock 4 (Option.some .boolean) := ⟨zm7 (i := 20) (by decide +kernel) rfl, zm0 (i := 70) (q := (yX7_erasesBlock, 51)) (by decide +kernel) rfl, zm1 (i := 8) (by decide +kernel) rfl, zm7 (i := 21) (by decide +kernel) rfl, ⟨rfl, by decide +kernel, by decide +kernel⟩, by decide +kernel⟩
theorem zc_X7_lowestFree : zCal RX7 yX7_lowestFree cX7_lowestFree 1 (Option.some .int) := ⟨zm7 (i := 8) (by decide +kernel) rfl, zm0 (i := 67) (q := (yX7_lowestFree, 51)) (by decide +kernel) rfl, zm1 (i := 8) (by decide +kernel) rfl, zm7 (i := 9) (by decide +kernel) rfl, ⟨rfl, by decide +kernel, by decide +kernel⟩, by decide +kernel⟩
theorem zc_X7_programsAt : zCal RX7 yX7_programsAt cX7_programsAt 5 (Option.some .boolean) := ⟨zm7 (i := 12) (by decide +kernel) rfl, zm0 (i := 68) (q := (yX7_programsAt, 51)) (by decide +kernel) rfl, zm1 (i := 8) (by decide +kernel) rfl, zm7 (i := 13) (by decide +kernel) rfl, ⟨rfl, by decide +kernel, by decide +kernel⟩, by decide +kernel⟩
theorem zc_X7_copiesPage : zCal RX7 yX7_copiesPage cX7_copiesPage 4 (Option.some .boolean) := ⟨zm7 (i := 4) (by decide +kernel) rfl, zm0 (i := 66) (q := (yX7_copiesPage, 51)) (by decide +kernel) rfl, zm1 (i := 8) (by decide +kernel) rfl, zm7 (i := 5) (by decide +kernel) rfl, ⟨rfl, by decide +kernel, by decide +kernel⟩, by decide +kernel⟩
theorem zc_X7_collects : zCal RX7 yX7_collects cX7_collects 3 (Option.some .boolean) := ⟨zm7 (i := 0) (by decide +kernel) rfl, zm0 (i := 65) (q := (yX7_collects, 51)) (by decide +kernel) rfl, zm1 (i := 8) (by decide +kernel) rfl, zm7 (i := 1) (by decide +kernel) rfl, ⟨rfl, by decide +kernel, by decide +kernel⟩, by decide +kernel⟩
theorem zc_X7_freeBlock : zCal RX7 yX7_freeBlock cX7_freeBlock 3 (Option.some .int) := ⟨zm6 (i := 220) (by decide +kernel) rfl, zm0 (i := 60) (q := (yX7_freeBlock, 51)) (by decide +kernel) rfl, zm1 (i := 8) (by decide +kernel) rfl, zm6 (i := 221) (by decide +kernel) rfl, ⟨rfl, by decide +kernel, by decide +kernel⟩, by decide +kernel⟩
theorem zc_X7_nextVictim : zCal RX7 yX7_nextVictim cX7_nextVictim 6 (Option.some .int) := ⟨zm6 (i := 236) (by decide +kernel) rfl, zm0 (i := 64) (q := (yX7_nextVictim, 51)) (by decide +kernel) rfl, zm1 (i := 8) (by decide +kernel) rfl, zm6 (i := 237) (by decide +kernel) rfl, ⟨rfl, by decide +kernel, by decide +kernel⟩, by decide +kernel⟩
theorem zc_X7_makesRoom : zCal RX7 yX7_makesRoom cX7_makesRoom 3 (Option.some .boolean) := ⟨zm6 (i := 216) (by decide +kernel) rfl, zm0 (i := 59) (q := (yX7_makesRoom, 51)) (by decide +kernel) rfl, zm1 (i := 8) (by decide +kernel) rfl, zm6 (i := 217) (by decide +kernel) rfl, ⟨rfl, by decide +kernel, by decide +kernel⟩, by decide +kernel⟩
theorem zc_X7_programsPage : zCal RX7 yX7_programsPage cX7_programsPage 6 (Option.some .int) := ⟨zm6 (i := 204) (by decide +kernel) rfl, zm0 (i := 56) (q := (yX7_programsPage, 51)) (by decide +kernel) rfl, zm1 (i := 8) (by decide +kernel) rfl, zm6 (i := 205) (by decide +kernel) rfl, ⟨rfl, by decide +kernel, by decide +kernel⟩, by decide +kernel⟩
theorem zc_X7_hasRoom : zCal RX7 yX7_hasRoom cX7_hasRoom 2 (Option.some .boolean) := ⟨zm6 (i := 160) (by decide +kernel) rfl, zm0 (i := 45) (q := (yX7_hasRoom, 51)) (by decide +kernel) rfl, zm1 (i := 8) (by decide +kernel) rfl, zm6 (i := 161) (by decide +kernel) rfl, ⟨rfl, by decide +kernel, by decide +kernel⟩, by decide +kernel⟩
theorem zc_X7_programsMap : zCal RX7 yX7_programsMap cX7_programsMap 4 (Option.some .boolean) := ⟨zm7 (i := 32) (by decide +kernel) rfl, zm0 (i := 73) (q := (yX7_programsMap, 51)) (by decide +kernel) rfl, zm1 (i := 8) (by decide +kernel) rfl, zm7 (i := 33) (by decide +kernel) rfl, ⟨rfl, by decide +kernel, by decide +kernel⟩, by decide +kernel⟩
theorem zc_X7_makesCheckpoint : zCal RX7 yX7_makesCheckpoint cX7_makesCheckpoint 2 (Option.some .boolean) := ⟨zm7 (i := 28) (by decide +kernel) rfl, zm0 (i := 72) (q := (yX7_makesCheckpoint, 51)) (by decide +kernel) rfl, zm1 (i := 8) (by decide +kernel) rfl, zm7 (i := 29) (by decide +kernel) rfl, ⟨rfl, by decide +kernel, by decide +kernel⟩, by decide +kernel⟩
theorem zc_X7_pagesForCommit : zCal RX7 yX7_pagesForCommit cX7_pagesForCommit 1 (Option.some .int) := ⟨zm6 (i := 152) (by decide +kernel) rfl, zm0 (i := 43) (q := (yX7_pagesForCommit, 51)) (by decide +kernel) rfl, zm1 (i := 8) (by decide +kernel) rfl, zm6 (i := 153) (by decide +kernel) rfl, ⟨rfl, by decide +kernel, by decide +kernel⟩, by decide +kernel⟩
theorem zc_X7_countsCommit : zCal RX7 yX7_countsCommit cX7_countsCommit 1 (Option.some .boolean) := ⟨zm7 (i := 24) (by decide +kernel) rfl, zm0 (i := 71) (q := (yX7_countsCommit, 51)) (by decide +kernel) rfl, zm1 (i := 8) (by decide +kernel) rfl, zm7 (i := 25) (by decide +kernel) rfl, ⟨rfl, by decide +kernel, by decide +kernel⟩, by decide +kernel⟩
theorem zc_X7_checkpoint : zCal RX7 yX7_checkpoint cX7_checkpoint 1 (Option.some .int) := ⟨zm7 (i := 35) (by decide +kernel) rfl, zm7 (i := 36) (by decide +kernel) rfl, zm1 (i := 8) (by decide +kernel) rfl, zm7 (i := 37) (by decide +kernel) rfl, ⟨rfl, by decide +kernel, by decide +kernel⟩, by decide +kernel⟩
theorem zc_X7_isTransaction : zCal RX7 yX7_isTransaction cX7_isTransaction 2 (Option.some .boolean) := ⟨zm7 (i := 52) (by decide +kernel) rfl, zm0 (i := 75) (q := (yX7_isTransaction, 51)) (by decide +kernel) rfl, zm1 (i := 8) (by decide +kernel) rfl, zm7 (i := 53) (by decide +kernel) rfl, ⟨rfl, by decide +kernel, by decide +kernel⟩, by decide +kernel⟩
theorem zc_X7_openMany : zCal RX7 yX7_openMany cX7_openMany 3 (Option.some .int) := ⟨zm7 (i := 44) (by decide +kernel) rfl, zm0 (i := 74) (q := (yX7_openMany, 51)) (by decide +kernel) rfl, zm1 (i := 8) (by decide +kernel) rfl, zm7 (i := 45) (by decide +kernel) rfl, ⟨rfl, by decide +kernel, by decide +kernel⟩, by decide +kernel⟩
theorem zc_X7_locksOf : zCal RX7 yX7_locksOf cX7_locksOf 4 (Option.some .int) := ⟨zm7 (i := 80) (by decide +kernel) rfl, zm0 (i := 80) (q := (yX7_locksOf, 51)) (by decide +kernel) rfl, zm1 (i := 8) (by decide +kernel) rfl, zm7 (i := 81) (by decide +kernel) rfl, ⟨rfl, by decide +kernel, by decide +kernel⟩, by decide +kernel⟩
theorem zc_X7_unlocks : zCal RX7 yX7_unlocks cX7_unlocks 3 none := ⟨zm7 (i := 88) (by decide +kernel) rfl, zm0 (i := 82) (q := (yX7_unlocks, 51)) (by decide +kernel) rfl, zm1 (i := 8) (by decide +kernel) rfl, zm7 (i := 89) (by decide +kernel) rfl, ⟨rfl, by decide +kernel, by decide +kernel⟩, by decide +kernel⟩
theorem zc_X7_begin : zCal RX7 yX7_begin cX7_begin 1 (Option.some .int) := ⟨zm7 (i := 39) (by decide +kernel) rfl, zm7 (i := 40) (by decide +kernel) rfl, zm1 (i := 8) (by decide +kernel) rfl, zm7 (i := 41) (by decide +kernel) rfl, ⟨rfl, by decide +kernel, by decide +kernel⟩, by decide +kernel⟩
theorem zc_X7_programsData : zCal RX7 yX7_programsData cX7_programsData 5 (Option.some .int) := ⟨zm6 (i := 200) (by decide +kernel) rfl, zm0 (i := 55) (q := (yX7_programsData, 51)) (by decide +kernel) rfl, zm1 (i := 8) (by decide +kernel) rfl, zm6 (i := 201) (by decide +kernel) rfl, ⟨rfl, by decide +kernel, by decide +kernel⟩, by decide +kernel⟩
theorem zc_X7_writesOutside : zCal RX7 yX7_writesOutside cX7_writesOutside 5 (Option.some .int) := ⟨zm6 (i := 148) (by decide +kernel) rfl, zm0 (i := 42) (q := (yX7_writesOutside, 51)) (by decide +kernel) rfl, zm1 (i := 8) (by decide +kernel) rfl, zm6 (i := 149) (by decide +kernel) rfl, ⟨rfl, by decide +kernel, by decide +kernel⟩, by decide +kernel⟩
theorem zc_X7_writesIn : zCal RX7 yX7_writesIn cX7_writesIn 5 (Option.some .int) := ⟨zm7 (i := 64) (by decide +kernel) rfl, zm0 (i := 78) (q := (yX7_writesIn, 51)) (by decide +kernel) rfl, zm1 (i := 8) (by decide +kernel) rfl, zm7 (i := 65) (by decide +kernel) rfl, ⟨rfl, by decide +kernel, by decide +kernel⟩, by decide +kernel⟩
theorem zc_X7_canAct : zCal RX7 yX7_canAct cX7_canAct 2 (Option.some .boolean) := ⟨zm7 (i := 60) (by decide +kernel) rfl, zm0 (i := 77) (q := (yX7_canAct, 51)) (by decide +kernel) rfl, zm1 (i := 8) (by decide +kernel) rfl, zm7 (i := 61) (by decide +kernel) rfl, ⟨rfl, by decide +kernel, by decide +kernel⟩, by decide +kernel⟩
theorem zc_X7_write : zCal RX7 yX7_write cX7_write 5 (Option.some .int) := ⟨zm7 (i := 47) (by decide +kernel) rfl, zm7 (i := 48) (by decide +kernel) rfl, zm1 (i := 8) (by decide +kernel) rfl, zm7 (i := 49) (by decide +kernel) rfl, ⟨rfl, by decide +kernel, by decide +kernel⟩, by decide +kernel⟩
theorem zc_X7_valueOf : zCal RX7 yX7_valueOf cX7_valueOf 4 (Option.some .int) := ⟨zm7 (i := 72) (by decide +kernel) rfl, zm0 (i := 79) (q := (yX7_valueOf, 51)) (by decide +kernel) rfl, zm1 (i := 8) (by decide +kernel) rfl, zm7 (i := 73) (by decide +kernel) rfl, ⟨rfl, by decide +kernel, by decide +kernel⟩, by decide +kernel⟩
theorem zc_X7_read : zCal RX7 yX7_read cX7_read 4 (Option.some .int) := ⟨zm7 (i := 67) (by decide +kernel) rfl, zm7 (i := 68) (by decide +kernel) rfl, zm1 (i := 8) (by decide +kernel) rfl, zm7 (i := 69) (by decide +kernel) rfl, ⟨rfl, by decide +kernel, by decide +kernel⟩, by decide +kernel⟩
theorem zc_X7_commits0 : zCal RX7 yX7_commits0 cX7_commits0 4 (Option.some .boolean) := ⟨zm7 (i := 84) (by decide +kernel) rfl, zm0 (i := 81) (q := (yX7_commits0, 51)) (by decide +kernel) rfl, zm1 (i := 8) (by decide +kernel) rfl, zm7 (i := 85) (by decide +kernel) rfl, ⟨rfl, by decide +kernel, by decide +kernel⟩, by decide +kernel⟩
theorem zc_X7_commit : zCal RX7 yX7_commit cX7_commit 3 (Option.some .int) := ⟨zm7 (i := 75) (by decide +kernel) rfl, zm7 (i := 76) (by decide +kernel) rfl, zm1 (i := 8) (by decide +kernel) rfl, zm7 (i := 77) (by decide +kernel) rfl, ⟨rfl, by decide +kernel, by decide +kernel⟩, by decide +kernel⟩
theorem zc_X7_abort : zCal RX7 yX7_abort cX7_abort 3 (Option.some .int) := ⟨zm7 (i := 91) (by decide +kernel) rfl, zm7 (i := 92) (by decide +kernel) rfl, zm1 (i := 8) (by decide +kernel) rfl, zm7 (i := 93) (by decide +kernel) rfl, ⟨rfl, by decide +kernel, by decide +kernel⟩, by decide +kernel⟩
theorem zc_X7_isOpenReader : zCal RX7 yX7_isOpenReader cX7_isOpenReader 2 (Option.some .boolean) := ⟨zm7 (i := 108) (by decide +kernel) rfl, zm0 (i := 84) (q := (yX7_isOpenReader, 51)) (by decide +kernel) rfl, zm1 (i := 8) (by decide +kernel) rfl, zm7 (i := 109) (by decide +kernel) rfl, ⟨rfl, by decide +kernel, by decide +kernel⟩, by decide +kernel⟩
theorem zc_X7_readerMany : zCal RX7 yX7_readerMany cX7_readerMany 3 (Option.some .int) := ⟨zm7 (i := 100) (by decide +kernel) rfl, zm0 (i := 83) (q := (yX7_readerMany, 51)) (by decide +kernel) rfl, zm1 (i := 8) (by decide +kernel) rfl, zm7 (i := 101) (by decide +kernel) rfl, ⟨rfl, by decide +kernel, by decide +kernel⟩, by decide +kernel⟩
theorem zc_X7_openReader : zCal RX7 yX7_openReader cX7_openReader 3 (Option.some .int) := ⟨zm7 (i := 95) (by decide +kernel) rfl, zm7 (i := 96) (by decide +kernel) rfl, zm1 (i := 8) (by decide +kernel) rfl, zm7 (i := 97) (by decide +kernel) rfl, ⟨rfl, by decide +kernel, by decide +kernel⟩, by decide +kernel⟩
theorem zc_X7_readBy : zCal RX7 yX7_readBy cX7_readBy 3 (Option.some .int) := ⟨zm7 (i := 103) (by decide +kernel) rfl, zm7 (i := 104) (by decide +kernel) rfl, zm1 (i := 8) (by decide +kernel) rfl, zm7 (i := 105) (by decide +kernel) rfl, ⟨rfl, by decide +kernel, by decide +kernel⟩, by decide +kernel⟩
theorem zc_X7_closeReader : zCal RX7 yX7_closeReader cX7_closeReader 2 (Option.some .int) := ⟨zm7 (i := 111) (by decide +kernel) rfl, zm7 (i := 112) (by decide +kernel) rfl, zm1 (i := 8) (by decide +kernel) rfl, zm7 (i := 113) (by decide +kernel) rfl, ⟨rfl, by decide +kernel, by decide +kernel⟩, by decide +kernel⟩
theorem zc_X7_isOn : zCal RX7 yX7_isOn cX7_isOn 1 (Option.some .boolean) := ⟨zm7 (i := 115) (by decide +kernel) rfl, zm7 (i := 116) (by decide +kernel) rfl, zm1 (i := 8) (by decide +kernel) rfl, zm7 (i := 117) (by decide +kernel) rfl, ⟨rfl, by decide +kernel, by decide +kernel⟩, by decide +kernel⟩
theorem zc_X7_arm : zCal RX7 yX7_arm cX7_arm 3 (Option.some .int) := ⟨zm7 (i := 119) (by decide +kernel) rfl, zm7 (i := 120) (by decide +kernel) rfl, zm1 (i := 8) (by decide +kernel) rfl, zm7 (i := 121) (by decide +kernel) rfl, ⟨rfl, by decide +kernel, by decide +kernel⟩, by decide +kernel⟩
theorem zc_X7_powerOff : zCal RX7 yX7_powerOff cX7_powerOff 1 (Option.some .int) := ⟨zm7 (i := 123) (by decide +kernel) rfl, zm7 (i := 124) (by decide +kernel) rfl, zm1 (i := 8) (by decide +kernel) rfl, zm7 (i := 125) (by decide +kernel) rfl, ⟨rfl, by decide +kernel, by decide +kernel⟩, by decide +kernel⟩
theorem zc_X7_latestEnd : zCal RX7 yX7_latestEnd cX7_latestEnd 3 (Option.some .int) := ⟨zm7 (i := 136) (by decide +kernel) rfl, zm0 (i := 86) (q := (yX7_latestEnd, 51)) (by decide +kernel) rfl, zm1 (i := 8) (by decide +kernel) rfl, zm7 (i := 137) (by decide +kernel) rfl, ⟨rfl, by decide +kernel, by decide +kernel⟩, by decide +kernel⟩
theorem zc_X7_readsMap : zCal RX7 yX7_readsMap cX7_readsMap 3 none := ⟨zm7 (i := 140) (by decide +kernel) rfl, zm0 (i := 87) (q := (yX7_readsMap, 51)) (by decide +kernel) rfl, zm1 (i := 8) (by decide +kernel) rfl, zm7 (i := 141) (by decide +kernel) rfl, ⟨rfl, by decide +kernel, by decide +kernel⟩, by decide +kernel⟩
theorem zc_X7_readsCheckpoint : zCal RX7 yX7_readsCheckpoint cX7_readsCheckpoint 3 none := ⟨zm7 (i := 132) (by decide +kernel) rfl, zm0 (i := 85) (q := (yX7_readsCheckpoint, 51)) (by decide +kernel) rfl, zm1 (i := 8) (by decide +kernel) rfl, zm7 (i := 133) (by decide +kernel) rfl, ⟨rfl, by decide +kernel, by decide +kernel⟩, by decide +kernel⟩
theorem zc_X7_isApplied : zCal RX7 yX7_isApplied cX7_isApplied 2 (Option.some .boolean) := ⟨zm7 (i := 152) (by decide +kernel) rfl, zm0 (i := 90) (q := (yX7_isApplied, 51)) (by decide +kernel) rfl, zm1 (i := 8) (by decide +kernel) rfl, zm7 (i := 153) (by decide +kernel) rfl, ⟨rfl, by decide +kernel, by decide +kernel⟩, by decide +kernel⟩
theorem zc_X7_nextApplied : zCal RX7 yX7_nextApplied cX7_nextApplied 4 (Option.some .int) := ⟨zm7 (i := 148) (by decide +kernel) rfl, zm0 (i := 89) (q := (yX7_nextApplied, 51)) (by decide +kernel) rfl, zm1 (i := 8) (by decide +kernel) rfl, zm7 (i := 149) (by decide +kernel) rfl, ⟨rfl, by decide +kernel, by decide +kernel⟩, by decide +kernel⟩
theorem zc_X7_appliesCommit : zCal RX7 yX7_appliesCommit cX7_appliesCommit 3 none := ⟨zm7 (i := 156) (by decide +kernel) rfl, zm0 (i := 91) (q := (yX7_appliesCommit, 51)) (by decide +kernel) rfl, zm1 (i := 8) (by decide +kernel) rfl, zm7 (i := 157) (by decide +kernel) rfl, ⟨rfl, by decide +kernel, by decide +kernel⟩, by decide +kernel⟩
theorem zc_X7_appliesAll : zCal RX7 yX7_appliesAll cX7_appliesAll 2 none := ⟨zm7 (i := 144) (by decide +kernel) rfl, zm0 (i := 88) (q := (yX7_appliesAll, 51)) (by decide +kernel) rfl, zm1 (i := 8) (by decide +kernel) rfl, zm7 (i := 145) (by decide +kernel) rfl, ⟨rfl, by decide +kernel, by decide +kernel⟩, by decide +kernel⟩
theorem zc_X7_erasesUseless : zCal RX7 yX7_erasesUseless cX7_erasesUseless 2 (Option.some .boolean) := ⟨zm7 (i := 160) (by decide +kernel) rfl, zm0 (i := 92) (q := (yX7_erasesUseless, 51)) (by decide +kernel) rfl, zm1 (i := 8) (by decide +kernel) rfl, zm7 (i := 161) (by decide +kernel) rfl, ⟨rfl, by decide +kernel, by decide +kernel⟩, by decide +kernel⟩
theorem zc_X7_findsActive : zCal RX7 yX7_findsActive cX7_findsActive 3 none := ⟨zm7 (i := 164) (by decide +kernel) rfl, zm0 (i := 93) (q := (yX7_findsActive, 51)) (by decide +kernel) rfl, zm1 (i := 8) (by decide +kernel) rfl, zm7 (i := 165) (by decide +kernel) rfl, ⟨rfl, by decide +kernel, by decide +kernel⟩, by decide +kernel⟩
theorem zc_X7_recover : zCal RX7 yX7_recover cX7_recover 3 (Option.some .int) := ⟨zm7 (i := 127) (by decide +kernel) rfl, zm7 (i := 128) (by decide +kernel) rfl, zm1 (i := 8) (by decide +kernel) rfl, zm7 (i := 129) (by decide +kernel) rfl, ⟨rfl, by decide +kernel, by decide +kernel⟩, by decide +kernel⟩
theorem zc_X7_logicalPages : zCal RX7 yX7_logicalPages cX7_logicalPages 1 (Option.some .int) := ⟨zm7 (i := 171) (by decide +kernel) rfl, zm7 (i := 172) (by decide +kernel) rfl, zm1 (i := 8) (by decide +kernel) rfl, zm7 (i := 173) (by decide +kernel) rfl, ⟨rfl, by decide +kernel, by decide +kernel⟩, by decide +kernel⟩
theorem zc_X7_blocks : zCal RX7 yX7_blocks cX7_blocks 1 (Option.some .int) := ⟨zm7 (i := 175) (by decide +kernel) rfl, zm7 (i := 176) (by decide +kernel) rfl, zm1 (i := 8) (by decide +kernel) rfl, zm7 (i := 177) (by decide +kernel) rfl, ⟨rfl, by decide +kernel, by decide +kernel⟩, by decide +kernel⟩
theorem zc_X7_pagesPerBlock : zCal RX7 yX7_pagesPerBlock cX7_pagesPerBlock 1 (Option.some .int) := ⟨zm7 (i := 179) (by decide +kernel) rfl, zm7 (i := 180) (by decide +kernel) rfl, zm1 (i := 8) (by decide +kernel) rfl, zm7 (i := 181) (by decide +kernel) rfl, ⟨rfl, by decide +kernel, by decide +kernel⟩, by decide +kernel⟩
theorem zc_X7_version : zCal RX7 yX7_version cX7_version 2 (Option.some .int) := ⟨zm7 (i := 183) (by decide +kernel) rfl, zm7 (i := 184) (by decide +kernel) rfl, zm1 (i := 8) (by decide +kernel) rfl, zm7 (i := 185) (by decide +kernel) rfl, ⟨rfl, by decide +kernel, by decide +kernel⟩, by decide +kernel⟩
theorem zc_X7_place : zCal RX7 yX7_place cX7_place 3 (Option.some .int) := ⟨zm7 (i := 187) (by decide +kernel) rfl, zm7 (i := 188) (by decide +kernel) rfl, zm1 (i := 8) (by decide +kernel) rfl, zm7 (i := 189) (by decide +kernel) rfl, ⟨rfl, by decide +kernel, by decide +kernel⟩, by decide +kernel⟩
theorem zc_X7_lockedBy : zCal RX7 yX7_lockedBy cX7_lockedBy 2 (Option.some .int) := ⟨zm7 (i := 191) (by decide +kernel) rfl, zm7 (i := 192) (by decide +kernel) rfl, zm1 (i := 8) (by decide +kernel) rfl, zm7 (i := 193) (by decide +kernel) rfl, ⟨rfl, by decide +kernel, by decide +kernel⟩, by decide +kernel⟩
theorem zc_X7_transactions : zCal RX7 yX7_transactions cX7_transactions 1 (Option.some .int) := ⟨zm7 (i := 195) (by decide +kernel) rfl, zm7 (i := 196) (by decide +kernel) rfl, zm1 (i := 8) (by decide +kernel) rfl, zm7 (i := 197) (by decide +kernel) rfl, ⟨rfl, by decide +kernel, by decide +kernel⟩, by decide +kernel⟩
theorem zc_X7_state : zCal RX7 yX7_state cX7_state 2 (Option.some .int) := ⟨zm7 (i := 199) (by decide +kernel) rfl, zm7 (i := 200) (by decide +kernel) rfl, zm1 (i := 8) (by decide +kernel) rfl, zm7 (i := 201) (by decide +kernel) rfl, ⟨rfl, by decide +kernel, by decide +kernel⟩, by decide +kernel⟩
theorem zc_X7_locks : zCal RX7 yX7_locks cX7_locks 2 (Option.some .int) := ⟨zm7 (i := 203) (by decide +kernel) rfl, zm7 (i := 204) (by decide +kernel) rfl, zm1 (i := 8) (by decide +kernel) rfl, zm7 (i := 205) (by decide +kernel) rfl, ⟨rfl, by decide +kernel, by decide +kernel⟩, by decide +kernel⟩
theorem zc_X7_readers : zCal RX7 yX7_readers cX7_readers 3 (Option.some .int) := ⟨zm7 (i := 207) (by decide +kernel) rfl, zm7 (i := 208) (by decide +kernel) rfl, zm1 (i := 8) (by decide +kernel) rfl, zm7 (i := 209) (by decide +kernel) rfl, ⟨rfl, by decide +kernel, by decide +kernel⟩, by decide +kernel⟩
theorem zc_X7_activeBlock : zCal RX7 yX7_activeBlock cX7_activeBlock 1 (Option.some .int) := ⟨zm7 (i := 211) (by decide +kernel) rfl, zm7 (i := 212) (by decide +kernel) rfl, zm1 (i := 8) (by decide +kernel) rfl, zm7 (i := 213) (by decide +kernel) rfl, ⟨rfl, by decide +kernel, by decide +kernel⟩, by decide +kernel⟩
theorem zc_X7_freeBlocks : zCal RX7 yX7_freeBlocks cX7_freeBlocks 1 (Option.some .int) := ⟨zm7 (i := 215) (by decide +kernel) rfl, zm7 (i := 216) (by decide +kernel) rfl, zm1 (i := 8) (by decide +kernel) rfl, zm7 (i := 217) (by decide +kernel) rfl, ⟨rfl, by decide +kernel, by decide +kernel⟩, by decide +kernel⟩
theorem zc_X7_validPages : zCal RX7 yX7_validPages cX7_validPages 1 (Option.some .int) := ⟨zm7 (i := 219) (by decide +kernel) rfl, zm7 (i := 220) (by decide +kernel) rfl, zm1 (i := 8) (by decide +kernel) rfl, zm7 (i := 221) (by decide +kernel) rfl, ⟨rfl, by decide +kernel, by decide +kernel⟩, by decide +kernel⟩
theorem zc_X7_block : zCal RX7 yX7_block cX7_block 3 (Option.some .int) := ⟨zm7 (i := 223) (by decide +kernel) rfl, zm7 (i := 224) (by decide +kernel) rfl, zm1 (i := 8) (by decide +kernel) rfl, zm7 (i := 225) (by decide +kernel) rfl, ⟨rfl, by decide +kernel, by decide +kernel⟩, by decide +kernel⟩
theorem zc_X7_flashPage : zCal RX7 yX7_flashPage cX7_flashPage 3 (Option.some .int) := ⟨zm7 (i := 231) (by decide +kernel) rfl, zm7 (i := 232) (by decide +kernel) rfl, zm1 (i := 8) (by decide +kernel) rfl, zm7 (i := 233) (by decide +kernel) rfl, ⟨rfl, by decide +kernel, by decide +kernel⟩, by decide +kernel⟩
theorem zc_X7_isValid : zCal RX7 yX7_isValid cX7_isValid 2 (Option.some .boolean) := ⟨zm7 (i := 235) (by decide +kernel) rfl, zm7 (i := 236) (by decide +kernel) rfl, zm1 (i := 8) (by decide +kernel) rfl, zm7 (i := 237) (by decide +kernel) rfl, ⟨rfl, by decide +kernel, by decide +kernel⟩, by decide +kernel⟩
theorem zc_X7_programs : zCal RX7 yX7_programs cX7_programs 1 (Option.some .int) := ⟨zm7 (i := 239) (by decide +kernel) rfl, zm8 (i := 0) (by decide +kernel) rfl, zm1 (i := 8) (by decide +kernel) rfl, zm8 (i := 1) (by decide +kernel) rfl, ⟨rfl, by decide +kernel, by decide +kernel⟩, by decide +kernel⟩
theorem zc_X7_erases : zCal RX7 yX7_erases cX7_erases 1 (Option.some .int) := ⟨zm8 (i := 3) (by decide +kernel) rfl, zm8 (i := 4) (by decide +kernel) rfl, zm1 (i := 8) (by decide +kernel) rfl, zm8 (i := 5) (by decide +kernel) rfl, ⟨rfl, by decide +kernel, by decide +kernel⟩, by decide +kernel⟩
theorem zc_X7_copies : zCal RX7 yX7_copies cX7_copies 1 (Option.some .int) := ⟨zm8 (i := 7) (by decide +kernel) rfl, zm8 (i := 8) (by decide +kernel) rfl, zm1 (i := 8) (by decide +kernel) rfl, zm8 (i := 9) (by decide +kernel) rfl, ⟨rfl, by decide +kernel, by decide +kernel⟩, by decide +kernel⟩
theorem zc_X7_writes : zCal RX7 yX7_writes cX7_writes 1 (Option.some .int) := ⟨zm8 (i := 11) (by decide +kernel) rfl, zm8 (i := 12) (by decide +kernel) rfl, zm1 (i := 8) (by decide +kernel) rfl, zm8 (i := 13) (by decide +kernel) rfl, ⟨rfl, by decide +kernel, by decide +kernel⟩, by decide +kernel⟩
theorem zc_X7_wearGap : zCal RX7 yX7_wearGap cX7_wearGap 4 (Option.some .int) := ⟨zm8 (i := 15) (by decide +kernel) rfl, zm8 (i := 16) (by decide +kernel) rfl, zm1 (i := 8) (by decide +kernel) rfl, zm8 (i := 17) (by decide +kernel) rfl, ⟨rfl, by decide +kernel, by decide +kernel⟩, by decide +kernel⟩
theorem zc_X7_lastCheckpoint : zCal RX7 yX7_lastCheckpoint cX7_lastCheckpoint 1 (Option.some .int) := ⟨zm8 (i := 19) (by decide +kernel) rfl, zm8 (i := 20) (by decide +kernel) rfl, zm1 (i := 8) (by decide +kernel) rfl, zm8 (i := 21) (by decide +kernel) rfl, ⟨rfl, by decide +kernel, by decide +kernel⟩, by decide +kernel⟩
theorem zc_X7_commits : zCal RX7 yX7_commits cX7_commits 1 (Option.some .int) := ⟨zm8 (i := 23) (by decide +kernel) rfl, zm8 (i := 24) (by decide +kernel) rfl, zm1 (i := 8) (by decide +kernel) rfl, zm8 (i := 25) (by decide +kernel) rfl, ⟨rfl, by decide +kernel, by decide +kernel⟩, by decide +kernel⟩
theorem zc_X7_losses : zCal RX7 yX7_losses cX7_losses 1 (Option.some .int) := ⟨zm8 (i := 27) (by decide +kernel) rfl, zm8 (i := 28) (by decide +kernel) rfl, zm1 (i := 8) (by decide +kernel) rfl, zm8 (i := 29) (by decide +kernel) rfl, ⟨rfl, by decide +kernel, by decide +kernel⟩, by decide +kernel⟩
theorem zc_X7_victim : zCal RX7 yX7_victim cX7_victim 4 (Option.some .int) := ⟨zm8 (i := 31) (by decide +kernel) rfl, zm8 (i := 32) (by decide +kernel) rfl, zm1 (i := 8) (by decide +kernel) rfl, zm8 (i := 33) (by decide +kernel) rfl, ⟨rfl, by decide +kernel, by decide +kernel⟩, by decide +kernel⟩
-- no code word: yL_feed
-- no code word: yL_format
-- no code word: yL_begin
-- no code word: yL_write
-- no code word: yL_read
-- no code word: yL_commit
-- no code word: yL_abort
-- no code word: yL_openReader
-- no code word: yL_readBy
-- no code word: yL_closeReader
-- no code word: yL_checkpoint
-- no code word: yL_arm
-- no code word: yL_powerOff
-- no code word: yL_recover
-- no code word: yL_version
-- no code word: yL_place
-- no code word: yL_lockedBy
-- no code word: yL_state
-- no code word: yL_locks
-- no code word: yL_block
-- no code word: yL_flashPage
-- no code word: yL_isValid
-- no code word: yL_law
-- RX0: 15 fields
theorem zu_X0 : ∀ w ∈ u_ws RX0 TX0 15, w ∈ zU := by
  intro w hw
  obtain ⟨k, hk, rfl⟩ := List.mem_map.mp hw
  rw [List.mem_range] at hk
  match k, hk with
  | 0, _ => exact zm2 (i := 25) (by decide +kernel) rfl
  | 1, _ => exact zm2 (i := 27) (by decide +kernel) rfl
  | 2, _ => exact zm2 (i := 29) (by decide +kernel) rfl
  | 3, _ => exact zm2 (i := 31) (by decide +kernel) rfl
  | 4, _ => exact zm2 (i := 33) (by decide +kernel) rfl
  | 5, _ => exact zm2 (i := 35) (by decide +kernel) rfl
  | 6, _ => exact zm2 (i := 37) (by decide +kernel) rfl
  | 7, _ => exact zm2 (i := 39) (by decide +kernel) rfl
  | 8, _ => exact zm2 (i := 41) (by decide +kernel) rfl
  | 9, _ => exact zm2 (i := 43) (by decide +kernel) rfl
  | 10, _ => exact zm2 (i := 45) (by decide +kernel) rfl
  | 11, _ => exact zm2 (i := 47) (by decide +kernel) rfl
  | 12, _ => exact zm2 (i := 49) (by decide +kernel) rfl
  | 13, _ => exact zm2 (i := 51) (by decide +kernel) rfl
  | 14, _ => exact zm2 (i := 53) (by decide +kernel) rfl
  | n + 15, h => exact absurd h (by omega)
-- RX1: 18 fields
theorem zu_X1 : ∀ w ∈ u_ws RX1 TX1 18, w ∈ zU := by
  intro w hw
  obtain ⟨k, hk, rfl⟩ := List.mem_map.mp hw
  rw [List.mem_range] at hk
  match k, hk with
  | 0, _ => exact zm1 (i := 140) (by decide +kernel) rfl
  | 1, _ => exact zm1 (i := 142) (by decide +kernel) rfl
  | 2, _ => exact zm1 (i := 144) (by decide +kernel) rfl
  | 3, _ => exact zm1 (i := 146) (by decide +kernel) rfl
  | 4, _ => exact zm1 (i := 148) (by decide +kernel) rfl
  | 5, _ => exact zm1 (i := 150) (by decide +kernel) rfl
  | 6, _ => exact zm1 (i := 152) (by decide +kernel) rfl
  | 7, _ => exact zm1 (i := 154) (by decide +kernel) rfl
  | 8, _ => exact zm1 (i := 156) (by decide +kernel) rfl
  | 9, _ => exact zm1 (i := 158) (by decide +kernel) rfl
  | 10, _ => exact zm1 (i := 160) (by decide +kernel) rfl
  | 11, _ => exact zm1 (i := 162) (by decide +kernel) rfl
  | 12, _ => exact zm1 (i := 164) (by decide +kernel) rfl
  | 13, _ => exact zm1 (i := 166) (by decide +kernel) rfl
  | 14, _ => exact zm1 (i := 168) (by decide +kernel) rfl
  | 15, _ => exact zm1 (i := 170) (by decide +kernel) rfl
  | 16, _ => exact zm1 (i := 172) (by decide +kernel) rfl
  | 17, _ => exact zm1 (i := 174) (by decide +kernel) rfl
  | n + 18, h => exact absurd h (by omega)
-- RX2: 11 fields
theorem zu_X2 : ∀ w ∈ u_ws RX2 TX2 11, w ∈ zU := by
  intro w hw
  obtain ⟨k, hk, rfl⟩ := List.mem_map.mp hw
  rw [List.mem_range] at hk
  match k, hk with
  | 0, _ => exact zm1 (i := 55) (by decide +kernel) rfl
  | 1, _ => exact zm1 (i := 57) (by decide +kernel) rfl
  | 2, _ => exact zm1 (i := 59) (by decide +kernel) rfl
  | 3, _ => exact zm1 (i := 61) (by decide +kernel) rfl
  | 4, _ => exact zm1 (i := 63) (by decide +kernel) rfl
  | 5, _ => exact zm1 (i := 65) (by decide +kernel) rfl
  | 6, _ => exact zm1 (i := 67) (by decide +kernel) rfl
  | 7, _ => exact zm1 (i := 69) (by decide +kernel) rfl
  | 8, _ => exact zm1 (i := 71) (by decide +kernel) rfl
  | 9, _ => exact zm1 (i := 73) (by decide +kernel) rfl
  | 10, _ => exact zm1 (i := 75) (by decide +kernel) rfl
  | n + 11, h => exact absurd h (by omega)
-- RX3: 2 fields
theorem zu_X3 : ∀ w ∈ u_ws RX3 TX3 2, w ∈ zU := by
  intro w hw
  obtain ⟨k, hk, rfl⟩ := List.mem_map.mp hw
  rw [List.mem_range] at hk
  match k, hk with
  | 0, _ => exact zm1 (i := 188) (by decide +kernel) rfl
  | 1, _ => exact zm1 (i := 190) (by decide +kernel) rfl
  | n + 2, h => exact absurd h (by omega)
-- RX4: 7 fields
theorem zu_X4 : ∀ w ∈ u_ws RX4 TX4 7, w ∈ zU := by
  intro w hw
  obtain ⟨k, hk, rfl⟩ := List.mem_map.mp hw
  rw [List.mem_range] at hk
  match k, hk with
  | 0, _ => exact zm1 (i := 210) (by decide +kernel) rfl
  | 1, _ => exact zm1 (i := 212) (by decide +kernel) rfl
  | 2, _ => exact zm1 (i := 214) (by decide +kernel) rfl
  | 3, _ => exact zm1 (i := 216) (by decide +kernel) rfl
  | 4, _ => exact zm1 (i := 218) (by decide +kernel) rfl
  | 5, _ => exact zm1 (i := 220) (by decide +kernel) rfl
  | 6, _ => exact zm1 (i := 222) (by decide +kernel) rfl
  | n + 7, h => exact absurd h (by omega)
-- RX5: 3 fields
theorem zu_X5 : ∀ w ∈ u_ws RX5 TX5 3, w ∈ zU := by
  intro w hw
  obtain ⟨k, hk, rfl⟩ := List.mem_map.mp hw
  rw [List.mem_range] at hk
  match k, hk with
  | 0, _ => exact zm1 (i := 234) (by decide +kernel) rfl
  | 1, _ => exact zm1 (i := 236) (by decide +kernel) rfl
  | 2, _ => exact zm1 (i := 238) (by decide +kernel) rfl
  | n + 3, h => exact absurd h (by omega)
-- RX6: 2 fields
theorem zu_X6 : ∀ w ∈ u_ws RX6 TX6 2, w ∈ zU := by
  intro w hw
  obtain ⟨k, hk, rfl⟩ := List.mem_map.mp hw
  rw [List.mem_range] at hk
  match k, hk with
  | 0, _ => exact zm2 (i := 58) (by decide +kernel) rfl
  | 1, _ => exact zm2 (i := 60) (by decide +kernel) rfl
  | n + 2, h => exact absurd h (by omega)
-- RX7: 51 fields
theorem zu_X7 : ∀ w ∈ u_ws RX7 TX7 51, w ∈ zU := by
  intro w hw
  obtain ⟨k, hk, rfl⟩ := List.mem_map.mp hw
  rw [List.mem_range] at hk
  match k, hk with
  | 0, _ => exact zm5 (i := 175) (by decide +kernel) rfl
  | 1, _ => exact zm5 (i := 177) (by decide +kernel) rfl
  | 2, _ => exact zm5 (i := 179) (by decide +kernel) rfl
  | 3, _ => exact zm5 (i := 181) (by decide +kernel) rfl
  | 4, _ => exact zm5 (i := 183) (by decide +kernel) rfl
  | 5, _ => exact zm5 (i := 185) (by decide +kernel) rfl
  | 6, _ => exact zm5 (i := 187) (by decide +kernel) rfl
  | 7, _ => exact zm5 (i := 189) (by decide +kernel) rfl
  | 8, _ => exact zm5 (i := 191) (by decide +kernel) rfl
  | 9, _ => exact zm5 (i := 193) (by decide +kernel) rfl
  | 10, _ => exact zm5 (i := 195) (by decide +kernel) rfl
  | 11, _ => exact zm5 (i := 197) (by decide +kernel) rfl
  | 12, _ => exact zm5 (i := 199) (by decide +kernel) rfl
  | 13, _ => exact zm5 (i := 201) (by decide +kernel) rfl
  | 14, _ => exact zm5 (i := 203) (by decide +kernel) rfl
  | 15, _ => exact zm5 (i := 205) (by decide +kernel) rfl
  | 16, _ => exact zm5 (i := 207) (by decide +kernel) rfl
  | 17, _ => exact zm5 (i := 209) (by decide +kernel) rfl
  | 18, _ => exact zm5 (i := 211) (by decide +kernel) rfl
  | 19, _ => exact zm5 (i := 213) (by decide +kernel) rfl
  | 20, _ => exact zm5 (i := 215) (by decide +kernel) rfl
  | 21, _ => exact zm5 (i := 217) (by decide +kernel) rfl
  | 22, _ => exact zm5 (i := 219) (by decide +kernel) rfl
  | 23, _ => exact zm5 (i := 221) (by decide +kernel) rfl
  | 24, _ => exact zm5 (i := 223) (by decide +kernel) rfl
  | 25, _ => exact zm5 (i := 225) (by decide +kernel) rfl
  | 26, _ => exact zm5 (i := 227) (by decide +kernel) rfl
  | 27, _ => exact zm5 (i := 229) (by decide +kernel) rfl
  | 28, _ => exact zm5 (i := 231) (by decide +kernel) rfl
  | 29, _ => exact zm5 (i := 233) (by decide +kernel) rfl
  | 30, _ => exact zm5 (i := 235) (by decide +kernel) rfl
  | 31, _ => exact zm5 (i := 237) (by decide +kernel) rfl
  | 32, _ => exact zm5 (i := 239) (by decide +kernel) rfl
  | 33, _ => exact zm6 (i := 1) (by decide +kernel) rfl
  | 34, _ => exact zm6 (i := 3) (by decide +kernel) rfl
  | 35, _ => exact zm6 (i := 5) (by decide +kernel) rfl
  | 36, _ => exact zm6 (i := 7) (by decide +kernel) rfl
  | 37, _ => exact zm6 (i := 9) (by decide +kernel) rfl
  | 38, _ => exact zm6 (i := 11) (by decide +kernel) rfl
  | 39, _ => exact zm6 (i := 13) (by decide +kernel) rfl
  | 40, _ => exact zm6 (i := 15) (by decide +kernel) rfl
  | 41, _ => exact zm6 (i := 17) (by decide +kernel) rfl
  | 42, _ => exact zm6 (i := 19) (by decide +kernel) rfl
  | 43, _ => exact zm6 (i := 21) (by decide +kernel) rfl
  | 44, _ => exact zm6 (i := 23) (by decide +kernel) rfl
  | 45, _ => exact zm6 (i := 25) (by decide +kernel) rfl
  | 46, _ => exact zm6 (i := 27) (by decide +kernel) rfl
  | 47, _ => exact zm6 (i := 29) (by decide +kernel) rfl
  | 48, _ => exact zm6 (i := 31) (by decide +kernel) rfl
  | 49, _ => exact zm6 (i := 33) (by decide +kernel) rfl
  | 50, _ => exact zm6 (i := 35) (by decide +kernel) rfl
  | n + 51, h => exact absurd h (by omega)
