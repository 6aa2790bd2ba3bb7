/-! the law: its words -/
theorem lGood {own : String} {idx : Nat} {y : MethodName} {b : ByteArray} {nL : Nat} {hh : List (Nat × Nat × Nat × Nat)} (h1 : Cond.methodLink own idx y ∈ zU) (h2 : Cond.static y ∈ zU) (h3 : Cond.initialized y.cls ∈ zU) (h4 : Cond.codeWith y b nL (some .int) hh ∈ zU) : GoodIn zU (va_wsS own idx y (.codeWith y b nL (some .int) hh :: zU)) := by
  intro w hw
  unfold va_wsS at hw
  rcases List.mem_append.mp hw with hw | hw
  · simp only [List.mem_cons, List.not_mem_nil, or_false] at hw
    rcases hw with rfl | rfl | rfl
    · exact ⟨h1, zU_gd h1⟩
    · exact ⟨h2, zU_gd h2⟩
    · exact ⟨h3, zU_gd h3⟩
  · rcases List.mem_cons.mp hw with rfl | hw
    · exact ⟨h4, zU_gd h4⟩
    · exact ⟨hw, zU_gd hw⟩
theorem lIni : Cond.initialized RL ∈ zU := zm1 (i := 0) (by decide +kernel) rfl
theorem gL_feed : GoodIn zU (va_wsS RL 91 yL_feed (.codeWith yL_feed cL_feed 8 (some .int) [(0, 16, 19, 13)] :: zU)) := lGood zl_L_91 (zm2 (i := 200) (by decide +kernel) rfl) lIni (zm2 (i := 201) (by decide +kernel) rfl)
theorem gL_format : GoodIn zU (va_wsS RL 100 yL_format (.codeWith yL_format cL_format 4 (some .int) [(0, 9, 12, 19), (0, 9, 15, 13)] :: zU)) := lGood zl_L_100 (zm3 (i := 40) (by decide +kernel) rfl) lIni (zm3 (i := 41) (by decide +kernel) rfl)
theorem gL_begin : GoodIn zU (va_wsS RL 112 yL_begin (.codeWith yL_begin cL_begin 3 (some .int) [(0, 8, 11, 13)] :: zU)) := lGood zl_L_112 (zm4 (i := 8) (by decide +kernel) rfl) lIni (zm4 (i := 9) (by decide +kernel) rfl)
theorem gL_write : GoodIn zU (va_wsS RL 116 yL_write (.codeWith yL_write cL_write 6 (some .int) [(0, 12, 15, 29), (0, 12, 19, 19), (0, 12, 23, 13)] :: zU)) := lGood zl_L_116 (zm4 (i := 24) (by decide +kernel) rfl) lIni (zm4 (i := 25) (by decide +kernel) rfl)
theorem gL_read : GoodIn zU (va_wsS RL 120 yL_read (.codeWith yL_read cL_read 5 (some .int) [(0, 10, 13, 29), (0, 10, 17, 13)] :: zU)) := lGood zl_L_120 (zm4 (i := 99) (by decide +kernel) rfl) lIni (zm4 (i := 100) (by decide +kernel) rfl)
theorem gL_commit : GoodIn zU (va_wsS RL 124 yL_commit (.codeWith yL_commit cL_commit 4 (some .int) [(0, 9, 12, 29), (0, 9, 15, 13)] :: zU)) := lGood zl_L_124 (zm4 (i := 116) (by decide +kernel) rfl) lIni (zm4 (i := 117) (by decide +kernel) rfl)
theorem gL_abort : GoodIn zU (va_wsS RL 127 yL_abort (.codeWith yL_abort cL_abort 4 (some .int) [(0, 9, 12, 29), (0, 9, 15, 13)] :: zU)) := lGood zl_L_127 (zm4 (i := 145) (by decide +kernel) rfl) lIni (zm4 (i := 146) (by decide +kernel) rfl)
theorem gL_openReader : GoodIn zU (va_wsS RL 130 yL_openReader (.codeWith yL_openReader cL_openReader 3 (some .int) [(0, 8, 11, 13)] :: zU)) := lGood zl_L_130 (zm4 (i := 155) (by decide +kernel) rfl) lIni (zm4 (i := 156) (by decide +kernel) rfl)
theorem gL_readBy : GoodIn zU (va_wsS RL 133 yL_readBy (.codeWith yL_readBy cL_readBy 5 (some .int) [(0, 10, 13, 29)] :: zU)) := lGood zl_L_133 (zm4 (i := 171) (by decide +kernel) rfl) lIni (zm4 (i := 172) (by decide +kernel) rfl)
theorem gL_closeReader : GoodIn zU (va_wsS RL 136 yL_closeReader (.codeWith yL_closeReader cL_closeReader 4 (some .int) [(0, 9, 12, 29)] :: zU)) := lGood zl_L_136 (zm4 (i := 184) (by decide +kernel) rfl) lIni (zm4 (i := 185) (by decide +kernel) rfl)
theorem gL_checkpoint : GoodIn zU (va_wsS RL 139 yL_checkpoint (.codeWith yL_checkpoint cL_checkpoint 3 (some .int) [(0, 8, 11, 13)] :: zU)) := lGood zl_L_139 (zm4 (i := 202) (by decide +kernel) rfl) lIni (zm4 (i := 203) (by decide +kernel) rfl)
theorem gL_arm : GoodIn zU (va_wsS RL 147 yL_arm (.codeWith yL_arm cL_arm 4 (some .int) [(0, 9, 12, 19)] :: zU)) := lGood zl_L_147 (zm4 (i := 211) (by decide +kernel) rfl) lIni (zm4 (i := 212) (by decide +kernel) rfl)
theorem gL_powerOff : GoodIn zU (va_wsS RL 150 yL_powerOff (.codeWith yL_powerOff cL_powerOff 3 (some .int) [(0, 8, 11, 13)] :: zU)) := lGood zl_L_150 (zm4 (i := 223) (by decide +kernel) rfl) lIni (zm4 (i := 224) (by decide +kernel) rfl)
theorem gL_recover : GoodIn zU (va_wsS RL 153 yL_recover (.codeWith yL_recover cL_recover 3 (some .int) [(0, 8, 11, 13)] :: zU)) := lGood zl_L_153 (zm4 (i := 231) (by decide +kernel) rfl) lIni (zm4 (i := 232) (by decide +kernel) rfl)
theorem gL_version : GoodIn zU (va_wsS RL 168 yL_version (.codeWith yL_version cL_version 4 (some .int) [(0, 9, 12, 29)] :: zU)) := lGood zl_L_168 (zm5 (i := 45) (by decide +kernel) rfl) lIni (zm5 (i := 46) (by decide +kernel) rfl)
theorem gL_place : GoodIn zU (va_wsS RL 171 yL_place (.codeWith yL_place cL_place 4 (some .int) [(0, 9, 12, 29)] :: zU)) := lGood zl_L_171 (zm5 (i := 53) (by decide +kernel) rfl) lIni (zm5 (i := 54) (by decide +kernel) rfl)
theorem gL_lockedBy : GoodIn zU (va_wsS RL 174 yL_lockedBy (.codeWith yL_lockedBy cL_lockedBy 4 (some .int) [(0, 9, 12, 29)] :: zU)) := lGood zl_L_174 (zm5 (i := 61) (by decide +kernel) rfl) lIni (zm5 (i := 62) (by decide +kernel) rfl)
theorem gL_state : GoodIn zU (va_wsS RL 181 yL_state (.codeWith yL_state cL_state 4 (some .int) [(0, 9, 12, 29)] :: zU)) := lGood zl_L_181 (zm5 (i := 69) (by decide +kernel) rfl) lIni (zm5 (i := 70) (by decide +kernel) rfl)
theorem gL_locks : GoodIn zU (va_wsS RL 184 yL_locks (.codeWith yL_locks cL_locks 4 (some .int) [(0, 9, 12, 29)] :: zU)) := lGood zl_L_184 (zm5 (i := 77) (by decide +kernel) rfl) lIni (zm5 (i := 78) (by decide +kernel) rfl)
theorem gL_block : GoodIn zU (va_wsS RL 203 yL_block (.codeWith yL_block cL_block 5 (some .int) [(0, 10, 13, 29), (0, 10, 17, 19)] :: zU)) := lGood zl_L_203 (zm5 (i := 84) (by decide +kernel) rfl) lIni (zm5 (i := 85) (by decide +kernel) rfl)
theorem gL_flashPage : GoodIn zU (va_wsS RL 206 yL_flashPage (.codeWith yL_flashPage cL_flashPage 5 (some .int) [(0, 10, 13, 29), (0, 10, 17, 19)] :: zU)) := lGood zl_L_206 (zm5 (i := 102) (by decide +kernel) rfl) lIni (zm5 (i := 103) (by decide +kernel) rfl)
theorem gL_isValid : GoodIn zU (va_wsS RL 209 yL_isValid (.codeWith yL_isValid cL_isValid 4 (some .int) [(0, 16, 19, 29)] :: zU)) := lGood zl_L_209 (zm5 (i := 111) (by decide +kernel) rfl) lIni (zm5 (i := 112) (by decide +kernel) rfl)

