theorem dX2_setError_0 : decode cX2_setError 0 = .ok (.iload_n 1, 1) := by decide +kernel
theorem dX2_setError_1 : decode cX2_setError 1 = .ok (.ifCond .eq 13, 3) := by decide +kernel
theorem dX2_setError_4 : decode cX2_setError 4 = .ok (.aload_n 0, 1) := by decide +kernel
theorem dX2_setError_5 : decode cX2_setError 5 = .ok (.iload_n 1, 1) := by decide +kernel
theorem dX2_setError_6 : decode cX2_setError 6 = .ok (.putfield 25, 3) := by decide +kernel
theorem dX2_setError_9 : decode cX2_setError 9 = .ok (.aload_n 0, 1) := by decide +kernel
theorem dX2_setError_10 : decode cX2_setError 10 = .ok (.iload_n 2, 1) := by decide +kernel
theorem dX2_setError_11 : decode cX2_setError 11 = .ok (.putfield 18, 3) := by decide +kernel
theorem dX2_setError_14 : decode cX2_setError 14 = .ok (.return_, 1) := by decide +kernel
theorem dX2_isLetter_0 : decode cX2_isLetter 0 = .ok (.iload_n 0, 1) := by decide +kernel
theorem dX2_isLetter_1 : decode cX2_isLetter 1 = .ok (.bipush 97, 2) := by decide +kernel
theorem dX2_isLetter_3 : decode cX2_isLetter 3 = .ok (.if_icmp .lt 13, 3) := by decide +kernel
theorem dX2_isLetter_6 : decode cX2_isLetter 6 = .ok (.iload_n 0, 1) := by decide +kernel
theorem dX2_isLetter_7 : decode cX2_isLetter 7 = .ok (.bipush 122, 2) := by decide +kernel
theorem dX2_isLetter_9 : decode cX2_isLetter 9 = .ok (.if_icmp .gt 7, 3) := by decide +kernel
theorem dX2_isLetter_12 : decode cX2_isLetter 12 = .ok (.iconst 1, 1) := by decide +kernel
theorem dX2_isLetter_13 : decode cX2_isLetter 13 = .ok (.goto 4, 3) := by decide +kernel
theorem dX2_isLetter_16 : decode cX2_isLetter 16 = .ok (.iconst 0, 1) := by decide +kernel
theorem dX2_isLetter_17 : decode cX2_isLetter 17 = .ok (.ireturn, 1) := by decide +kernel
theorem dX2_isDigit_0 : decode cX2_isDigit 0 = .ok (.iload_n 0, 1) := by decide +kernel
theorem dX2_isDigit_1 : decode cX2_isDigit 1 = .ok (.bipush 48, 2) := by decide +kernel
theorem dX2_isDigit_3 : decode cX2_isDigit 3 = .ok (.if_icmp .lt 13, 3) := by decide +kernel
theorem dX2_isDigit_6 : decode cX2_isDigit 6 = .ok (.iload_n 0, 1) := by decide +kernel
theorem dX2_isDigit_7 : decode cX2_isDigit 7 = .ok (.bipush 57, 2) := by decide +kernel
theorem dX2_isDigit_9 : decode cX2_isDigit 9 = .ok (.if_icmp .gt 7, 3) := by decide +kernel
theorem dX2_isDigit_12 : decode cX2_isDigit 12 = .ok (.iconst 1, 1) := by decide +kernel
theorem dX2_isDigit_13 : decode cX2_isDigit 13 = .ok (.goto 4, 3) := by decide +kernel
theorem dX2_isDigit_16 : decode cX2_isDigit 16 = .ok (.iconst 0, 1) := by decide +kernel
theorem dX2_isDigit_17 : decode cX2_isDigit 17 = .ok (.ireturn, 1) := by decide +kernel
theorem dX2_endOfRun_0 : decode cX2_endOfRun 0 = .ok (.iload_n 1, 1) := by decide +kernel
theorem dX2_endOfRun_1 : decode cX2_endOfRun 1 = .ok (.istore 4, 2) := by decide +kernel
theorem dX2_endOfRun_3 : decode cX2_endOfRun 3 = .ok (.iload 4, 2) := by decide +kernel
theorem dX2_endOfRun_5 : decode cX2_endOfRun 5 = .ok (.iload_n 2, 1) := by decide +kernel
theorem dX2_endOfRun_6 : decode cX2_endOfRun 6 = .ok (.if_icmp .ge 42, 3) := by decide +kernel
theorem dX2_endOfRun_9 : decode cX2_endOfRun 9 = .ok (.iload_n 3, 1) := by decide +kernel
theorem dX2_endOfRun_10 : decode cX2_endOfRun 10 = .ok (.ifCond .eq 19, 3) := by decide +kernel
theorem dX2_endOfRun_13 : decode cX2_endOfRun 13 = .ok (.aload_n 0, 1) := by decide +kernel
theorem dX2_endOfRun_14 : decode cX2_endOfRun 14 = .ok (.getfield 9, 3) := by decide +kernel
theorem dX2_endOfRun_17 : decode cX2_endOfRun 17 = .ok (.iload 4, 2) := by decide +kernel
theorem dX2_endOfRun_19 : decode cX2_endOfRun 19 = .ok (.iaload, 1) := by decide +kernel
theorem dX2_endOfRun_20 : decode cX2_endOfRun 20 = .ok (.invokestatic 34, 3) := by decide +kernel
theorem dX2_endOfRun_23 : decode cX2_endOfRun 23 = .ok (.ifCond .eq 25, 3) := by decide +kernel
theorem dX2_endOfRun_26 : decode cX2_endOfRun 26 = .ok (.goto 16, 3) := by decide +kernel
theorem dX2_endOfRun_29 : decode cX2_endOfRun 29 = .ok (.aload_n 0, 1) := by decide +kernel
theorem dX2_endOfRun_30 : decode cX2_endOfRun 30 = .ok (.getfield 9, 3) := by decide +kernel
theorem dX2_endOfRun_33 : decode cX2_endOfRun 33 = .ok (.iload 4, 2) := by decide +kernel
theorem dX2_endOfRun_35 : decode cX2_endOfRun 35 = .ok (.iaload, 1) := by decide +kernel
theorem dX2_endOfRun_36 : decode cX2_endOfRun 36 = .ok (.invokestatic 38, 3) := by decide +kernel
theorem dX2_endOfRun_39 : decode cX2_endOfRun 39 = .ok (.ifCond .eq 9, 3) := by decide +kernel
theorem dX2_endOfRun_42 : decode cX2_endOfRun 42 = .ok (.iinc 4 1, 3) := by decide +kernel
theorem dX2_endOfRun_45 : decode cX2_endOfRun 45 = .ok (.goto (-42), 3) := by decide +kernel
theorem dX2_endOfRun_48 : decode cX2_endOfRun 48 = .ok (.iload 4, 2) := by decide +kernel
theorem dX2_endOfRun_50 : decode cX2_endOfRun 50 = .ok (.ireturn, 1) := by decide +kernel
theorem dX2_takeRun_0 : decode cX2_takeRun 0 = .ok (.iload_n 3, 1) := by decide +kernel
theorem dX2_takeRun_1 : decode cX2_takeRun 1 = .ok (.ifCond .eq 12, 3) := by decide +kernel
theorem dX2_takeRun_4 : decode cX2_takeRun 4 = .ok (.aload_n 0, 1) := by decide +kernel
theorem dX2_takeRun_5 : decode cX2_takeRun 5 = .ok (.iload_n 1, 1) := by decide +kernel
theorem dX2_takeRun_6 : decode cX2_takeRun 6 = .ok (.iload_n 2, 1) := by decide +kernel
theorem dX2_takeRun_7 : decode cX2_takeRun 7 = .ok (.invokevirtual 62, 3) := by decide +kernel
theorem dX2_takeRun_10 : decode cX2_takeRun 10 = .ok (.goto 9, 3) := by decide +kernel
theorem dX2_takeRun_13 : decode cX2_takeRun 13 = .ok (.aload_n 0, 1) := by decide +kernel
theorem dX2_takeRun_14 : decode cX2_takeRun 14 = .ok (.iload_n 1, 1) := by decide +kernel
theorem dX2_takeRun_15 : decode cX2_takeRun 15 = .ok (.iload_n 2, 1) := by decide +kernel
theorem dX2_takeRun_16 : decode cX2_takeRun 16 = .ok (.invokevirtual 65, 3) := by decide +kernel
theorem dX2_takeRun_19 : decode cX2_takeRun 19 = .ok (.ireturn, 1) := by decide +kernel
theorem dX2_takeSemicolon_0 : decode cX2_takeSemicolon 0 = .ok (.aload_n 0, 1) := by decide +kernel
theorem dX2_takeSemicolon_1 : decode cX2_takeSemicolon 1 = .ok (.getfield 31, 3) := by decide +kernel
theorem dX2_takeSemicolon_4 : decode cX2_takeSemicolon 4 = .ok (.bipush 8, 2) := by decide +kernel
theorem dX2_takeSemicolon_6 : decode cX2_takeSemicolon 6 = .ok (.if_icmp .eq 14, 3) := by decide +kernel
theorem dX2_takeSemicolon_9 : decode cX2_takeSemicolon 9 = .ok (.aload_n 0, 1) := by decide +kernel
theorem dX2_takeSemicolon_10 : decode cX2_takeSemicolon 10 = .ok (.getfield 31, 3) := by decide +kernel
theorem dX2_takeSemicolon_13 : decode cX2_takeSemicolon 13 = .ok (.bipush 11, 2) := by decide +kernel
theorem dX2_takeSemicolon_15 : decode cX2_takeSemicolon 15 = .ok (.if_icmp .eq 5, 3) := by decide +kernel
theorem dX2_takeSemicolon_18 : decode cX2_takeSemicolon 18 = .ok (.iconst 1, 1) := by decide +kernel
theorem dX2_takeSemicolon_19 : decode cX2_takeSemicolon 19 = .ok (.ireturn, 1) := by decide +kernel
theorem dX2_takeSemicolon_20 : decode cX2_takeSemicolon 20 = .ok (.aload_n 0, 1) := by decide +kernel
theorem dX2_takeSemicolon_21 : decode cX2_takeSemicolon 21 = .ok (.bipush 9, 2) := by decide +kernel
theorem dX2_takeSemicolon_23 : decode cX2_takeSemicolon 23 = .ok (.putfield 31, 3) := by decide +kernel
theorem dX2_takeSemicolon_26 : decode cX2_takeSemicolon 26 = .ok (.iconst 0, 1) := by decide +kernel
theorem dX2_takeSemicolon_27 : decode cX2_takeSemicolon 27 = .ok (.ireturn, 1) := by decide +kernel
theorem dX2_takeWord_0 : decode cX2_takeWord 0 = .ok (.aload_n 0, 1) := by decide +kernel
theorem dX2_takeWord_1 : decode cX2_takeWord 1 = .ok (.invokevirtual 68, 3) := by decide +kernel
theorem dX2_takeWord_4 : decode cX2_takeWord 4 = .ok (.astore_n 3, 1) := by decide +kernel
theorem dX2_takeWord_5 : decode cX2_takeWord 5 = .ok (.iload_n 2, 1) := by decide +kernel
theorem dX2_takeWord_6 : decode cX2_takeWord 6 = .ok (.iload_n 1, 1) := by decide +kernel
theorem dX2_takeWord_7 : decode cX2_takeWord 7 = .ok (.isub, 1) := by decide +kernel
theorem dX2_takeWord_8 : decode cX2_takeWord 8 = .ok (.aload_n 3, 1) := by decide +kernel
theorem dX2_takeWord_9 : decode cX2_takeWord 9 = .ok (.invokevirtual 72, 3) := by decide +kernel
theorem dX2_takeWord_12 : decode cX2_takeWord 12 = .ok (.if_icmp .eq 5, 3) := by decide +kernel
theorem dX2_takeWord_15 : decode cX2_takeWord 15 = .ok (.iconst 1, 1) := by decide +kernel
theorem dX2_takeWord_16 : decode cX2_takeWord 16 = .ok (.ireturn, 1) := by decide +kernel
theorem dX2_takeWord_17 : decode cX2_takeWord 17 = .ok (.iconst 0, 1) := by decide +kernel
theorem dX2_takeWord_18 : decode cX2_takeWord 18 = .ok (.istore 4, 2) := by decide +kernel
theorem dX2_takeWord_20 : decode cX2_takeWord 20 = .ok (.iload 4, 2) := by decide +kernel
theorem dX2_takeWord_22 : decode cX2_takeWord 22 = .ok (.aload_n 3, 1) := by decide +kernel
theorem dX2_takeWord_23 : decode cX2_takeWord 23 = .ok (.invokevirtual 72, 3) := by decide +kernel
theorem dX2_takeWord_26 : decode cX2_takeWord 26 = .ok (.if_icmp .ge 29, 3) := by decide +kernel
theorem dX2_takeWord_29 : decode cX2_takeWord 29 = .ok (.aload_n 0, 1) := by decide +kernel
theorem dX2_takeWord_30 : decode cX2_takeWord 30 = .ok (.getfield 9, 3) := by decide +kernel
theorem dX2_takeWord_33 : decode cX2_takeWord 33 = .ok (.iload_n 1, 1) := by decide +kernel
theorem dX2_takeWord_34 : decode cX2_takeWord 34 = .ok (.iload 4, 2) := by decide +kernel
theorem dX2_takeWord_36 : decode cX2_takeWord 36 = .ok (.iadd, 1) := by decide +kernel
theorem dX2_takeWord_37 : decode cX2_takeWord 37 = .ok (.iaload, 1) := by decide +kernel
theorem dX2_takeWord_38 : decode cX2_takeWord 38 = .ok (.aload_n 3, 1) := by decide +kernel
theorem dX2_takeWord_39 : decode cX2_takeWord 39 = .ok (.iload 4, 2) := by decide +kernel
theorem dX2_takeWord_41 : decode cX2_takeWord 41 = .ok (.invokevirtual 76, 3) := by decide +kernel
theorem dX2_takeWord_44 : decode cX2_takeWord 44 = .ok (.if_icmp .eq 5, 3) := by decide +kernel
theorem dX2_takeWord_47 : decode cX2_takeWord 47 = .ok (.iconst 1, 1) := by decide +kernel
theorem dX2_takeWord_48 : decode cX2_takeWord 48 = .ok (.ireturn, 1) := by decide +kernel
theorem dX2_takeWord_49 : decode cX2_takeWord 49 = .ok (.iinc 4 1, 3) := by decide +kernel
theorem dX2_takeWord_52 : decode cX2_takeWord 52 = .ok (.goto (-32), 3) := by decide +kernel
theorem dX2_takeWord_55 : decode cX2_takeWord 55 = .ok (.aload_n 0, 1) := by decide +kernel
theorem dX2_takeWord_56 : decode cX2_takeWord 56 = .ok (.dup, 1) := by decide +kernel
theorem dX2_takeWord_57 : decode cX2_takeWord 57 = .ok (.getfield 31, 3) := by decide +kernel
theorem dX2_takeWord_60 : decode cX2_takeWord 60 = .ok (.iconst 1, 1) := by decide +kernel
theorem dX2_takeWord_61 : decode cX2_takeWord 61 = .ok (.iadd, 1) := by decide +kernel
theorem dX2_takeWord_62 : decode cX2_takeWord 62 = .ok (.putfield 31, 3) := by decide +kernel
theorem dX2_takeWord_65 : decode cX2_takeWord 65 = .ok (.iconst 0, 1) := by decide +kernel
theorem dX2_takeWord_66 : decode cX2_takeWord 66 = .ok (.ireturn, 1) := by decide +kernel
theorem dX2_wordDue_0 : decode cX2_wordDue 0 = .ok (.aload_n 0, 1) := by decide +kernel
theorem dX2_wordDue_1 : decode cX2_wordDue 1 = .ok (.getfield 31, 3) := by decide +kernel
theorem dX2_wordDue_4 : decode cX2_wordDue 4 = .ok (.tableswitch 71 0 9 #[56, 71, 59, 71, 62, 71, 65, 71, 71, 68], 56) := by decide +kernel
theorem dX2_wordDue_60 : decode cX2_wordDue 60 = .ok (.ldc 80, 2) := by decide +kernel
theorem dX2_wordDue_62 : decode cX2_wordDue 62 = .ok (.areturn, 1) := by decide +kernel
theorem dX2_wordDue_63 : decode cX2_wordDue 63 = .ok (.ldc 82, 2) := by decide +kernel
theorem dX2_wordDue_65 : decode cX2_wordDue 65 = .ok (.areturn, 1) := by decide +kernel
theorem dX2_wordDue_66 : decode cX2_wordDue 66 = .ok (.ldc 84, 2) := by decide +kernel
theorem dX2_wordDue_68 : decode cX2_wordDue 68 = .ok (.areturn, 1) := by decide +kernel
theorem dX2_wordDue_69 : decode cX2_wordDue 69 = .ok (.ldc 86, 2) := by decide +kernel
theorem dX2_wordDue_71 : decode cX2_wordDue 71 = .ok (.areturn, 1) := by decide +kernel
theorem dX2_wordDue_72 : decode cX2_wordDue 72 = .ok (.ldc 88, 2) := by decide +kernel
theorem dX2_wordDue_74 : decode cX2_wordDue 74 = .ok (.areturn, 1) := by decide +kernel
theorem dX2_wordDue_75 : decode cX2_wordDue 75 = .ok (.ldc 90, 2) := by decide +kernel
theorem dX2_wordDue_77 : decode cX2_wordDue 77 = .ok (.areturn, 1) := by decide +kernel
theorem dX2_takeNumber_0 : decode cX2_takeNumber 0 = .ok (.iload_n 2, 1) := by decide +kernel
theorem dX2_takeNumber_1 : decode cX2_takeNumber 1 = .ok (.iload_n 1, 1) := by decide +kernel
theorem dX2_takeNumber_2 : decode cX2_takeNumber 2 = .ok (.isub, 1) := by decide +kernel
theorem dX2_takeNumber_3 : decode cX2_takeNumber 3 = .ok (.bipush 6, 2) := by decide +kernel
theorem dX2_takeNumber_5 : decode cX2_takeNumber 5 = .ok (.if_icmp .le 5, 3) := by decide +kernel
theorem dX2_takeNumber_8 : decode cX2_takeNumber 8 = .ok (.iconst 1, 1) := by decide +kernel
theorem dX2_takeNumber_9 : decode cX2_takeNumber 9 = .ok (.ireturn, 1) := by decide +kernel
theorem dX2_takeNumber_10 : decode cX2_takeNumber 10 = .ok (.iconst 0, 1) := by decide +kernel
theorem dX2_takeNumber_11 : decode cX2_takeNumber 11 = .ok (.istore_n 3, 1) := by decide +kernel
theorem dX2_takeNumber_12 : decode cX2_takeNumber 12 = .ok (.iload_n 1, 1) := by decide +kernel
theorem dX2_takeNumber_13 : decode cX2_takeNumber 13 = .ok (.istore 4, 2) := by decide +kernel
theorem dX2_takeNumber_15 : decode cX2_takeNumber 15 = .ok (.iload 4, 2) := by decide +kernel
theorem dX2_takeNumber_17 : decode cX2_takeNumber 17 = .ok (.iload_n 2, 1) := by decide +kernel
theorem dX2_takeNumber_18 : decode cX2_takeNumber 18 = .ok (.if_icmp .ge 25, 3) := by decide +kernel
theorem dX2_takeNumber_21 : decode cX2_takeNumber 21 = .ok (.iload_n 3, 1) := by decide +kernel
theorem dX2_takeNumber_22 : decode cX2_takeNumber 22 = .ok (.bipush 10, 2) := by decide +kernel
theorem dX2_takeNumber_24 : decode cX2_takeNumber 24 = .ok (.imul, 1) := by decide +kernel
theorem dX2_takeNumber_25 : decode cX2_takeNumber 25 = .ok (.aload_n 0, 1) := by decide +kernel
theorem dX2_takeNumber_26 : decode cX2_takeNumber 26 = .ok (.getfield 9, 3) := by decide +kernel
theorem dX2_takeNumber_29 : decode cX2_takeNumber 29 = .ok (.iload 4, 2) := by decide +kernel
theorem dX2_takeNumber_31 : decode cX2_takeNumber 31 = .ok (.iaload, 1) := by decide +kernel
theorem dX2_takeNumber_32 : decode cX2_takeNumber 32 = .ok (.bipush 48, 2) := by decide +kernel
theorem dX2_takeNumber_34 : decode cX2_takeNumber 34 = .ok (.isub, 1) := by decide +kernel
theorem dX2_takeNumber_35 : decode cX2_takeNumber 35 = .ok (.iadd, 1) := by decide +kernel
theorem dX2_takeNumber_36 : decode cX2_takeNumber 36 = .ok (.istore_n 3, 1) := by decide +kernel
theorem dX2_takeNumber_37 : decode cX2_takeNumber 37 = .ok (.iinc 4 1, 3) := by decide +kernel
theorem dX2_takeNumber_40 : decode cX2_takeNumber 40 = .ok (.goto (-25), 3) := by decide +kernel
theorem dX2_takeNumber_43 : decode cX2_takeNumber 43 = .ok (.aload_n 0, 1) := by decide +kernel
theorem dX2_takeNumber_44 : decode cX2_takeNumber 44 = .ok (.getfield 31, 3) := by decide +kernel
theorem dX2_takeNumber_47 : decode cX2_takeNumber 47 = .ok (.tableswitch 175 1 11 #[57, 175, 83, 175, 109, 175, 143, 175, 175, 169, 169], 57) := by decide +kernel
theorem dX2_takeNumber_104 : decode cX2_takeNumber 104 = .ok (.aload_n 0, 1) := by decide +kernel
theorem dX2_takeNumber_105 : decode cX2_takeNumber 105 = .ok (.iload_n 3, 1) := by decide +kernel
theorem dX2_takeNumber_106 : decode cX2_takeNumber 106 = .ok (.putfield 92, 3) := by decide +kernel
theorem dX2_takeNumber_109 : decode cX2_takeNumber 109 = .ok (.aload_n 0, 1) := by decide +kernel
theorem dX2_takeNumber_110 : decode cX2_takeNumber 110 = .ok (.iload_n 3, 1) := by decide +kernel
theorem dX2_takeNumber_111 : decode cX2_takeNumber 111 = .ok (.iconst 4, 1) := by decide +kernel
theorem dX2_takeNumber_112 : decode cX2_takeNumber 112 = .ok (.if_icmp .lt 13, 3) := by decide +kernel
theorem dX2_takeNumber_115 : decode cX2_takeNumber 115 = .ok (.iload_n 3, 1) := by decide +kernel
theorem dX2_takeNumber_116 : decode cX2_takeNumber 116 = .ok (.bipush 32, 2) := by decide +kernel
theorem dX2_takeNumber_118 : decode cX2_takeNumber 118 = .ok (.if_icmp .gt 7, 3) := by decide +kernel
theorem dX2_takeNumber_121 : decode cX2_takeNumber 121 = .ok (.iconst 1, 1) := by decide +kernel
theorem dX2_takeNumber_122 : decode cX2_takeNumber 122 = .ok (.goto 4, 3) := by decide +kernel
theorem dX2_takeNumber_125 : decode cX2_takeNumber 125 = .ok (.iconst 0, 1) := by decide +kernel
theorem dX2_takeNumber_126 : decode cX2_takeNumber 126 = .ok (.invokevirtual 95, 3) := by decide +kernel
theorem dX2_takeNumber_129 : decode cX2_takeNumber 129 = .ok (.ireturn, 1) := by decide +kernel
theorem dX2_takeNumber_130 : decode cX2_takeNumber 130 = .ok (.aload_n 0, 1) := by decide +kernel
theorem dX2_takeNumber_131 : decode cX2_takeNumber 131 = .ok (.iload_n 3, 1) := by decide +kernel
theorem dX2_takeNumber_132 : decode cX2_takeNumber 132 = .ok (.putfield 99, 3) := by decide +kernel
theorem dX2_takeNumber_135 : decode cX2_takeNumber 135 = .ok (.aload_n 0, 1) := by decide +kernel
theorem dX2_takeNumber_136 : decode cX2_takeNumber 136 = .ok (.iload_n 3, 1) := by decide +kernel
theorem dX2_takeNumber_137 : decode cX2_takeNumber 137 = .ok (.iconst 2, 1) := by decide +kernel
theorem dX2_takeNumber_138 : decode cX2_takeNumber 138 = .ok (.if_icmp .lt 13, 3) := by decide +kernel
theorem dX2_takeNumber_141 : decode cX2_takeNumber 141 = .ok (.iload_n 3, 1) := by decide +kernel
theorem dX2_takeNumber_142 : decode cX2_takeNumber 142 = .ok (.bipush 32, 2) := by decide +kernel
theorem dX2_takeNumber_144 : decode cX2_takeNumber 144 = .ok (.if_icmp .gt 7, 3) := by decide +kernel
theorem dX2_takeNumber_147 : decode cX2_takeNumber 147 = .ok (.iconst 1, 1) := by decide +kernel
theorem dX2_takeNumber_148 : decode cX2_takeNumber 148 = .ok (.goto 4, 3) := by decide +kernel
theorem dX2_takeNumber_151 : decode cX2_takeNumber 151 = .ok (.iconst 0, 1) := by decide +kernel
theorem dX2_takeNumber_152 : decode cX2_takeNumber 152 = .ok (.invokevirtual 95, 3) := by decide +kernel
theorem dX2_takeNumber_155 : decode cX2_takeNumber 155 = .ok (.ireturn, 1) := by decide +kernel
theorem dX2_takeNumber_156 : decode cX2_takeNumber 156 = .ok (.aload_n 0, 1) := by decide +kernel
theorem dX2_takeNumber_157 : decode cX2_takeNumber 157 = .ok (.iload_n 3, 1) := by decide +kernel
theorem dX2_takeNumber_158 : decode cX2_takeNumber 158 = .ok (.putfield 102, 3) := by decide +kernel
theorem dX2_takeNumber_161 : decode cX2_takeNumber 161 = .ok (.aload_n 0, 1) := by decide +kernel
theorem dX2_takeNumber_162 : decode cX2_takeNumber 162 = .ok (.iload_n 3, 1) := by decide +kernel
theorem dX2_takeNumber_163 : decode cX2_takeNumber 163 = .ok (.iconst 1, 1) := by decide +kernel
theorem dX2_takeNumber_164 : decode cX2_takeNumber 164 = .ok (.if_icmp .lt 21, 3) := by decide +kernel
theorem dX2_takeNumber_167 : decode cX2_takeNumber 167 = .ok (.iload_n 3, 1) := by decide +kernel
theorem dX2_takeNumber_168 : decode cX2_takeNumber 168 = .ok (.bipush 64, 2) := by decide +kernel
theorem dX2_takeNumber_170 : decode cX2_takeNumber 170 = .ok (.if_icmp .gt 15, 3) := by decide +kernel
theorem dX2_takeNumber_173 : decode cX2_takeNumber 173 = .ok (.aload_n 0, 1) := by decide +kernel
theorem dX2_takeNumber_174 : decode cX2_takeNumber 174 = .ok (.iload_n 3, 1) := by decide +kernel
theorem dX2_takeNumber_175 : decode cX2_takeNumber 175 = .ok (.invokevirtual 105, 3) := by decide +kernel
theorem dX2_takeNumber_178 : decode cX2_takeNumber 178 = .ok (.ifCond .eq 7, 3) := by decide +kernel
theorem dX2_takeNumber_181 : decode cX2_takeNumber 181 = .ok (.iconst 1, 1) := by decide +kernel
theorem dX2_takeNumber_182 : decode cX2_takeNumber 182 = .ok (.goto 4, 3) := by decide +kernel
theorem dX2_takeNumber_185 : decode cX2_takeNumber 185 = .ok (.iconst 0, 1) := by decide +kernel
theorem dX2_takeNumber_186 : decode cX2_takeNumber 186 = .ok (.invokevirtual 95, 3) := by decide +kernel
theorem dX2_takeNumber_189 : decode cX2_takeNumber 189 = .ok (.ireturn, 1) := by decide +kernel
theorem dX2_takeNumber_190 : decode cX2_takeNumber 190 = .ok (.aload_n 0, 1) := by decide +kernel
theorem dX2_takeNumber_191 : decode cX2_takeNumber 191 = .ok (.iload_n 3, 1) := by decide +kernel
theorem dX2_takeNumber_192 : decode cX2_takeNumber 192 = .ok (.putfield 108, 3) := by decide +kernel
theorem dX2_takeNumber_195 : decode cX2_takeNumber 195 = .ok (.aload_n 0, 1) := by decide +kernel
theorem dX2_takeNumber_196 : decode cX2_takeNumber 196 = .ok (.iload_n 3, 1) := by decide +kernel
theorem dX2_takeNumber_197 : decode cX2_takeNumber 197 = .ok (.iconst 1, 1) := by decide +kernel
theorem dX2_takeNumber_198 : decode cX2_takeNumber 198 = .ok (.if_icmp .lt 13, 3) := by decide +kernel
theorem dX2_takeNumber_201 : decode cX2_takeNumber 201 = .ok (.iload_n 3, 1) := by decide +kernel
theorem dX2_takeNumber_202 : decode cX2_takeNumber 202 = .ok (.bipush 50, 2) := by decide +kernel
theorem dX2_takeNumber_204 : decode cX2_takeNumber 204 = .ok (.if_icmp .gt 7, 3) := by decide +kernel
theorem dX2_takeNumber_207 : decode cX2_takeNumber 207 = .ok (.iconst 1, 1) := by decide +kernel
theorem dX2_takeNumber_208 : decode cX2_takeNumber 208 = .ok (.goto 4, 3) := by decide +kernel
theorem dX2_takeNumber_211 : decode cX2_takeNumber 211 = .ok (.iconst 0, 1) := by decide +kernel
theorem dX2_takeNumber_212 : decode cX2_takeNumber 212 = .ok (.invokevirtual 95, 3) := by decide +kernel
theorem dX2_takeNumber_215 : decode cX2_takeNumber 215 = .ok (.ireturn, 1) := by decide +kernel
theorem dX2_takeNumber_216 : decode cX2_takeNumber 216 = .ok (.aload_n 0, 1) := by decide +kernel
theorem dX2_takeNumber_217 : decode cX2_takeNumber 217 = .ok (.iload_n 3, 1) := by decide +kernel
theorem dX2_takeNumber_218 : decode cX2_takeNumber 218 = .ok (.invokevirtual 110, 3) := by decide +kernel
theorem dX2_takeNumber_221 : decode cX2_takeNumber 221 = .ok (.ireturn, 1) := by decide +kernel
theorem dX2_takeNumber_222 : decode cX2_takeNumber 222 = .ok (.iconst 1, 1) := by decide +kernel
theorem dX2_takeNumber_223 : decode cX2_takeNumber 223 = .ok (.ireturn, 1) := by decide +kernel
theorem dX2_stepOnIf_0 : decode cX2_stepOnIf 0 = .ok (.iload_n 1, 1) := by decide +kernel
theorem dX2_stepOnIf_1 : decode cX2_stepOnIf 1 = .ok (.ifCond .ne 5, 3) := by decide +kernel
theorem dX2_stepOnIf_4 : decode cX2_stepOnIf 4 = .ok (.iconst 2, 1) := by decide +kernel
theorem dX2_stepOnIf_5 : decode cX2_stepOnIf 5 = .ok (.ireturn, 1) := by decide +kernel
theorem dX2_stepOnIf_6 : decode cX2_stepOnIf 6 = .ok (.aload_n 0, 1) := by decide +kernel
theorem dX2_stepOnIf_7 : decode cX2_stepOnIf 7 = .ok (.dup, 1) := by decide +kernel
theorem dX2_stepOnIf_8 : decode cX2_stepOnIf 8 = .ok (.getfield 31, 3) := by decide +kernel
theorem dX2_stepOnIf_11 : decode cX2_stepOnIf 11 = .ok (.iconst 1, 1) := by decide +kernel
theorem dX2_stepOnIf_12 : decode cX2_stepOnIf 12 = .ok (.iadd, 1) := by decide +kernel
theorem dX2_stepOnIf_13 : decode cX2_stepOnIf 13 = .ok (.putfield 31, 3) := by decide +kernel
theorem dX2_stepOnIf_16 : decode cX2_stepOnIf 16 = .ok (.iconst 0, 1) := by decide +kernel
theorem dX2_stepOnIf_17 : decode cX2_stepOnIf 17 = .ok (.ireturn, 1) := by decide +kernel
theorem dX2_hasSpaceFor_0 : decode cX2_hasSpaceFor 0 = .ok (.iload_n 1, 1) := by decide +kernel
theorem dX2_hasSpaceFor_1 : decode cX2_hasSpaceFor 1 = .ok (.bipush 8, 2) := by decide +kernel
theorem dX2_hasSpaceFor_3 : decode cX2_hasSpaceFor 3 = .ok (.iadd, 1) := by decide +kernel
theorem dX2_hasSpaceFor_4 : decode cX2_hasSpaceFor 4 = .ok (.iconst 1, 1) := by decide +kernel
theorem dX2_hasSpaceFor_5 : decode cX2_hasSpaceFor 5 = .ok (.isub, 1) := by decide +kernel
theorem dX2_hasSpaceFor_6 : decode cX2_hasSpaceFor 6 = .ok (.bipush 8, 2) := by decide +kernel
theorem dX2_hasSpaceFor_8 : decode cX2_hasSpaceFor 8 = .ok (.idiv, 1) := by decide +kernel
theorem dX2_hasSpaceFor_9 : decode cX2_hasSpaceFor 9 = .ok (.istore_n 2, 1) := by decide +kernel
theorem dX2_hasSpaceFor_10 : decode cX2_hasSpaceFor 10 = .ok (.aload_n 0, 1) := by decide +kernel
theorem dX2_hasSpaceFor_11 : decode cX2_hasSpaceFor 11 = .ok (.getfield 92, 3) := by decide +kernel
theorem dX2_hasSpaceFor_14 : decode cX2_hasSpaceFor 14 = .ok (.iconst 2, 1) := by decide +kernel
theorem dX2_hasSpaceFor_15 : decode cX2_hasSpaceFor 15 = .ok (.isub, 1) := by decide +kernel
theorem dX2_hasSpaceFor_16 : decode cX2_hasSpaceFor 16 = .ok (.aload_n 0, 1) := by decide +kernel
theorem dX2_hasSpaceFor_17 : decode cX2_hasSpaceFor 17 = .ok (.getfield 99, 3) := by decide +kernel
theorem dX2_hasSpaceFor_20 : decode cX2_hasSpaceFor 20 = .ok (.imul, 1) := by decide +kernel
theorem dX2_hasSpaceFor_21 : decode cX2_hasSpaceFor 21 = .ok (.iload_n 1, 1) := by decide +kernel
theorem dX2_hasSpaceFor_22 : decode cX2_hasSpaceFor 22 = .ok (.iconst 2, 1) := by decide +kernel
theorem dX2_hasSpaceFor_23 : decode cX2_hasSpaceFor 23 = .ok (.iload_n 2, 1) := by decide +kernel
theorem dX2_hasSpaceFor_24 : decode cX2_hasSpaceFor 24 = .ok (.iconst 1, 1) := by decide +kernel
theorem dX2_hasSpaceFor_25 : decode cX2_hasSpaceFor 25 = .ok (.iadd, 1) := by decide +kernel
theorem dX2_hasSpaceFor_26 : decode cX2_hasSpaceFor 26 = .ok (.imul, 1) := by decide +kernel
theorem dX2_hasSpaceFor_27 : decode cX2_hasSpaceFor 27 = .ok (.iadd, 1) := by decide +kernel
theorem dX2_hasSpaceFor_28 : decode cX2_hasSpaceFor 28 = .ok (.iconst 1, 1) := by decide +kernel
theorem dX2_hasSpaceFor_29 : decode cX2_hasSpaceFor 29 = .ok (.iadd, 1) := by decide +kernel
theorem dX2_hasSpaceFor_30 : decode cX2_hasSpaceFor 30 = .ok (.if_icmp .lt 7, 3) := by decide +kernel
theorem dX2_hasSpaceFor_33 : decode cX2_hasSpaceFor 33 = .ok (.iconst 1, 1) := by decide +kernel
theorem dX2_hasSpaceFor_34 : decode cX2_hasSpaceFor 34 = .ok (.goto 4, 3) := by decide +kernel
theorem dX2_hasSpaceFor_37 : decode cX2_hasSpaceFor 37 = .ok (.iconst 0, 1) := by decide +kernel
theorem dX2_hasSpaceFor_38 : decode cX2_hasSpaceFor 38 = .ok (.ireturn, 1) := by decide +kernel
theorem dX2_takeValue_0 : decode cX2_takeValue 0 = .ok (.aload_n 0, 1) := by decide +kernel
theorem dX2_takeValue_1 : decode cX2_takeValue 1 = .ok (.getfield 28, 3) := by decide +kernel
theorem dX2_takeValue_4 : decode cX2_takeValue 4 = .ok (.aload_n 0, 1) := by decide +kernel
theorem dX2_takeValue_5 : decode cX2_takeValue 5 = .ok (.getfield 102, 3) := by decide +kernel
theorem dX2_takeValue_8 : decode cX2_takeValue 8 = .ok (.if_icmp .ge 12, 3) := by decide +kernel
theorem dX2_takeValue_11 : decode cX2_takeValue 11 = .ok (.aload_n 0, 1) := by decide +kernel
theorem dX2_takeValue_12 : decode cX2_takeValue 12 = .ok (.getfield 28, 3) := by decide +kernel
theorem dX2_takeValue_15 : decode cX2_takeValue 15 = .ok (.bipush 64, 2) := by decide +kernel
theorem dX2_takeValue_17 : decode cX2_takeValue 17 = .ok (.if_icmp .lt 5, 3) := by decide +kernel
theorem dX2_takeValue_20 : decode cX2_takeValue 20 = .ok (.iconst 3, 1) := by decide +kernel
theorem dX2_takeValue_21 : decode cX2_takeValue 21 = .ok (.ireturn, 1) := by decide +kernel
theorem dX2_takeValue_22 : decode cX2_takeValue 22 = .ok (.aload_n 0, 1) := by decide +kernel
theorem dX2_takeValue_23 : decode cX2_takeValue 23 = .ok (.getfield 15, 3) := by decide +kernel
theorem dX2_takeValue_26 : decode cX2_takeValue 26 = .ok (.aload_n 0, 1) := by decide +kernel
theorem dX2_takeValue_27 : decode cX2_takeValue 27 = .ok (.getfield 28, 3) := by decide +kernel
theorem dX2_takeValue_30 : decode cX2_takeValue 30 = .ok (.iload_n 1, 1) := by decide +kernel
theorem dX2_takeValue_31 : decode cX2_takeValue 31 = .ok (.iastore, 1) := by decide +kernel
theorem dX2_takeValue_32 : decode cX2_takeValue 32 = .ok (.aload_n 0, 1) := by decide +kernel
theorem dX2_takeValue_33 : decode cX2_takeValue 33 = .ok (.dup, 1) := by decide +kernel
theorem dX2_takeValue_34 : decode cX2_takeValue 34 = .ok (.getfield 28, 3) := by decide +kernel
theorem dX2_takeValue_37 : decode cX2_takeValue 37 = .ok (.iconst 1, 1) := by decide +kernel
theorem dX2_takeValue_38 : decode cX2_takeValue 38 = .ok (.iadd, 1) := by decide +kernel
theorem dX2_takeValue_39 : decode cX2_takeValue 39 = .ok (.putfield 28, 3) := by decide +kernel
theorem dX2_takeValue_42 : decode cX2_takeValue 42 = .ok (.aload_n 0, 1) := by decide +kernel
theorem dX2_takeValue_43 : decode cX2_takeValue 43 = .ok (.bipush 11, 2) := by decide +kernel
theorem dX2_takeValue_45 : decode cX2_takeValue 45 = .ok (.putfield 31, 3) := by decide +kernel
theorem dX2_takeValue_48 : decode cX2_takeValue 48 = .ok (.iconst 0, 1) := by decide +kernel
theorem dX2_takeValue_49 : decode cX2_takeValue 49 = .ok (.ireturn, 1) := by decide +kernel
theorem dX3_init_0 : decode cX3_init 0 = .ok (.aload_n 0, 1) := by decide +kernel
theorem dX3_init_1 : decode cX3_init 1 = .ok (.invokespecial 3, 3) := by decide +kernel
theorem dX3_init_4 : decode cX3_init 4 = .ok (.aload_n 0, 1) := by decide +kernel
theorem dX3_init_5 : decode cX3_init 5 = .ok (.sipush 1001, 3) := by decide +kernel
theorem dX3_init_8 : decode cX3_init 8 = .ok (.newarray .int, 2) := by decide +kernel
theorem dX3_init_10 : decode cX3_init 10 = .ok (.putfield 9, 3) := by decide +kernel
theorem dX3_init_13 : decode cX3_init 13 = .ok (.return_, 1) := by decide +kernel
theorem dX3_knows_0 : decode cX3_knows 0 = .ok (.iload_n 1, 1) := by decide +kernel
theorem dX3_knows_1 : decode cX3_knows 1 = .ok (.iconst 1, 1) := by decide +kernel
theorem dX3_knows_2 : decode cX3_knows 2 = .ok (.if_icmp .lt 15, 3) := by decide +kernel
theorem dX3_knows_5 : decode cX3_knows 5 = .ok (.iload_n 1, 1) := by decide +kernel
theorem dX3_knows_6 : decode cX3_knows 6 = .ok (.aload_n 0, 1) := by decide +kernel
theorem dX3_knows_7 : decode cX3_knows 7 = .ok (.getfield 15, 3) := by decide +kernel
theorem dX3_knows_10 : decode cX3_knows 10 = .ok (.if_icmp .gt 7, 3) := by decide +kernel
theorem dX3_knows_13 : decode cX3_knows 13 = .ok (.iconst 1, 1) := by decide +kernel
theorem dX3_knows_14 : decode cX3_knows 14 = .ok (.goto 4, 3) := by decide +kernel
theorem dX3_knows_17 : decode cX3_knows 17 = .ok (.iconst 0, 1) := by decide +kernel
theorem dX3_knows_18 : decode cX3_knows 18 = .ok (.ireturn, 1) := by decide +kernel
theorem dX3_stateOf_0 : decode cX3_stateOf 0 = .ok (.aload_n 0, 1) := by decide +kernel
theorem dX3_stateOf_1 : decode cX3_stateOf 1 = .ok (.iload_n 1, 1) := by decide +kernel
theorem dX3_stateOf_2 : decode cX3_stateOf 2 = .ok (.invokevirtual 19, 3) := by decide +kernel
theorem dX3_stateOf_5 : decode cX3_stateOf 5 = .ok (.ifCond .eq 12, 3) := by decide +kernel
theorem dX3_stateOf_8 : decode cX3_stateOf 8 = .ok (.aload_n 0, 1) := by decide +kernel
theorem dX3_stateOf_9 : decode cX3_stateOf 9 = .ok (.getfield 9, 3) := by decide +kernel
theorem dX3_stateOf_12 : decode cX3_stateOf 12 = .ok (.iload_n 1, 1) := by decide +kernel
theorem dX3_stateOf_13 : decode cX3_stateOf 13 = .ok (.iaload, 1) := by decide +kernel
theorem dX3_stateOf_14 : decode cX3_stateOf 14 = .ok (.goto 4, 3) := by decide +kernel
theorem dX3_stateOf_17 : decode cX3_stateOf 17 = .ok (.iconst 0, 1) := by decide +kernel
theorem dX3_stateOf_18 : decode cX3_stateOf 18 = .ok (.ireturn, 1) := by decide +kernel
theorem dX3_isOpen_0 : decode cX3_isOpen 0 = .ok (.aload_n 0, 1) := by decide +kernel
theorem dX3_isOpen_1 : decode cX3_isOpen 1 = .ok (.iload_n 1, 1) := by decide +kernel
theorem dX3_isOpen_2 : decode cX3_isOpen 2 = .ok (.invokevirtual 23, 3) := by decide +kernel
theorem dX3_isOpen_5 : decode cX3_isOpen 5 = .ok (.iconst 1, 1) := by decide +kernel
theorem dX3_isOpen_6 : decode cX3_isOpen 6 = .ok (.if_icmp .ne 7, 3) := by decide +kernel
theorem dX3_isOpen_9 : decode cX3_isOpen 9 = .ok (.iconst 1, 1) := by decide +kernel
theorem dX3_isOpen_10 : decode cX3_isOpen 10 = .ok (.goto 4, 3) := by decide +kernel
theorem dX3_isOpen_13 : decode cX3_isOpen 13 = .ok (.iconst 0, 1) := by decide +kernel
theorem dX3_isOpen_14 : decode cX3_isOpen 14 = .ok (.ireturn, 1) := by decide +kernel
theorem dX3_countOpen_0 : decode cX3_countOpen 0 = .ok (.iconst 0, 1) := by decide +kernel
theorem dX3_countOpen_1 : decode cX3_countOpen 1 = .ok (.istore_n 1, 1) := by decide +kernel
theorem dX3_countOpen_2 : decode cX3_countOpen 2 = .ok (.iconst 1, 1) := by decide +kernel
theorem dX3_countOpen_3 : decode cX3_countOpen 3 = .ok (.istore_n 2, 1) := by decide +kernel
theorem dX3_countOpen_4 : decode cX3_countOpen 4 = .ok (.iload_n 2, 1) := by decide +kernel
theorem dX3_countOpen_5 : decode cX3_countOpen 5 = .ok (.aload_n 0, 1) := by decide +kernel
theorem dX3_countOpen_6 : decode cX3_countOpen 6 = .ok (.getfield 15, 3) := by decide +kernel
theorem dX3_countOpen_9 : decode cX3_countOpen 9 = .ok (.if_icmp .gt 22, 3) := by decide +kernel
theorem dX3_countOpen_12 : decode cX3_countOpen 12 = .ok (.aload_n 0, 1) := by decide +kernel
theorem dX3_countOpen_13 : decode cX3_countOpen 13 = .ok (.getfield 9, 3) := by decide +kernel
theorem dX3_countOpen_16 : decode cX3_countOpen 16 = .ok (.iload_n 2, 1) := by decide +kernel
theorem dX3_countOpen_17 : decode cX3_countOpen 17 = .ok (.iaload, 1) := by decide +kernel
theorem dX3_countOpen_18 : decode cX3_countOpen 18 = .ok (.iconst 1, 1) := by decide +kernel
theorem dX3_countOpen_19 : decode cX3_countOpen 19 = .ok (.if_icmp .ne 6, 3) := by decide +kernel
theorem dX3_countOpen_22 : decode cX3_countOpen 22 = .ok (.iinc 1 1, 3) := by decide +kernel
theorem dX3_countOpen_25 : decode cX3_countOpen 25 = .ok (.iinc 2 1, 3) := by decide +kernel
theorem dX3_countOpen_28 : decode cX3_countOpen 28 = .ok (.goto (-24), 3) := by decide +kernel
theorem dX3_countOpen_31 : decode cX3_countOpen 31 = .ok (.iload_n 1, 1) := by decide +kernel
theorem dX3_countOpen_32 : decode cX3_countOpen 32 = .ok (.ireturn, 1) := by decide +kernel
theorem dX3_open_0 : decode cX3_open 0 = .ok (.aload_n 0, 1) := by decide +kernel
theorem dX3_open_1 : decode cX3_open 1 = .ok (.getfield 15, 3) := by decide +kernel
theorem dX3_open_4 : decode cX3_open 4 = .ok (.sipush 1000, 3) := by decide +kernel
theorem dX3_open_7 : decode cX3_open 7 = .ok (.if_icmp .ge 23, 3) := by decide +kernel
theorem dX3_open_10 : decode cX3_open 10 = .ok (.aload_n 0, 1) := by decide +kernel
theorem dX3_open_11 : decode cX3_open 11 = .ok (.dup, 1) := by decide +kernel
theorem dX3_open_12 : decode cX3_open 12 = .ok (.getfield 15, 3) := by decide +kernel
theorem dX3_open_15 : decode cX3_open 15 = .ok (.iconst 1, 1) := by decide +kernel
theorem dX3_open_16 : decode cX3_open 16 = .ok (.iadd, 1) := by decide +kernel
theorem dX3_open_17 : decode cX3_open 17 = .ok (.putfield 15, 3) := by decide +kernel
theorem dX3_open_20 : decode cX3_open 20 = .ok (.aload_n 0, 1) := by decide +kernel
theorem dX3_open_21 : decode cX3_open 21 = .ok (.getfield 9, 3) := by decide +kernel
theorem dX3_open_24 : decode cX3_open 24 = .ok (.aload_n 0, 1) := by decide +kernel
theorem dX3_open_25 : decode cX3_open 25 = .ok (.getfield 15, 3) := by decide +kernel
theorem dX3_open_28 : decode cX3_open 28 = .ok (.iconst 1, 1) := by decide +kernel
theorem dX3_open_29 : decode cX3_open 29 = .ok (.iastore, 1) := by decide +kernel
theorem dX3_open_30 : decode cX3_open 30 = .ok (.aload_n 0, 1) := by decide +kernel
theorem dX3_open_31 : decode cX3_open 31 = .ok (.getfield 15, 3) := by decide +kernel
theorem dX3_open_34 : decode cX3_open 34 = .ok (.ireturn, 1) := by decide +kernel
theorem dX3_close_0 : decode cX3_close 0 = .ok (.aload_n 0, 1) := by decide +kernel
theorem dX3_close_1 : decode cX3_close 1 = .ok (.iload_n 1, 1) := by decide +kernel
theorem dX3_close_2 : decode cX3_close 2 = .ok (.invokevirtual 19, 3) := by decide +kernel
theorem dX3_close_5 : decode cX3_close 5 = .ok (.ifCond .eq 10, 3) := by decide +kernel
theorem dX3_close_8 : decode cX3_close 8 = .ok (.aload_n 0, 1) := by decide +kernel
theorem dX3_close_9 : decode cX3_close 9 = .ok (.getfield 9, 3) := by decide +kernel
theorem dX3_close_12 : decode cX3_close 12 = .ok (.iload_n 1, 1) := by decide +kernel
theorem dX3_close_13 : decode cX3_close 13 = .ok (.iload_n 2, 1) := by decide +kernel
theorem dX3_close_14 : decode cX3_close 14 = .ok (.iastore, 1) := by decide +kernel
theorem dX3_close_15 : decode cX3_close 15 = .ok (.return_, 1) := by decide +kernel
theorem dX3_loseOpen_0 : decode cX3_loseOpen 0 = .ok (.iconst 1, 1) := by decide +kernel
theorem dX3_loseOpen_1 : decode cX3_loseOpen 1 = .ok (.istore_n 1, 1) := by decide +kernel
theorem dX3_loseOpen_2 : decode cX3_loseOpen 2 = .ok (.iload_n 1, 1) := by decide +kernel
theorem dX3_loseOpen_3 : decode cX3_loseOpen 3 = .ok (.aload_n 0, 1) := by decide +kernel
theorem dX3_loseOpen_4 : decode cX3_loseOpen 4 = .ok (.getfield 15, 3) := by decide +kernel
theorem dX3_loseOpen_7 : decode cX3_loseOpen 7 = .ok (.if_icmp .gt 26, 3) := by decide +kernel
theorem dX3_loseOpen_10 : decode cX3_loseOpen 10 = .ok (.aload_n 0, 1) := by decide +kernel
theorem dX3_loseOpen_11 : decode cX3_loseOpen 11 = .ok (.getfield 9, 3) := by decide +kernel
theorem dX3_loseOpen_14 : decode cX3_loseOpen 14 = .ok (.iload_n 1, 1) := by decide +kernel
theorem dX3_loseOpen_15 : decode cX3_loseOpen 15 = .ok (.iaload, 1) := by decide +kernel
theorem dX3_loseOpen_16 : decode cX3_loseOpen 16 = .ok (.iconst 1, 1) := by decide +kernel
theorem dX3_loseOpen_17 : decode cX3_loseOpen 17 = .ok (.if_icmp .ne 10, 3) := by decide +kernel
theorem dX3_loseOpen_20 : decode cX3_loseOpen 20 = .ok (.aload_n 0, 1) := by decide +kernel
theorem dX3_loseOpen_21 : decode cX3_loseOpen 21 = .ok (.getfield 9, 3) := by decide +kernel
theorem dX3_loseOpen_24 : decode cX3_loseOpen 24 = .ok (.iload_n 1, 1) := by decide +kernel
theorem dX3_loseOpen_25 : decode cX3_loseOpen 25 = .ok (.iconst 4, 1) := by decide +kernel
theorem dX3_loseOpen_26 : decode cX3_loseOpen 26 = .ok (.iastore, 1) := by decide +kernel
theorem dX3_loseOpen_27 : decode cX3_loseOpen 27 = .ok (.iinc 1 1, 3) := by decide +kernel
theorem dX3_loseOpen_30 : decode cX3_loseOpen 30 = .ok (.goto (-28), 3) := by decide +kernel
theorem dX3_loseOpen_33 : decode cX3_loseOpen 33 = .ok (.return_, 1) := by decide +kernel
theorem dX4_init_0 : decode cX4_init 0 = .ok (.aload_n 0, 1) := by decide +kernel
theorem dX4_init_1 : decode cX4_init 1 = .ok (.invokespecial 3, 3) := by decide +kernel
theorem dX4_init_4 : decode cX4_init 4 = .ok (.aload_n 0, 1) := by decide +kernel
theorem dX4_init_5 : decode cX4_init 5 = .ok (.bipush 64, 2) := by decide +kernel
theorem dX4_init_7 : decode cX4_init 7 = .ok (.newarray .int, 2) := by decide +kernel
theorem dX4_init_9 : decode cX4_init 9 = .ok (.putfield 9, 3) := by decide +kernel
theorem dX4_init_12 : decode cX4_init 12 = .ok (.aload_n 0, 1) := by decide +kernel
theorem dX4_init_13 : decode cX4_init 13 = .ok (.bipush 64, 2) := by decide +kernel
theorem dX4_init_15 : decode cX4_init 15 = .ok (.newarray .int, 2) := by decide +kernel
theorem dX4_init_17 : decode cX4_init 17 = .ok (.putfield 15, 3) := by decide +kernel
theorem dX4_init_20 : decode cX4_init 20 = .ok (.aload_n 0, 1) := by decide +kernel
theorem dX4_init_21 : decode cX4_init 21 = .ok (.bipush 64, 2) := by decide +kernel
theorem dX4_init_23 : decode cX4_init 23 = .ok (.newarray .int, 2) := by decide +kernel
theorem dX4_init_25 : decode cX4_init 25 = .ok (.putfield 18, 3) := by decide +kernel
theorem dX4_init_28 : decode cX4_init 28 = .ok (.aload_n 0, 1) := by decide +kernel
theorem dX4_init_29 : decode cX4_init 29 = .ok (.sipush 256, 3) := by decide +kernel
theorem dX4_init_32 : decode cX4_init 32 = .ok (.newarray .int, 2) := by decide +kernel
theorem dX4_init_34 : decode cX4_init 34 = .ok (.putfield 21, 3) := by decide +kernel
theorem dX4_init_37 : decode cX4_init 37 = .ok (.return_, 1) := by decide +kernel
theorem dX4_clearAll_0 : decode cX4_clearAll 0 = .ok (.aload_n 0, 1) := by decide +kernel
theorem dX4_clearAll_1 : decode cX4_clearAll 1 = .ok (.iload_n 1, 1) := by decide +kernel
theorem dX4_clearAll_2 : decode cX4_clearAll 2 = .ok (.putfield 24, 3) := by decide +kernel
theorem dX4_clearAll_5 : decode cX4_clearAll 5 = .ok (.aload_n 0, 1) := by decide +kernel
theorem dX4_clearAll_6 : decode cX4_clearAll 6 = .ok (.iload_n 1, 1) := by decide +kernel
theorem dX4_clearAll_7 : decode cX4_clearAll 7 = .ok (.bipush 8, 2) := by decide +kernel
theorem dX4_clearAll_9 : decode cX4_clearAll 9 = .ok (.iadd, 1) := by decide +kernel
theorem dX4_clearAll_10 : decode cX4_clearAll 10 = .ok (.iconst 1, 1) := by decide +kernel
theorem dX4_clearAll_11 : decode cX4_clearAll 11 = .ok (.isub, 1) := by decide +kernel
theorem dX4_clearAll_12 : decode cX4_clearAll 12 = .ok (.bipush 8, 2) := by decide +kernel
theorem dX4_clearAll_14 : decode cX4_clearAll 14 = .ok (.idiv, 1) := by decide +kernel
theorem dX4_clearAll_15 : decode cX4_clearAll 15 = .ok (.putfield 28, 3) := by decide +kernel
theorem dX4_clearAll_18 : decode cX4_clearAll 18 = .ok (.aload_n 0, 1) := by decide +kernel
theorem dX4_clearAll_19 : decode cX4_clearAll 19 = .ok (.invokevirtual 31, 3) := by decide +kernel
theorem dX4_clearAll_22 : decode cX4_clearAll 22 = .ok (.return_, 1) := by decide +kernel
theorem dX4_forget_0 : decode cX4_forget 0 = .ok (.iconst 0, 1) := by decide +kernel
theorem dX4_forget_1 : decode cX4_forget 1 = .ok (.istore_n 1, 1) := by decide +kernel
theorem dX4_forget_2 : decode cX4_forget 2 = .ok (.iload_n 1, 1) := by decide +kernel
theorem dX4_forget_3 : decode cX4_forget 3 = .ok (.bipush 64, 2) := by decide +kernel
theorem dX4_forget_5 : decode cX4_forget 5 = .ok (.if_icmp .ge 30, 3) := by decide +kernel
theorem dX4_forget_8 : decode cX4_forget 8 = .ok (.aload_n 0, 1) := by decide +kernel
theorem dX4_forget_9 : decode cX4_forget 9 = .ok (.getfield 9, 3) := by decide +kernel
theorem dX4_forget_12 : decode cX4_forget 12 = .ok (.iload_n 1, 1) := by decide +kernel
theorem dX4_forget_13 : decode cX4_forget 13 = .ok (.iconst 0, 1) := by decide +kernel
theorem dX4_forget_14 : decode cX4_forget 14 = .ok (.iastore, 1) := by decide +kernel
theorem dX4_forget_15 : decode cX4_forget 15 = .ok (.aload_n 0, 1) := by decide +kernel
theorem dX4_forget_16 : decode cX4_forget 16 = .ok (.getfield 15, 3) := by decide +kernel
theorem dX4_forget_19 : decode cX4_forget 19 = .ok (.iload_n 1, 1) := by decide +kernel
theorem dX4_forget_20 : decode cX4_forget 20 = .ok (.iconst 0, 1) := by decide +kernel
theorem dX4_forget_21 : decode cX4_forget 21 = .ok (.iastore, 1) := by decide +kernel
theorem dX4_forget_22 : decode cX4_forget 22 = .ok (.aload_n 0, 1) := by decide +kernel
theorem dX4_forget_23 : decode cX4_forget 23 = .ok (.getfield 18, 3) := by decide +kernel
theorem dX4_forget_26 : decode cX4_forget 26 = .ok (.iload_n 1, 1) := by decide +kernel
theorem dX4_forget_27 : decode cX4_forget 27 = .ok (.iconst 0, 1) := by decide +kernel
theorem dX4_forget_28 : decode cX4_forget 28 = .ok (.iastore, 1) := by decide +kernel
theorem dX4_forget_29 : decode cX4_forget 29 = .ok (.iinc 1 1, 3) := by decide +kernel
theorem dX4_forget_32 : decode cX4_forget 32 = .ok (.goto (-30), 3) := by decide +kernel
theorem dX4_forget_35 : decode cX4_forget 35 = .ok (.aload_n 0, 1) := by decide +kernel
theorem dX4_forget_36 : decode cX4_forget 36 = .ok (.iconst 0, 1) := by decide +kernel
theorem dX4_forget_37 : decode cX4_forget 37 = .ok (.putfield 34, 3) := by decide +kernel
theorem dX4_forget_40 : decode cX4_forget 40 = .ok (.return_, 1) := by decide +kernel
theorem dX4_has_0 : decode cX4_has 0 = .ok (.iload_n 1, 1) := by decide +kernel
theorem dX4_has_1 : decode cX4_has 1 = .ok (.ifCond .lt 15, 3) := by decide +kernel
theorem dX4_has_4 : decode cX4_has 4 = .ok (.iload_n 1, 1) := by decide +kernel
theorem dX4_has_5 : decode cX4_has 5 = .ok (.aload_n 0, 1) := by decide +kernel
theorem dX4_has_6 : decode cX4_has 6 = .ok (.getfield 24, 3) := by decide +kernel
theorem dX4_has_9 : decode cX4_has 9 = .ok (.if_icmp .ge 7, 3) := by decide +kernel
theorem dX4_has_12 : decode cX4_has 12 = .ok (.iconst 1, 1) := by decide +kernel
theorem dX4_has_13 : decode cX4_has 13 = .ok (.goto 4, 3) := by decide +kernel
theorem dX4_has_16 : decode cX4_has 16 = .ok (.iconst 0, 1) := by decide +kernel
theorem dX4_has_17 : decode cX4_has 17 = .ok (.ireturn, 1) := by decide +kernel
theorem dX4_versionSeenBy_0 : decode cX4_versionSeenBy 0 = .ok (.aload_n 0, 1) := by decide +kernel
theorem dX4_versionSeenBy_1 : decode cX4_versionSeenBy 1 = .ok (.iload_n 2, 1) := by decide +kernel
theorem dX4_versionSeenBy_2 : decode cX4_versionSeenBy 2 = .ok (.invokevirtual 37, 3) := by decide +kernel
theorem dX4_versionSeenBy_5 : decode cX4_versionSeenBy 5 = .ok (.ifCond .ne 5, 3) := by decide +kernel
theorem dX4_versionSeenBy_8 : decode cX4_versionSeenBy 8 = .ok (.iconst 0, 1) := by decide +kernel
theorem dX4_versionSeenBy_9 : decode cX4_versionSeenBy 9 = .ok (.ireturn, 1) := by decide +kernel
theorem dX4_versionSeenBy_10 : decode cX4_versionSeenBy 10 = .ok (.iload_n 1, 1) := by decide +kernel
theorem dX4_versionSeenBy_11 : decode cX4_versionSeenBy 11 = .ok (.ifCond .eq 22, 3) := by decide +kernel
theorem dX4_versionSeenBy_14 : decode cX4_versionSeenBy 14 = .ok (.aload_n 0, 1) := by decide +kernel
theorem dX4_versionSeenBy_15 : decode cX4_versionSeenBy 15 = .ok (.getfield 18, 3) := by decide +kernel
theorem dX4_versionSeenBy_18 : decode cX4_versionSeenBy 18 = .ok (.iload_n 2, 1) := by decide +kernel
theorem dX4_versionSeenBy_19 : decode cX4_versionSeenBy 19 = .ok (.iaload, 1) := by decide +kernel
theorem dX4_versionSeenBy_20 : decode cX4_versionSeenBy 20 = .ok (.iload_n 1, 1) := by decide +kernel
theorem dX4_versionSeenBy_21 : decode cX4_versionSeenBy 21 = .ok (.if_icmp .ne 12, 3) := by decide +kernel
theorem dX4_versionSeenBy_24 : decode cX4_versionSeenBy 24 = .ok (.aload_n 0, 1) := by decide +kernel
theorem dX4_versionSeenBy_25 : decode cX4_versionSeenBy 25 = .ok (.getfield 15, 3) := by decide +kernel
theorem dX4_versionSeenBy_28 : decode cX4_versionSeenBy 28 = .ok (.iload_n 2, 1) := by decide +kernel
theorem dX4_versionSeenBy_29 : decode cX4_versionSeenBy 29 = .ok (.iaload, 1) := by decide +kernel
theorem dX4_versionSeenBy_30 : decode cX4_versionSeenBy 30 = .ok (.goto 9, 3) := by decide +kernel
theorem dX4_versionSeenBy_33 : decode cX4_versionSeenBy 33 = .ok (.aload_n 0, 1) := by decide +kernel
theorem dX4_versionSeenBy_34 : decode cX4_versionSeenBy 34 = .ok (.getfield 9, 3) := by decide +kernel
theorem dX4_versionSeenBy_37 : decode cX4_versionSeenBy 37 = .ok (.iload_n 2, 1) := by decide +kernel
theorem dX4_versionSeenBy_38 : decode cX4_versionSeenBy 38 = .ok (.iaload, 1) := by decide +kernel
theorem dX4_versionSeenBy_39 : decode cX4_versionSeenBy 39 = .ok (.ireturn, 1) := by decide +kernel
theorem dX4_setCommitted_0 : decode cX4_setCommitted 0 = .ok (.aload_n 0, 1) := by decide +kernel
theorem dX4_setCommitted_1 : decode cX4_setCommitted 1 = .ok (.iload_n 1, 1) := by decide +kernel
theorem dX4_setCommitted_2 : decode cX4_setCommitted 2 = .ok (.invokevirtual 37, 3) := by decide +kernel
theorem dX4_setCommitted_5 : decode cX4_setCommitted 5 = .ok (.ifCond .eq 10, 3) := by decide +kernel
theorem dX4_setCommitted_8 : decode cX4_setCommitted 8 = .ok (.aload_n 0, 1) := by decide +kernel
theorem dX4_setCommitted_9 : decode cX4_setCommitted 9 = .ok (.getfield 9, 3) := by decide +kernel
theorem dX4_setCommitted_12 : decode cX4_setCommitted 12 = .ok (.iload_n 1, 1) := by decide +kernel
theorem dX4_setCommitted_13 : decode cX4_setCommitted 13 = .ok (.iload_n 2, 1) := by decide +kernel
theorem dX4_setCommitted_14 : decode cX4_setCommitted 14 = .ok (.iastore, 1) := by decide +kernel
theorem dX4_setCommitted_15 : decode cX4_setCommitted 15 = .ok (.return_, 1) := by decide +kernel
theorem dX4_countWritten_0 : decode cX4_countWritten 0 = .ok (.iconst 0, 1) := by decide +kernel
theorem dX4_countWritten_1 : decode cX4_countWritten 1 = .ok (.istore_n 1, 1) := by decide +kernel
theorem dX4_countWritten_2 : decode cX4_countWritten 2 = .ok (.iconst 0, 1) := by decide +kernel
theorem dX4_countWritten_3 : decode cX4_countWritten 3 = .ok (.istore_n 2, 1) := by decide +kernel
theorem dX4_countWritten_4 : decode cX4_countWritten 4 = .ok (.iload_n 2, 1) := by decide +kernel
theorem dX4_countWritten_5 : decode cX4_countWritten 5 = .ok (.aload_n 0, 1) := by decide +kernel
theorem dX4_countWritten_6 : decode cX4_countWritten 6 = .ok (.getfield 24, 3) := by decide +kernel
theorem dX4_countWritten_9 : decode cX4_countWritten 9 = .ok (.if_icmp .ge 21, 3) := by decide +kernel
theorem dX4_countWritten_12 : decode cX4_countWritten 12 = .ok (.aload_n 0, 1) := by decide +kernel
theorem dX4_countWritten_13 : decode cX4_countWritten 13 = .ok (.getfield 9, 3) := by decide +kernel
theorem dX4_countWritten_16 : decode cX4_countWritten 16 = .ok (.iload_n 2, 1) := by decide +kernel
theorem dX4_countWritten_17 : decode cX4_countWritten 17 = .ok (.iaload, 1) := by decide +kernel
theorem dX4_countWritten_18 : decode cX4_countWritten 18 = .ok (.ifCond .eq 6, 3) := by decide +kernel
theorem dX4_countWritten_21 : decode cX4_countWritten 21 = .ok (.iinc 1 1, 3) := by decide +kernel
theorem dX4_countWritten_24 : decode cX4_countWritten 24 = .ok (.iinc 2 1, 3) := by decide +kernel
theorem dX4_countWritten_27 : decode cX4_countWritten 27 = .ok (.goto (-23), 3) := by decide +kernel
theorem dX4_countWritten_30 : decode cX4_countWritten 30 = .ok (.iload_n 1, 1) := by decide +kernel
theorem dX4_countWritten_31 : decode cX4_countWritten 31 = .ok (.ireturn, 1) := by decide +kernel
theorem dX4_ownerOf_0 : decode cX4_ownerOf 0 = .ok (.aload_n 0, 1) := by decide +kernel
theorem dX4_ownerOf_1 : decode cX4_ownerOf 1 = .ok (.iload_n 1, 1) := by decide +kernel
theorem dX4_ownerOf_2 : decode cX4_ownerOf 2 = .ok (.invokevirtual 37, 3) := by decide +kernel
theorem dX4_ownerOf_5 : decode cX4_ownerOf 5 = .ok (.ifCond .eq 12, 3) := by decide +kernel
theorem dX4_ownerOf_8 : decode cX4_ownerOf 8 = .ok (.aload_n 0, 1) := by decide +kernel
theorem dX4_ownerOf_9 : decode cX4_ownerOf 9 = .ok (.getfield 18, 3) := by decide +kernel
theorem dX4_ownerOf_12 : decode cX4_ownerOf 12 = .ok (.iload_n 1, 1) := by decide +kernel
theorem dX4_ownerOf_13 : decode cX4_ownerOf 13 = .ok (.iaload, 1) := by decide +kernel
theorem dX4_ownerOf_14 : decode cX4_ownerOf 14 = .ok (.goto 4, 3) := by decide +kernel
theorem dX4_ownerOf_17 : decode cX4_ownerOf 17 = .ok (.iconst 0, 1) := by decide +kernel
theorem dX4_ownerOf_18 : decode cX4_ownerOf 18 = .ok (.ireturn, 1) := by decide +kernel
theorem dX4_isLockedAgainst_0 : decode cX4_isLockedAgainst 0 = .ok (.aload_n 0, 1) := by decide +kernel
theorem dX4_isLockedAgainst_1 : decode cX4_isLockedAgainst 1 = .ok (.iload_n 1, 1) := by decide +kernel
theorem dX4_isLockedAgainst_2 : decode cX4_isLockedAgainst 2 = .ok (.invokevirtual 41, 3) := by decide +kernel
theorem dX4_isLockedAgainst_5 : decode cX4_isLockedAgainst 5 = .ok (.istore_n 3, 1) := by decide +kernel
theorem dX4_isLockedAgainst_6 : decode cX4_isLockedAgainst 6 = .ok (.iload_n 3, 1) := by decide +kernel
theorem dX4_isLockedAgainst_7 : decode cX4_isLockedAgainst 7 = .ok (.ifCond .eq 12, 3) := by decide +kernel
theorem dX4_isLockedAgainst_10 : decode cX4_isLockedAgainst 10 = .ok (.iload_n 3, 1) := by decide +kernel
theorem dX4_isLockedAgainst_11 : decode cX4_isLockedAgainst 11 = .ok (.iload_n 2, 1) := by decide +kernel
theorem dX4_isLockedAgainst_12 : decode cX4_isLockedAgainst 12 = .ok (.if_icmp .eq 7, 3) := by decide +kernel
theorem dX4_isLockedAgainst_15 : decode cX4_isLockedAgainst 15 = .ok (.iconst 1, 1) := by decide +kernel
theorem dX4_isLockedAgainst_16 : decode cX4_isLockedAgainst 16 = .ok (.goto 4, 3) := by decide +kernel
theorem dX4_isLockedAgainst_19 : decode cX4_isLockedAgainst 19 = .ok (.iconst 0, 1) := by decide +kernel
theorem dX4_isLockedAgainst_20 : decode cX4_isLockedAgainst 20 = .ok (.ireturn, 1) := by decide +kernel
theorem dX4_putInShadow_0 : decode cX4_putInShadow 0 = .ok (.aload_n 0, 1) := by decide +kernel
theorem dX4_putInShadow_1 : decode cX4_putInShadow 1 = .ok (.iload_n 2, 1) := by decide +kernel
theorem dX4_putInShadow_2 : decode cX4_putInShadow 2 = .ok (.invokevirtual 37, 3) := by decide +kernel
theorem dX4_putInShadow_5 : decode cX4_putInShadow 5 = .ok (.ifCond .eq 17, 3) := by decide +kernel
theorem dX4_putInShadow_8 : decode cX4_putInShadow 8 = .ok (.aload_n 0, 1) := by decide +kernel
theorem dX4_putInShadow_9 : decode cX4_putInShadow 9 = .ok (.getfield 18, 3) := by decide +kernel
theorem dX4_putInShadow_12 : decode cX4_putInShadow 12 = .ok (.iload_n 2, 1) := by decide +kernel
theorem dX4_putInShadow_13 : decode cX4_putInShadow 13 = .ok (.iload_n 1, 1) := by decide +kernel
theorem dX4_putInShadow_14 : decode cX4_putInShadow 14 = .ok (.iastore, 1) := by decide +kernel
theorem dX4_putInShadow_15 : decode cX4_putInShadow 15 = .ok (.aload_n 0, 1) := by decide +kernel
theorem dX4_putInShadow_16 : decode cX4_putInShadow 16 = .ok (.getfield 15, 3) := by decide +kernel
theorem dX4_putInShadow_19 : decode cX4_putInShadow 19 = .ok (.iload_n 2, 1) := by decide +kernel
theorem dX4_putInShadow_20 : decode cX4_putInShadow 20 = .ok (.iload_n 3, 1) := by decide +kernel
theorem dX4_putInShadow_21 : decode cX4_putInShadow 21 = .ok (.iastore, 1) := by decide +kernel
theorem dX4_putInShadow_22 : decode cX4_putInShadow 22 = .ok (.return_, 1) := by decide +kernel
theorem dX4_countLocked_0 : decode cX4_countLocked 0 = .ok (.iconst 0, 1) := by decide +kernel
theorem dX4_countLocked_1 : decode cX4_countLocked 1 = .ok (.istore_n 2, 1) := by decide +kernel
theorem dX4_countLocked_2 : decode cX4_countLocked 2 = .ok (.iconst 0, 1) := by decide +kernel
theorem dX4_countLocked_3 : decode cX4_countLocked 3 = .ok (.istore_n 3, 1) := by decide +kernel
theorem dX4_countLocked_4 : decode cX4_countLocked 4 = .ok (.iload_n 3, 1) := by decide +kernel
theorem dX4_countLocked_5 : decode cX4_countLocked 5 = .ok (.aload_n 0, 1) := by decide +kernel
theorem dX4_countLocked_6 : decode cX4_countLocked 6 = .ok (.getfield 24, 3) := by decide +kernel
theorem dX4_countLocked_9 : decode cX4_countLocked 9 = .ok (.if_icmp .ge 22, 3) := by decide +kernel
theorem dX4_countLocked_12 : decode cX4_countLocked 12 = .ok (.aload_n 0, 1) := by decide +kernel
theorem dX4_countLocked_13 : decode cX4_countLocked 13 = .ok (.getfield 18, 3) := by decide +kernel
theorem dX4_countLocked_16 : decode cX4_countLocked 16 = .ok (.iload_n 3, 1) := by decide +kernel
theorem dX4_countLocked_17 : decode cX4_countLocked 17 = .ok (.iaload, 1) := by decide +kernel
theorem dX4_countLocked_18 : decode cX4_countLocked 18 = .ok (.iload_n 1, 1) := by decide +kernel
theorem dX4_countLocked_19 : decode cX4_countLocked 19 = .ok (.if_icmp .ne 6, 3) := by decide +kernel
theorem dX4_countLocked_22 : decode cX4_countLocked 22 = .ok (.iinc 2 1, 3) := by decide +kernel
theorem dX4_countLocked_25 : decode cX4_countLocked 25 = .ok (.iinc 3 1, 3) := by decide +kernel
theorem dX4_countLocked_28 : decode cX4_countLocked 28 = .ok (.goto (-24), 3) := by decide +kernel
theorem dX4_countLocked_31 : decode cX4_countLocked 31 = .ok (.iload_n 2, 1) := by decide +kernel
theorem dX4_countLocked_32 : decode cX4_countLocked 32 = .ok (.ireturn, 1) := by decide +kernel
theorem dX4_release_0 : decode cX4_release 0 = .ok (.iconst 0, 1) := by decide +kernel
theorem dX4_release_1 : decode cX4_release 1 = .ok (.istore_n 2, 1) := by decide +kernel
theorem dX4_release_2 : decode cX4_release 2 = .ok (.iload_n 2, 1) := by decide +kernel
theorem dX4_release_3 : decode cX4_release 3 = .ok (.aload_n 0, 1) := by decide +kernel
theorem dX4_release_4 : decode cX4_release 4 = .ok (.getfield 24, 3) := by decide +kernel
theorem dX4_release_7 : decode cX4_release 7 = .ok (.if_icmp .ge 33, 3) := by decide +kernel
theorem dX4_release_10 : decode cX4_release 10 = .ok (.aload_n 0, 1) := by decide +kernel
theorem dX4_release_11 : decode cX4_release 11 = .ok (.getfield 18, 3) := by decide +kernel
theorem dX4_release_14 : decode cX4_release 14 = .ok (.iload_n 2, 1) := by decide +kernel
theorem dX4_release_15 : decode cX4_release 15 = .ok (.iaload, 1) := by decide +kernel
theorem dX4_release_16 : decode cX4_release 16 = .ok (.iload_n 1, 1) := by decide +kernel
theorem dX4_release_17 : decode cX4_release 17 = .ok (.if_icmp .ne 17, 3) := by decide +kernel
theorem dX4_release_20 : decode cX4_release 20 = .ok (.aload_n 0, 1) := by decide +kernel
theorem dX4_release_21 : decode cX4_release 21 = .ok (.getfield 18, 3) := by decide +kernel
theorem dX4_release_24 : decode cX4_release 24 = .ok (.iload_n 2, 1) := by decide +kernel
theorem dX4_release_25 : decode cX4_release 25 = .ok (.iconst 0, 1) := by decide +kernel
theorem dX4_release_26 : decode cX4_release 26 = .ok (.iastore, 1) := by decide +kernel
theorem dX4_release_27 : decode cX4_release 27 = .ok (.aload_n 0, 1) := by decide +kernel
theorem dX4_release_28 : decode cX4_release 28 = .ok (.getfield 15, 3) := by decide +kernel
theorem dX4_release_31 : decode cX4_release 31 = .ok (.iload_n 2, 1) := by decide +kernel
theorem dX4_release_32 : decode cX4_release 32 = .ok (.iconst 0, 1) := by decide +kernel
theorem dX4_release_33 : decode cX4_release 33 = .ok (.iastore, 1) := by decide +kernel
theorem dX4_release_34 : decode cX4_release 34 = .ok (.iinc 2 1, 3) := by decide +kernel
theorem dX4_release_37 : decode cX4_release 37 = .ok (.goto (-35), 3) := by decide +kernel
theorem dX4_release_40 : decode cX4_release 40 = .ok (.return_, 1) := by decide +kernel
theorem dX4_commitShadows_0 : decode cX4_commitShadows 0 = .ok (.iconst 0, 1) := by decide +kernel
theorem dX4_commitShadows_1 : decode cX4_commitShadows 1 = .ok (.istore_n 2, 1) := by decide +kernel
theorem dX4_commitShadows_2 : decode cX4_commitShadows 2 = .ok (.iload_n 2, 1) := by decide +kernel
theorem dX4_commitShadows_3 : decode cX4_commitShadows 3 = .ok (.aload_n 0, 1) := by decide +kernel
theorem dX4_commitShadows_4 : decode cX4_commitShadows 4 = .ok (.getfield 24, 3) := by decide +kernel
theorem dX4_commitShadows_7 : decode cX4_commitShadows 7 = .ok (.if_icmp .ge 31, 3) := by decide +kernel
theorem dX4_commitShadows_10 : decode cX4_commitShadows 10 = .ok (.aload_n 0, 1) := by decide +kernel
theorem dX4_commitShadows_11 : decode cX4_commitShadows 11 = .ok (.getfield 18, 3) := by decide +kernel
theorem dX4_commitShadows_14 : decode cX4_commitShadows 14 = .ok (.iload_n 2, 1) := by decide +kernel
theorem dX4_commitShadows_15 : decode cX4_commitShadows 15 = .ok (.iaload, 1) := by decide +kernel
theorem dX4_commitShadows_16 : decode cX4_commitShadows 16 = .ok (.iload_n 1, 1) := by decide +kernel
theorem dX4_commitShadows_17 : decode cX4_commitShadows 17 = .ok (.if_icmp .ne 15, 3) := by decide +kernel
theorem dX4_commitShadows_20 : decode cX4_commitShadows 20 = .ok (.aload_n 0, 1) := by decide +kernel
theorem dX4_commitShadows_21 : decode cX4_commitShadows 21 = .ok (.getfield 9, 3) := by decide +kernel
theorem dX4_commitShadows_24 : decode cX4_commitShadows 24 = .ok (.iload_n 2, 1) := by decide +kernel
theorem dX4_commitShadows_25 : decode cX4_commitShadows 25 = .ok (.aload_n 0, 1) := by decide +kernel
theorem dX4_commitShadows_26 : decode cX4_commitShadows 26 = .ok (.getfield 15, 3) := by decide +kernel
theorem dX4_commitShadows_29 : decode cX4_commitShadows 29 = .ok (.iload_n 2, 1) := by decide +kernel
theorem dX4_commitShadows_30 : decode cX4_commitShadows 30 = .ok (.iaload, 1) := by decide +kernel
theorem dX4_commitShadows_31 : decode cX4_commitShadows 31 = .ok (.iastore, 1) := by decide +kernel
theorem dX4_commitShadows_32 : decode cX4_commitShadows 32 = .ok (.iinc 2 1, 3) := by decide +kernel
theorem dX4_commitShadows_35 : decode cX4_commitShadows 35 = .ok (.goto (-33), 3) := by decide +kernel
theorem dX4_commitShadows_38 : decode cX4_commitShadows 38 = .ok (.aload_n 0, 1) := by decide +kernel
theorem dX4_commitShadows_39 : decode cX4_commitShadows 39 = .ok (.iload_n 1, 1) := by decide +kernel
theorem dX4_commitShadows_40 : decode cX4_commitShadows 40 = .ok (.invokevirtual 45, 3) := by decide +kernel
theorem dX4_commitShadows_43 : decode cX4_commitShadows 43 = .ok (.return_, 1) := by decide +kernel
theorem dX4_hasReader_0 : decode cX4_hasReader 0 = .ok (.iload_n 1, 1) := by decide +kernel
theorem dX4_hasReader_1 : decode cX4_hasReader 1 = .ok (.ifCond .lt 24, 3) := by decide +kernel
theorem dX4_hasReader_4 : decode cX4_hasReader 4 = .ok (.iload_n 1, 1) := by decide +kernel
theorem dX4_hasReader_5 : decode cX4_hasReader 5 = .ok (.iconst 4, 1) := by decide +kernel
theorem dX4_hasReader_6 : decode cX4_hasReader 6 = .ok (.if_icmp .ge 19, 3) := by decide +kernel
theorem dX4_hasReader_9 : decode cX4_hasReader 9 = .ok (.aload_n 0, 1) := by decide +kernel
theorem dX4_hasReader_10 : decode cX4_hasReader 10 = .ok (.getfield 34, 3) := by decide +kernel
theorem dX4_hasReader_13 : decode cX4_hasReader 13 = .ok (.iload_n 1, 1) := by decide +kernel
theorem dX4_hasReader_14 : decode cX4_hasReader 14 = .ok (.iushr, 1) := by decide +kernel
theorem dX4_hasReader_15 : decode cX4_hasReader 15 = .ok (.iconst 1, 1) := by decide +kernel
theorem dX4_hasReader_16 : decode cX4_hasReader 16 = .ok (.iand, 1) := by decide +kernel
theorem dX4_hasReader_17 : decode cX4_hasReader 17 = .ok (.iconst 1, 1) := by decide +kernel
theorem dX4_hasReader_18 : decode cX4_hasReader 18 = .ok (.if_icmp .ne 7, 3) := by decide +kernel
theorem dX4_hasReader_21 : decode cX4_hasReader 21 = .ok (.iconst 1, 1) := by decide +kernel
theorem dX4_hasReader_22 : decode cX4_hasReader 22 = .ok (.goto 4, 3) := by decide +kernel
theorem dX4_hasReader_25 : decode cX4_hasReader 25 = .ok (.iconst 0, 1) := by decide +kernel
theorem dX4_hasReader_26 : decode cX4_hasReader 26 = .ok (.ireturn, 1) := by decide +kernel
theorem dX4_addReader_0 : decode cX4_addReader 0 = .ok (.iconst 0, 1) := by decide +kernel
theorem dX4_addReader_1 : decode cX4_addReader 1 = .ok (.istore_n 1, 1) := by decide +kernel
theorem dX4_addReader_2 : decode cX4_addReader 2 = .ok (.iload_n 1, 1) := by decide +kernel
theorem dX4_addReader_3 : decode cX4_addReader 3 = .ok (.iconst 4, 1) := by decide +kernel
theorem dX4_addReader_4 : decode cX4_addReader 4 = .ok (.if_icmp .ge 62, 3) := by decide +kernel
theorem dX4_addReader_7 : decode cX4_addReader 7 = .ok (.aload_n 0, 1) := by decide +kernel
theorem dX4_addReader_8 : decode cX4_addReader 8 = .ok (.iload_n 1, 1) := by decide +kernel
theorem dX4_addReader_9 : decode cX4_addReader 9 = .ok (.invokevirtual 49, 3) := by decide +kernel
theorem dX4_addReader_12 : decode cX4_addReader 12 = .ok (.ifCond .ne 48, 3) := by decide +kernel
theorem dX4_addReader_15 : decode cX4_addReader 15 = .ok (.aload_n 0, 1) := by decide +kernel
theorem dX4_addReader_16 : decode cX4_addReader 16 = .ok (.dup, 1) := by decide +kernel
theorem dX4_addReader_17 : decode cX4_addReader 17 = .ok (.getfield 34, 3) := by decide +kernel
theorem dX4_addReader_20 : decode cX4_addReader 20 = .ok (.iconst 1, 1) := by decide +kernel
theorem dX4_addReader_21 : decode cX4_addReader 21 = .ok (.iload_n 1, 1) := by decide +kernel
theorem dX4_addReader_22 : decode cX4_addReader 22 = .ok (.ishl, 1) := by decide +kernel
theorem dX4_addReader_23 : decode cX4_addReader 23 = .ok (.ior, 1) := by decide +kernel
theorem dX4_addReader_24 : decode cX4_addReader 24 = .ok (.putfield 34, 3) := by decide +kernel
theorem dX4_addReader_27 : decode cX4_addReader 27 = .ok (.iconst 0, 1) := by decide +kernel
theorem dX4_addReader_28 : decode cX4_addReader 28 = .ok (.istore_n 2, 1) := by decide +kernel
theorem dX4_addReader_29 : decode cX4_addReader 29 = .ok (.iload_n 2, 1) := by decide +kernel
theorem dX4_addReader_30 : decode cX4_addReader 30 = .ok (.bipush 64, 2) := by decide +kernel
theorem dX4_addReader_32 : decode cX4_addReader 32 = .ok (.if_icmp .ge 26, 3) := by decide +kernel
theorem dX4_addReader_35 : decode cX4_addReader 35 = .ok (.aload_n 0, 1) := by decide +kernel
theorem dX4_addReader_36 : decode cX4_addReader 36 = .ok (.getfield 21, 3) := by decide +kernel
theorem dX4_addReader_39 : decode cX4_addReader 39 = .ok (.iload_n 1, 1) := by decide +kernel
theorem dX4_addReader_40 : decode cX4_addReader 40 = .ok (.bipush 64, 2) := by decide +kernel
theorem dX4_addReader_42 : decode cX4_addReader 42 = .ok (.imul, 1) := by decide +kernel
theorem dX4_addReader_43 : decode cX4_addReader 43 = .ok (.iload_n 2, 1) := by decide +kernel
theorem dX4_addReader_44 : decode cX4_addReader 44 = .ok (.iadd, 1) := by decide +kernel
theorem dX4_addReader_45 : decode cX4_addReader 45 = .ok (.aload_n 0, 1) := by decide +kernel
theorem dX4_addReader_46 : decode cX4_addReader 46 = .ok (.getfield 9, 3) := by decide +kernel
theorem dX4_addReader_49 : decode cX4_addReader 49 = .ok (.iload_n 2, 1) := by decide +kernel
theorem dX4_addReader_50 : decode cX4_addReader 50 = .ok (.iaload, 1) := by decide +kernel
theorem dX4_addReader_51 : decode cX4_addReader 51 = .ok (.iastore, 1) := by decide +kernel
theorem dX4_addReader_52 : decode cX4_addReader 52 = .ok (.iinc 2 1, 3) := by decide +kernel
theorem dX4_addReader_55 : decode cX4_addReader 55 = .ok (.goto (-26), 3) := by decide +kernel
theorem dX4_addReader_58 : decode cX4_addReader 58 = .ok (.iload_n 1, 1) := by decide +kernel
theorem dX4_addReader_59 : decode cX4_addReader 59 = .ok (.ireturn, 1) := by decide +kernel
theorem dX4_addReader_60 : decode cX4_addReader 60 = .ok (.iinc 1 1, 3) := by decide +kernel
theorem dX4_addReader_63 : decode cX4_addReader 63 = .ok (.goto (-61), 3) := by decide +kernel
theorem dX4_addReader_66 : decode cX4_addReader 66 = .ok (.iconst (-1), 1) := by decide +kernel
theorem dX4_addReader_67 : decode cX4_addReader 67 = .ok (.ireturn, 1) := by decide +kernel
theorem dX4_removeReader_0 : decode cX4_removeReader 0 = .ok (.aload_n 0, 1) := by decide +kernel
theorem dX4_removeReader_1 : decode cX4_removeReader 1 = .ok (.iload_n 1, 1) := by decide +kernel
theorem dX4_removeReader_2 : decode cX4_removeReader 2 = .ok (.invokevirtual 49, 3) := by decide +kernel
theorem dX4_removeReader_5 : decode cX4_removeReader 5 = .ok (.ifCond .eq 17, 3) := by decide +kernel
theorem dX4_removeReader_8 : decode cX4_removeReader 8 = .ok (.aload_n 0, 1) := by decide +kernel
theorem dX4_removeReader_9 : decode cX4_removeReader 9 = .ok (.dup, 1) := by decide +kernel
theorem dX4_removeReader_10 : decode cX4_removeReader 10 = .ok (.getfield 34, 3) := by decide +kernel
theorem dX4_removeReader_13 : decode cX4_removeReader 13 = .ok (.iconst 1, 1) := by decide +kernel
theorem dX4_removeReader_14 : decode cX4_removeReader 14 = .ok (.iload_n 1, 1) := by decide +kernel
theorem dX4_removeReader_15 : decode cX4_removeReader 15 = .ok (.ishl, 1) := by decide +kernel
theorem dX4_removeReader_16 : decode cX4_removeReader 16 = .ok (.iconst (-1), 1) := by decide +kernel
theorem dX4_removeReader_17 : decode cX4_removeReader 17 = .ok (.ixor, 1) := by decide +kernel
theorem dX4_removeReader_18 : decode cX4_removeReader 18 = .ok (.iand, 1) := by decide +kernel
theorem dX4_removeReader_19 : decode cX4_removeReader 19 = .ok (.putfield 34, 3) := by decide +kernel
theorem dX4_removeReader_22 : decode cX4_removeReader 22 = .ok (.aload_n 0, 1) := by decide +kernel
theorem dX4_removeReader_23 : decode cX4_removeReader 23 = .ok (.getfield 34, 3) := by decide +kernel
theorem dX4_removeReader_26 : decode cX4_removeReader 26 = .ok (.invokestatic 52, 3) := by decide +kernel
theorem dX4_removeReader_29 : decode cX4_removeReader 29 = .ok (.ireturn, 1) := by decide +kernel
theorem dX4_versionKeptBy_0 : decode cX4_versionKeptBy 0 = .ok (.aload_n 0, 1) := by decide +kernel
theorem dX4_versionKeptBy_1 : decode cX4_versionKeptBy 1 = .ok (.iload_n 1, 1) := by decide +kernel
theorem dX4_versionKeptBy_2 : decode cX4_versionKeptBy 2 = .ok (.invokevirtual 49, 3) := by decide +kernel
theorem dX4_versionKeptBy_5 : decode cX4_versionKeptBy 5 = .ok (.ifCond .eq 25, 3) := by decide +kernel
theorem dX4_versionKeptBy_8 : decode cX4_versionKeptBy 8 = .ok (.aload_n 0, 1) := by decide +kernel
theorem dX4_versionKeptBy_9 : decode cX4_versionKeptBy 9 = .ok (.iload_n 2, 1) := by decide +kernel
theorem dX4_versionKeptBy_10 : decode cX4_versionKeptBy 10 = .ok (.invokevirtual 37, 3) := by decide +kernel
theorem dX4_versionKeptBy_13 : decode cX4_versionKeptBy 13 = .ok (.ifCond .eq 17, 3) := by decide +kernel
theorem dX4_versionKeptBy_16 : decode cX4_versionKeptBy 16 = .ok (.aload_n 0, 1) := by decide +kernel
theorem dX4_versionKeptBy_17 : decode cX4_versionKeptBy 17 = .ok (.getfield 21, 3) := by decide +kernel
theorem dX4_versionKeptBy_20 : decode cX4_versionKeptBy 20 = .ok (.iload_n 1, 1) := by decide +kernel
theorem dX4_versionKeptBy_21 : decode cX4_versionKeptBy 21 = .ok (.bipush 64, 2) := by decide +kernel
theorem dX4_versionKeptBy_23 : decode cX4_versionKeptBy 23 = .ok (.imul, 1) := by decide +kernel
theorem dX4_versionKeptBy_24 : decode cX4_versionKeptBy 24 = .ok (.iload_n 2, 1) := by decide +kernel
theorem dX4_versionKeptBy_25 : decode cX4_versionKeptBy 25 = .ok (.iadd, 1) := by decide +kernel
theorem dX4_versionKeptBy_26 : decode cX4_versionKeptBy 26 = .ok (.iaload, 1) := by decide +kernel
theorem dX4_versionKeptBy_27 : decode cX4_versionKeptBy 27 = .ok (.goto 4, 3) := by decide +kernel
theorem dX4_versionKeptBy_30 : decode cX4_versionKeptBy 30 = .ok (.iconst 0, 1) := by decide +kernel
theorem dX4_versionKeptBy_31 : decode cX4_versionKeptBy 31 = .ok (.ireturn, 1) := by decide +kernel
theorem dX4_keeps_0 : decode cX4_keeps 0 = .ok (.iload_n 1, 1) := by decide +kernel
theorem dX4_keeps_1 : decode cX4_keeps 1 = .ok (.ifCond .lt 11, 3) := by decide +kernel
theorem dX4_keeps_4 : decode cX4_keeps 4 = .ok (.iload_n 1, 1) := by decide +kernel
theorem dX4_keeps_5 : decode cX4_keeps 5 = .ok (.aload_n 0, 1) := by decide +kernel
theorem dX4_keeps_6 : decode cX4_keeps 6 = .ok (.getfield 24, 3) := by decide +kernel
theorem dX4_keeps_9 : decode cX4_keeps 9 = .ok (.if_icmp .lt 5, 3) := by decide +kernel
theorem dX4_keeps_12 : decode cX4_keeps 12 = .ok (.iconst 0, 1) := by decide +kernel
theorem dX4_keeps_13 : decode cX4_keeps 13 = .ok (.ireturn, 1) := by decide +kernel
theorem dX4_keeps_14 : decode cX4_keeps 14 = .ok (.aload_n 0, 1) := by decide +kernel
theorem dX4_keeps_15 : decode cX4_keeps 15 = .ok (.getfield 9, 3) := by decide +kernel
theorem dX4_keeps_18 : decode cX4_keeps 18 = .ok (.iload_n 1, 1) := by decide +kernel
theorem dX4_keeps_19 : decode cX4_keeps 19 = .ok (.iaload, 1) := by decide +kernel
theorem dX4_keeps_20 : decode cX4_keeps 20 = .ok (.iload_n 2, 1) := by decide +kernel
theorem dX4_keeps_21 : decode cX4_keeps 21 = .ok (.if_icmp .eq 13, 3) := by decide +kernel
theorem dX4_keeps_24 : decode cX4_keeps 24 = .ok (.aload_n 0, 1) := by decide +kernel
theorem dX4_keeps_25 : decode cX4_keeps 25 = .ok (.getfield 15, 3) := by decide +kernel
theorem dX4_keeps_28 : decode cX4_keeps 28 = .ok (.iload_n 1, 1) := by decide +kernel
theorem dX4_keeps_29 : decode cX4_keeps 29 = .ok (.iaload, 1) := by decide +kernel
theorem dX4_keeps_30 : decode cX4_keeps 30 = .ok (.iload_n 2, 1) := by decide +kernel
theorem dX4_keeps_31 : decode cX4_keeps 31 = .ok (.if_icmp .ne 5, 3) := by decide +kernel
theorem dX4_keeps_34 : decode cX4_keeps 34 = .ok (.iconst 1, 1) := by decide +kernel
theorem dX4_keeps_35 : decode cX4_keeps 35 = .ok (.ireturn, 1) := by decide +kernel
theorem dX4_keeps_36 : decode cX4_keeps 36 = .ok (.iconst 0, 1) := by decide +kernel
theorem dX4_keeps_37 : decode cX4_keeps 37 = .ok (.istore_n 3, 1) := by decide +kernel
theorem dX4_keeps_38 : decode cX4_keeps 38 = .ok (.iload_n 3, 1) := by decide +kernel
theorem dX4_keeps_39 : decode cX4_keeps 39 = .ok (.iconst 4, 1) := by decide +kernel
theorem dX4_keeps_40 : decode cX4_keeps 40 = .ok (.if_icmp .ge 38, 3) := by decide +kernel
theorem dX4_keeps_43 : decode cX4_keeps 43 = .ok (.aload_n 0, 1) := by decide +kernel
theorem dX4_keeps_44 : decode cX4_keeps 44 = .ok (.getfield 34, 3) := by decide +kernel
theorem dX4_keeps_47 : decode cX4_keeps 47 = .ok (.iload_n 3, 1) := by decide +kernel
theorem dX4_keeps_48 : decode cX4_keeps 48 = .ok (.iushr, 1) := by decide +kernel
theorem dX4_keeps_49 : decode cX4_keeps 49 = .ok (.iconst 1, 1) := by decide +kernel
theorem dX4_keeps_50 : decode cX4_keeps 50 = .ok (.iand, 1) := by decide +kernel
theorem dX4_keeps_51 : decode cX4_keeps 51 = .ok (.iconst 1, 1) := by decide +kernel
theorem dX4_keeps_52 : decode cX4_keeps 52 = .ok (.if_icmp .ne 20, 3) := by decide +kernel
theorem dX4_keeps_55 : decode cX4_keeps 55 = .ok (.aload_n 0, 1) := by decide +kernel
theorem dX4_keeps_56 : decode cX4_keeps 56 = .ok (.getfield 21, 3) := by decide +kernel
theorem dX4_keeps_59 : decode cX4_keeps 59 = .ok (.iload_n 3, 1) := by decide +kernel
theorem dX4_keeps_60 : decode cX4_keeps 60 = .ok (.bipush 64, 2) := by decide +kernel
theorem dX4_keeps_62 : decode cX4_keeps 62 = .ok (.imul, 1) := by decide +kernel
theorem dX4_keeps_63 : decode cX4_keeps 63 = .ok (.iload_n 1, 1) := by decide +kernel
theorem dX4_keeps_64 : decode cX4_keeps 64 = .ok (.iadd, 1) := by decide +kernel
theorem dX4_keeps_65 : decode cX4_keeps 65 = .ok (.iaload, 1) := by decide +kernel
theorem dX4_keeps_66 : decode cX4_keeps 66 = .ok (.iload_n 2, 1) := by decide +kernel
theorem dX4_keeps_67 : decode cX4_keeps 67 = .ok (.if_icmp .ne 5, 3) := by decide +kernel
theorem dX4_keeps_70 : decode cX4_keeps 70 = .ok (.iconst 1, 1) := by decide +kernel
theorem dX4_keeps_71 : decode cX4_keeps 71 = .ok (.ireturn, 1) := by decide +kernel
theorem dX4_keeps_72 : decode cX4_keeps 72 = .ok (.iinc 3 1, 3) := by decide +kernel
theorem dX4_keeps_75 : decode cX4_keeps 75 = .ok (.goto (-37), 3) := by decide +kernel
theorem dX4_keeps_78 : decode cX4_keeps 78 = .ok (.iconst 0, 1) := by decide +kernel
theorem dX4_keeps_79 : decode cX4_keeps 79 = .ok (.ireturn, 1) := by decide +kernel
theorem dX5_init_0 : decode cX5_init 0 = .ok (.aload_n 0, 1) := by decide +kernel
theorem dX5_init_1 : decode cX5_init 1 = .ok (.invokespecial 3, 3) := by decide +kernel
theorem dX5_init_4 : decode cX5_init 4 = .ok (.aload_n 0, 1) := by decide +kernel
theorem dX5_init_5 : decode cX5_init 5 = .ok (.sipush 1024, 3) := by decide +kernel
theorem dX5_init_8 : decode cX5_init 8 = .ok (.newarray .int, 2) := by decide +kernel
theorem dX5_init_10 : decode cX5_init 10 = .ok (.putfield 9, 3) := by decide +kernel
theorem dX5_init_13 : decode cX5_init 13 = .ok (.aload_n 0, 1) := by decide +kernel
theorem dX5_init_14 : decode cX5_init 14 = .ok (.bipush 64, 2) := by decide +kernel
theorem dX5_init_16 : decode cX5_init 16 = .ok (.newarray .int, 2) := by decide +kernel
theorem dX5_init_18 : decode cX5_init 18 = .ok (.putfield 15, 3) := by decide +kernel
theorem dX5_init_21 : decode cX5_init 21 = .ok (.return_, 1) := by decide +kernel
theorem dX5_apply_0 : decode cX5_apply 0 = .ok (.aload_n 0, 1) := by decide +kernel
theorem dX5_apply_1 : decode cX5_apply 1 = .ok (.aload_n 1, 1) := by decide +kernel
theorem dX5_apply_2 : decode cX5_apply 2 = .ok (.iload_n 3, 1) := by decide +kernel
theorem dX5_apply_3 : decode cX5_apply 3 = .ok (.invokevirtual 18, 3) := by decide +kernel
theorem dX5_apply_6 : decode cX5_apply 6 = .ok (.aload_n 0, 1) := by decide +kernel
theorem dX5_apply_7 : decode cX5_apply 7 = .ok (.aload_n 1, 1) := by decide +kernel
theorem dX5_apply_8 : decode cX5_apply 8 = .ok (.invokevirtual 22, 3) := by decide +kernel
theorem dX5_apply_11 : decode cX5_apply 11 = .ok (.iconst 0, 1) := by decide +kernel
theorem dX5_apply_12 : decode cX5_apply 12 = .ok (.istore 4, 2) := by decide +kernel
theorem dX5_apply_14 : decode cX5_apply 14 = .ok (.iconst 0, 1) := by decide +kernel
theorem dX5_apply_15 : decode cX5_apply 15 = .ok (.istore 5, 2) := by decide +kernel
theorem dX5_apply_17 : decode cX5_apply 17 = .ok (.iconst 0, 1) := by decide +kernel
theorem dX5_apply_18 : decode cX5_apply 18 = .ok (.istore 6, 2) := by decide +kernel
theorem dX5_apply_20 : decode cX5_apply 20 = .ok (.iload 6, 2) := by decide +kernel
theorem dX5_apply_22 : decode cX5_apply 22 = .ok (.aload_n 0, 1) := by decide +kernel
theorem dX5_apply_23 : decode cX5_apply 23 = .ok (.getfield 26, 3) := by decide +kernel
theorem dX5_apply_26 : decode cX5_apply 26 = .ok (.if_icmp .ge 81, 3) := by decide +kernel
theorem dX5_apply_29 : decode cX5_apply 29 = .ok (.aload_n 0, 1) := by decide +kernel
theorem dX5_apply_30 : decode cX5_apply 30 = .ok (.getfield 9, 3) := by decide +kernel
theorem dX5_apply_33 : decode cX5_apply 33 = .ok (.iload 6, 2) := by decide +kernel
theorem dX5_apply_35 : decode cX5_apply 35 = .ok (.iaload, 1) := by decide +kernel
theorem dX5_apply_36 : decode cX5_apply 36 = .ok (.istore 7, 2) := by decide +kernel
theorem dX5_apply_38 : decode cX5_apply 38 = .ok (.aload_n 1, 1) := by decide +kernel
theorem dX5_apply_39 : decode cX5_apply 39 = .ok (.getfield 30, 3) := by decide +kernel
theorem dX5_apply_42 : decode cX5_apply 42 = .ok (.iload 7, 2) := by decide +kernel
theorem dX5_apply_44 : decode cX5_apply 44 = .ok (.iaload, 1) := by decide +kernel
theorem dX5_apply_45 : decode cX5_apply 45 = .ok (.istore 8, 2) := by decide +kernel
theorem dX5_apply_47 : decode cX5_apply 47 = .ok (.iload 8, 2) := by decide +kernel
theorem dX5_apply_49 : decode cX5_apply 49 = .ok (.iload 5, 2) := by decide +kernel
theorem dX5_apply_51 : decode cX5_apply 51 = .ok (.if_icmp .eq 46, 3) := by decide +kernel
theorem dX5_apply_54 : decode cX5_apply 54 = .ok (.iinc 4 1, 3) := by decide +kernel
theorem dX5_apply_57 : decode cX5_apply 57 = .ok (.aload_n 1, 1) := by decide +kernel
theorem dX5_apply_58 : decode cX5_apply 58 = .ok (.getfield 35, 3) := by decide +kernel
theorem dX5_apply_61 : decode cX5_apply 61 = .ok (.iload 7, 2) := by decide +kernel
theorem dX5_apply_63 : decode cX5_apply 63 = .ok (.iaload, 1) := by decide +kernel
theorem dX5_apply_64 : decode cX5_apply 64 = .ok (.iconst 1, 1) := by decide +kernel
theorem dX5_apply_65 : decode cX5_apply 65 = .ok (.if_icmp .ne 19, 3) := by decide +kernel
theorem dX5_apply_68 : decode cX5_apply 68 = .ok (.aload_n 2, 1) := by decide +kernel
theorem dX5_apply_69 : decode cX5_apply 69 = .ok (.aload_n 1, 1) := by decide +kernel
theorem dX5_apply_70 : decode cX5_apply 70 = .ok (.getfield 38, 3) := by decide +kernel
theorem dX5_apply_73 : decode cX5_apply 73 = .ok (.iload 7, 2) := by decide +kernel
theorem dX5_apply_75 : decode cX5_apply 75 = .ok (.iaload, 1) := by decide +kernel
theorem dX5_apply_76 : decode cX5_apply 76 = .ok (.iload 8, 2) := by decide +kernel
theorem dX5_apply_78 : decode cX5_apply 78 = .ok (.invokevirtual 41, 3) := by decide +kernel
theorem dX5_apply_81 : decode cX5_apply 81 = .ok (.goto 16, 3) := by decide +kernel
theorem dX5_apply_84 : decode cX5_apply 84 = .ok (.aload_n 0, 1) := by decide +kernel
theorem dX5_apply_85 : decode cX5_apply 85 = .ok (.aload_n 1, 1) := by decide +kernel
theorem dX5_apply_86 : decode cX5_apply 86 = .ok (.aload_n 2, 1) := by decide +kernel
theorem dX5_apply_87 : decode cX5_apply 87 = .ok (.aload_n 1, 1) := by decide +kernel
theorem dX5_apply_88 : decode cX5_apply 88 = .ok (.getfield 47, 3) := by decide +kernel
theorem dX5_apply_91 : decode cX5_apply 91 = .ok (.iload 7, 2) := by decide +kernel
theorem dX5_apply_93 : decode cX5_apply 93 = .ok (.iaload, 1) := by decide +kernel
theorem dX5_apply_94 : decode cX5_apply 94 = .ok (.invokevirtual 50, 3) := by decide +kernel
theorem dX5_apply_97 : decode cX5_apply 97 = .ok (.iload 8, 2) := by decide +kernel
theorem dX5_apply_99 : decode cX5_apply 99 = .ok (.istore 5, 2) := by decide +kernel
theorem dX5_apply_101 : decode cX5_apply 101 = .ok (.iinc 6 1, 3) := by decide +kernel
theorem dX5_apply_104 : decode cX5_apply 104 = .ok (.goto (-84), 3) := by decide +kernel
theorem dX5_apply_107 : decode cX5_apply 107 = .ok (.iload 4, 2) := by decide +kernel
theorem dX5_apply_109 : decode cX5_apply 109 = .ok (.ireturn, 1) := by decide +kernel
theorem dX5_gather_0 : decode cX5_gather 0 = .ok (.aload_n 0, 1) := by decide +kernel
theorem dX5_gather_1 : decode cX5_gather 1 = .ok (.iconst 0, 1) := by decide +kernel
theorem dX5_gather_2 : decode cX5_gather 2 = .ok (.putfield 26, 3) := by decide +kernel
theorem dX5_gather_5 : decode cX5_gather 5 = .ok (.iconst 0, 1) := by decide +kernel
theorem dX5_gather_6 : decode cX5_gather 6 = .ok (.istore_n 3, 1) := by decide +kernel
theorem dX5_gather_7 : decode cX5_gather 7 = .ok (.iload_n 3, 1) := by decide +kernel
theorem dX5_gather_8 : decode cX5_gather 8 = .ok (.aload_n 1, 1) := by decide +kernel
theorem dX5_gather_9 : decode cX5_gather 9 = .ok (.getfield 54, 3) := by decide +kernel
theorem dX5_gather_12 : decode cX5_gather 12 = .ok (.if_icmp .ge 80, 3) := by decide +kernel
theorem dX5_gather_15 : decode cX5_gather 15 = .ok (.aload_n 1, 1) := by decide +kernel
theorem dX5_gather_16 : decode cX5_gather 16 = .ok (.getfield 35, 3) := by decide +kernel
theorem dX5_gather_19 : decode cX5_gather 19 = .ok (.iload_n 3, 1) := by decide +kernel
theorem dX5_gather_20 : decode cX5_gather 20 = .ok (.iaload, 1) := by decide +kernel
theorem dX5_gather_21 : decode cX5_gather 21 = .ok (.istore 4, 2) := by decide +kernel
theorem dX5_gather_23 : decode cX5_gather 23 = .ok (.iload 4, 2) := by decide +kernel
theorem dX5_gather_25 : decode cX5_gather 25 = .ok (.iconst 2, 1) := by decide +kernel
theorem dX5_gather_26 : decode cX5_gather 26 = .ok (.if_icmp .eq 18, 3) := by decide +kernel
theorem dX5_gather_29 : decode cX5_gather 29 = .ok (.iload 4, 2) := by decide +kernel
theorem dX5_gather_31 : decode cX5_gather 31 = .ok (.iconst 1, 1) := by decide +kernel
theorem dX5_gather_32 : decode cX5_gather 32 = .ok (.if_icmp .ne 16, 3) := by decide +kernel
theorem dX5_gather_35 : decode cX5_gather 35 = .ok (.aload_n 1, 1) := by decide +kernel
theorem dX5_gather_36 : decode cX5_gather 36 = .ok (.getfield 47, 3) := by decide +kernel
theorem dX5_gather_39 : decode cX5_gather 39 = .ok (.iload_n 3, 1) := by decide +kernel
theorem dX5_gather_40 : decode cX5_gather 40 = .ok (.iaload, 1) := by decide +kernel
theorem dX5_gather_41 : decode cX5_gather 41 = .ok (.ifCond .ne 7, 3) := by decide +kernel
theorem dX5_gather_44 : decode cX5_gather 44 = .ok (.iconst 1, 1) := by decide +kernel
theorem dX5_gather_45 : decode cX5_gather 45 = .ok (.goto 4, 3) := by decide +kernel
theorem dX5_gather_48 : decode cX5_gather 48 = .ok (.iconst 0, 1) := by decide +kernel
theorem dX5_gather_49 : decode cX5_gather 49 = .ok (.istore 5, 2) := by decide +kernel
theorem dX5_gather_51 : decode cX5_gather 51 = .ok (.iload 5, 2) := by decide +kernel
theorem dX5_gather_53 : decode cX5_gather 53 = .ok (.ifCond .eq 33, 3) := by decide +kernel
theorem dX5_gather_56 : decode cX5_gather 56 = .ok (.aload_n 1, 1) := by decide +kernel
theorem dX5_gather_57 : decode cX5_gather 57 = .ok (.getfield 30, 3) := by decide +kernel
theorem dX5_gather_60 : decode cX5_gather 60 = .ok (.iload_n 3, 1) := by decide +kernel
theorem dX5_gather_61 : decode cX5_gather 61 = .ok (.iaload, 1) := by decide +kernel
theorem dX5_gather_62 : decode cX5_gather 62 = .ok (.iload_n 2, 1) := by decide +kernel
theorem dX5_gather_63 : decode cX5_gather 63 = .ok (.if_icmp .le 23, 3) := by decide +kernel
theorem dX5_gather_66 : decode cX5_gather 66 = .ok (.aload_n 0, 1) := by decide +kernel
theorem dX5_gather_67 : decode cX5_gather 67 = .ok (.getfield 9, 3) := by decide +kernel
theorem dX5_gather_70 : decode cX5_gather 70 = .ok (.aload_n 0, 1) := by decide +kernel
theorem dX5_gather_71 : decode cX5_gather 71 = .ok (.getfield 26, 3) := by decide +kernel
theorem dX5_gather_74 : decode cX5_gather 74 = .ok (.iload_n 3, 1) := by decide +kernel
theorem dX5_gather_75 : decode cX5_gather 75 = .ok (.iastore, 1) := by decide +kernel
theorem dX5_gather_76 : decode cX5_gather 76 = .ok (.aload_n 0, 1) := by decide +kernel
theorem dX5_gather_77 : decode cX5_gather 77 = .ok (.dup, 1) := by decide +kernel
theorem dX5_gather_78 : decode cX5_gather 78 = .ok (.getfield 26, 3) := by decide +kernel
theorem dX5_gather_81 : decode cX5_gather 81 = .ok (.iconst 1, 1) := by decide +kernel
theorem dX5_gather_82 : decode cX5_gather 82 = .ok (.iadd, 1) := by decide +kernel
theorem dX5_gather_83 : decode cX5_gather 83 = .ok (.putfield 26, 3) := by decide +kernel
theorem dX5_gather_86 : decode cX5_gather 86 = .ok (.iinc 3 1, 3) := by decide +kernel
theorem dX5_gather_89 : decode cX5_gather 89 = .ok (.goto (-82), 3) := by decide +kernel
theorem dX5_gather_92 : decode cX5_gather 92 = .ok (.return_, 1) := by decide +kernel
theorem dX5_sortByVersion_0 : decode cX5_sortByVersion 0 = .ok (.aload_n 0, 1) := by decide +kernel
theorem dX5_sortByVersion_1 : decode cX5_sortByVersion 1 = .ok (.getfield 26, 3) := by decide +kernel
theorem dX5_sortByVersion_4 : decode cX5_sortByVersion 4 = .ok (.iconst 2, 1) := by decide +kernel
theorem dX5_sortByVersion_5 : decode cX5_sortByVersion 5 = .ok (.idiv, 1) := by decide +kernel
theorem dX5_sortByVersion_6 : decode cX5_sortByVersion 6 = .ok (.istore_n 2, 1) := by decide +kernel
theorem dX5_sortByVersion_7 : decode cX5_sortByVersion 7 = .ok (.iload_n 2, 1) := by decide +kernel
theorem dX5_sortByVersion_8 : decode cX5_sortByVersion 8 = .ok (.ifCond .le 101, 3) := by decide +kernel
theorem dX5_sortByVersion_11 : decode cX5_sortByVersion 11 = .ok (.iload_n 2, 1) := by decide +kernel
theorem dX5_sortByVersion_12 : decode cX5_sortByVersion 12 = .ok (.istore_n 3, 1) := by decide +kernel
theorem dX5_sortByVersion_13 : decode cX5_sortByVersion 13 = .ok (.iload_n 3, 1) := by decide +kernel
theorem dX5_sortByVersion_14 : decode cX5_sortByVersion 14 = .ok (.aload_n 0, 1) := by decide +kernel
theorem dX5_sortByVersion_15 : decode cX5_sortByVersion 15 = .ok (.getfield 26, 3) := by decide +kernel
theorem dX5_sortByVersion_18 : decode cX5_sortByVersion 18 = .ok (.if_icmp .ge 84, 3) := by decide +kernel
theorem dX5_sortByVersion_21 : decode cX5_sortByVersion 21 = .ok (.aload_n 0, 1) := by decide +kernel
theorem dX5_sortByVersion_22 : decode cX5_sortByVersion 22 = .ok (.getfield 9, 3) := by decide +kernel
theorem dX5_sortByVersion_25 : decode cX5_sortByVersion 25 = .ok (.iload_n 3, 1) := by decide +kernel
theorem dX5_sortByVersion_26 : decode cX5_sortByVersion 26 = .ok (.iaload, 1) := by decide +kernel
theorem dX5_sortByVersion_27 : decode cX5_sortByVersion 27 = .ok (.istore 4, 2) := by decide +kernel
theorem dX5_sortByVersion_29 : decode cX5_sortByVersion 29 = .ok (.iload_n 3, 1) := by decide +kernel
theorem dX5_sortByVersion_30 : decode cX5_sortByVersion 30 = .ok (.istore 5, 2) := by decide +kernel
theorem dX5_sortByVersion_32 : decode cX5_sortByVersion 32 = .ok (.iload 5, 2) := by decide +kernel
theorem dX5_sortByVersion_34 : decode cX5_sortByVersion 34 = .ok (.iload_n 2, 1) := by decide +kernel
theorem dX5_sortByVersion_35 : decode cX5_sortByVersion 35 = .ok (.if_icmp .lt 52, 3) := by decide +kernel
theorem dX5_sortByVersion_38 : decode cX5_sortByVersion 38 = .ok (.aload_n 1, 1) := by decide +kernel
theorem dX5_sortByVersion_39 : decode cX5_sortByVersion 39 = .ok (.getfield 30, 3) := by decide +kernel
theorem dX5_sortByVersion_42 : decode cX5_sortByVersion 42 = .ok (.aload_n 0, 1) := by decide +kernel
theorem dX5_sortByVersion_43 : decode cX5_sortByVersion 43 = .ok (.getfield 9, 3) := by decide +kernel
theorem dX5_sortByVersion_46 : decode cX5_sortByVersion 46 = .ok (.iload 5, 2) := by decide +kernel
theorem dX5_sortByVersion_48 : decode cX5_sortByVersion 48 = .ok (.iload_n 2, 1) := by decide +kernel
theorem dX5_sortByVersion_49 : decode cX5_sortByVersion 49 = .ok (.isub, 1) := by decide +kernel
theorem dX5_sortByVersion_50 : decode cX5_sortByVersion 50 = .ok (.iaload, 1) := by decide +kernel
theorem dX5_sortByVersion_51 : decode cX5_sortByVersion 51 = .ok (.iaload, 1) := by decide +kernel
theorem dX5_sortByVersion_52 : decode cX5_sortByVersion 52 = .ok (.aload_n 1, 1) := by decide +kernel
theorem dX5_sortByVersion_53 : decode cX5_sortByVersion 53 = .ok (.getfield 30, 3) := by decide +kernel
theorem dX5_sortByVersion_56 : decode cX5_sortByVersion 56 = .ok (.iload 4, 2) := by decide +kernel
theorem dX5_sortByVersion_58 : decode cX5_sortByVersion 58 = .ok (.iaload, 1) := by decide +kernel
theorem dX5_sortByVersion_59 : decode cX5_sortByVersion 59 = .ok (.if_icmp .le 28, 3) := by decide +kernel
theorem dX5_sortByVersion_62 : decode cX5_sortByVersion 62 = .ok (.aload_n 0, 1) := by decide +kernel
theorem dX5_sortByVersion_63 : decode cX5_sortByVersion 63 = .ok (.getfield 9, 3) := by decide +kernel
theorem dX5_sortByVersion_66 : decode cX5_sortByVersion 66 = .ok (.iload 5, 2) := by decide +kernel
theorem dX5_sortByVersion_68 : decode cX5_sortByVersion 68 = .ok (.aload_n 0, 1) := by decide +kernel
theorem dX5_sortByVersion_69 : decode cX5_sortByVersion 69 = .ok (.getfield 9, 3) := by decide +kernel
theorem dX5_sortByVersion_72 : decode cX5_sortByVersion 72 = .ok (.iload 5, 2) := by decide +kernel
theorem dX5_sortByVersion_74 : decode cX5_sortByVersion 74 = .ok (.iload_n 2, 1) := by decide +kernel
theorem dX5_sortByVersion_75 : decode cX5_sortByVersion 75 = .ok (.isub, 1) := by decide +kernel
theorem dX5_sortByVersion_76 : decode cX5_sortByVersion 76 = .ok (.iaload, 1) := by decide +kernel
theorem dX5_sortByVersion_77 : decode cX5_sortByVersion 77 = .ok (.iastore, 1) := by decide +kernel
theorem dX5_sortByVersion_78 : decode cX5_sortByVersion 78 = .ok (.iload 5, 2) := by decide +kernel
theorem dX5_sortByVersion_80 : decode cX5_sortByVersion 80 = .ok (.iload_n 2, 1) := by decide +kernel
theorem dX5_sortByVersion_81 : decode cX5_sortByVersion 81 = .ok (.isub, 1) := by decide +kernel
theorem dX5_sortByVersion_82 : decode cX5_sortByVersion 82 = .ok (.istore 5, 2) := by decide +kernel
theorem dX5_sortByVersion_84 : decode cX5_sortByVersion 84 = .ok (.goto (-52), 3) := by decide +kernel
theorem dX5_sortByVersion_87 : decode cX5_sortByVersion 87 = .ok (.aload_n 0, 1) := by decide +kernel
theorem dX5_sortByVersion_88 : decode cX5_sortByVersion 88 = .ok (.getfield 9, 3) := by decide +kernel
theorem dX5_sortByVersion_91 : decode cX5_sortByVersion 91 = .ok (.iload 5, 2) := by decide +kernel
theorem dX5_sortByVersion_93 : decode cX5_sortByVersion 93 = .ok (.iload 4, 2) := by decide +kernel
theorem dX5_sortByVersion_95 : decode cX5_sortByVersion 95 = .ok (.iastore, 1) := by decide +kernel
theorem dX5_sortByVersion_96 : decode cX5_sortByVersion 96 = .ok (.iinc 3 1, 3) := by decide +kernel
theorem dX5_sortByVersion_99 : decode cX5_sortByVersion 99 = .ok (.goto (-86), 3) := by decide +kernel
theorem dX5_sortByVersion_102 : decode cX5_sortByVersion 102 = .ok (.iload_n 2, 1) := by decide +kernel
theorem dX5_sortByVersion_103 : decode cX5_sortByVersion 103 = .ok (.iconst 2, 1) := by decide +kernel
theorem dX5_sortByVersion_104 : decode cX5_sortByVersion 104 = .ok (.idiv, 1) := by decide +kernel
theorem dX5_sortByVersion_105 : decode cX5_sortByVersion 105 = .ok (.istore_n 2, 1) := by decide +kernel
theorem dX5_sortByVersion_106 : decode cX5_sortByVersion 106 = .ok (.goto (-99), 3) := by decide +kernel
theorem dX5_sortByVersion_109 : decode cX5_sortByVersion 109 = .ok (.return_, 1) := by decide +kernel
theorem dX5_applyCommit_0 : decode cX5_applyCommit 0 = .ok (.iconst 0, 1) := by decide +kernel
theorem dX5_applyCommit_1 : decode cX5_applyCommit 1 = .ok (.istore 4, 2) := by decide +kernel
theorem dX5_applyCommit_3 : decode cX5_applyCommit 3 = .ok (.iload 4, 2) := by decide +kernel
theorem dX5_applyCommit_5 : decode cX5_applyCommit 5 = .ok (.bipush 64, 2) := by decide +kernel
theorem dX5_applyCommit_7 : decode cX5_applyCommit 7 = .ok (.if_icmp .ge 17, 3) := by decide +kernel
theorem dX5_applyCommit_10 : decode cX5_applyCommit 10 = .ok (.aload_n 0, 1) := by decide +kernel
theorem dX5_applyCommit_11 : decode cX5_applyCommit 11 = .ok (.getfield 15, 3) := by decide +kernel
theorem dX5_applyCommit_14 : decode cX5_applyCommit 14 = .ok (.iload 4, 2) := by decide +kernel
theorem dX5_applyCommit_16 : decode cX5_applyCommit 16 = .ok (.iconst 0, 1) := by decide +kernel
theorem dX5_applyCommit_17 : decode cX5_applyCommit 17 = .ok (.iastore, 1) := by decide +kernel
theorem dX5_applyCommit_18 : decode cX5_applyCommit 18 = .ok (.iinc 4 1, 3) := by decide +kernel
theorem dX5_applyCommit_21 : decode cX5_applyCommit 21 = .ok (.goto (-18), 3) := by decide +kernel
theorem dX5_applyCommit_24 : decode cX5_applyCommit 24 = .ok (.iconst 0, 1) := by decide +kernel
theorem dX5_applyCommit_25 : decode cX5_applyCommit 25 = .ok (.istore 4, 2) := by decide +kernel
theorem dX5_applyCommit_27 : decode cX5_applyCommit 27 = .ok (.iload 4, 2) := by decide +kernel
theorem dX5_applyCommit_29 : decode cX5_applyCommit 29 = .ok (.aload_n 1, 1) := by decide +kernel
theorem dX5_applyCommit_30 : decode cX5_applyCommit 30 = .ok (.getfield 54, 3) := by decide +kernel
theorem dX5_applyCommit_33 : decode cX5_applyCommit 33 = .ok (.if_icmp .ge 76, 3) := by decide +kernel
theorem dX5_applyCommit_36 : decode cX5_applyCommit 36 = .ok (.aload_n 1, 1) := by decide +kernel
theorem dX5_applyCommit_37 : decode cX5_applyCommit 37 = .ok (.getfield 38, 3) := by decide +kernel
theorem dX5_applyCommit_40 : decode cX5_applyCommit 40 = .ok (.iload 4, 2) := by decide +kernel
theorem dX5_applyCommit_42 : decode cX5_applyCommit 42 = .ok (.iaload, 1) := by decide +kernel
theorem dX5_applyCommit_43 : decode cX5_applyCommit 43 = .ok (.istore 5, 2) := by decide +kernel
theorem dX5_applyCommit_45 : decode cX5_applyCommit 45 = .ok (.aload_n 1, 1) := by decide +kernel
theorem dX5_applyCommit_46 : decode cX5_applyCommit 46 = .ok (.getfield 35, 3) := by decide +kernel
theorem dX5_applyCommit_49 : decode cX5_applyCommit 49 = .ok (.iload 4, 2) := by decide +kernel
theorem dX5_applyCommit_51 : decode cX5_applyCommit 51 = .ok (.iaload, 1) := by decide +kernel
theorem dX5_applyCommit_52 : decode cX5_applyCommit 52 = .ok (.iconst 1, 1) := by decide +kernel
theorem dX5_applyCommit_53 : decode cX5_applyCommit 53 = .ok (.if_icmp .ne 50, 3) := by decide +kernel
theorem dX5_applyCommit_56 : decode cX5_applyCommit 56 = .ok (.aload_n 1, 1) := by decide +kernel
theorem dX5_applyCommit_57 : decode cX5_applyCommit 57 = .ok (.getfield 47, 3) := by decide +kernel
theorem dX5_applyCommit_60 : decode cX5_applyCommit 60 = .ok (.iload 4, 2) := by decide +kernel
theorem dX5_applyCommit_62 : decode cX5_applyCommit 62 = .ok (.iaload, 1) := by decide +kernel
theorem dX5_applyCommit_63 : decode cX5_applyCommit 63 = .ok (.iload_n 3, 1) := by decide +kernel
theorem dX5_applyCommit_64 : decode cX5_applyCommit 64 = .ok (.if_icmp .ne 39, 3) := by decide +kernel
theorem dX5_applyCommit_67 : decode cX5_applyCommit 67 = .ok (.iload 5, 2) := by decide +kernel
theorem dX5_applyCommit_69 : decode cX5_applyCommit 69 = .ok (.ifCond .lt 34, 3) := by decide +kernel
theorem dX5_applyCommit_72 : decode cX5_applyCommit 72 = .ok (.iload 5, 2) := by decide +kernel
theorem dX5_applyCommit_74 : decode cX5_applyCommit 74 = .ok (.bipush 64, 2) := by decide +kernel
theorem dX5_applyCommit_76 : decode cX5_applyCommit 76 = .ok (.if_icmp .ge 27, 3) := by decide +kernel
theorem dX5_applyCommit_79 : decode cX5_applyCommit 79 = .ok (.aload_n 0, 1) := by decide +kernel
theorem dX5_applyCommit_80 : decode cX5_applyCommit 80 = .ok (.getfield 15, 3) := by decide +kernel
theorem dX5_applyCommit_83 : decode cX5_applyCommit 83 = .ok (.iload 5, 2) := by decide +kernel
theorem dX5_applyCommit_85 : decode cX5_applyCommit 85 = .ok (.aload_n 0, 1) := by decide +kernel
theorem dX5_applyCommit_86 : decode cX5_applyCommit 86 = .ok (.getfield 15, 3) := by decide +kernel
theorem dX5_applyCommit_89 : decode cX5_applyCommit 89 = .ok (.iload 5, 2) := by decide +kernel
theorem dX5_applyCommit_91 : decode cX5_applyCommit 91 = .ok (.iaload, 1) := by decide +kernel
theorem dX5_applyCommit_92 : decode cX5_applyCommit 92 = .ok (.aload_n 1, 1) := by decide +kernel
theorem dX5_applyCommit_93 : decode cX5_applyCommit 93 = .ok (.getfield 30, 3) := by decide +kernel
theorem dX5_applyCommit_96 : decode cX5_applyCommit 96 = .ok (.iload 4, 2) := by decide +kernel
theorem dX5_applyCommit_98 : decode cX5_applyCommit 98 = .ok (.iaload, 1) := by decide +kernel
theorem dX5_applyCommit_99 : decode cX5_applyCommit 99 = .ok (.invokestatic 57, 3) := by decide +kernel
theorem dX5_applyCommit_102 : decode cX5_applyCommit 102 = .ok (.iastore, 1) := by decide +kernel
theorem dX5_applyCommit_103 : decode cX5_applyCommit 103 = .ok (.iinc 4 1, 3) := by decide +kernel
theorem dX5_applyCommit_106 : decode cX5_applyCommit 106 = .ok (.goto (-79), 3) := by decide +kernel
theorem dX5_applyCommit_109 : decode cX5_applyCommit 109 = .ok (.iconst 0, 1) := by decide +kernel
theorem dX5_applyCommit_110 : decode cX5_applyCommit 110 = .ok (.istore 4, 2) := by decide +kernel
theorem dX5_applyCommit_112 : decode cX5_applyCommit 112 = .ok (.iload 4, 2) := by decide +kernel
theorem dX5_applyCommit_114 : decode cX5_applyCommit 114 = .ok (.bipush 64, 2) := by decide +kernel
theorem dX5_applyCommit_116 : decode cX5_applyCommit 116 = .ok (.if_icmp .ge 32, 3) := by decide +kernel
theorem dX5_applyCommit_119 : decode cX5_applyCommit 119 = .ok (.aload_n 0, 1) := by decide +kernel
theorem dX5_applyCommit_120 : decode cX5_applyCommit 120 = .ok (.getfield 15, 3) := by decide +kernel
theorem dX5_applyCommit_123 : decode cX5_applyCommit 123 = .ok (.iload 4, 2) := by decide +kernel
theorem dX5_applyCommit_125 : decode cX5_applyCommit 125 = .ok (.iaload, 1) := by decide +kernel
theorem dX5_applyCommit_126 : decode cX5_applyCommit 126 = .ok (.ifCond .le 16, 3) := by decide +kernel
theorem dX5_applyCommit_129 : decode cX5_applyCommit 129 = .ok (.aload_n 2, 1) := by decide +kernel
theorem dX5_applyCommit_130 : decode cX5_applyCommit 130 = .ok (.iload 4, 2) := by decide +kernel
theorem dX5_applyCommit_132 : decode cX5_applyCommit 132 = .ok (.aload_n 0, 1) := by decide +kernel
theorem dX5_applyCommit_133 : decode cX5_applyCommit 133 = .ok (.getfield 15, 3) := by decide +kernel
theorem dX5_applyCommit_136 : decode cX5_applyCommit 136 = .ok (.iload 4, 2) := by decide +kernel
theorem dX5_applyCommit_138 : decode cX5_applyCommit 138 = .ok (.iaload, 1) := by decide +kernel
theorem dX5_applyCommit_139 : decode cX5_applyCommit 139 = .ok (.invokevirtual 41, 3) := by decide +kernel
theorem dX5_applyCommit_142 : decode cX5_applyCommit 142 = .ok (.iinc 4 1, 3) := by decide +kernel
theorem dX5_applyCommit_145 : decode cX5_applyCommit 145 = .ok (.goto (-33), 3) := by decide +kernel
theorem dX5_applyCommit_148 : decode cX5_applyCommit 148 = .ok (.return_, 1) := by decide +kernel
theorem dX6_init_0 : decode cX6_init 0 = .ok (.aload_n 0, 1) := by decide +kernel
theorem dX6_init_1 : decode cX6_init 1 = .ok (.invokespecial 1, 3) := by decide +kernel
theorem dX6_init_4 : decode cX6_init 4 = .ok (.aload_n 0, 1) := by decide +kernel
theorem dX6_init_5 : decode cX6_init 5 = .ok (.new 7, 3) := by decide +kernel
theorem dX6_init_8 : decode cX6_init 8 = .ok (.dup, 1) := by decide +kernel
theorem dX6_init_9 : decode cX6_init 9 = .ok (.invokespecial 9, 3) := by decide +kernel
theorem dX6_init_12 : decode cX6_init 12 = .ok (.putfield 10, 3) := by decide +kernel
theorem dX6_init_15 : decode cX6_init 15 = .ok (.aload_n 0, 1) := by decide +kernel
theorem dX6_init_16 : decode cX6_init 16 = .ok (.new 16, 3) := by decide +kernel
theorem dX6_init_19 : decode cX6_init 19 = .ok (.dup, 1) := by decide +kernel
theorem dX6_init_20 : decode cX6_init 20 = .ok (.invokespecial 18, 3) := by decide +kernel
theorem dX6_init_23 : decode cX6_init 23 = .ok (.putfield 19, 3) := by decide +kernel
theorem dX6_init_26 : decode cX6_init 26 = .ok (.return_, 1) := by decide +kernel
theorem dX6_feed_0 : decode cX6_feed 0 = .ok (.aload_n 0, 1) := by decide +kernel
theorem dX6_feed_1 : decode cX6_feed 1 = .ok (.getfield 10, 3) := by decide +kernel
theorem dX6_feed_4 : decode cX6_feed 4 = .ok (.getfield 23, 3) := by decide +kernel
theorem dX6_feed_7 : decode cX6_feed 7 = .ok (.sipush 580, 3) := by decide +kernel
theorem dX6_feed_10 : decode cX6_feed 10 = .ok (.if_icmp .le 13, 3) := by decide +kernel
theorem dX6_feed_13 : decode cX6_feed 13 = .ok (.new 27, 3) := by decide +kernel
theorem dX6_feed_16 : decode cX6_feed 16 = .ok (.dup, 1) := by decide +kernel
theorem dX6_feed_17 : decode cX6_feed 17 = .ok (.ldc 29, 2) := by decide +kernel
theorem dX6_feed_19 : decode cX6_feed 19 = .ok (.invokespecial 31, 3) := by decide +kernel
theorem dX6_feed_22 : decode cX6_feed 22 = .ok (.athrow, 1) := by decide +kernel
theorem dX6_feed_23 : decode cX6_feed 23 = .ok (.aload_n 0, 1) := by decide +kernel
theorem dX6_feed_24 : decode cX6_feed 24 = .ok (.getfield 10, 3) := by decide +kernel
theorem dX6_feed_27 : decode cX6_feed 27 = .ok (.iload_n 1, 1) := by decide +kernel
theorem dX6_feed_28 : decode cX6_feed 28 = .ok (.invokevirtual 34, 3) := by decide +kernel
theorem dX6_feed_31 : decode cX6_feed 31 = .ok (.aload_n 0, 1) := by decide +kernel
theorem dX6_feed_32 : decode cX6_feed 32 = .ok (.getfield 10, 3) := by decide +kernel
theorem dX6_feed_35 : decode cX6_feed 35 = .ok (.iload_n 2, 1) := by decide +kernel
theorem dX6_feed_36 : decode cX6_feed 36 = .ok (.invokevirtual 34, 3) := by decide +kernel
theorem dX6_feed_39 : decode cX6_feed 39 = .ok (.aload_n 0, 1) := by decide +kernel
theorem dX6_feed_40 : decode cX6_feed 40 = .ok (.getfield 10, 3) := by decide +kernel
theorem dX6_feed_43 : decode cX6_feed 43 = .ok (.iload_n 3, 1) := by decide +kernel
theorem dX6_feed_44 : decode cX6_feed 44 = .ok (.invokevirtual 34, 3) := by decide +kernel
theorem dX6_feed_47 : decode cX6_feed 47 = .ok (.aload_n 0, 1) := by decide +kernel
theorem dX6_feed_48 : decode cX6_feed 48 = .ok (.getfield 10, 3) := by decide +kernel
theorem dX6_feed_51 : decode cX6_feed 51 = .ok (.iload 4, 2) := by decide +kernel
theorem dX6_feed_53 : decode cX6_feed 53 = .ok (.invokevirtual 34, 3) := by decide +kernel
theorem dX6_feed_56 : decode cX6_feed 56 = .ok (.aload_n 0, 1) := by decide +kernel
theorem dX6_feed_57 : decode cX6_feed 57 = .ok (.getfield 10, 3) := by decide +kernel
theorem dX6_feed_60 : decode cX6_feed 60 = .ok (.iload 5, 2) := by decide +kernel
theorem dX6_feed_62 : decode cX6_feed 62 = .ok (.invokevirtual 34, 3) := by decide +kernel
theorem dX6_feed_65 : decode cX6_feed 65 = .ok (.aload_n 0, 1) := by decide +kernel
theorem dX6_feed_66 : decode cX6_feed 66 = .ok (.getfield 10, 3) := by decide +kernel
theorem dX6_feed_69 : decode cX6_feed 69 = .ok (.getfield 23, 3) := by decide +kernel
theorem dX6_feed_72 : decode cX6_feed 72 = .ok (.ireturn, 1) := by decide +kernel
theorem dX6_format_0 : decode cX6_format 0 = .ok (.iload_n 1, 1) := by decide +kernel
theorem dX6_format_1 : decode cX6_format 1 = .ok (.ifCond .lt 14, 3) := by decide +kernel
theorem dX6_format_4 : decode cX6_format 4 = .ok (.iload_n 1, 1) := by decide +kernel
theorem dX6_format_5 : decode cX6_format 5 = .ok (.aload_n 0, 1) := by decide +kernel
theorem dX6_format_6 : decode cX6_format 6 = .ok (.getfield 10, 3) := by decide +kernel
theorem dX6_format_9 : decode cX6_format 9 = .ok (.getfield 23, 3) := by decide +kernel
theorem dX6_format_12 : decode cX6_format 12 = .ok (.if_icmp .le 13, 3) := by decide +kernel
theorem dX6_format_15 : decode cX6_format 15 = .ok (.new 38, 3) := by decide +kernel
theorem dX6_format_18 : decode cX6_format 18 = .ok (.dup, 1) := by decide +kernel
theorem dX6_format_19 : decode cX6_format 19 = .ok (.ldc 40, 2) := by decide +kernel
theorem dX6_format_21 : decode cX6_format 21 = .ok (.invokespecial 42, 3) := by decide +kernel
theorem dX6_format_24 : decode cX6_format 24 = .ok (.athrow, 1) := by decide +kernel
theorem dX6_format_25 : decode cX6_format 25 = .ok (.aload_n 0, 1) := by decide +kernel
theorem dX6_format_26 : decode cX6_format 26 = .ok (.getfield 10, 3) := by decide +kernel
theorem dX6_format_29 : decode cX6_format 29 = .ok (.iload_n 1, 1) := by decide +kernel
theorem dX6_format_30 : decode cX6_format 30 = .ok (.invokevirtual 43, 3) := by decide +kernel
theorem dX6_format_33 : decode cX6_format 33 = .ok (.aload_n 0, 1) := by decide +kernel
theorem dX6_format_34 : decode cX6_format 34 = .ok (.getfield 10, 3) := by decide +kernel
theorem dX6_format_37 : decode cX6_format 37 = .ok (.iconst 0, 1) := by decide +kernel
theorem dX6_format_38 : decode cX6_format 38 = .ok (.putfield 23, 3) := by decide +kernel
theorem dX6_format_41 : decode cX6_format 41 = .ok (.aload_n 0, 1) := by decide +kernel
theorem dX6_format_42 : decode cX6_format 42 = .ok (.getfield 10, 3) := by decide +kernel
theorem dX6_format_45 : decode cX6_format 45 = .ok (.getfield 46, 3) := by decide +kernel
theorem dX6_format_48 : decode cX6_format 48 = .ok (.ifCond .eq 13, 3) := by decide +kernel
theorem dX6_format_51 : decode cX6_format 51 = .ok (.new 27, 3) := by decide +kernel
theorem dX6_format_54 : decode cX6_format 54 = .ok (.dup, 1) := by decide +kernel
theorem dX6_format_55 : decode cX6_format 55 = .ok (.ldc 49, 2) := by decide +kernel
theorem dX6_format_57 : decode cX6_format 57 = .ok (.invokespecial 31, 3) := by decide +kernel
theorem dX6_format_60 : decode cX6_format 60 = .ok (.athrow, 1) := by decide +kernel
theorem dX6_format_61 : decode cX6_format 61 = .ok (.aload_n 0, 1) := by decide +kernel
theorem dX6_format_62 : decode cX6_format 62 = .ok (.getfield 19, 3) := by decide +kernel
theorem dX6_format_65 : decode cX6_format 65 = .ok (.aload_n 0, 1) := by decide +kernel
theorem dX6_format_66 : decode cX6_format 66 = .ok (.getfield 10, 3) := by decide +kernel
theorem dX6_format_69 : decode cX6_format 69 = .ok (.getfield 51, 3) := by decide +kernel
theorem dX6_format_72 : decode cX6_format 72 = .ok (.aload_n 0, 1) := by decide +kernel
theorem dX6_format_73 : decode cX6_format 73 = .ok (.getfield 10, 3) := by decide +kernel
theorem dX6_format_76 : decode cX6_format 76 = .ok (.getfield 54, 3) := by decide +kernel
theorem dX6_format_79 : decode cX6_format 79 = .ok (.aload_n 0, 1) := by decide +kernel
theorem dX6_format_80 : decode cX6_format 80 = .ok (.getfield 10, 3) := by decide +kernel
theorem dX6_format_83 : decode cX6_format 83 = .ok (.getfield 57, 3) := by decide +kernel
theorem dX6_format_86 : decode cX6_format 86 = .ok (.aload_n 0, 1) := by decide +kernel
theorem dX6_format_87 : decode cX6_format 87 = .ok (.getfield 10, 3) := by decide +kernel
theorem dX6_format_90 : decode cX6_format 90 = .ok (.getfield 60, 3) := by decide +kernel
theorem dX6_format_93 : decode cX6_format 93 = .ok (.invokevirtual 63, 3) := by decide +kernel
theorem dX6_format_96 : decode cX6_format 96 = .ok (.iconst 0, 1) := by decide +kernel
theorem dX6_format_97 : decode cX6_format 97 = .ok (.istore_n 2, 1) := by decide +kernel
theorem dX6_format_98 : decode cX6_format 98 = .ok (.iload_n 2, 1) := by decide +kernel
theorem dX6_format_99 : decode cX6_format 99 = .ok (.aload_n 0, 1) := by decide +kernel
theorem dX6_format_100 : decode cX6_format 100 = .ok (.getfield 10, 3) := by decide +kernel
theorem dX6_format_103 : decode cX6_format 103 = .ok (.getfield 67, 3) := by decide +kernel
theorem dX6_format_106 : decode cX6_format 106 = .ok (.if_icmp .ge 27, 3) := by decide +kernel
theorem dX6_format_109 : decode cX6_format 109 = .ok (.aload_n 0, 1) := by decide +kernel
theorem dX6_format_110 : decode cX6_format 110 = .ok (.getfield 19, 3) := by decide +kernel
theorem dX6_format_113 : decode cX6_format 113 = .ok (.iload_n 2, 1) := by decide +kernel
theorem dX6_format_114 : decode cX6_format 114 = .ok (.aload_n 0, 1) := by decide +kernel
theorem dX6_format_115 : decode cX6_format 115 = .ok (.getfield 10, 3) := by decide +kernel
theorem dX6_format_118 : decode cX6_format 118 = .ok (.getfield 70, 3) := by decide +kernel
theorem dX6_format_121 : decode cX6_format 121 = .ok (.iload_n 2, 1) := by decide +kernel
theorem dX6_format_122 : decode cX6_format 122 = .ok (.iaload, 1) := by decide +kernel
theorem dX6_format_123 : decode cX6_format 123 = .ok (.invokevirtual 74, 3) := by decide +kernel
theorem dX6_format_126 : decode cX6_format 126 = .ok (.pop, 1) := by decide +kernel
theorem dX6_format_127 : decode cX6_format 127 = .ok (.iinc 2 1, 3) := by decide +kernel
theorem dX6_format_130 : decode cX6_format 130 = .ok (.goto (-32), 3) := by decide +kernel
theorem dX6_format_133 : decode cX6_format 133 = .ok (.aload_n 0, 1) := by decide +kernel
theorem dX6_format_134 : decode cX6_format 134 = .ok (.getfield 10, 3) := by decide +kernel
theorem dX6_format_137 : decode cX6_format 137 = .ok (.getfield 67, 3) := by decide +kernel
theorem dX6_format_140 : decode cX6_format 140 = .ok (.ireturn, 1) := by decide +kernel
theorem dX6_errorCode_0 : decode cX6_errorCode 0 = .ok (.aload_n 0, 1) := by decide +kernel
theorem dX6_errorCode_1 : decode cX6_errorCode 1 = .ok (.getfield 10, 3) := by decide +kernel
theorem dX6_errorCode_4 : decode cX6_errorCode 4 = .ok (.getfield 46, 3) := by decide +kernel
theorem dX6_errorCode_7 : decode cX6_errorCode 7 = .ok (.ireturn, 1) := by decide +kernel
theorem dX6_errorPosition_0 : decode cX6_errorPosition 0 = .ok (.aload_n 0, 1) := by decide +kernel
theorem dX6_errorPosition_1 : decode cX6_errorPosition 1 = .ok (.getfield 10, 3) := by decide +kernel
theorem dX6_errorPosition_4 : decode cX6_errorPosition 4 = .ok (.getfield 78, 3) := by decide +kernel
theorem dX6_errorPosition_7 : decode cX6_errorPosition 7 = .ok (.ireturn, 1) := by decide +kernel
theorem dX6_begin_0 : decode cX6_begin 0 = .ok (.aload_n 0, 1) := by decide +kernel
theorem dX6_begin_1 : decode cX6_begin 1 = .ok (.getfield 19, 3) := by decide +kernel
theorem dX6_begin_4 : decode cX6_begin 4 = .ok (.getfield 81, 3) := by decide +kernel
theorem dX6_begin_7 : decode cX6_begin 7 = .ok (.astore_n 1, 1) := by decide +kernel
theorem dX6_begin_8 : decode cX6_begin 8 = .ok (.aload_n 0, 1) := by decide +kernel
theorem dX6_begin_9 : decode cX6_begin 9 = .ok (.getfield 19, 3) := by decide +kernel
theorem dX6_begin_12 : decode cX6_begin 12 = .ok (.getfield 85, 3) := by decide +kernel
theorem dX6_begin_15 : decode cX6_begin 15 = .ok (.ifCond .eq 22, 3) := by decide +kernel
theorem dX6_begin_18 : decode cX6_begin 18 = .ok (.aload_n 1, 1) := by decide +kernel
theorem dX6_begin_19 : decode cX6_begin 19 = .ok (.invokevirtual 89, 3) := by decide +kernel
theorem dX6_begin_22 : decode cX6_begin 22 = .ok (.bipush 6, 2) := by decide +kernel
theorem dX6_begin_24 : decode cX6_begin 24 = .ok (.if_icmp .ge 13, 3) := by decide +kernel
theorem dX6_begin_27 : decode cX6_begin 27 = .ok (.aload_n 1, 1) := by decide +kernel
theorem dX6_begin_28 : decode cX6_begin 28 = .ok (.getfield 95, 3) := by decide +kernel
theorem dX6_begin_31 : decode cX6_begin 31 = .ok (.sipush 1000, 3) := by decide +kernel
theorem dX6_begin_34 : decode cX6_begin 34 = .ok (.if_icmp .lt 13, 3) := by decide +kernel
theorem dX6_begin_37 : decode cX6_begin 37 = .ok (.new 27, 3) := by decide +kernel
theorem dX6_begin_40 : decode cX6_begin 40 = .ok (.dup, 1) := by decide +kernel
theorem dX6_begin_41 : decode cX6_begin 41 = .ok (.ldc 98, 2) := by decide +kernel
theorem dX6_begin_43 : decode cX6_begin 43 = .ok (.invokespecial 31, 3) := by decide +kernel
theorem dX6_begin_46 : decode cX6_begin 46 = .ok (.athrow, 1) := by decide +kernel
theorem dX6_begin_47 : decode cX6_begin 47 = .ok (.aload_n 1, 1) := by decide +kernel
theorem dX6_begin_48 : decode cX6_begin 48 = .ok (.invokevirtual 100, 3) := by decide +kernel
theorem dX6_begin_51 : decode cX6_begin 51 = .ok (.ireturn, 1) := by decide +kernel
theorem dX6_write_0 : decode cX6_write 0 = .ok (.aload_n 0, 1) := by decide +kernel
theorem dX6_write_1 : decode cX6_write 1 = .ok (.iload_n 1, 1) := by decide +kernel
theorem dX6_write_2 : decode cX6_write 2 = .ok (.invokevirtual 103, 3) := by decide +kernel
theorem dX6_write_5 : decode cX6_write 5 = .ok (.ifCond .eq 17, 3) := by decide +kernel
theorem dX6_write_8 : decode cX6_write 8 = .ok (.aload_n 0, 1) := by decide +kernel
theorem dX6_write_9 : decode cX6_write 9 = .ok (.getfield 19, 3) := by decide +kernel
theorem dX6_write_12 : decode cX6_write 12 = .ok (.getfield 107, 3) := by decide +kernel
theorem dX6_write_15 : decode cX6_write 15 = .ok (.iload_n 2, 1) := by decide +kernel
theorem dX6_write_16 : decode cX6_write 16 = .ok (.invokevirtual 111, 3) := by decide +kernel
theorem dX6_write_19 : decode cX6_write 19 = .ok (.ifCond .ne 13, 3) := by decide +kernel
theorem dX6_write_22 : decode cX6_write 22 = .ok (.new 116, 3) := by decide +kernel
theorem dX6_write_25 : decode cX6_write 25 = .ok (.dup, 1) := by decide +kernel
theorem dX6_write_26 : decode cX6_write 26 = .ok (.ldc 118, 2) := by decide +kernel
theorem dX6_write_28 : decode cX6_write 28 = .ok (.invokespecial 120, 3) := by decide +kernel
theorem dX6_write_31 : decode cX6_write 31 = .ok (.athrow, 1) := by decide +kernel
theorem dX6_write_32 : decode cX6_write 32 = .ok (.iload_n 3, 1) := by decide +kernel
theorem dX6_write_33 : decode cX6_write 33 = .ok (.iconst (-1), 1) := by decide +kernel
theorem dX6_write_34 : decode cX6_write 34 = .ok (.if_icmp .lt 9, 3) := by decide +kernel
theorem dX6_write_37 : decode cX6_write 37 = .ok (.iload_n 3, 1) := by decide +kernel
theorem dX6_write_38 : decode cX6_write 38 = .ok (.ldc 121, 2) := by decide +kernel
theorem dX6_write_40 : decode cX6_write 40 = .ok (.if_icmp .le 13, 3) := by decide +kernel
theorem dX6_write_43 : decode cX6_write 43 = .ok (.new 38, 3) := by decide +kernel
theorem dX6_write_46 : decode cX6_write 46 = .ok (.dup, 1) := by decide +kernel
theorem dX6_write_47 : decode cX6_write 47 = .ok (.ldc 122, 2) := by decide +kernel
theorem dX6_write_49 : decode cX6_write 49 = .ok (.invokespecial 42, 3) := by decide +kernel
theorem dX6_write_52 : decode cX6_write 52 = .ok (.athrow, 1) := by decide +kernel
theorem dX6_write_53 : decode cX6_write 53 = .ok (.aload_n 0, 1) := by decide +kernel
theorem dX6_write_54 : decode cX6_write 54 = .ok (.getfield 19, 3) := by decide +kernel
theorem dX6_write_57 : decode cX6_write 57 = .ok (.getfield 85, 3) := by decide +kernel
theorem dX6_write_60 : decode cX6_write 60 = .ok (.ifCond .eq 26, 3) := by decide +kernel
theorem dX6_write_63 : decode cX6_write 63 = .ok (.aload_n 0, 1) := by decide +kernel
theorem dX6_write_64 : decode cX6_write 64 = .ok (.iload_n 1, 1) := by decide +kernel
theorem dX6_write_65 : decode cX6_write 65 = .ok (.invokevirtual 124, 3) := by decide +kernel
theorem dX6_write_68 : decode cX6_write 68 = .ok (.ifCond .eq 18, 3) := by decide +kernel
theorem dX6_write_71 : decode cX6_write 71 = .ok (.aload_n 0, 1) := by decide +kernel
theorem dX6_write_72 : decode cX6_write 72 = .ok (.getfield 19, 3) := by decide +kernel
theorem dX6_write_75 : decode cX6_write 75 = .ok (.getfield 107, 3) := by decide +kernel
theorem dX6_write_78 : decode cX6_write 78 = .ok (.iload_n 2, 1) := by decide +kernel
theorem dX6_write_79 : decode cX6_write 79 = .ok (.iload_n 1, 1) := by decide +kernel
theorem dX6_write_80 : decode cX6_write 80 = .ok (.invokevirtual 127, 3) := by decide +kernel
theorem dX6_write_83 : decode cX6_write 83 = .ok (.ifCond .eq 13, 3) := by decide +kernel
theorem dX6_write_86 : decode cX6_write 86 = .ok (.new 27, 3) := by decide +kernel
theorem dX6_write_89 : decode cX6_write 89 = .ok (.dup, 1) := by decide +kernel
theorem dX6_write_90 : decode cX6_write 90 = .ok (.ldc 131, 2) := by decide +kernel
theorem dX6_write_92 : decode cX6_write 92 = .ok (.invokespecial 31, 3) := by decide +kernel
theorem dX6_write_95 : decode cX6_write 95 = .ok (.athrow, 1) := by decide +kernel
theorem dX6_write_96 : decode cX6_write 96 = .ok (.aload_n 0, 1) := by decide +kernel
theorem dX6_write_97 : decode cX6_write 97 = .ok (.getfield 19, 3) := by decide +kernel
theorem dX6_write_100 : decode cX6_write 100 = .ok (.iload_n 1, 1) := by decide +kernel
theorem dX6_write_101 : decode cX6_write 101 = .ok (.ifCond .ne 13, 3) := by decide +kernel
theorem dX6_write_104 : decode cX6_write 104 = .ok (.aload_n 0, 1) := by decide +kernel
theorem dX6_write_105 : decode cX6_write 105 = .ok (.getfield 19, 3) := by decide +kernel
theorem dX6_write_108 : decode cX6_write 108 = .ok (.invokevirtual 133, 3) := by decide +kernel
theorem dX6_write_111 : decode cX6_write 111 = .ok (.goto 4, 3) := by decide +kernel
theorem dX6_write_114 : decode cX6_write 114 = .ok (.iconst 1, 1) := by decide +kernel
theorem dX6_write_115 : decode cX6_write 115 = .ok (.invokevirtual 136, 3) := by decide +kernel
theorem dX6_write_118 : decode cX6_write 118 = .ok (.ifCond .ne 13, 3) := by decide +kernel
theorem dX6_write_121 : decode cX6_write 121 = .ok (.new 27, 3) := by decide +kernel
theorem dX6_write_124 : decode cX6_write 124 = .ok (.dup, 1) := by decide +kernel
theorem dX6_write_125 : decode cX6_write 125 = .ok (.ldc 139, 2) := by decide +kernel
theorem dX6_write_127 : decode cX6_write 127 = .ok (.invokespecial 31, 3) := by decide +kernel
theorem dX6_write_130 : decode cX6_write 130 = .ok (.athrow, 1) := by decide +kernel
theorem dX6_write_131 : decode cX6_write 131 = .ok (.iload_n 1, 1) := by decide +kernel
theorem dX6_write_132 : decode cX6_write 132 = .ok (.ifCond .ne 15, 3) := by decide +kernel
theorem dX6_write_135 : decode cX6_write 135 = .ok (.aload_n 0, 1) := by decide +kernel
theorem dX6_write_136 : decode cX6_write 136 = .ok (.getfield 19, 3) := by decide +kernel
theorem dX6_write_139 : decode cX6_write 139 = .ok (.iload_n 2, 1) := by decide +kernel
theorem dX6_write_140 : decode cX6_write 140 = .ok (.iload_n 3, 1) := by decide +kernel
theorem dX6_write_141 : decode cX6_write 141 = .ok (.invokevirtual 74, 3) := by decide +kernel
theorem dX6_write_144 : decode cX6_write 144 = .ok (.goto 13, 3) := by decide +kernel
theorem dX6_write_147 : decode cX6_write 147 = .ok (.aload_n 0, 1) := by decide +kernel
theorem dX6_write_148 : decode cX6_write 148 = .ok (.getfield 19, 3) := by decide +kernel
theorem dX6_write_151 : decode cX6_write 151 = .ok (.iload_n 1, 1) := by decide +kernel
theorem dX6_write_152 : decode cX6_write 152 = .ok (.iload_n 2, 1) := by decide +kernel
theorem dX6_write_153 : decode cX6_write 153 = .ok (.iload_n 3, 1) := by decide +kernel
theorem dX6_write_154 : decode cX6_write 154 = .ok (.invokevirtual 141, 3) := by decide +kernel
theorem dX6_write_157 : decode cX6_write 157 = .ok (.istore 4, 2) := by decide +kernel
theorem dX6_write_159 : decode cX6_write 159 = .ok (.iload 4, 2) := by decide +kernel
theorem dX6_write_161 : decode cX6_write 161 = .ok (.ifCond .ge 13, 3) := by decide +kernel
theorem dX6_write_164 : decode cX6_write 164 = .ok (.new 27, 3) := by decide +kernel
theorem dX6_write_167 : decode cX6_write 167 = .ok (.dup, 1) := by decide +kernel
theorem dX6_write_168 : decode cX6_write 168 = .ok (.ldc 145, 2) := by decide +kernel
theorem dX6_write_170 : decode cX6_write 170 = .ok (.invokespecial 31, 3) := by decide +kernel
theorem dX6_write_173 : decode cX6_write 173 = .ok (.athrow, 1) := by decide +kernel
theorem dX6_write_174 : decode cX6_write 174 = .ok (.iload 4, 2) := by decide +kernel
theorem dX6_write_176 : decode cX6_write 176 = .ok (.ireturn, 1) := by decide +kernel
theorem dX6_read_0 : decode cX6_read 0 = .ok (.aload_n 0, 1) := by decide +kernel
theorem dX6_read_1 : decode cX6_read 1 = .ok (.iload_n 1, 1) := by decide +kernel
theorem dX6_read_2 : decode cX6_read 2 = .ok (.invokevirtual 103, 3) := by decide +kernel
theorem dX6_read_5 : decode cX6_read 5 = .ok (.ifCond .eq 17, 3) := by decide +kernel
theorem dX6_read_8 : decode cX6_read 8 = .ok (.aload_n 0, 1) := by decide +kernel
theorem dX6_read_9 : decode cX6_read 9 = .ok (.getfield 19, 3) := by decide +kernel
theorem dX6_read_12 : decode cX6_read 12 = .ok (.getfield 107, 3) := by decide +kernel
theorem dX6_read_15 : decode cX6_read 15 = .ok (.iload_n 2, 1) := by decide +kernel
theorem dX6_read_16 : decode cX6_read 16 = .ok (.invokevirtual 111, 3) := by decide +kernel
theorem dX6_read_19 : decode cX6_read 19 = .ok (.ifCond .ne 13, 3) := by decide +kernel
theorem dX6_read_22 : decode cX6_read 22 = .ok (.new 116, 3) := by decide +kernel
theorem dX6_read_25 : decode cX6_read 25 = .ok (.dup, 1) := by decide +kernel
theorem dX6_read_26 : decode cX6_read 26 = .ok (.ldc 118, 2) := by decide +kernel
theorem dX6_read_28 : decode cX6_read 28 = .ok (.invokespecial 120, 3) := by decide +kernel
theorem dX6_read_31 : decode cX6_read 31 = .ok (.athrow, 1) := by decide +kernel
theorem dX6_read_32 : decode cX6_read 32 = .ok (.aload_n 0, 1) := by decide +kernel
theorem dX6_read_33 : decode cX6_read 33 = .ok (.getfield 19, 3) := by decide +kernel
theorem dX6_read_36 : decode cX6_read 36 = .ok (.getfield 85, 3) := by decide +kernel
theorem dX6_read_39 : decode cX6_read 39 = .ok (.ifCond .eq 11, 3) := by decide +kernel
theorem dX6_read_42 : decode cX6_read 42 = .ok (.aload_n 0, 1) := by decide +kernel
theorem dX6_read_43 : decode cX6_read 43 = .ok (.iload_n 1, 1) := by decide +kernel
theorem dX6_read_44 : decode cX6_read 44 = .ok (.invokevirtual 124, 3) := by decide +kernel
theorem dX6_read_47 : decode cX6_read 47 = .ok (.ifCond .ne 13, 3) := by decide +kernel
theorem dX6_read_50 : decode cX6_read 50 = .ok (.new 27, 3) := by decide +kernel
theorem dX6_read_53 : decode cX6_read 53 = .ok (.dup, 1) := by decide +kernel
theorem dX6_read_54 : decode cX6_read 54 = .ok (.ldc 147, 2) := by decide +kernel
theorem dX6_read_56 : decode cX6_read 56 = .ok (.invokespecial 31, 3) := by decide +kernel
theorem dX6_read_59 : decode cX6_read 59 = .ok (.athrow, 1) := by decide +kernel
theorem dX6_read_60 : decode cX6_read 60 = .ok (.aload_n 0, 1) := by decide +kernel
theorem dX6_read_61 : decode cX6_read 61 = .ok (.getfield 19, 3) := by decide +kernel
theorem dX6_read_64 : decode cX6_read 64 = .ok (.iload_n 2, 1) := by decide +kernel
theorem dX6_read_65 : decode cX6_read 65 = .ok (.aload_n 0, 1) := by decide +kernel
theorem dX6_read_66 : decode cX6_read 66 = .ok (.getfield 19, 3) := by decide +kernel
theorem dX6_read_69 : decode cX6_read 69 = .ok (.getfield 107, 3) := by decide +kernel
theorem dX6_read_72 : decode cX6_read 72 = .ok (.iload_n 1, 1) := by decide +kernel
theorem dX6_read_73 : decode cX6_read 73 = .ok (.iload_n 2, 1) := by decide +kernel
theorem dX6_read_74 : decode cX6_read 74 = .ok (.invokevirtual 149, 3) := by decide +kernel
theorem dX6_read_77 : decode cX6_read 77 = .ok (.invokevirtual 152, 3) := by decide +kernel
theorem dX6_read_80 : decode cX6_read 80 = .ok (.ireturn, 1) := by decide +kernel
theorem dX6_commit_0 : decode cX6_commit 0 = .ok (.aload_n 0, 1) := by decide +kernel
theorem dX6_commit_1 : decode cX6_commit 1 = .ok (.getfield 19, 3) := by decide +kernel
theorem dX6_commit_4 : decode cX6_commit 4 = .ok (.getfield 81, 3) := by decide +kernel
theorem dX6_commit_7 : decode cX6_commit 7 = .ok (.iload_n 1, 1) := by decide +kernel
theorem dX6_commit_8 : decode cX6_commit 8 = .ok (.invokevirtual 155, 3) := by decide +kernel
theorem dX6_commit_11 : decode cX6_commit 11 = .ok (.ifCond .ne 13, 3) := by decide +kernel
theorem dX6_commit_14 : decode cX6_commit 14 = .ok (.new 116, 3) := by decide +kernel
theorem dX6_commit_17 : decode cX6_commit 17 = .ok (.dup, 1) := by decide +kernel
theorem dX6_commit_18 : decode cX6_commit 18 = .ok (.ldc 158, 2) := by decide +kernel
theorem dX6_commit_20 : decode cX6_commit 20 = .ok (.invokespecial 120, 3) := by decide +kernel
theorem dX6_commit_23 : decode cX6_commit 23 = .ok (.athrow, 1) := by decide +kernel
theorem dX6_commit_24 : decode cX6_commit 24 = .ok (.aload_n 0, 1) := by decide +kernel
theorem dX6_commit_25 : decode cX6_commit 25 = .ok (.getfield 19, 3) := by decide +kernel
theorem dX6_commit_28 : decode cX6_commit 28 = .ok (.getfield 85, 3) := by decide +kernel
theorem dX6_commit_31 : decode cX6_commit 31 = .ok (.ifCond .eq 17, 3) := by decide +kernel
theorem dX6_commit_34 : decode cX6_commit 34 = .ok (.aload_n 0, 1) := by decide +kernel
theorem dX6_commit_35 : decode cX6_commit 35 = .ok (.getfield 19, 3) := by decide +kernel
theorem dX6_commit_38 : decode cX6_commit 38 = .ok (.getfield 81, 3) := by decide +kernel
theorem dX6_commit_41 : decode cX6_commit 41 = .ok (.iload_n 1, 1) := by decide +kernel
theorem dX6_commit_42 : decode cX6_commit 42 = .ok (.invokevirtual 160, 3) := by decide +kernel
theorem dX6_commit_45 : decode cX6_commit 45 = .ok (.ifCond .ne 13, 3) := by decide +kernel
theorem dX6_commit_48 : decode cX6_commit 48 = .ok (.new 27, 3) := by decide +kernel
theorem dX6_commit_51 : decode cX6_commit 51 = .ok (.dup, 1) := by decide +kernel
theorem dX6_commit_52 : decode cX6_commit 52 = .ok (.ldc 163, 2) := by decide +kernel
theorem dX6_commit_54 : decode cX6_commit 54 = .ok (.invokespecial 31, 3) := by decide +kernel
theorem dX6_commit_57 : decode cX6_commit 57 = .ok (.athrow, 1) := by decide +kernel
theorem dX6_commit_58 : decode cX6_commit 58 = .ok (.aload_n 0, 1) := by decide +kernel
theorem dX6_commit_59 : decode cX6_commit 59 = .ok (.getfield 19, 3) := by decide +kernel
theorem dX6_commit_62 : decode cX6_commit 62 = .ok (.getfield 107, 3) := by decide +kernel
theorem dX6_commit_65 : decode cX6_commit 65 = .ok (.iload_n 1, 1) := by decide +kernel
theorem dX6_commit_66 : decode cX6_commit 66 = .ok (.invokevirtual 165, 3) := by decide +kernel
theorem dX6_commit_69 : decode cX6_commit 69 = .ok (.istore_n 2, 1) := by decide +kernel
theorem dX6_commit_70 : decode cX6_commit 70 = .ok (.iload_n 2, 1) := by decide +kernel
theorem dX6_commit_71 : decode cX6_commit 71 = .ok (.ifCond .le 30, 3) := by decide +kernel
theorem dX6_commit_74 : decode cX6_commit 74 = .ok (.aload_n 0, 1) := by decide +kernel
theorem dX6_commit_75 : decode cX6_commit 75 = .ok (.getfield 19, 3) := by decide +kernel
theorem dX6_commit_78 : decode cX6_commit 78 = .ok (.aload_n 0, 1) := by decide +kernel
theorem dX6_commit_79 : decode cX6_commit 79 = .ok (.getfield 19, 3) := by decide +kernel
theorem dX6_commit_82 : decode cX6_commit 82 = .ok (.invokevirtual 133, 3) := by decide +kernel
theorem dX6_commit_85 : decode cX6_commit 85 = .ok (.invokevirtual 136, 3) := by decide +kernel
theorem dX6_commit_88 : decode cX6_commit 88 = .ok (.ifCond .ne 13, 3) := by decide +kernel
theorem dX6_commit_91 : decode cX6_commit 91 = .ok (.new 27, 3) := by decide +kernel
theorem dX6_commit_94 : decode cX6_commit 94 = .ok (.dup, 1) := by decide +kernel
theorem dX6_commit_95 : decode cX6_commit 95 = .ok (.ldc 139, 2) := by decide +kernel
theorem dX6_commit_97 : decode cX6_commit 97 = .ok (.invokespecial 31, 3) := by decide +kernel
theorem dX6_commit_100 : decode cX6_commit 100 = .ok (.athrow, 1) := by decide +kernel
theorem dX6_commit_101 : decode cX6_commit 101 = .ok (.aload_n 0, 1) := by decide +kernel
theorem dX6_commit_102 : decode cX6_commit 102 = .ok (.getfield 19, 3) := by decide +kernel
theorem dX6_commit_105 : decode cX6_commit 105 = .ok (.iload_n 1, 1) := by decide +kernel
theorem dX6_commit_106 : decode cX6_commit 106 = .ok (.iload_n 2, 1) := by decide +kernel
theorem dX6_commit_107 : decode cX6_commit 107 = .ok (.invokevirtual 169, 3) := by decide +kernel
theorem dX6_commit_110 : decode cX6_commit 110 = .ok (.ifCond .ne 13, 3) := by decide +kernel
theorem dX6_commit_113 : decode cX6_commit 113 = .ok (.new 27, 3) := by decide +kernel
theorem dX6_commit_116 : decode cX6_commit 116 = .ok (.dup, 1) := by decide +kernel
theorem dX6_commit_117 : decode cX6_commit 117 = .ok (.ldc 145, 2) := by decide +kernel
theorem dX6_commit_119 : decode cX6_commit 119 = .ok (.invokespecial 31, 3) := by decide +kernel
theorem dX6_commit_122 : decode cX6_commit 122 = .ok (.athrow, 1) := by decide +kernel
theorem dX6_commit_123 : decode cX6_commit 123 = .ok (.iload_n 2, 1) := by decide +kernel
theorem dX6_commit_124 : decode cX6_commit 124 = .ok (.ireturn, 1) := by decide +kernel
theorem dX6_abort_0 : decode cX6_abort 0 = .ok (.aload_n 0, 1) := by decide +kernel
theorem dX6_abort_1 : decode cX6_abort 1 = .ok (.getfield 19, 3) := by decide +kernel
theorem dX6_abort_4 : decode cX6_abort 4 = .ok (.getfield 81, 3) := by decide +kernel
theorem dX6_abort_7 : decode cX6_abort 7 = .ok (.iload_n 1, 1) := by decide +kernel
theorem dX6_abort_8 : decode cX6_abort 8 = .ok (.invokevirtual 155, 3) := by decide +kernel
theorem dX6_abort_11 : decode cX6_abort 11 = .ok (.ifCond .ne 13, 3) := by decide +kernel
theorem dX6_abort_14 : decode cX6_abort 14 = .ok (.new 116, 3) := by decide +kernel
theorem dX6_abort_17 : decode cX6_abort 17 = .ok (.dup, 1) := by decide +kernel
theorem dX6_abort_18 : decode cX6_abort 18 = .ok (.ldc 158, 2) := by decide +kernel
theorem dX6_abort_20 : decode cX6_abort 20 = .ok (.invokespecial 120, 3) := by decide +kernel
theorem dX6_abort_23 : decode cX6_abort 23 = .ok (.athrow, 1) := by decide +kernel
theorem dX6_abort_24 : decode cX6_abort 24 = .ok (.aload_n 0, 1) := by decide +kernel
theorem dX6_abort_25 : decode cX6_abort 25 = .ok (.getfield 19, 3) := by decide +kernel
theorem dX6_abort_28 : decode cX6_abort 28 = .ok (.getfield 85, 3) := by decide +kernel
theorem dX6_abort_31 : decode cX6_abort 31 = .ok (.ifCond .eq 17, 3) := by decide +kernel
theorem dX6_abort_34 : decode cX6_abort 34 = .ok (.aload_n 0, 1) := by decide +kernel
theorem dX6_abort_35 : decode cX6_abort 35 = .ok (.getfield 19, 3) := by decide +kernel
theorem dX6_abort_38 : decode cX6_abort 38 = .ok (.getfield 81, 3) := by decide +kernel
theorem dX6_abort_41 : decode cX6_abort 41 = .ok (.iload_n 1, 1) := by decide +kernel
theorem dX6_abort_42 : decode cX6_abort 42 = .ok (.invokevirtual 160, 3) := by decide +kernel
theorem dX6_abort_45 : decode cX6_abort 45 = .ok (.ifCond .ne 13, 3) := by decide +kernel
theorem dX6_abort_48 : decode cX6_abort 48 = .ok (.new 27, 3) := by decide +kernel
theorem dX6_abort_51 : decode cX6_abort 51 = .ok (.dup, 1) := by decide +kernel
theorem dX6_abort_52 : decode cX6_abort 52 = .ok (.ldc 172, 2) := by decide +kernel
theorem dX6_abort_54 : decode cX6_abort 54 = .ok (.invokespecial 31, 3) := by decide +kernel
theorem dX6_abort_57 : decode cX6_abort 57 = .ok (.athrow, 1) := by decide +kernel
theorem dX6_abort_58 : decode cX6_abort 58 = .ok (.aload_n 0, 1) := by decide +kernel
theorem dX6_abort_59 : decode cX6_abort 59 = .ok (.getfield 19, 3) := by decide +kernel
theorem dX6_abort_62 : decode cX6_abort 62 = .ok (.getfield 107, 3) := by decide +kernel
theorem dX6_abort_65 : decode cX6_abort 65 = .ok (.iload_n 1, 1) := by decide +kernel
theorem dX6_abort_66 : decode cX6_abort 66 = .ok (.invokevirtual 165, 3) := by decide +kernel
theorem dX6_abort_69 : decode cX6_abort 69 = .ok (.istore_n 2, 1) := by decide +kernel
theorem dX6_abort_70 : decode cX6_abort 70 = .ok (.aload_n 0, 1) := by decide +kernel
theorem dX6_abort_71 : decode cX6_abort 71 = .ok (.getfield 19, 3) := by decide +kernel
theorem dX6_abort_74 : decode cX6_abort 74 = .ok (.getfield 107, 3) := by decide +kernel
theorem dX6_abort_77 : decode cX6_abort 77 = .ok (.iload_n 1, 1) := by decide +kernel
theorem dX6_abort_78 : decode cX6_abort 78 = .ok (.invokevirtual 174, 3) := by decide +kernel
theorem dX6_abort_81 : decode cX6_abort 81 = .ok (.aload_n 0, 1) := by decide +kernel
theorem dX6_abort_82 : decode cX6_abort 82 = .ok (.getfield 19, 3) := by decide +kernel
theorem dX6_abort_85 : decode cX6_abort 85 = .ok (.getfield 81, 3) := by decide +kernel
theorem dX6_abort_88 : decode cX6_abort 88 = .ok (.iload_n 1, 1) := by decide +kernel
theorem dX6_abort_89 : decode cX6_abort 89 = .ok (.iconst 3, 1) := by decide +kernel
theorem dX6_abort_90 : decode cX6_abort 90 = .ok (.invokevirtual 177, 3) := by decide +kernel
theorem dX6_abort_93 : decode cX6_abort 93 = .ok (.iload_n 2, 1) := by decide +kernel
theorem dX6_abort_94 : decode cX6_abort 94 = .ok (.ireturn, 1) := by decide +kernel
theorem dX6_openReader_0 : decode cX6_openReader 0 = .ok (.aload_n 0, 1) := by decide +kernel
theorem dX6_openReader_1 : decode cX6_openReader 1 = .ok (.getfield 19, 3) := by decide +kernel
theorem dX6_openReader_4 : decode cX6_openReader 4 = .ok (.getfield 85, 3) := by decide +kernel
theorem dX6_openReader_7 : decode cX6_openReader 7 = .ok (.ifCond .eq 16, 3) := by decide +kernel
theorem dX6_openReader_10 : decode cX6_openReader 10 = .ok (.aload_n 0, 1) := by decide +kernel
theorem dX6_openReader_11 : decode cX6_openReader 11 = .ok (.getfield 19, 3) := by decide +kernel
theorem dX6_openReader_14 : decode cX6_openReader 14 = .ok (.getfield 107, 3) := by decide +kernel
theorem dX6_openReader_17 : decode cX6_openReader 17 = .ok (.invokevirtual 181, 3) := by decide +kernel
theorem dX6_openReader_20 : decode cX6_openReader 20 = .ok (.goto 4, 3) := by decide +kernel
theorem dX6_openReader_23 : decode cX6_openReader 23 = .ok (.iconst (-1), 1) := by decide +kernel
theorem dX6_openReader_24 : decode cX6_openReader 24 = .ok (.istore_n 1, 1) := by decide +kernel
theorem dX6_openReader_25 : decode cX6_openReader 25 = .ok (.iload_n 1, 1) := by decide +kernel
theorem dX6_openReader_26 : decode cX6_openReader 26 = .ok (.ifCond .ge 13, 3) := by decide +kernel
theorem dX6_openReader_29 : decode cX6_openReader 29 = .ok (.new 27, 3) := by decide +kernel
theorem dX6_openReader_32 : decode cX6_openReader 32 = .ok (.dup, 1) := by decide +kernel
theorem dX6_openReader_33 : decode cX6_openReader 33 = .ok (.ldc 184, 2) := by decide +kernel
theorem dX6_openReader_35 : decode cX6_openReader 35 = .ok (.invokespecial 31, 3) := by decide +kernel
theorem dX6_openReader_38 : decode cX6_openReader 38 = .ok (.athrow, 1) := by decide +kernel
theorem dX6_openReader_39 : decode cX6_openReader 39 = .ok (.iload_n 1, 1) := by decide +kernel
theorem dX6_openReader_40 : decode cX6_openReader 40 = .ok (.ireturn, 1) := by decide +kernel
theorem dX6_readBy_0 : decode cX6_readBy 0 = .ok (.aload_n 0, 1) := by decide +kernel
theorem dX6_readBy_1 : decode cX6_readBy 1 = .ok (.getfield 19, 3) := by decide +kernel
theorem dX6_readBy_4 : decode cX6_readBy 4 = .ok (.getfield 107, 3) := by decide +kernel
theorem dX6_readBy_7 : decode cX6_readBy 7 = .ok (.iload_n 1, 1) := by decide +kernel
theorem dX6_readBy_8 : decode cX6_readBy 8 = .ok (.invokevirtual 186, 3) := by decide +kernel
theorem dX6_readBy_11 : decode cX6_readBy 11 = .ok (.ifCond .eq 17, 3) := by decide +kernel
theorem dX6_readBy_14 : decode cX6_readBy 14 = .ok (.aload_n 0, 1) := by decide +kernel
theorem dX6_readBy_15 : decode cX6_readBy 15 = .ok (.getfield 19, 3) := by decide +kernel
theorem dX6_readBy_18 : decode cX6_readBy 18 = .ok (.getfield 107, 3) := by decide +kernel
theorem dX6_readBy_21 : decode cX6_readBy 21 = .ok (.iload_n 2, 1) := by decide +kernel
theorem dX6_readBy_22 : decode cX6_readBy 22 = .ok (.invokevirtual 111, 3) := by decide +kernel
theorem dX6_readBy_25 : decode cX6_readBy 25 = .ok (.ifCond .ne 13, 3) := by decide +kernel
theorem dX6_readBy_28 : decode cX6_readBy 28 = .ok (.new 116, 3) := by decide +kernel
theorem dX6_readBy_31 : decode cX6_readBy 31 = .ok (.dup, 1) := by decide +kernel
theorem dX6_readBy_32 : decode cX6_readBy 32 = .ok (.ldc 189, 2) := by decide +kernel
theorem dX6_readBy_34 : decode cX6_readBy 34 = .ok (.invokespecial 120, 3) := by decide +kernel
theorem dX6_readBy_37 : decode cX6_readBy 37 = .ok (.athrow, 1) := by decide +kernel
theorem dX6_readBy_38 : decode cX6_readBy 38 = .ok (.aload_n 0, 1) := by decide +kernel
theorem dX6_readBy_39 : decode cX6_readBy 39 = .ok (.getfield 19, 3) := by decide +kernel
theorem dX6_readBy_42 : decode cX6_readBy 42 = .ok (.iload_n 2, 1) := by decide +kernel
theorem dX6_readBy_43 : decode cX6_readBy 43 = .ok (.aload_n 0, 1) := by decide +kernel
theorem dX6_readBy_44 : decode cX6_readBy 44 = .ok (.getfield 19, 3) := by decide +kernel
theorem dX6_readBy_47 : decode cX6_readBy 47 = .ok (.getfield 107, 3) := by decide +kernel
theorem dX6_readBy_50 : decode cX6_readBy 50 = .ok (.iload_n 1, 1) := by decide +kernel
theorem dX6_readBy_51 : decode cX6_readBy 51 = .ok (.iload_n 2, 1) := by decide +kernel
theorem dX6_readBy_52 : decode cX6_readBy 52 = .ok (.invokevirtual 191, 3) := by decide +kernel
theorem dX6_readBy_55 : decode cX6_readBy 55 = .ok (.invokevirtual 152, 3) := by decide +kernel
theorem dX6_readBy_58 : decode cX6_readBy 58 = .ok (.ireturn, 1) := by decide +kernel
theorem dX6_closeReader_0 : decode cX6_closeReader 0 = .ok (.aload_n 0, 1) := by decide +kernel
theorem dX6_closeReader_1 : decode cX6_closeReader 1 = .ok (.getfield 19, 3) := by decide +kernel
theorem dX6_closeReader_4 : decode cX6_closeReader 4 = .ok (.getfield 107, 3) := by decide +kernel
theorem dX6_closeReader_7 : decode cX6_closeReader 7 = .ok (.iload_n 1, 1) := by decide +kernel
theorem dX6_closeReader_8 : decode cX6_closeReader 8 = .ok (.invokevirtual 186, 3) := by decide +kernel
theorem dX6_closeReader_11 : decode cX6_closeReader 11 = .ok (.ifCond .ne 13, 3) := by decide +kernel
theorem dX6_closeReader_14 : decode cX6_closeReader 14 = .ok (.new 116, 3) := by decide +kernel
theorem dX6_closeReader_17 : decode cX6_closeReader 17 = .ok (.dup, 1) := by decide +kernel
theorem dX6_closeReader_18 : decode cX6_closeReader 18 = .ok (.ldc 194, 2) := by decide +kernel
theorem dX6_closeReader_20 : decode cX6_closeReader 20 = .ok (.invokespecial 120, 3) := by decide +kernel
theorem dX6_closeReader_23 : decode cX6_closeReader 23 = .ok (.athrow, 1) := by decide +kernel
theorem dX6_closeReader_24 : decode cX6_closeReader 24 = .ok (.aload_n 0, 1) := by decide +kernel
theorem dX6_closeReader_25 : decode cX6_closeReader 25 = .ok (.getfield 19, 3) := by decide +kernel
theorem dX6_closeReader_28 : decode cX6_closeReader 28 = .ok (.getfield 107, 3) := by decide +kernel
theorem dX6_closeReader_31 : decode cX6_closeReader 31 = .ok (.iload_n 1, 1) := by decide +kernel
theorem dX6_closeReader_32 : decode cX6_closeReader 32 = .ok (.invokevirtual 196, 3) := by decide +kernel
theorem dX6_closeReader_35 : decode cX6_closeReader 35 = .ok (.ireturn, 1) := by decide +kernel
theorem dX6_checkpoint_0 : decode cX6_checkpoint 0 = .ok (.aload_n 0, 1) := by decide +kernel
theorem dX6_checkpoint_1 : decode cX6_checkpoint 1 = .ok (.getfield 19, 3) := by decide +kernel
theorem dX6_checkpoint_4 : decode cX6_checkpoint 4 = .ok (.getfield 85, 3) := by decide +kernel
theorem dX6_checkpoint_7 : decode cX6_checkpoint 7 = .ok (.ifCond .ne 13, 3) := by decide +kernel
theorem dX6_checkpoint_10 : decode cX6_checkpoint 10 = .ok (.new 27, 3) := by decide +kernel
theorem dX6_checkpoint_13 : decode cX6_checkpoint 13 = .ok (.dup, 1) := by decide +kernel
theorem dX6_checkpoint_14 : decode cX6_checkpoint 14 = .ok (.ldc 199, 2) := by decide +kernel
theorem dX6_checkpoint_16 : decode cX6_checkpoint 16 = .ok (.invokespecial 31, 3) := by decide +kernel
theorem dX6_checkpoint_19 : decode cX6_checkpoint 19 = .ok (.athrow, 1) := by decide +kernel
theorem dX6_checkpoint_20 : decode cX6_checkpoint 20 = .ok (.aload_n 0, 1) := by decide +kernel
theorem dX6_checkpoint_21 : decode cX6_checkpoint 21 = .ok (.getfield 19, 3) := by decide +kernel
theorem dX6_checkpoint_24 : decode cX6_checkpoint 24 = .ok (.aload_n 0, 1) := by decide +kernel
theorem dX6_checkpoint_25 : decode cX6_checkpoint 25 = .ok (.getfield 19, 3) := by decide +kernel
theorem dX6_checkpoint_28 : decode cX6_checkpoint 28 = .ok (.getfield 107, 3) := by decide +kernel
theorem dX6_checkpoint_31 : decode cX6_checkpoint 31 = .ok (.getfield 201, 3) := by decide +kernel
theorem dX6_checkpoint_34 : decode cX6_checkpoint 34 = .ok (.iconst 1, 1) := by decide +kernel
theorem dX6_checkpoint_35 : decode cX6_checkpoint 35 = .ok (.iadd, 1) := by decide +kernel
theorem dX6_checkpoint_36 : decode cX6_checkpoint 36 = .ok (.invokevirtual 136, 3) := by decide +kernel
theorem dX6_checkpoint_39 : decode cX6_checkpoint 39 = .ok (.ifCond .ne 13, 3) := by decide +kernel
theorem dX6_checkpoint_42 : decode cX6_checkpoint 42 = .ok (.new 27, 3) := by decide +kernel
theorem dX6_checkpoint_45 : decode cX6_checkpoint 45 = .ok (.dup, 1) := by decide +kernel
theorem dX6_checkpoint_46 : decode cX6_checkpoint 46 = .ok (.ldc 139, 2) := by decide +kernel
theorem dX6_checkpoint_48 : decode cX6_checkpoint 48 = .ok (.invokespecial 31, 3) := by decide +kernel
theorem dX6_checkpoint_51 : decode cX6_checkpoint 51 = .ok (.athrow, 1) := by decide +kernel
theorem dX6_checkpoint_52 : decode cX6_checkpoint 52 = .ok (.aload_n 0, 1) := by decide +kernel
theorem dX6_checkpoint_53 : decode cX6_checkpoint 53 = .ok (.getfield 19, 3) := by decide +kernel
theorem dX6_checkpoint_56 : decode cX6_checkpoint 56 = .ok (.invokevirtual 204, 3) := by decide +kernel
theorem dX6_checkpoint_59 : decode cX6_checkpoint 59 = .ok (.ifCond .ne 13, 3) := by decide +kernel
theorem dX6_checkpoint_62 : decode cX6_checkpoint 62 = .ok (.new 27, 3) := by decide +kernel
theorem dX6_checkpoint_65 : decode cX6_checkpoint 65 = .ok (.dup, 1) := by decide +kernel
theorem dX6_checkpoint_66 : decode cX6_checkpoint 66 = .ok (.ldc 145, 2) := by decide +kernel
theorem dX6_checkpoint_68 : decode cX6_checkpoint 68 = .ok (.invokespecial 31, 3) := by decide +kernel
theorem dX6_checkpoint_71 : decode cX6_checkpoint 71 = .ok (.athrow, 1) := by decide +kernel
theorem dX6_checkpoint_72 : decode cX6_checkpoint 72 = .ok (.aload_n 0, 1) := by decide +kernel
theorem dX6_checkpoint_73 : decode cX6_checkpoint 73 = .ok (.getfield 19, 3) := by decide +kernel
theorem dX6_checkpoint_76 : decode cX6_checkpoint 76 = .ok (.getfield 208, 3) := by decide +kernel
theorem dX6_checkpoint_79 : decode cX6_checkpoint 79 = .ok (.ireturn, 1) := by decide +kernel
theorem dX6_isOn_0 : decode cX6_isOn 0 = .ok (.aload_n 0, 1) := by decide +kernel
theorem dX6_isOn_1 : decode cX6_isOn 1 = .ok (.getfield 19, 3) := by decide +kernel
theorem dX6_isOn_4 : decode cX6_isOn 4 = .ok (.getfield 85, 3) := by decide +kernel
theorem dX6_isOn_7 : decode cX6_isOn 7 = .ok (.ireturn, 1) := by decide +kernel
theorem dX6_arm_0 : decode cX6_arm 0 = .ok (.iload_n 1, 1) := by decide +kernel
theorem dX6_arm_1 : decode cX6_arm 1 = .ok (.ifCond .lt 10, 3) := by decide +kernel
theorem dX6_arm_4 : decode cX6_arm 4 = .ok (.iload_n 1, 1) := by decide +kernel
theorem dX6_arm_5 : decode cX6_arm 5 = .ok (.sipush 1000, 3) := by decide +kernel
theorem dX6_arm_8 : decode cX6_arm 8 = .ok (.if_icmp .le 13, 3) := by decide +kernel
theorem dX6_arm_11 : decode cX6_arm 11 = .ok (.new 38, 3) := by decide +kernel
theorem dX6_arm_14 : decode cX6_arm 14 = .ok (.dup, 1) := by decide +kernel
theorem dX6_arm_15 : decode cX6_arm 15 = .ok (.ldc 211, 2) := by decide +kernel
theorem dX6_arm_17 : decode cX6_arm 17 = .ok (.invokespecial 42, 3) := by decide +kernel
theorem dX6_arm_20 : decode cX6_arm 20 = .ok (.athrow, 1) := by decide +kernel
theorem dX6_arm_21 : decode cX6_arm 21 = .ok (.aload_n 0, 1) := by decide +kernel
theorem dX6_arm_22 : decode cX6_arm 22 = .ok (.getfield 19, 3) := by decide +kernel
theorem dX6_arm_25 : decode cX6_arm 25 = .ok (.getfield 213, 3) := by decide +kernel
theorem dX6_arm_28 : decode cX6_arm 28 = .ok (.getfield 217, 3) := by decide +kernel
theorem dX6_arm_31 : decode cX6_arm 31 = .ok (.istore_n 2, 1) := by decide +kernel
theorem dX6_arm_32 : decode cX6_arm 32 = .ok (.aload_n 0, 1) := by decide +kernel
theorem dX6_arm_33 : decode cX6_arm 33 = .ok (.getfield 19, 3) := by decide +kernel
theorem dX6_arm_36 : decode cX6_arm 36 = .ok (.invokevirtual 222, 3) := by decide +kernel
theorem dX6_arm_39 : decode cX6_arm 39 = .ok (.ifCond .eq 14, 3) := by decide +kernel
theorem dX6_arm_42 : decode cX6_arm 42 = .ok (.aload_n 0, 1) := by decide +kernel
theorem dX6_arm_43 : decode cX6_arm 43 = .ok (.getfield 19, 3) := by decide +kernel
theorem dX6_arm_46 : decode cX6_arm 46 = .ok (.getfield 213, 3) := by decide +kernel
theorem dX6_arm_49 : decode cX6_arm 49 = .ok (.iload_n 1, 1) := by decide +kernel
theorem dX6_arm_50 : decode cX6_arm 50 = .ok (.putfield 217, 3) := by decide +kernel
theorem dX6_arm_53 : decode cX6_arm 53 = .ok (.iload_n 2, 1) := by decide +kernel
theorem dX6_arm_54 : decode cX6_arm 54 = .ok (.ireturn, 1) := by decide +kernel
theorem dX6_powerOff_0 : decode cX6_powerOff 0 = .ok (.aload_n 0, 1) := by decide +kernel
theorem dX6_powerOff_1 : decode cX6_powerOff 1 = .ok (.getfield 19, 3) := by decide +kernel
theorem dX6_powerOff_4 : decode cX6_powerOff 4 = .ok (.getfield 85, 3) := by decide +kernel
theorem dX6_powerOff_7 : decode cX6_powerOff 7 = .ok (.ifCond .ne 13, 3) := by decide +kernel
theorem dX6_powerOff_10 : decode cX6_powerOff 10 = .ok (.new 27, 3) := by decide +kernel
theorem dX6_powerOff_13 : decode cX6_powerOff 13 = .ok (.dup, 1) := by decide +kernel
theorem dX6_powerOff_14 : decode cX6_powerOff 14 = .ok (.ldc 199, 2) := by decide +kernel
theorem dX6_powerOff_16 : decode cX6_powerOff 16 = .ok (.invokespecial 31, 3) := by decide +kernel
theorem dX6_powerOff_19 : decode cX6_powerOff 19 = .ok (.athrow, 1) := by decide +kernel
theorem dX6_powerOff_20 : decode cX6_powerOff 20 = .ok (.aload_n 0, 1) := by decide +kernel
theorem dX6_powerOff_21 : decode cX6_powerOff 21 = .ok (.getfield 19, 3) := by decide +kernel
theorem dX6_powerOff_24 : decode cX6_powerOff 24 = .ok (.invokevirtual 225, 3) := by decide +kernel
theorem dX6_powerOff_27 : decode cX6_powerOff 27 = .ok (.aload_n 0, 1) := by decide +kernel
theorem dX6_powerOff_28 : decode cX6_powerOff 28 = .ok (.getfield 19, 3) := by decide +kernel
theorem dX6_powerOff_31 : decode cX6_powerOff 31 = .ok (.getfield 81, 3) := by decide +kernel
theorem dX6_powerOff_34 : decode cX6_powerOff 34 = .ok (.invokevirtual 89, 3) := by decide +kernel
theorem dX6_powerOff_37 : decode cX6_powerOff 37 = .ok (.ireturn, 1) := by decide +kernel
theorem dX6_recover_0 : decode cX6_recover 0 = .ok (.aload_n 0, 1) := by decide +kernel
theorem dX6_recover_1 : decode cX6_recover 1 = .ok (.getfield 19, 3) := by decide +kernel
theorem dX6_recover_4 : decode cX6_recover 4 = .ok (.getfield 85, 3) := by decide +kernel
theorem dX6_recover_7 : decode cX6_recover 7 = .ok (.ifCond .ne 13, 3) := by decide +kernel
theorem dX6_recover_10 : decode cX6_recover 10 = .ok (.aload_n 0, 1) := by decide +kernel
theorem dX6_recover_11 : decode cX6_recover 11 = .ok (.getfield 19, 3) := by decide +kernel
theorem dX6_recover_14 : decode cX6_recover 14 = .ok (.invokevirtual 222, 3) := by decide +kernel
theorem dX6_recover_17 : decode cX6_recover 17 = .ok (.ifCond .ne 13, 3) := by decide +kernel
theorem dX6_recover_20 : decode cX6_recover 20 = .ok (.new 27, 3) := by decide +kernel
theorem dX6_recover_23 : decode cX6_recover 23 = .ok (.dup, 1) := by decide +kernel
theorem dX6_recover_24 : decode cX6_recover 24 = .ok (.ldc 228, 2) := by decide +kernel
theorem dX6_recover_26 : decode cX6_recover 26 = .ok (.invokespecial 31, 3) := by decide +kernel
theorem dX6_recover_29 : decode cX6_recover 29 = .ok (.athrow, 1) := by decide +kernel
theorem dX6_recover_30 : decode cX6_recover 30 = .ok (.aload_n 0, 1) := by decide +kernel
theorem dX6_recover_31 : decode cX6_recover 31 = .ok (.getfield 19, 3) := by decide +kernel
theorem dX6_recover_34 : decode cX6_recover 34 = .ok (.invokevirtual 230, 3) := by decide +kernel
theorem dX6_recover_37 : decode cX6_recover 37 = .ok (.ifCond .ne 13, 3) := by decide +kernel
theorem dX6_recover_40 : decode cX6_recover 40 = .ok (.new 27, 3) := by decide +kernel
theorem dX6_recover_43 : decode cX6_recover 43 = .ok (.dup, 1) := by decide +kernel
theorem dX6_recover_44 : decode cX6_recover 44 = .ok (.ldc 145, 2) := by decide +kernel
theorem dX6_recover_46 : decode cX6_recover 46 = .ok (.invokespecial 31, 3) := by decide +kernel
theorem dX6_recover_49 : decode cX6_recover 49 = .ok (.athrow, 1) := by decide +kernel
theorem dX6_recover_50 : decode cX6_recover 50 = .ok (.aload_n 0, 1) := by decide +kernel
theorem dX6_recover_51 : decode cX6_recover 51 = .ok (.getfield 19, 3) := by decide +kernel
theorem dX6_recover_54 : decode cX6_recover 54 = .ok (.getfield 107, 3) := by decide +kernel
theorem dX6_recover_57 : decode cX6_recover 57 = .ok (.invokevirtual 233, 3) := by decide +kernel
theorem dX6_recover_60 : decode cX6_recover 60 = .ok (.ireturn, 1) := by decide +kernel
theorem dX6_logicalPages_0 : decode cX6_logicalPages 0 = .ok (.aload_n 0, 1) := by decide +kernel
theorem dX6_logicalPages_1 : decode cX6_logicalPages 1 = .ok (.getfield 19, 3) := by decide +kernel
theorem dX6_logicalPages_4 : decode cX6_logicalPages 4 = .ok (.getfield 107, 3) := by decide +kernel
theorem dX6_logicalPages_7 : decode cX6_logicalPages 7 = .ok (.getfield 236, 3) := by decide +kernel
theorem dX6_logicalPages_10 : decode cX6_logicalPages 10 = .ok (.ireturn, 1) := by decide +kernel
theorem dX6_blocks_0 : decode cX6_blocks 0 = .ok (.aload_n 0, 1) := by decide +kernel
theorem dX6_blocks_1 : decode cX6_blocks 1 = .ok (.getfield 19, 3) := by decide +kernel
theorem dX6_blocks_4 : decode cX6_blocks 4 = .ok (.getfield 213, 3) := by decide +kernel
theorem dX6_blocks_7 : decode cX6_blocks 7 = .ok (.getfield 239, 3) := by decide +kernel
theorem dX6_blocks_10 : decode cX6_blocks 10 = .ok (.ireturn, 1) := by decide +kernel
theorem dX6_pagesPerBlock_0 : decode cX6_pagesPerBlock 0 = .ok (.aload_n 0, 1) := by decide +kernel
theorem dX6_pagesPerBlock_1 : decode cX6_pagesPerBlock 1 = .ok (.getfield 19, 3) := by decide +kernel
theorem dX6_pagesPerBlock_4 : decode cX6_pagesPerBlock 4 = .ok (.getfield 213, 3) := by decide +kernel
theorem dX6_pagesPerBlock_7 : decode cX6_pagesPerBlock 7 = .ok (.getfield 240, 3) := by decide +kernel
theorem dX6_pagesPerBlock_10 : decode cX6_pagesPerBlock 10 = .ok (.ireturn, 1) := by decide +kernel
theorem dX6_version_0 : decode cX6_version 0 = .ok (.aload_n 0, 1) := by decide +kernel
theorem dX6_version_1 : decode cX6_version 1 = .ok (.getfield 19, 3) := by decide +kernel
theorem dX6_version_4 : decode cX6_version 4 = .ok (.getfield 107, 3) := by decide +kernel
theorem dX6_version_7 : decode cX6_version 7 = .ok (.iload_n 1, 1) := by decide +kernel
theorem dX6_version_8 : decode cX6_version 8 = .ok (.invokevirtual 111, 3) := by decide +kernel
theorem dX6_version_11 : decode cX6_version 11 = .ok (.ifCond .ne 13, 3) := by decide +kernel
theorem dX6_version_14 : decode cX6_version 14 = .ok (.new 116, 3) := by decide +kernel
theorem dX6_version_17 : decode cX6_version 17 = .ok (.dup, 1) := by decide +kernel
theorem dX6_version_18 : decode cX6_version 18 = .ok (.ldc 241, 2) := by decide +kernel
theorem dX6_version_20 : decode cX6_version 20 = .ok (.invokespecial 120, 3) := by decide +kernel
theorem dX6_version_23 : decode cX6_version 23 = .ok (.athrow, 1) := by decide +kernel
theorem dX6_version_24 : decode cX6_version 24 = .ok (.aload_n 0, 1) := by decide +kernel
theorem dX6_version_25 : decode cX6_version 25 = .ok (.getfield 19, 3) := by decide +kernel
theorem dX6_version_28 : decode cX6_version 28 = .ok (.getfield 85, 3) := by decide +kernel
theorem dX6_version_31 : decode cX6_version 31 = .ok (.ifCond .eq 18, 3) := by decide +kernel
theorem dX6_version_34 : decode cX6_version 34 = .ok (.aload_n 0, 1) := by decide +kernel
theorem dX6_version_35 : decode cX6_version 35 = .ok (.getfield 19, 3) := by decide +kernel
theorem dX6_version_38 : decode cX6_version 38 = .ok (.getfield 107, 3) := by decide +kernel
theorem dX6_version_41 : decode cX6_version 41 = .ok (.iconst 0, 1) := by decide +kernel
theorem dX6_version_42 : decode cX6_version 42 = .ok (.iload_n 1, 1) := by decide +kernel
theorem dX6_version_43 : decode cX6_version 43 = .ok (.invokevirtual 149, 3) := by decide +kernel
theorem dX6_version_46 : decode cX6_version 46 = .ok (.goto 4, 3) := by decide +kernel
theorem dX6_version_49 : decode cX6_version 49 = .ok (.iconst (-1), 1) := by decide +kernel
theorem dX6_version_50 : decode cX6_version 50 = .ok (.ireturn, 1) := by decide +kernel
theorem dX6_place_0 : decode cX6_place 0 = .ok (.aload_n 0, 1) := by decide +kernel
theorem dX6_place_1 : decode cX6_place 1 = .ok (.getfield 19, 3) := by decide +kernel
theorem dX6_place_4 : decode cX6_place 4 = .ok (.getfield 107, 3) := by decide +kernel
theorem dX6_place_7 : decode cX6_place 7 = .ok (.iload_n 1, 1) := by decide +kernel
theorem dX6_place_8 : decode cX6_place 8 = .ok (.invokevirtual 111, 3) := by decide +kernel
theorem dX6_place_11 : decode cX6_place 11 = .ok (.ifCond .ne 13, 3) := by decide +kernel
theorem dX6_place_14 : decode cX6_place 14 = .ok (.new 116, 3) := by decide +kernel
theorem dX6_place_17 : decode cX6_place 17 = .ok (.dup, 1) := by decide +kernel
theorem dX6_place_18 : decode cX6_place 18 = .ok (.ldc 241, 2) := by decide +kernel
theorem dX6_place_20 : decode cX6_place 20 = .ok (.invokespecial 120, 3) := by decide +kernel
theorem dX6_place_23 : decode cX6_place 23 = .ok (.athrow, 1) := by decide +kernel
theorem dX6_place_24 : decode cX6_place 24 = .ok (.aload_n 0, 1) := by decide +kernel
theorem dX6_place_25 : decode cX6_place 25 = .ok (.getfield 19, 3) := by decide +kernel
theorem dX6_place_28 : decode cX6_place 28 = .ok (.getfield 85, 3) := by decide +kernel
theorem dX6_place_31 : decode cX6_place 31 = .ok (.ifCond .eq 29, 3) := by decide +kernel
theorem dX6_place_34 : decode cX6_place 34 = .ok (.aload_n 0, 1) := by decide +kernel
theorem dX6_place_35 : decode cX6_place 35 = .ok (.getfield 19, 3) := by decide +kernel
theorem dX6_place_38 : decode cX6_place 38 = .ok (.getfield 213, 3) := by decide +kernel
theorem dX6_place_41 : decode cX6_place 41 = .ok (.iload_n 1, 1) := by decide +kernel
theorem dX6_place_42 : decode cX6_place 42 = .ok (.aload_n 0, 1) := by decide +kernel
theorem dX6_place_43 : decode cX6_place 43 = .ok (.getfield 19, 3) := by decide +kernel
theorem dX6_place_46 : decode cX6_place 46 = .ok (.getfield 107, 3) := by decide +kernel
theorem dX6_place_49 : decode cX6_place 49 = .ok (.iconst 0, 1) := by decide +kernel
theorem dX6_place_50 : decode cX6_place 50 = .ok (.iload_n 1, 1) := by decide +kernel
theorem dX6_place_51 : decode cX6_place 51 = .ok (.invokevirtual 149, 3) := by decide +kernel
theorem dX6_place_54 : decode cX6_place 54 = .ok (.invokevirtual 243, 3) := by decide +kernel
theorem dX6_place_57 : decode cX6_place 57 = .ok (.goto 4, 3) := by decide +kernel
theorem dX6_place_60 : decode cX6_place 60 = .ok (.iconst (-1), 1) := by decide +kernel
theorem dX6_place_61 : decode cX6_place 61 = .ok (.ireturn, 1) := by decide +kernel
theorem dX6_lockedBy_0 : decode cX6_lockedBy 0 = .ok (.aload_n 0, 1) := by decide +kernel
theorem dX6_lockedBy_1 : decode cX6_lockedBy 1 = .ok (.getfield 19, 3) := by decide +kernel
theorem dX6_lockedBy_4 : decode cX6_lockedBy 4 = .ok (.getfield 107, 3) := by decide +kernel
theorem dX6_lockedBy_7 : decode cX6_lockedBy 7 = .ok (.iload_n 1, 1) := by decide +kernel
theorem dX6_lockedBy_8 : decode cX6_lockedBy 8 = .ok (.invokevirtual 111, 3) := by decide +kernel
theorem dX6_lockedBy_11 : decode cX6_lockedBy 11 = .ok (.ifCond .ne 13, 3) := by decide +kernel
theorem dX6_lockedBy_14 : decode cX6_lockedBy 14 = .ok (.new 116, 3) := by decide +kernel
theorem dX6_lockedBy_17 : decode cX6_lockedBy 17 = .ok (.dup, 1) := by decide +kernel
theorem dX6_lockedBy_18 : decode cX6_lockedBy 18 = .ok (.ldc 241, 2) := by decide +kernel
theorem dX6_lockedBy_20 : decode cX6_lockedBy 20 = .ok (.invokespecial 120, 3) := by decide +kernel
theorem dX6_lockedBy_23 : decode cX6_lockedBy 23 = .ok (.athrow, 1) := by decide +kernel
theorem dX6_lockedBy_24 : decode cX6_lockedBy 24 = .ok (.aload_n 0, 1) := by decide +kernel
theorem dX6_lockedBy_25 : decode cX6_lockedBy 25 = .ok (.getfield 19, 3) := by decide +kernel
theorem dX6_lockedBy_28 : decode cX6_lockedBy 28 = .ok (.getfield 107, 3) := by decide +kernel
theorem dX6_lockedBy_31 : decode cX6_lockedBy 31 = .ok (.iload_n 1, 1) := by decide +kernel
theorem dX6_lockedBy_32 : decode cX6_lockedBy 32 = .ok (.invokevirtual 246, 3) := by decide +kernel
theorem dX6_lockedBy_35 : decode cX6_lockedBy 35 = .ok (.ireturn, 1) := by decide +kernel
theorem dX6_transactions_0 : decode cX6_transactions 0 = .ok (.aload_n 0, 1) := by decide +kernel
theorem dX6_transactions_1 : decode cX6_transactions 1 = .ok (.getfield 19, 3) := by decide +kernel
theorem dX6_transactions_4 : decode cX6_transactions 4 = .ok (.getfield 81, 3) := by decide +kernel
theorem dX6_transactions_7 : decode cX6_transactions 7 = .ok (.getfield 95, 3) := by decide +kernel
theorem dX6_transactions_10 : decode cX6_transactions 10 = .ok (.ireturn, 1) := by decide +kernel
theorem dX6_state_0 : decode cX6_state 0 = .ok (.aload_n 0, 1) := by decide +kernel
theorem dX6_state_1 : decode cX6_state 1 = .ok (.getfield 19, 3) := by decide +kernel
theorem dX6_state_4 : decode cX6_state 4 = .ok (.getfield 81, 3) := by decide +kernel
theorem dX6_state_7 : decode cX6_state 7 = .ok (.iload_n 1, 1) := by decide +kernel
theorem dX6_state_8 : decode cX6_state 8 = .ok (.invokevirtual 155, 3) := by decide +kernel
theorem dX6_state_11 : decode cX6_state 11 = .ok (.ifCond .ne 13, 3) := by decide +kernel
theorem dX6_state_14 : decode cX6_state 14 = .ok (.new 116, 3) := by decide +kernel
theorem dX6_state_17 : decode cX6_state 17 = .ok (.dup, 1) := by decide +kernel
theorem dX6_state_18 : decode cX6_state 18 = .ok (.ldc 158, 2) := by decide +kernel
theorem dX6_state_20 : decode cX6_state 20 = .ok (.invokespecial 120, 3) := by decide +kernel
