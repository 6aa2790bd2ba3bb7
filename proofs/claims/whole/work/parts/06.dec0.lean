theorem dX0_init_0 : decode cX0_init 0 = .ok (.aload_n 0, 1) := by decide +kernel
theorem dX0_init_1 : decode cX0_init 1 = .ok (.invokespecial 3, 3) := by decide +kernel
theorem dX0_init_4 : decode cX0_init 4 = .ok (.aload_n 0, 1) := by decide +kernel
theorem dX0_init_5 : decode cX0_init 5 = .ok (.new 9, 3) := by decide +kernel
theorem dX0_init_8 : decode cX0_init 8 = .ok (.dup, 1) := by decide +kernel
theorem dX0_init_9 : decode cX0_init 9 = .ok (.invokespecial 11, 3) := by decide +kernel
theorem dX0_init_12 : decode cX0_init 12 = .ok (.putfield 12, 3) := by decide +kernel
theorem dX0_init_15 : decode cX0_init 15 = .ok (.aload_n 0, 1) := by decide +kernel
theorem dX0_init_16 : decode cX0_init 16 = .ok (.new 18, 3) := by decide +kernel
theorem dX0_init_19 : decode cX0_init 19 = .ok (.dup, 1) := by decide +kernel
theorem dX0_init_20 : decode cX0_init 20 = .ok (.invokespecial 20, 3) := by decide +kernel
theorem dX0_init_23 : decode cX0_init 23 = .ok (.putfield 21, 3) := by decide +kernel
theorem dX0_init_26 : decode cX0_init 26 = .ok (.aload_n 0, 1) := by decide +kernel
theorem dX0_init_27 : decode cX0_init 27 = .ok (.new 25, 3) := by decide +kernel
theorem dX0_init_30 : decode cX0_init 30 = .ok (.dup, 1) := by decide +kernel
theorem dX0_init_31 : decode cX0_init 31 = .ok (.invokespecial 27, 3) := by decide +kernel
theorem dX0_init_34 : decode cX0_init 34 = .ok (.putfield 28, 3) := by decide +kernel
theorem dX0_init_37 : decode cX0_init 37 = .ok (.aload_n 0, 1) := by decide +kernel
theorem dX0_init_38 : decode cX0_init 38 = .ok (.new 32, 3) := by decide +kernel
theorem dX0_init_41 : decode cX0_init 41 = .ok (.dup, 1) := by decide +kernel
theorem dX0_init_42 : decode cX0_init 42 = .ok (.invokespecial 34, 3) := by decide +kernel
theorem dX0_init_45 : decode cX0_init 45 = .ok (.putfield 35, 3) := by decide +kernel
theorem dX0_init_48 : decode cX0_init 48 = .ok (.aload_n 0, 1) := by decide +kernel
theorem dX0_init_49 : decode cX0_init 49 = .ok (.bipush 32, 2) := by decide +kernel
theorem dX0_init_51 : decode cX0_init 51 = .ok (.newarray .int, 2) := by decide +kernel
theorem dX0_init_53 : decode cX0_init 53 = .ok (.putfield 39, 3) := by decide +kernel
theorem dX0_init_56 : decode cX0_init 56 = .ok (.aload_n 0, 1) := by decide +kernel
theorem dX0_init_57 : decode cX0_init 57 = .ok (.iconst (-1), 1) := by decide +kernel
theorem dX0_init_58 : decode cX0_init 58 = .ok (.putfield 43, 3) := by decide +kernel
theorem dX0_init_61 : decode cX0_init 61 = .ok (.return_, 1) := by decide +kernel
theorem dX0_isFormatted_0 : decode cX0_isFormatted 0 = .ok (.aload_n 0, 1) := by decide +kernel
theorem dX0_isFormatted_1 : decode cX0_isFormatted 1 = .ok (.getfield 12, 3) := by decide +kernel
theorem dX0_isFormatted_4 : decode cX0_isFormatted 4 = .ok (.getfield 47, 3) := by decide +kernel
theorem dX0_isFormatted_7 : decode cX0_isFormatted 7 = .ok (.ifCond .le 7, 3) := by decide +kernel
theorem dX0_isFormatted_10 : decode cX0_isFormatted 10 = .ok (.iconst 1, 1) := by decide +kernel
theorem dX0_isFormatted_11 : decode cX0_isFormatted 11 = .ok (.goto 4, 3) := by decide +kernel
theorem dX0_isFormatted_14 : decode cX0_isFormatted 14 = .ok (.iconst 0, 1) := by decide +kernel
theorem dX0_isFormatted_15 : decode cX0_isFormatted 15 = .ok (.ireturn, 1) := by decide +kernel
theorem dX0_beginAnew_0 : decode cX0_beginAnew 0 = .ok (.aload_n 0, 1) := by decide +kernel
theorem dX0_beginAnew_1 : decode cX0_beginAnew 1 = .ok (.getfield 12, 3) := by decide +kernel
theorem dX0_beginAnew_4 : decode cX0_beginAnew 4 = .ok (.iload_n 1, 1) := by decide +kernel
theorem dX0_beginAnew_5 : decode cX0_beginAnew 5 = .ok (.iload_n 2, 1) := by decide +kernel
theorem dX0_beginAnew_6 : decode cX0_beginAnew 6 = .ok (.invokevirtual 50, 3) := by decide +kernel
theorem dX0_beginAnew_9 : decode cX0_beginAnew 9 = .ok (.aload_n 0, 1) := by decide +kernel
theorem dX0_beginAnew_10 : decode cX0_beginAnew 10 = .ok (.getfield 21, 3) := by decide +kernel
theorem dX0_beginAnew_13 : decode cX0_beginAnew 13 = .ok (.iconst 0, 1) := by decide +kernel
theorem dX0_beginAnew_14 : decode cX0_beginAnew 14 = .ok (.putfield 54, 3) := by decide +kernel
theorem dX0_beginAnew_17 : decode cX0_beginAnew 17 = .ok (.aload_n 0, 1) := by decide +kernel
theorem dX0_beginAnew_18 : decode cX0_beginAnew 18 = .ok (.getfield 28, 3) := by decide +kernel
theorem dX0_beginAnew_21 : decode cX0_beginAnew 21 = .ok (.iload_n 3, 1) := by decide +kernel
theorem dX0_beginAnew_22 : decode cX0_beginAnew 22 = .ok (.invokevirtual 57, 3) := by decide +kernel
theorem dX0_beginAnew_25 : decode cX0_beginAnew 25 = .ok (.aload_n 0, 1) := by decide +kernel
theorem dX0_beginAnew_26 : decode cX0_beginAnew 26 = .ok (.iload 4, 2) := by decide +kernel
theorem dX0_beginAnew_28 : decode cX0_beginAnew 28 = .ok (.putfield 60, 3) := by decide +kernel
theorem dX0_beginAnew_31 : decode cX0_beginAnew 31 = .ok (.aload_n 0, 1) := by decide +kernel
theorem dX0_beginAnew_32 : decode cX0_beginAnew 32 = .ok (.iconst (-1), 1) := by decide +kernel
theorem dX0_beginAnew_33 : decode cX0_beginAnew 33 = .ok (.putfield 43, 3) := by decide +kernel
theorem dX0_beginAnew_36 : decode cX0_beginAnew 36 = .ok (.aload_n 0, 1) := by decide +kernel
theorem dX0_beginAnew_37 : decode cX0_beginAnew 37 = .ok (.iconst 0, 1) := by decide +kernel
theorem dX0_beginAnew_38 : decode cX0_beginAnew 38 = .ok (.putfield 63, 3) := by decide +kernel
theorem dX0_beginAnew_41 : decode cX0_beginAnew 41 = .ok (.aload_n 0, 1) := by decide +kernel
theorem dX0_beginAnew_42 : decode cX0_beginAnew 42 = .ok (.iconst 0, 1) := by decide +kernel
theorem dX0_beginAnew_43 : decode cX0_beginAnew 43 = .ok (.putfield 66, 3) := by decide +kernel
theorem dX0_beginAnew_46 : decode cX0_beginAnew 46 = .ok (.aload_n 0, 1) := by decide +kernel
theorem dX0_beginAnew_47 : decode cX0_beginAnew 47 = .ok (.iconst 0, 1) := by decide +kernel
theorem dX0_beginAnew_48 : decode cX0_beginAnew 48 = .ok (.putfield 69, 3) := by decide +kernel
theorem dX0_beginAnew_51 : decode cX0_beginAnew 51 = .ok (.aload_n 0, 1) := by decide +kernel
theorem dX0_beginAnew_52 : decode cX0_beginAnew 52 = .ok (.iconst 0, 1) := by decide +kernel
theorem dX0_beginAnew_53 : decode cX0_beginAnew 53 = .ok (.putfield 72, 3) := by decide +kernel
theorem dX0_beginAnew_56 : decode cX0_beginAnew 56 = .ok (.aload_n 0, 1) := by decide +kernel
theorem dX0_beginAnew_57 : decode cX0_beginAnew 57 = .ok (.iconst 0, 1) := by decide +kernel
theorem dX0_beginAnew_58 : decode cX0_beginAnew 58 = .ok (.putfield 75, 3) := by decide +kernel
theorem dX0_beginAnew_61 : decode cX0_beginAnew 61 = .ok (.aload_n 0, 1) := by decide +kernel
theorem dX0_beginAnew_62 : decode cX0_beginAnew 62 = .ok (.iconst 0, 1) := by decide +kernel
theorem dX0_beginAnew_63 : decode cX0_beginAnew 63 = .ok (.putfield 78, 3) := by decide +kernel
theorem dX0_beginAnew_66 : decode cX0_beginAnew 66 = .ok (.aload_n 0, 1) := by decide +kernel
theorem dX0_beginAnew_67 : decode cX0_beginAnew 67 = .ok (.iconst 0, 1) := by decide +kernel
theorem dX0_beginAnew_68 : decode cX0_beginAnew 68 = .ok (.putfield 81, 3) := by decide +kernel
theorem dX0_beginAnew_71 : decode cX0_beginAnew 71 = .ok (.aload_n 0, 1) := by decide +kernel
theorem dX0_beginAnew_72 : decode cX0_beginAnew 72 = .ok (.iconst 1, 1) := by decide +kernel
theorem dX0_beginAnew_73 : decode cX0_beginAnew 73 = .ok (.putfield 84, 3) := by decide +kernel
theorem dX0_beginAnew_76 : decode cX0_beginAnew 76 = .ok (.return_, 1) := by decide +kernel
theorem dX0_losePower_0 : decode cX0_losePower 0 = .ok (.aload_n 0, 1) := by decide +kernel
theorem dX0_losePower_1 : decode cX0_losePower 1 = .ok (.iconst 0, 1) := by decide +kernel
theorem dX0_losePower_2 : decode cX0_losePower 2 = .ok (.putfield 84, 3) := by decide +kernel
theorem dX0_losePower_5 : decode cX0_losePower 5 = .ok (.aload_n 0, 1) := by decide +kernel
theorem dX0_losePower_6 : decode cX0_losePower 6 = .ok (.dup, 1) := by decide +kernel
theorem dX0_losePower_7 : decode cX0_losePower 7 = .ok (.getfield 81, 3) := by decide +kernel
theorem dX0_losePower_10 : decode cX0_losePower 10 = .ok (.iconst 1, 1) := by decide +kernel
theorem dX0_losePower_11 : decode cX0_losePower 11 = .ok (.iadd, 1) := by decide +kernel
theorem dX0_losePower_12 : decode cX0_losePower 12 = .ok (.putfield 81, 3) := by decide +kernel
theorem dX0_losePower_15 : decode cX0_losePower 15 = .ok (.aload_n 0, 1) := by decide +kernel
theorem dX0_losePower_16 : decode cX0_losePower 16 = .ok (.getfield 28, 3) := by decide +kernel
theorem dX0_losePower_19 : decode cX0_losePower 19 = .ok (.invokevirtual 88, 3) := by decide +kernel
theorem dX0_losePower_22 : decode cX0_losePower 22 = .ok (.aload_n 0, 1) := by decide +kernel
theorem dX0_losePower_23 : decode cX0_losePower 23 = .ok (.iconst (-1), 1) := by decide +kernel
theorem dX0_losePower_24 : decode cX0_losePower 24 = .ok (.putfield 43, 3) := by decide +kernel
theorem dX0_losePower_27 : decode cX0_losePower 27 = .ok (.aload_n 0, 1) := by decide +kernel
theorem dX0_losePower_28 : decode cX0_losePower 28 = .ok (.iconst 0, 1) := by decide +kernel
theorem dX0_losePower_29 : decode cX0_losePower 29 = .ok (.putfield 69, 3) := by decide +kernel
theorem dX0_losePower_32 : decode cX0_losePower 32 = .ok (.aload_n 0, 1) := by decide +kernel
theorem dX0_losePower_33 : decode cX0_losePower 33 = .ok (.iconst 0, 1) := by decide +kernel
theorem dX0_losePower_34 : decode cX0_losePower 34 = .ok (.putfield 72, 3) := by decide +kernel
theorem dX0_losePower_37 : decode cX0_losePower 37 = .ok (.aload_n 0, 1) := by decide +kernel
theorem dX0_losePower_38 : decode cX0_losePower 38 = .ok (.iconst 0, 1) := by decide +kernel
theorem dX0_losePower_39 : decode cX0_losePower 39 = .ok (.putfield 75, 3) := by decide +kernel
theorem dX0_losePower_42 : decode cX0_losePower 42 = .ok (.aload_n 0, 1) := by decide +kernel
theorem dX0_losePower_43 : decode cX0_losePower 43 = .ok (.iconst 0, 1) := by decide +kernel
theorem dX0_losePower_44 : decode cX0_losePower 44 = .ok (.putfield 63, 3) := by decide +kernel
theorem dX0_losePower_47 : decode cX0_losePower 47 = .ok (.return_, 1) := by decide +kernel
theorem dX0_isLive_0 : decode cX0_isLive 0 = .ok (.aload_n 0, 1) := by decide +kernel
theorem dX0_isLive_1 : decode cX0_isLive 1 = .ok (.getfield 12, 3) := by decide +kernel
theorem dX0_isLive_4 : decode cX0_isLive 4 = .ok (.iload_n 1, 1) := by decide +kernel
theorem dX0_isLive_5 : decode cX0_isLive 5 = .ok (.invokevirtual 91, 3) := by decide +kernel
theorem dX0_isLive_8 : decode cX0_isLive 8 = .ok (.ifCond .eq 15, 3) := by decide +kernel
theorem dX0_isLive_11 : decode cX0_isLive 11 = .ok (.aload_n 0, 1) := by decide +kernel
theorem dX0_isLive_12 : decode cX0_isLive 12 = .ok (.getfield 12, 3) := by decide +kernel
theorem dX0_isLive_15 : decode cX0_isLive 15 = .ok (.getfield 95, 3) := by decide +kernel
theorem dX0_isLive_18 : decode cX0_isLive 18 = .ok (.iload_n 1, 1) := by decide +kernel
theorem dX0_isLive_19 : decode cX0_isLive 19 = .ok (.baload, 1) := by decide +kernel
theorem dX0_isLive_20 : decode cX0_isLive 20 = .ok (.ifCond .eq 5, 3) := by decide +kernel
theorem dX0_isLive_23 : decode cX0_isLive 23 = .ok (.iconst 0, 1) := by decide +kernel
theorem dX0_isLive_24 : decode cX0_isLive 24 = .ok (.ireturn, 1) := by decide +kernel
theorem dX0_isLive_25 : decode cX0_isLive 25 = .ok (.aload_n 0, 1) := by decide +kernel
theorem dX0_isLive_26 : decode cX0_isLive 26 = .ok (.getfield 12, 3) := by decide +kernel
theorem dX0_isLive_29 : decode cX0_isLive 29 = .ok (.getfield 99, 3) := by decide +kernel
theorem dX0_isLive_32 : decode cX0_isLive 32 = .ok (.iload_n 1, 1) := by decide +kernel
theorem dX0_isLive_33 : decode cX0_isLive 33 = .ok (.iaload, 1) := by decide +kernel
theorem dX0_isLive_34 : decode cX0_isLive 34 = .ok (.tableswitch 138 1 4 #[30, 56, 78, 116], 30) := by decide +kernel
theorem dX0_isLive_64 : decode cX0_isLive 64 = .ok (.aload_n 0, 1) := by decide +kernel
theorem dX0_isLive_65 : decode cX0_isLive 65 = .ok (.getfield 28, 3) := by decide +kernel
theorem dX0_isLive_68 : decode cX0_isLive 68 = .ok (.aload_n 0, 1) := by decide +kernel
theorem dX0_isLive_69 : decode cX0_isLive 69 = .ok (.getfield 12, 3) := by decide +kernel
theorem dX0_isLive_72 : decode cX0_isLive 72 = .ok (.getfield 102, 3) := by decide +kernel
theorem dX0_isLive_75 : decode cX0_isLive 75 = .ok (.iload_n 1, 1) := by decide +kernel
theorem dX0_isLive_76 : decode cX0_isLive 76 = .ok (.iaload, 1) := by decide +kernel
theorem dX0_isLive_77 : decode cX0_isLive 77 = .ok (.aload_n 0, 1) := by decide +kernel
theorem dX0_isLive_78 : decode cX0_isLive 78 = .ok (.getfield 12, 3) := by decide +kernel
theorem dX0_isLive_81 : decode cX0_isLive 81 = .ok (.getfield 105, 3) := by decide +kernel
theorem dX0_isLive_84 : decode cX0_isLive 84 = .ok (.iload_n 1, 1) := by decide +kernel
theorem dX0_isLive_85 : decode cX0_isLive 85 = .ok (.iaload, 1) := by decide +kernel
theorem dX0_isLive_86 : decode cX0_isLive 86 = .ok (.invokevirtual 108, 3) := by decide +kernel
theorem dX0_isLive_89 : decode cX0_isLive 89 = .ok (.ireturn, 1) := by decide +kernel
theorem dX0_isLive_90 : decode cX0_isLive 90 = .ok (.aload_n 0, 1) := by decide +kernel
theorem dX0_isLive_91 : decode cX0_isLive 91 = .ok (.getfield 12, 3) := by decide +kernel
theorem dX0_isLive_94 : decode cX0_isLive 94 = .ok (.getfield 105, 3) := by decide +kernel
theorem dX0_isLive_97 : decode cX0_isLive 97 = .ok (.iload_n 1, 1) := by decide +kernel
theorem dX0_isLive_98 : decode cX0_isLive 98 = .ok (.iaload, 1) := by decide +kernel
theorem dX0_isLive_99 : decode cX0_isLive 99 = .ok (.aload_n 0, 1) := by decide +kernel
theorem dX0_isLive_100 : decode cX0_isLive 100 = .ok (.getfield 72, 3) := by decide +kernel
theorem dX0_isLive_103 : decode cX0_isLive 103 = .ok (.if_icmp .le 7, 3) := by decide +kernel
theorem dX0_isLive_106 : decode cX0_isLive 106 = .ok (.iconst 1, 1) := by decide +kernel
theorem dX0_isLive_107 : decode cX0_isLive 107 = .ok (.goto 4, 3) := by decide +kernel
theorem dX0_isLive_110 : decode cX0_isLive 110 = .ok (.iconst 0, 1) := by decide +kernel
theorem dX0_isLive_111 : decode cX0_isLive 111 = .ok (.ireturn, 1) := by decide +kernel
theorem dX0_isLive_112 : decode cX0_isLive 112 = .ok (.aload_n 0, 1) := by decide +kernel
theorem dX0_isLive_113 : decode cX0_isLive 113 = .ok (.getfield 12, 3) := by decide +kernel
theorem dX0_isLive_116 : decode cX0_isLive 116 = .ok (.getfield 112, 3) := by decide +kernel
theorem dX0_isLive_119 : decode cX0_isLive 119 = .ok (.iload_n 1, 1) := by decide +kernel
theorem dX0_isLive_120 : decode cX0_isLive 120 = .ok (.iaload, 1) := by decide +kernel
theorem dX0_isLive_121 : decode cX0_isLive 121 = .ok (.aload_n 0, 1) := by decide +kernel
theorem dX0_isLive_122 : decode cX0_isLive 122 = .ok (.getfield 69, 3) := by decide +kernel
theorem dX0_isLive_125 : decode cX0_isLive 125 = .ok (.if_icmp .eq 19, 3) := by decide +kernel
theorem dX0_isLive_128 : decode cX0_isLive 128 = .ok (.aload_n 0, 1) := by decide +kernel
theorem dX0_isLive_129 : decode cX0_isLive 129 = .ok (.getfield 12, 3) := by decide +kernel
theorem dX0_isLive_132 : decode cX0_isLive 132 = .ok (.getfield 112, 3) := by decide +kernel
theorem dX0_isLive_135 : decode cX0_isLive 135 = .ok (.iload_n 1, 1) := by decide +kernel
theorem dX0_isLive_136 : decode cX0_isLive 136 = .ok (.iaload, 1) := by decide +kernel
theorem dX0_isLive_137 : decode cX0_isLive 137 = .ok (.aload_n 0, 1) := by decide +kernel
theorem dX0_isLive_138 : decode cX0_isLive 138 = .ok (.getfield 75, 3) := by decide +kernel
theorem dX0_isLive_141 : decode cX0_isLive 141 = .ok (.if_icmp .ne 7, 3) := by decide +kernel
theorem dX0_isLive_144 : decode cX0_isLive 144 = .ok (.iconst 1, 1) := by decide +kernel
theorem dX0_isLive_145 : decode cX0_isLive 145 = .ok (.goto 4, 3) := by decide +kernel
theorem dX0_isLive_148 : decode cX0_isLive 148 = .ok (.iconst 0, 1) := by decide +kernel
theorem dX0_isLive_149 : decode cX0_isLive 149 = .ok (.ireturn, 1) := by decide +kernel
theorem dX0_isLive_150 : decode cX0_isLive 150 = .ok (.aload_n 0, 1) := by decide +kernel
theorem dX0_isLive_151 : decode cX0_isLive 151 = .ok (.getfield 12, 3) := by decide +kernel
theorem dX0_isLive_154 : decode cX0_isLive 154 = .ok (.getfield 112, 3) := by decide +kernel
theorem dX0_isLive_157 : decode cX0_isLive 157 = .ok (.iload_n 1, 1) := by decide +kernel
theorem dX0_isLive_158 : decode cX0_isLive 158 = .ok (.iaload, 1) := by decide +kernel
theorem dX0_isLive_159 : decode cX0_isLive 159 = .ok (.aload_n 0, 1) := by decide +kernel
theorem dX0_isLive_160 : decode cX0_isLive 160 = .ok (.getfield 69, 3) := by decide +kernel
theorem dX0_isLive_163 : decode cX0_isLive 163 = .ok (.if_icmp .ne 7, 3) := by decide +kernel
theorem dX0_isLive_166 : decode cX0_isLive 166 = .ok (.iconst 1, 1) := by decide +kernel
theorem dX0_isLive_167 : decode cX0_isLive 167 = .ok (.goto 4, 3) := by decide +kernel
theorem dX0_isLive_170 : decode cX0_isLive 170 = .ok (.iconst 0, 1) := by decide +kernel
theorem dX0_isLive_171 : decode cX0_isLive 171 = .ok (.ireturn, 1) := by decide +kernel
theorem dX0_isLive_172 : decode cX0_isLive 172 = .ok (.iconst 0, 1) := by decide +kernel
theorem dX0_isLive_173 : decode cX0_isLive 173 = .ok (.ireturn, 1) := by decide +kernel
theorem dX0_countLiveIn_0 : decode cX0_countLiveIn 0 = .ok (.iconst 0, 1) := by decide +kernel
theorem dX0_countLiveIn_1 : decode cX0_countLiveIn 1 = .ok (.istore_n 2, 1) := by decide +kernel
theorem dX0_countLiveIn_2 : decode cX0_countLiveIn 2 = .ok (.iconst 0, 1) := by decide +kernel
theorem dX0_countLiveIn_3 : decode cX0_countLiveIn 3 = .ok (.istore_n 3, 1) := by decide +kernel
theorem dX0_countLiveIn_4 : decode cX0_countLiveIn 4 = .ok (.iload_n 3, 1) := by decide +kernel
theorem dX0_countLiveIn_5 : decode cX0_countLiveIn 5 = .ok (.aload_n 0, 1) := by decide +kernel
theorem dX0_countLiveIn_6 : decode cX0_countLiveIn 6 = .ok (.getfield 12, 3) := by decide +kernel
theorem dX0_countLiveIn_9 : decode cX0_countLiveIn 9 = .ok (.getfield 115, 3) := by decide +kernel
theorem dX0_countLiveIn_12 : decode cX0_countLiveIn 12 = .ok (.if_icmp .ge 30, 3) := by decide +kernel
theorem dX0_countLiveIn_15 : decode cX0_countLiveIn 15 = .ok (.aload_n 0, 1) := by decide +kernel
theorem dX0_countLiveIn_16 : decode cX0_countLiveIn 16 = .ok (.iload_n 1, 1) := by decide +kernel
theorem dX0_countLiveIn_17 : decode cX0_countLiveIn 17 = .ok (.aload_n 0, 1) := by decide +kernel
theorem dX0_countLiveIn_18 : decode cX0_countLiveIn 18 = .ok (.getfield 12, 3) := by decide +kernel
theorem dX0_countLiveIn_21 : decode cX0_countLiveIn 21 = .ok (.getfield 115, 3) := by decide +kernel
theorem dX0_countLiveIn_24 : decode cX0_countLiveIn 24 = .ok (.imul, 1) := by decide +kernel
theorem dX0_countLiveIn_25 : decode cX0_countLiveIn 25 = .ok (.iload_n 3, 1) := by decide +kernel
theorem dX0_countLiveIn_26 : decode cX0_countLiveIn 26 = .ok (.iadd, 1) := by decide +kernel
theorem dX0_countLiveIn_27 : decode cX0_countLiveIn 27 = .ok (.invokevirtual 118, 3) := by decide +kernel
theorem dX0_countLiveIn_30 : decode cX0_countLiveIn 30 = .ok (.ifCond .eq 6, 3) := by decide +kernel
theorem dX0_countLiveIn_33 : decode cX0_countLiveIn 33 = .ok (.iinc 2 1, 3) := by decide +kernel
theorem dX0_countLiveIn_36 : decode cX0_countLiveIn 36 = .ok (.iinc 3 1, 3) := by decide +kernel
theorem dX0_countLiveIn_39 : decode cX0_countLiveIn 39 = .ok (.goto (-35), 3) := by decide +kernel
theorem dX0_countLiveIn_42 : decode cX0_countLiveIn 42 = .ok (.iload_n 2, 1) := by decide +kernel
theorem dX0_countLiveIn_43 : decode cX0_countLiveIn 43 = .ok (.ireturn, 1) := by decide +kernel
theorem dX0_countLive_0 : decode cX0_countLive 0 = .ok (.iconst 0, 1) := by decide +kernel
theorem dX0_countLive_1 : decode cX0_countLive 1 = .ok (.istore_n 1, 1) := by decide +kernel
theorem dX0_countLive_2 : decode cX0_countLive 2 = .ok (.iconst 0, 1) := by decide +kernel
theorem dX0_countLive_3 : decode cX0_countLive 3 = .ok (.istore_n 2, 1) := by decide +kernel
theorem dX0_countLive_4 : decode cX0_countLive 4 = .ok (.iload_n 2, 1) := by decide +kernel
theorem dX0_countLive_5 : decode cX0_countLive 5 = .ok (.aload_n 0, 1) := by decide +kernel
theorem dX0_countLive_6 : decode cX0_countLive 6 = .ok (.getfield 12, 3) := by decide +kernel
theorem dX0_countLive_9 : decode cX0_countLive 9 = .ok (.getfield 47, 3) := by decide +kernel
theorem dX0_countLive_12 : decode cX0_countLive 12 = .ok (.if_icmp .ge 74, 3) := by decide +kernel
theorem dX0_countLive_15 : decode cX0_countLive 15 = .ok (.aload_n 0, 1) := by decide +kernel
theorem dX0_countLive_16 : decode cX0_countLive 16 = .ok (.getfield 39, 3) := by decide +kernel
theorem dX0_countLive_19 : decode cX0_countLive 19 = .ok (.iload_n 2, 1) := by decide +kernel
theorem dX0_countLive_20 : decode cX0_countLive 20 = .ok (.iconst 0, 1) := by decide +kernel
theorem dX0_countLive_21 : decode cX0_countLive 21 = .ok (.iastore, 1) := by decide +kernel
theorem dX0_countLive_22 : decode cX0_countLive 22 = .ok (.iconst 0, 1) := by decide +kernel
theorem dX0_countLive_23 : decode cX0_countLive 23 = .ok (.istore_n 3, 1) := by decide +kernel
theorem dX0_countLive_24 : decode cX0_countLive 24 = .ok (.iload_n 3, 1) := by decide +kernel
theorem dX0_countLive_25 : decode cX0_countLive 25 = .ok (.aload_n 0, 1) := by decide +kernel
theorem dX0_countLive_26 : decode cX0_countLive 26 = .ok (.getfield 12, 3) := by decide +kernel
theorem dX0_countLive_29 : decode cX0_countLive 29 = .ok (.getfield 121, 3) := by decide +kernel
theorem dX0_countLive_32 : decode cX0_countLive 32 = .ok (.iload_n 2, 1) := by decide +kernel
theorem dX0_countLive_33 : decode cX0_countLive 33 = .ok (.iaload, 1) := by decide +kernel
theorem dX0_countLive_34 : decode cX0_countLive 34 = .ok (.if_icmp .ge 37, 3) := by decide +kernel
theorem dX0_countLive_37 : decode cX0_countLive 37 = .ok (.aload_n 0, 1) := by decide +kernel
theorem dX0_countLive_38 : decode cX0_countLive 38 = .ok (.iload_n 2, 1) := by decide +kernel
theorem dX0_countLive_39 : decode cX0_countLive 39 = .ok (.aload_n 0, 1) := by decide +kernel
theorem dX0_countLive_40 : decode cX0_countLive 40 = .ok (.getfield 12, 3) := by decide +kernel
theorem dX0_countLive_43 : decode cX0_countLive 43 = .ok (.getfield 115, 3) := by decide +kernel
theorem dX0_countLive_46 : decode cX0_countLive 46 = .ok (.imul, 1) := by decide +kernel
theorem dX0_countLive_47 : decode cX0_countLive 47 = .ok (.iload_n 3, 1) := by decide +kernel
theorem dX0_countLive_48 : decode cX0_countLive 48 = .ok (.iadd, 1) := by decide +kernel
theorem dX0_countLive_49 : decode cX0_countLive 49 = .ok (.invokevirtual 118, 3) := by decide +kernel
theorem dX0_countLive_52 : decode cX0_countLive 52 = .ok (.ifCond .eq 13, 3) := by decide +kernel
theorem dX0_countLive_55 : decode cX0_countLive 55 = .ok (.aload_n 0, 1) := by decide +kernel
theorem dX0_countLive_56 : decode cX0_countLive 56 = .ok (.getfield 39, 3) := by decide +kernel
theorem dX0_countLive_59 : decode cX0_countLive 59 = .ok (.iload_n 2, 1) := by decide +kernel
theorem dX0_countLive_60 : decode cX0_countLive 60 = .ok (.dup2, 1) := by decide +kernel
theorem dX0_countLive_61 : decode cX0_countLive 61 = .ok (.iaload, 1) := by decide +kernel
theorem dX0_countLive_62 : decode cX0_countLive 62 = .ok (.iconst 1, 1) := by decide +kernel
theorem dX0_countLive_63 : decode cX0_countLive 63 = .ok (.iadd, 1) := by decide +kernel
theorem dX0_countLive_64 : decode cX0_countLive 64 = .ok (.iastore, 1) := by decide +kernel
theorem dX0_countLive_65 : decode cX0_countLive 65 = .ok (.iinc 3 1, 3) := by decide +kernel
theorem dX0_countLive_68 : decode cX0_countLive 68 = .ok (.goto (-44), 3) := by decide +kernel
theorem dX0_countLive_71 : decode cX0_countLive 71 = .ok (.iload_n 1, 1) := by decide +kernel
theorem dX0_countLive_72 : decode cX0_countLive 72 = .ok (.aload_n 0, 1) := by decide +kernel
theorem dX0_countLive_73 : decode cX0_countLive 73 = .ok (.getfield 39, 3) := by decide +kernel
theorem dX0_countLive_76 : decode cX0_countLive 76 = .ok (.iload_n 2, 1) := by decide +kernel
theorem dX0_countLive_77 : decode cX0_countLive 77 = .ok (.iaload, 1) := by decide +kernel
theorem dX0_countLive_78 : decode cX0_countLive 78 = .ok (.iadd, 1) := by decide +kernel
theorem dX0_countLive_79 : decode cX0_countLive 79 = .ok (.istore_n 1, 1) := by decide +kernel
theorem dX0_countLive_80 : decode cX0_countLive 80 = .ok (.iinc 2 1, 3) := by decide +kernel
theorem dX0_countLive_83 : decode cX0_countLive 83 = .ok (.goto (-79), 3) := by decide +kernel
theorem dX0_countLive_86 : decode cX0_countLive 86 = .ok (.iload_n 1, 1) := by decide +kernel
theorem dX0_countLive_87 : decode cX0_countLive 87 = .ok (.ireturn, 1) := by decide +kernel
theorem dX0_hasRoomFor_0 : decode cX0_hasRoomFor 0 = .ok (.aload_n 0, 1) := by decide +kernel
theorem dX0_hasRoomFor_1 : decode cX0_hasRoomFor 1 = .ok (.invokevirtual 124, 3) := by decide +kernel
theorem dX0_hasRoomFor_4 : decode cX0_hasRoomFor 4 = .ok (.iload_n 1, 1) := by decide +kernel
theorem dX0_hasRoomFor_5 : decode cX0_hasRoomFor 5 = .ok (.iadd, 1) := by decide +kernel
theorem dX0_hasRoomFor_6 : decode cX0_hasRoomFor 6 = .ok (.aload_n 0, 1) := by decide +kernel
theorem dX0_hasRoomFor_7 : decode cX0_hasRoomFor 7 = .ok (.getfield 12, 3) := by decide +kernel
theorem dX0_hasRoomFor_10 : decode cX0_hasRoomFor 10 = .ok (.getfield 47, 3) := by decide +kernel
theorem dX0_hasRoomFor_13 : decode cX0_hasRoomFor 13 = .ok (.iconst 2, 1) := by decide +kernel
theorem dX0_hasRoomFor_14 : decode cX0_hasRoomFor 14 = .ok (.isub, 1) := by decide +kernel
theorem dX0_hasRoomFor_15 : decode cX0_hasRoomFor 15 = .ok (.aload_n 0, 1) := by decide +kernel
theorem dX0_hasRoomFor_16 : decode cX0_hasRoomFor 16 = .ok (.getfield 12, 3) := by decide +kernel
theorem dX0_hasRoomFor_19 : decode cX0_hasRoomFor 19 = .ok (.getfield 115, 3) := by decide +kernel
theorem dX0_hasRoomFor_22 : decode cX0_hasRoomFor 22 = .ok (.imul, 1) := by decide +kernel
theorem dX0_hasRoomFor_23 : decode cX0_hasRoomFor 23 = .ok (.if_icmp .gt 7, 3) := by decide +kernel
theorem dX0_hasRoomFor_26 : decode cX0_hasRoomFor 26 = .ok (.iconst 1, 1) := by decide +kernel
theorem dX0_hasRoomFor_27 : decode cX0_hasRoomFor 27 = .ok (.goto 4, 3) := by decide +kernel
theorem dX0_hasRoomFor_30 : decode cX0_hasRoomFor 30 = .ok (.iconst 0, 1) := by decide +kernel
theorem dX0_hasRoomFor_31 : decode cX0_hasRoomFor 31 = .ok (.ireturn, 1) := by decide +kernel
theorem dX0_pagesOfNextCommit_0 : decode cX0_pagesOfNextCommit 0 = .ok (.aload_n 0, 1) := by decide +kernel
theorem dX0_pagesOfNextCommit_1 : decode cX0_pagesOfNextCommit 1 = .ok (.getfield 63, 3) := by decide +kernel
theorem dX0_pagesOfNextCommit_4 : decode cX0_pagesOfNextCommit 4 = .ok (.iconst 1, 1) := by decide +kernel
theorem dX0_pagesOfNextCommit_5 : decode cX0_pagesOfNextCommit 5 = .ok (.iadd, 1) := by decide +kernel
theorem dX0_pagesOfNextCommit_6 : decode cX0_pagesOfNextCommit 6 = .ok (.aload_n 0, 1) := by decide +kernel
theorem dX0_pagesOfNextCommit_7 : decode cX0_pagesOfNextCommit 7 = .ok (.getfield 60, 3) := by decide +kernel
theorem dX0_pagesOfNextCommit_10 : decode cX0_pagesOfNextCommit 10 = .ok (.if_icmp .lt 15, 3) := by decide +kernel
theorem dX0_pagesOfNextCommit_13 : decode cX0_pagesOfNextCommit 13 = .ok (.aload_n 0, 1) := by decide +kernel
theorem dX0_pagesOfNextCommit_14 : decode cX0_pagesOfNextCommit 14 = .ok (.getfield 28, 3) := by decide +kernel
theorem dX0_pagesOfNextCommit_17 : decode cX0_pagesOfNextCommit 17 = .ok (.getfield 128, 3) := by decide +kernel
theorem dX0_pagesOfNextCommit_20 : decode cX0_pagesOfNextCommit 20 = .ok (.iconst 2, 1) := by decide +kernel
theorem dX0_pagesOfNextCommit_21 : decode cX0_pagesOfNextCommit 21 = .ok (.iadd, 1) := by decide +kernel
theorem dX0_pagesOfNextCommit_22 : decode cX0_pagesOfNextCommit 22 = .ok (.goto 4, 3) := by decide +kernel
theorem dX0_pagesOfNextCommit_25 : decode cX0_pagesOfNextCommit 25 = .ok (.iconst 1, 1) := by decide +kernel
theorem dX0_pagesOfNextCommit_26 : decode cX0_pagesOfNextCommit 26 = .ok (.ireturn, 1) := by decide +kernel
theorem dX0_valueOf_0 : decode cX0_valueOf 0 = .ok (.iload_n 2, 1) := by decide +kernel
theorem dX0_valueOf_1 : decode cX0_valueOf 1 = .ok (.ifCond .ne 7, 3) := by decide +kernel
theorem dX0_valueOf_4 : decode cX0_valueOf 4 = .ok (.iconst (-1), 1) := by decide +kernel
theorem dX0_valueOf_5 : decode cX0_valueOf 5 = .ok (.goto 12, 3) := by decide +kernel
theorem dX0_valueOf_8 : decode cX0_valueOf 8 = .ok (.aload_n 0, 1) := by decide +kernel
theorem dX0_valueOf_9 : decode cX0_valueOf 9 = .ok (.getfield 12, 3) := by decide +kernel
theorem dX0_valueOf_12 : decode cX0_valueOf 12 = .ok (.iload_n 1, 1) := by decide +kernel
theorem dX0_valueOf_13 : decode cX0_valueOf 13 = .ok (.iload_n 2, 1) := by decide +kernel
theorem dX0_valueOf_14 : decode cX0_valueOf 14 = .ok (.invokevirtual 131, 3) := by decide +kernel
theorem dX0_valueOf_17 : decode cX0_valueOf 17 = .ok (.istore_n 3, 1) := by decide +kernel
theorem dX0_valueOf_18 : decode cX0_valueOf 18 = .ok (.aload_n 0, 1) := by decide +kernel
theorem dX0_valueOf_19 : decode cX0_valueOf 19 = .ok (.getfield 12, 3) := by decide +kernel
theorem dX0_valueOf_22 : decode cX0_valueOf 22 = .ok (.iload_n 3, 1) := by decide +kernel
theorem dX0_valueOf_23 : decode cX0_valueOf 23 = .ok (.invokevirtual 91, 3) := by decide +kernel
theorem dX0_valueOf_26 : decode cX0_valueOf 26 = .ok (.ifCond .eq 15, 3) := by decide +kernel
theorem dX0_valueOf_29 : decode cX0_valueOf 29 = .ok (.aload_n 0, 1) := by decide +kernel
theorem dX0_valueOf_30 : decode cX0_valueOf 30 = .ok (.getfield 12, 3) := by decide +kernel
theorem dX0_valueOf_33 : decode cX0_valueOf 33 = .ok (.getfield 135, 3) := by decide +kernel
theorem dX0_valueOf_36 : decode cX0_valueOf 36 = .ok (.iload_n 3, 1) := by decide +kernel
theorem dX0_valueOf_37 : decode cX0_valueOf 37 = .ok (.iaload, 1) := by decide +kernel
theorem dX0_valueOf_38 : decode cX0_valueOf 38 = .ok (.goto 4, 3) := by decide +kernel
theorem dX0_valueOf_41 : decode cX0_valueOf 41 = .ok (.iconst (-1), 1) := by decide +kernel
theorem dX0_valueOf_42 : decode cX0_valueOf 42 = .ok (.ireturn, 1) := by decide +kernel
theorem dX0_program_0 : decode cX0_program 0 = .ok (.iconst (-1), 1) := by decide +kernel
theorem dX0_program_1 : decode cX0_program 1 = .ok (.istore 5, 2) := by decide +kernel
theorem dX0_program_3 : decode cX0_program 3 = .ok (.aload_n 0, 1) := by decide +kernel
theorem dX0_program_4 : decode cX0_program 4 = .ok (.getfield 12, 3) := by decide +kernel
theorem dX0_program_7 : decode cX0_program 7 = .ok (.aload_n 0, 1) := by decide +kernel
theorem dX0_program_8 : decode cX0_program 8 = .ok (.getfield 43, 3) := by decide +kernel
theorem dX0_program_11 : decode cX0_program 11 = .ok (.invokevirtual 138, 3) := by decide +kernel
theorem dX0_program_14 : decode cX0_program 14 = .ok (.ifCond .gt 10, 3) := by decide +kernel
theorem dX0_program_17 : decode cX0_program 17 = .ok (.aload_n 0, 1) := by decide +kernel
theorem dX0_program_18 : decode cX0_program 18 = .ok (.invokevirtual 142, 3) := by decide +kernel
theorem dX0_program_21 : decode cX0_program 21 = .ok (.ifCond .eq 21, 3) := by decide +kernel
theorem dX0_program_24 : decode cX0_program 24 = .ok (.aload_n 0, 1) := by decide +kernel
theorem dX0_program_25 : decode cX0_program 25 = .ok (.getfield 12, 3) := by decide +kernel
theorem dX0_program_28 : decode cX0_program 28 = .ok (.aload_n 0, 1) := by decide +kernel
theorem dX0_program_29 : decode cX0_program 29 = .ok (.getfield 43, 3) := by decide +kernel
theorem dX0_program_32 : decode cX0_program 32 = .ok (.iload_n 1, 1) := by decide +kernel
theorem dX0_program_33 : decode cX0_program 33 = .ok (.iload_n 2, 1) := by decide +kernel
theorem dX0_program_34 : decode cX0_program 34 = .ok (.iload_n 3, 1) := by decide +kernel
theorem dX0_program_35 : decode cX0_program 35 = .ok (.iload 4, 2) := by decide +kernel
theorem dX0_program_37 : decode cX0_program 37 = .ok (.invokevirtual 146, 3) := by decide +kernel
theorem dX0_program_40 : decode cX0_program 40 = .ok (.istore 5, 2) := by decide +kernel
theorem dX0_program_42 : decode cX0_program 42 = .ok (.iload 5, 2) := by decide +kernel
theorem dX0_program_44 : decode cX0_program 44 = .ok (.ifCond .ge 7, 3) := by decide +kernel
theorem dX0_program_47 : decode cX0_program 47 = .ok (.aload_n 0, 1) := by decide +kernel
theorem dX0_program_48 : decode cX0_program 48 = .ok (.invokevirtual 150, 3) := by decide +kernel
theorem dX0_program_51 : decode cX0_program 51 = .ok (.iload 5, 2) := by decide +kernel
theorem dX0_program_53 : decode cX0_program 53 = .ok (.ireturn, 1) := by decide +kernel
theorem dX0_makeRoom_0 : decode cX0_makeRoom 0 = .ok (.aload_n 0, 1) := by decide +kernel
theorem dX0_makeRoom_1 : decode cX0_makeRoom 1 = .ok (.aload_n 0, 1) := by decide +kernel
theorem dX0_makeRoom_2 : decode cX0_makeRoom 2 = .ok (.getfield 12, 3) := by decide +kernel
theorem dX0_makeRoom_5 : decode cX0_makeRoom 5 = .ok (.aload_n 0, 1) := by decide +kernel
theorem dX0_makeRoom_6 : decode cX0_makeRoom 6 = .ok (.getfield 43, 3) := by decide +kernel
theorem dX0_makeRoom_9 : decode cX0_makeRoom 9 = .ok (.invokevirtual 153, 3) := by decide +kernel
theorem dX0_makeRoom_12 : decode cX0_makeRoom 12 = .ok (.putfield 43, 3) := by decide +kernel
theorem dX0_makeRoom_15 : decode cX0_makeRoom 15 = .ok (.aload_n 0, 1) := by decide +kernel
theorem dX0_makeRoom_16 : decode cX0_makeRoom 16 = .ok (.getfield 43, 3) := by decide +kernel
theorem dX0_makeRoom_19 : decode cX0_makeRoom 19 = .ok (.ifCond .ge 5, 3) := by decide +kernel
theorem dX0_makeRoom_22 : decode cX0_makeRoom 22 = .ok (.iconst 0, 1) := by decide +kernel
theorem dX0_makeRoom_23 : decode cX0_makeRoom 23 = .ok (.ireturn, 1) := by decide +kernel
theorem dX0_makeRoom_24 : decode cX0_makeRoom 24 = .ok (.iconst 0, 1) := by decide +kernel
theorem dX0_makeRoom_25 : decode cX0_makeRoom 25 = .ok (.istore_n 1, 1) := by decide +kernel
theorem dX0_makeRoom_26 : decode cX0_makeRoom 26 = .ok (.iload_n 1, 1) := by decide +kernel
theorem dX0_makeRoom_27 : decode cX0_makeRoom 27 = .ok (.iconst 2, 1) := by decide +kernel
theorem dX0_makeRoom_28 : decode cX0_makeRoom 28 = .ok (.if_icmp .ge 54, 3) := by decide +kernel
theorem dX0_makeRoom_31 : decode cX0_makeRoom 31 = .ok (.aload_n 0, 1) := by decide +kernel
theorem dX0_makeRoom_32 : decode cX0_makeRoom 32 = .ok (.getfield 12, 3) := by decide +kernel
theorem dX0_makeRoom_35 : decode cX0_makeRoom 35 = .ok (.aload_n 0, 1) := by decide +kernel
theorem dX0_makeRoom_36 : decode cX0_makeRoom 36 = .ok (.getfield 43, 3) := by decide +kernel
theorem dX0_makeRoom_39 : decode cX0_makeRoom 39 = .ok (.invokevirtual 156, 3) := by decide +kernel
theorem dX0_makeRoom_42 : decode cX0_makeRoom 42 = .ok (.iconst 2, 1) := by decide +kernel
theorem dX0_makeRoom_43 : decode cX0_makeRoom 43 = .ok (.if_icmp .ge 39, 3) := by decide +kernel
theorem dX0_makeRoom_46 : decode cX0_makeRoom 46 = .ok (.aload_n 0, 1) := by decide +kernel
theorem dX0_makeRoom_47 : decode cX0_makeRoom 47 = .ok (.invokevirtual 124, 3) := by decide +kernel
theorem dX0_makeRoom_50 : decode cX0_makeRoom 50 = .ok (.pop, 1) := by decide +kernel
theorem dX0_makeRoom_51 : decode cX0_makeRoom 51 = .ok (.aload_n 0, 1) := by decide +kernel
theorem dX0_makeRoom_52 : decode cX0_makeRoom 52 = .ok (.aload_n 0, 1) := by decide +kernel
theorem dX0_makeRoom_53 : decode cX0_makeRoom 53 = .ok (.getfield 43, 3) := by decide +kernel
theorem dX0_makeRoom_56 : decode cX0_makeRoom 56 = .ok (.invokevirtual 159, 3) := by decide +kernel
theorem dX0_makeRoom_59 : decode cX0_makeRoom 59 = .ok (.istore_n 2, 1) := by decide +kernel
theorem dX0_makeRoom_60 : decode cX0_makeRoom 60 = .ok (.iload_n 2, 1) := by decide +kernel
theorem dX0_makeRoom_61 : decode cX0_makeRoom 61 = .ok (.ifCond .ge 5, 3) := by decide +kernel
theorem dX0_makeRoom_64 : decode cX0_makeRoom 64 = .ok (.iconst 1, 1) := by decide +kernel
theorem dX0_makeRoom_65 : decode cX0_makeRoom 65 = .ok (.ireturn, 1) := by decide +kernel
theorem dX0_makeRoom_66 : decode cX0_makeRoom 66 = .ok (.aload_n 0, 1) := by decide +kernel
theorem dX0_makeRoom_67 : decode cX0_makeRoom 67 = .ok (.iload_n 2, 1) := by decide +kernel
theorem dX0_makeRoom_68 : decode cX0_makeRoom 68 = .ok (.invokevirtual 162, 3) := by decide +kernel
theorem dX0_makeRoom_71 : decode cX0_makeRoom 71 = .ok (.ifCond .ne 5, 3) := by decide +kernel
theorem dX0_makeRoom_74 : decode cX0_makeRoom 74 = .ok (.iconst 0, 1) := by decide +kernel
theorem dX0_makeRoom_75 : decode cX0_makeRoom 75 = .ok (.ireturn, 1) := by decide +kernel
theorem dX0_makeRoom_76 : decode cX0_makeRoom 76 = .ok (.iinc 1 1, 3) := by decide +kernel
theorem dX0_makeRoom_79 : decode cX0_makeRoom 79 = .ok (.goto (-53), 3) := by decide +kernel
theorem dX0_makeRoom_82 : decode cX0_makeRoom 82 = .ok (.iconst 1, 1) := by decide +kernel
theorem dX0_makeRoom_83 : decode cX0_makeRoom 83 = .ok (.ireturn, 1) := by decide +kernel
theorem dX0_chooseVictim_0 : decode cX0_chooseVictim 0 = .ok (.aload_n 0, 1) := by decide +kernel
theorem dX0_chooseVictim_1 : decode cX0_chooseVictim 1 = .ok (.getfield 12, 3) := by decide +kernel
theorem dX0_chooseVictim_4 : decode cX0_chooseVictim 4 = .ok (.iload_n 1, 1) := by decide +kernel
theorem dX0_chooseVictim_5 : decode cX0_chooseVictim 5 = .ok (.invokevirtual 138, 3) := by decide +kernel
theorem dX0_chooseVictim_8 : decode cX0_chooseVictim 8 = .ok (.istore_n 2, 1) := by decide +kernel
theorem dX0_chooseVictim_9 : decode cX0_chooseVictim 9 = .ok (.iconst (-1), 1) := by decide +kernel
theorem dX0_chooseVictim_10 : decode cX0_chooseVictim 10 = .ok (.istore_n 3, 1) := by decide +kernel
theorem dX0_chooseVictim_11 : decode cX0_chooseVictim 11 = .ok (.iconst 0, 1) := by decide +kernel
theorem dX0_chooseVictim_12 : decode cX0_chooseVictim 12 = .ok (.istore 4, 2) := by decide +kernel
theorem dX0_chooseVictim_14 : decode cX0_chooseVictim 14 = .ok (.iload 4, 2) := by decide +kernel
theorem dX0_chooseVictim_16 : decode cX0_chooseVictim 16 = .ok (.aload_n 0, 1) := by decide +kernel
theorem dX0_chooseVictim_17 : decode cX0_chooseVictim 17 = .ok (.getfield 12, 3) := by decide +kernel
theorem dX0_chooseVictim_20 : decode cX0_chooseVictim 20 = .ok (.getfield 47, 3) := by decide +kernel
theorem dX0_chooseVictim_23 : decode cX0_chooseVictim 23 = .ok (.if_icmp .ge 68, 3) := by decide +kernel
theorem dX0_chooseVictim_26 : decode cX0_chooseVictim 26 = .ok (.aload_n 0, 1) := by decide +kernel
theorem dX0_chooseVictim_27 : decode cX0_chooseVictim 27 = .ok (.getfield 12, 3) := by decide +kernel
theorem dX0_chooseVictim_30 : decode cX0_chooseVictim 30 = .ok (.getfield 121, 3) := by decide +kernel
theorem dX0_chooseVictim_33 : decode cX0_chooseVictim 33 = .ok (.iload 4, 2) := by decide +kernel
theorem dX0_chooseVictim_35 : decode cX0_chooseVictim 35 = .ok (.iaload, 1) := by decide +kernel
theorem dX0_chooseVictim_36 : decode cX0_chooseVictim 36 = .ok (.ifCond .le 24, 3) := by decide +kernel
theorem dX0_chooseVictim_39 : decode cX0_chooseVictim 39 = .ok (.iload 4, 2) := by decide +kernel
theorem dX0_chooseVictim_41 : decode cX0_chooseVictim 41 = .ok (.iload_n 1, 1) := by decide +kernel
theorem dX0_chooseVictim_42 : decode cX0_chooseVictim 42 = .ok (.if_icmp .eq 18, 3) := by decide +kernel
theorem dX0_chooseVictim_45 : decode cX0_chooseVictim 45 = .ok (.aload_n 0, 1) := by decide +kernel
theorem dX0_chooseVictim_46 : decode cX0_chooseVictim 46 = .ok (.getfield 39, 3) := by decide +kernel
theorem dX0_chooseVictim_49 : decode cX0_chooseVictim 49 = .ok (.iload 4, 2) := by decide +kernel
theorem dX0_chooseVictim_51 : decode cX0_chooseVictim 51 = .ok (.iaload, 1) := by decide +kernel
theorem dX0_chooseVictim_52 : decode cX0_chooseVictim 52 = .ok (.iload_n 2, 1) := by decide +kernel
theorem dX0_chooseVictim_53 : decode cX0_chooseVictim 53 = .ok (.if_icmp .ge 7, 3) := by decide +kernel
theorem dX0_chooseVictim_56 : decode cX0_chooseVictim 56 = .ok (.iconst 1, 1) := by decide +kernel
theorem dX0_chooseVictim_57 : decode cX0_chooseVictim 57 = .ok (.goto 4, 3) := by decide +kernel
theorem dX0_chooseVictim_60 : decode cX0_chooseVictim 60 = .ok (.iconst 0, 1) := by decide +kernel
theorem dX0_chooseVictim_61 : decode cX0_chooseVictim 61 = .ok (.istore 5, 2) := by decide +kernel
theorem dX0_chooseVictim_63 : decode cX0_chooseVictim 63 = .ok (.iload 5, 2) := by decide +kernel
theorem dX0_chooseVictim_65 : decode cX0_chooseVictim 65 = .ok (.ifCond .eq 20, 3) := by decide +kernel
theorem dX0_chooseVictim_68 : decode cX0_chooseVictim 68 = .ok (.iload_n 3, 1) := by decide +kernel
theorem dX0_chooseVictim_69 : decode cX0_chooseVictim 69 = .ok (.ifCond .lt 13, 3) := by decide +kernel
theorem dX0_chooseVictim_72 : decode cX0_chooseVictim 72 = .ok (.aload_n 0, 1) := by decide +kernel
theorem dX0_chooseVictim_73 : decode cX0_chooseVictim 73 = .ok (.iload 4, 2) := by decide +kernel
theorem dX0_chooseVictim_75 : decode cX0_chooseVictim 75 = .ok (.iload_n 3, 1) := by decide +kernel
theorem dX0_chooseVictim_76 : decode cX0_chooseVictim 76 = .ok (.invokevirtual 165, 3) := by decide +kernel
theorem dX0_chooseVictim_79 : decode cX0_chooseVictim 79 = .ok (.ifCond .eq 6, 3) := by decide +kernel
theorem dX0_chooseVictim_82 : decode cX0_chooseVictim 82 = .ok (.iload 4, 2) := by decide +kernel
theorem dX0_chooseVictim_84 : decode cX0_chooseVictim 84 = .ok (.istore_n 3, 1) := by decide +kernel
theorem dX0_chooseVictim_85 : decode cX0_chooseVictim 85 = .ok (.iinc 4 1, 3) := by decide +kernel
theorem dX0_chooseVictim_88 : decode cX0_chooseVictim 88 = .ok (.goto (-74), 3) := by decide +kernel
theorem dX0_chooseVictim_91 : decode cX0_chooseVictim 91 = .ok (.iload_n 3, 1) := by decide +kernel
theorem dX0_chooseVictim_92 : decode cX0_chooseVictim 92 = .ok (.ireturn, 1) := by decide +kernel
theorem dX0_isBetterVictim_0 : decode cX0_isBetterVictim 0 = .ok (.aload_n 0, 1) := by decide +kernel
theorem dX0_isBetterVictim_1 : decode cX0_isBetterVictim 1 = .ok (.getfield 39, 3) := by decide +kernel
theorem dX0_isBetterVictim_4 : decode cX0_isBetterVictim 4 = .ok (.iload_n 1, 1) := by decide +kernel
theorem dX0_isBetterVictim_5 : decode cX0_isBetterVictim 5 = .ok (.iaload, 1) := by decide +kernel
theorem dX0_isBetterVictim_6 : decode cX0_isBetterVictim 6 = .ok (.aload_n 0, 1) := by decide +kernel
theorem dX0_isBetterVictim_7 : decode cX0_isBetterVictim 7 = .ok (.getfield 39, 3) := by decide +kernel
theorem dX0_isBetterVictim_10 : decode cX0_isBetterVictim 10 = .ok (.iload_n 2, 1) := by decide +kernel
theorem dX0_isBetterVictim_11 : decode cX0_isBetterVictim 11 = .ok (.iaload, 1) := by decide +kernel
theorem dX0_isBetterVictim_12 : decode cX0_isBetterVictim 12 = .ok (.if_icmp .eq 24, 3) := by decide +kernel
theorem dX0_isBetterVictim_15 : decode cX0_isBetterVictim 15 = .ok (.aload_n 0, 1) := by decide +kernel
theorem dX0_isBetterVictim_16 : decode cX0_isBetterVictim 16 = .ok (.getfield 39, 3) := by decide +kernel
theorem dX0_isBetterVictim_19 : decode cX0_isBetterVictim 19 = .ok (.iload_n 1, 1) := by decide +kernel
theorem dX0_isBetterVictim_20 : decode cX0_isBetterVictim 20 = .ok (.iaload, 1) := by decide +kernel
theorem dX0_isBetterVictim_21 : decode cX0_isBetterVictim 21 = .ok (.aload_n 0, 1) := by decide +kernel
theorem dX0_isBetterVictim_22 : decode cX0_isBetterVictim 22 = .ok (.getfield 39, 3) := by decide +kernel
theorem dX0_isBetterVictim_25 : decode cX0_isBetterVictim 25 = .ok (.iload_n 2, 1) := by decide +kernel
theorem dX0_isBetterVictim_26 : decode cX0_isBetterVictim 26 = .ok (.iaload, 1) := by decide +kernel
theorem dX0_isBetterVictim_27 : decode cX0_isBetterVictim 27 = .ok (.if_icmp .ge 7, 3) := by decide +kernel
theorem dX0_isBetterVictim_30 : decode cX0_isBetterVictim 30 = .ok (.iconst 1, 1) := by decide +kernel
theorem dX0_isBetterVictim_31 : decode cX0_isBetterVictim 31 = .ok (.goto 4, 3) := by decide +kernel
theorem dX0_isBetterVictim_34 : decode cX0_isBetterVictim 34 = .ok (.iconst 0, 1) := by decide +kernel
theorem dX0_isBetterVictim_35 : decode cX0_isBetterVictim 35 = .ok (.ireturn, 1) := by decide +kernel
theorem dX0_isBetterVictim_36 : decode cX0_isBetterVictim 36 = .ok (.aload_n 0, 1) := by decide +kernel
theorem dX0_isBetterVictim_37 : decode cX0_isBetterVictim 37 = .ok (.getfield 12, 3) := by decide +kernel
theorem dX0_isBetterVictim_40 : decode cX0_isBetterVictim 40 = .ok (.getfield 168, 3) := by decide +kernel
theorem dX0_isBetterVictim_43 : decode cX0_isBetterVictim 43 = .ok (.iload_n 1, 1) := by decide +kernel
theorem dX0_isBetterVictim_44 : decode cX0_isBetterVictim 44 = .ok (.iaload, 1) := by decide +kernel
theorem dX0_isBetterVictim_45 : decode cX0_isBetterVictim 45 = .ok (.aload_n 0, 1) := by decide +kernel
theorem dX0_isBetterVictim_46 : decode cX0_isBetterVictim 46 = .ok (.getfield 12, 3) := by decide +kernel
theorem dX0_isBetterVictim_49 : decode cX0_isBetterVictim 49 = .ok (.getfield 168, 3) := by decide +kernel
theorem dX0_isBetterVictim_52 : decode cX0_isBetterVictim 52 = .ok (.iload_n 2, 1) := by decide +kernel
theorem dX0_isBetterVictim_53 : decode cX0_isBetterVictim 53 = .ok (.iaload, 1) := by decide +kernel
theorem dX0_isBetterVictim_54 : decode cX0_isBetterVictim 54 = .ok (.if_icmp .ge 7, 3) := by decide +kernel
theorem dX0_isBetterVictim_57 : decode cX0_isBetterVictim 57 = .ok (.iconst 1, 1) := by decide +kernel
theorem dX0_isBetterVictim_58 : decode cX0_isBetterVictim 58 = .ok (.goto 4, 3) := by decide +kernel
theorem dX0_isBetterVictim_61 : decode cX0_isBetterVictim 61 = .ok (.iconst 0, 1) := by decide +kernel
theorem dX0_isBetterVictim_62 : decode cX0_isBetterVictim 62 = .ok (.ireturn, 1) := by decide +kernel
theorem dX0_collect_0 : decode cX0_collect 0 = .ok (.iconst 0, 1) := by decide +kernel
theorem dX0_collect_1 : decode cX0_collect 1 = .ok (.istore_n 2, 1) := by decide +kernel
theorem dX0_collect_2 : decode cX0_collect 2 = .ok (.iload_n 2, 1) := by decide +kernel
theorem dX0_collect_3 : decode cX0_collect 3 = .ok (.aload_n 0, 1) := by decide +kernel
theorem dX0_collect_4 : decode cX0_collect 4 = .ok (.getfield 12, 3) := by decide +kernel
theorem dX0_collect_7 : decode cX0_collect 7 = .ok (.getfield 115, 3) := by decide +kernel
theorem dX0_collect_10 : decode cX0_collect 10 = .ok (.if_icmp .ge 95, 3) := by decide +kernel
theorem dX0_collect_13 : decode cX0_collect 13 = .ok (.iload_n 1, 1) := by decide +kernel
theorem dX0_collect_14 : decode cX0_collect 14 = .ok (.aload_n 0, 1) := by decide +kernel
theorem dX0_collect_15 : decode cX0_collect 15 = .ok (.getfield 12, 3) := by decide +kernel
theorem dX0_collect_18 : decode cX0_collect 18 = .ok (.getfield 115, 3) := by decide +kernel
theorem dX0_collect_21 : decode cX0_collect 21 = .ok (.imul, 1) := by decide +kernel
theorem dX0_collect_22 : decode cX0_collect 22 = .ok (.iload_n 2, 1) := by decide +kernel
theorem dX0_collect_23 : decode cX0_collect 23 = .ok (.iadd, 1) := by decide +kernel
theorem dX0_collect_24 : decode cX0_collect 24 = .ok (.istore_n 3, 1) := by decide +kernel
theorem dX0_collect_25 : decode cX0_collect 25 = .ok (.aload_n 0, 1) := by decide +kernel
theorem dX0_collect_26 : decode cX0_collect 26 = .ok (.iload_n 3, 1) := by decide +kernel
theorem dX0_collect_27 : decode cX0_collect 27 = .ok (.invokevirtual 118, 3) := by decide +kernel
theorem dX0_collect_30 : decode cX0_collect 30 = .ok (.ifCond .eq 69, 3) := by decide +kernel
theorem dX0_collect_33 : decode cX0_collect 33 = .ok (.aload_n 0, 1) := by decide +kernel
theorem dX0_collect_34 : decode cX0_collect 34 = .ok (.getfield 12, 3) := by decide +kernel
theorem dX0_collect_37 : decode cX0_collect 37 = .ok (.aload_n 0, 1) := by decide +kernel
theorem dX0_collect_38 : decode cX0_collect 38 = .ok (.getfield 43, 3) := by decide +kernel
theorem dX0_collect_41 : decode cX0_collect 41 = .ok (.aload_n 0, 1) := by decide +kernel
theorem dX0_collect_42 : decode cX0_collect 42 = .ok (.getfield 12, 3) := by decide +kernel
theorem dX0_collect_45 : decode cX0_collect 45 = .ok (.getfield 99, 3) := by decide +kernel
theorem dX0_collect_48 : decode cX0_collect 48 = .ok (.iload_n 3, 1) := by decide +kernel
theorem dX0_collect_49 : decode cX0_collect 49 = .ok (.iaload, 1) := by decide +kernel
theorem dX0_collect_50 : decode cX0_collect 50 = .ok (.aload_n 0, 1) := by decide +kernel
theorem dX0_collect_51 : decode cX0_collect 51 = .ok (.getfield 12, 3) := by decide +kernel
theorem dX0_collect_54 : decode cX0_collect 54 = .ok (.getfield 102, 3) := by decide +kernel
theorem dX0_collect_57 : decode cX0_collect 57 = .ok (.iload_n 3, 1) := by decide +kernel
theorem dX0_collect_58 : decode cX0_collect 58 = .ok (.iaload, 1) := by decide +kernel
theorem dX0_collect_59 : decode cX0_collect 59 = .ok (.aload_n 0, 1) := by decide +kernel
theorem dX0_collect_60 : decode cX0_collect 60 = .ok (.getfield 12, 3) := by decide +kernel
theorem dX0_collect_63 : decode cX0_collect 63 = .ok (.getfield 112, 3) := by decide +kernel
theorem dX0_collect_66 : decode cX0_collect 66 = .ok (.iload_n 3, 1) := by decide +kernel
theorem dX0_collect_67 : decode cX0_collect 67 = .ok (.iaload, 1) := by decide +kernel
theorem dX0_collect_68 : decode cX0_collect 68 = .ok (.aload_n 0, 1) := by decide +kernel
theorem dX0_collect_69 : decode cX0_collect 69 = .ok (.getfield 12, 3) := by decide +kernel
theorem dX0_collect_72 : decode cX0_collect 72 = .ok (.getfield 135, 3) := by decide +kernel
theorem dX0_collect_75 : decode cX0_collect 75 = .ok (.iload_n 3, 1) := by decide +kernel
theorem dX0_collect_76 : decode cX0_collect 76 = .ok (.iaload, 1) := by decide +kernel
theorem dX0_collect_77 : decode cX0_collect 77 = .ok (.invokevirtual 146, 3) := by decide +kernel
theorem dX0_collect_80 : decode cX0_collect 80 = .ok (.istore 4, 2) := by decide +kernel
theorem dX0_collect_82 : decode cX0_collect 82 = .ok (.iload 4, 2) := by decide +kernel
theorem dX0_collect_84 : decode cX0_collect 84 = .ok (.ifCond .ge 5, 3) := by decide +kernel
theorem dX0_collect_87 : decode cX0_collect 87 = .ok (.iconst 0, 1) := by decide +kernel
theorem dX0_collect_88 : decode cX0_collect 88 = .ok (.ireturn, 1) := by decide +kernel
theorem dX0_collect_89 : decode cX0_collect 89 = .ok (.aload_n 0, 1) := by decide +kernel
theorem dX0_collect_90 : decode cX0_collect 90 = .ok (.getfield 12, 3) := by decide +kernel
theorem dX0_collect_93 : decode cX0_collect 93 = .ok (.iload 4, 2) := by decide +kernel
theorem dX0_collect_95 : decode cX0_collect 95 = .ok (.iload_n 3, 1) := by decide +kernel
theorem dX0_collect_96 : decode cX0_collect 96 = .ok (.invokevirtual 171, 3) := by decide +kernel
theorem dX0_collect_99 : decode cX0_collect 99 = .ok (.iinc 2 1, 3) := by decide +kernel
theorem dX0_collect_102 : decode cX0_collect 102 = .ok (.goto (-100), 3) := by decide +kernel
theorem dX0_collect_105 : decode cX0_collect 105 = .ok (.aload_n 0, 1) := by decide +kernel
theorem dX0_collect_106 : decode cX0_collect 106 = .ok (.getfield 12, 3) := by decide +kernel
theorem dX0_collect_109 : decode cX0_collect 109 = .ok (.iload_n 1, 1) := by decide +kernel
theorem dX0_collect_110 : decode cX0_collect 110 = .ok (.invokevirtual 174, 3) := by decide +kernel
theorem dX0_collect_113 : decode cX0_collect 113 = .ok (.ireturn, 1) := by decide +kernel
theorem dX0_nextVictim_0 : decode cX0_nextVictim 0 = .ok (.aload_n 0, 1) := by decide +kernel
theorem dX0_nextVictim_1 : decode cX0_nextVictim 1 = .ok (.getfield 12, 3) := by decide +kernel
theorem dX0_nextVictim_4 : decode cX0_nextVictim 4 = .ok (.aload_n 0, 1) := by decide +kernel
theorem dX0_nextVictim_5 : decode cX0_nextVictim 5 = .ok (.getfield 43, 3) := by decide +kernel
theorem dX0_nextVictim_8 : decode cX0_nextVictim 8 = .ok (.invokevirtual 153, 3) := by decide +kernel
theorem dX0_nextVictim_11 : decode cX0_nextVictim 11 = .ok (.istore_n 1, 1) := by decide +kernel
theorem dX0_nextVictim_12 : decode cX0_nextVictim 12 = .ok (.iload_n 1, 1) := by decide +kernel
theorem dX0_nextVictim_13 : decode cX0_nextVictim 13 = .ok (.ifCond .lt 15, 3) := by decide +kernel
theorem dX0_nextVictim_16 : decode cX0_nextVictim 16 = .ok (.aload_n 0, 1) := by decide +kernel
theorem dX0_nextVictim_17 : decode cX0_nextVictim 17 = .ok (.getfield 12, 3) := by decide +kernel
theorem dX0_nextVictim_20 : decode cX0_nextVictim 20 = .ok (.iload_n 1, 1) := by decide +kernel
theorem dX0_nextVictim_21 : decode cX0_nextVictim 21 = .ok (.invokevirtual 156, 3) := by decide +kernel
theorem dX0_nextVictim_24 : decode cX0_nextVictim 24 = .ok (.iconst 2, 1) := by decide +kernel
theorem dX0_nextVictim_25 : decode cX0_nextVictim 25 = .ok (.if_icmp .lt 5, 3) := by decide +kernel
theorem dX0_nextVictim_28 : decode cX0_nextVictim 28 = .ok (.iconst (-1), 1) := by decide +kernel
theorem dX0_nextVictim_29 : decode cX0_nextVictim 29 = .ok (.ireturn, 1) := by decide +kernel
theorem dX0_nextVictim_30 : decode cX0_nextVictim 30 = .ok (.aload_n 0, 1) := by decide +kernel
theorem dX0_nextVictim_31 : decode cX0_nextVictim 31 = .ok (.invokevirtual 124, 3) := by decide +kernel
theorem dX0_nextVictim_34 : decode cX0_nextVictim 34 = .ok (.pop, 1) := by decide +kernel
theorem dX0_nextVictim_35 : decode cX0_nextVictim 35 = .ok (.aload_n 0, 1) := by decide +kernel
theorem dX0_nextVictim_36 : decode cX0_nextVictim 36 = .ok (.iload_n 1, 1) := by decide +kernel
theorem dX0_nextVictim_37 : decode cX0_nextVictim 37 = .ok (.invokevirtual 159, 3) := by decide +kernel
theorem dX0_nextVictim_40 : decode cX0_nextVictim 40 = .ok (.ireturn, 1) := by decide +kernel
theorem dX0_writeInside_0 : decode cX0_writeInside 0 = .ok (.aload_n 0, 1) := by decide +kernel
theorem dX0_writeInside_1 : decode cX0_writeInside 1 = .ok (.iconst 1, 1) := by decide +kernel
theorem dX0_writeInside_2 : decode cX0_writeInside 2 = .ok (.iload_n 2, 1) := by decide +kernel
theorem dX0_writeInside_3 : decode cX0_writeInside 3 = .ok (.iload_n 1, 1) := by decide +kernel
theorem dX0_writeInside_4 : decode cX0_writeInside 4 = .ok (.iload_n 3, 1) := by decide +kernel
theorem dX0_writeInside_5 : decode cX0_writeInside 5 = .ok (.invokevirtual 177, 3) := by decide +kernel
theorem dX0_writeInside_8 : decode cX0_writeInside 8 = .ok (.istore 4, 2) := by decide +kernel
theorem dX0_writeInside_10 : decode cX0_writeInside 10 = .ok (.aload_n 0, 1) := by decide +kernel
theorem dX0_writeInside_11 : decode cX0_writeInside 11 = .ok (.getfield 12, 3) := by decide +kernel
theorem dX0_writeInside_14 : decode cX0_writeInside 14 = .ok (.iload 4, 2) := by decide +kernel
theorem dX0_writeInside_16 : decode cX0_writeInside 16 = .ok (.invokevirtual 91, 3) := by decide +kernel
theorem dX0_writeInside_19 : decode cX0_writeInside 19 = .ok (.ifCond .ne 5, 3) := by decide +kernel
theorem dX0_writeInside_22 : decode cX0_writeInside 22 = .ok (.iconst (-1), 1) := by decide +kernel
theorem dX0_writeInside_23 : decode cX0_writeInside 23 = .ok (.ireturn, 1) := by decide +kernel
theorem dX0_writeInside_24 : decode cX0_writeInside 24 = .ok (.aload_n 0, 1) := by decide +kernel
theorem dX0_writeInside_25 : decode cX0_writeInside 25 = .ok (.getfield 28, 3) := by decide +kernel
theorem dX0_writeInside_28 : decode cX0_writeInside 28 = .ok (.iload_n 1, 1) := by decide +kernel
theorem dX0_writeInside_29 : decode cX0_writeInside 29 = .ok (.iload_n 2, 1) := by decide +kernel
theorem dX0_writeInside_30 : decode cX0_writeInside 30 = .ok (.aload_n 0, 1) := by decide +kernel
theorem dX0_writeInside_31 : decode cX0_writeInside 31 = .ok (.getfield 12, 3) := by decide +kernel
theorem dX0_writeInside_34 : decode cX0_writeInside 34 = .ok (.getfield 105, 3) := by decide +kernel
theorem dX0_writeInside_37 : decode cX0_writeInside 37 = .ok (.iload 4, 2) := by decide +kernel
theorem dX0_writeInside_39 : decode cX0_writeInside 39 = .ok (.iaload, 1) := by decide +kernel
theorem dX0_writeInside_40 : decode cX0_writeInside 40 = .ok (.invokevirtual 180, 3) := by decide +kernel
theorem dX0_writeInside_43 : decode cX0_writeInside 43 = .ok (.aload_n 0, 1) := by decide +kernel
theorem dX0_writeInside_44 : decode cX0_writeInside 44 = .ok (.dup, 1) := by decide +kernel
theorem dX0_writeInside_45 : decode cX0_writeInside 45 = .ok (.getfield 78, 3) := by decide +kernel
theorem dX0_writeInside_48 : decode cX0_writeInside 48 = .ok (.iconst 1, 1) := by decide +kernel
theorem dX0_writeInside_49 : decode cX0_writeInside 49 = .ok (.iadd, 1) := by decide +kernel
theorem dX0_writeInside_50 : decode cX0_writeInside 50 = .ok (.putfield 78, 3) := by decide +kernel
theorem dX0_writeInside_53 : decode cX0_writeInside 53 = .ok (.aload_n 0, 1) := by decide +kernel
theorem dX0_writeInside_54 : decode cX0_writeInside 54 = .ok (.getfield 12, 3) := by decide +kernel
theorem dX0_writeInside_57 : decode cX0_writeInside 57 = .ok (.getfield 105, 3) := by decide +kernel
theorem dX0_writeInside_60 : decode cX0_writeInside 60 = .ok (.iload 4, 2) := by decide +kernel
theorem dX0_writeInside_62 : decode cX0_writeInside 62 = .ok (.iaload, 1) := by decide +kernel
theorem dX0_writeInside_63 : decode cX0_writeInside 63 = .ok (.ireturn, 1) := by decide +kernel
theorem dX0_writeOutside_0 : decode cX0_writeOutside 0 = .ok (.aload_n 0, 1) := by decide +kernel
theorem dX0_writeOutside_1 : decode cX0_writeOutside 1 = .ok (.iconst 1, 1) := by decide +kernel
theorem dX0_writeOutside_2 : decode cX0_writeOutside 2 = .ok (.iload_n 1, 1) := by decide +kernel
theorem dX0_writeOutside_3 : decode cX0_writeOutside 3 = .ok (.iconst 0, 1) := by decide +kernel
theorem dX0_writeOutside_4 : decode cX0_writeOutside 4 = .ok (.iload_n 2, 1) := by decide +kernel
theorem dX0_writeOutside_5 : decode cX0_writeOutside 5 = .ok (.invokevirtual 177, 3) := by decide +kernel
theorem dX0_writeOutside_8 : decode cX0_writeOutside 8 = .ok (.istore_n 3, 1) := by decide +kernel
theorem dX0_writeOutside_9 : decode cX0_writeOutside 9 = .ok (.aload_n 0, 1) := by decide +kernel
theorem dX0_writeOutside_10 : decode cX0_writeOutside 10 = .ok (.getfield 12, 3) := by decide +kernel
theorem dX0_writeOutside_13 : decode cX0_writeOutside 13 = .ok (.iload_n 3, 1) := by decide +kernel
theorem dX0_writeOutside_14 : decode cX0_writeOutside 14 = .ok (.invokevirtual 91, 3) := by decide +kernel
theorem dX0_writeOutside_17 : decode cX0_writeOutside 17 = .ok (.ifCond .ne 5, 3) := by decide +kernel
theorem dX0_writeOutside_20 : decode cX0_writeOutside 20 = .ok (.iconst (-1), 1) := by decide +kernel
theorem dX0_writeOutside_21 : decode cX0_writeOutside 21 = .ok (.ireturn, 1) := by decide +kernel
theorem dX0_writeOutside_22 : decode cX0_writeOutside 22 = .ok (.aload_n 0, 1) := by decide +kernel
theorem dX0_writeOutside_23 : decode cX0_writeOutside 23 = .ok (.getfield 12, 3) := by decide +kernel
theorem dX0_writeOutside_26 : decode cX0_writeOutside 26 = .ok (.getfield 105, 3) := by decide +kernel
theorem dX0_writeOutside_29 : decode cX0_writeOutside 29 = .ok (.iload_n 3, 1) := by decide +kernel
theorem dX0_writeOutside_30 : decode cX0_writeOutside 30 = .ok (.iaload, 1) := by decide +kernel
theorem dX0_writeOutside_31 : decode cX0_writeOutside 31 = .ok (.istore 4, 2) := by decide +kernel
theorem dX0_writeOutside_33 : decode cX0_writeOutside 33 = .ok (.aload_n 0, 1) := by decide +kernel
theorem dX0_writeOutside_34 : decode cX0_writeOutside 34 = .ok (.getfield 28, 3) := by decide +kernel
theorem dX0_writeOutside_37 : decode cX0_writeOutside 37 = .ok (.iload_n 1, 1) := by decide +kernel
theorem dX0_writeOutside_38 : decode cX0_writeOutside 38 = .ok (.iload 4, 2) := by decide +kernel
theorem dX0_writeOutside_40 : decode cX0_writeOutside 40 = .ok (.invokevirtual 184, 3) := by decide +kernel
theorem dX0_writeOutside_43 : decode cX0_writeOutside 43 = .ok (.aload_n 0, 1) := by decide +kernel
theorem dX0_writeOutside_44 : decode cX0_writeOutside 44 = .ok (.dup, 1) := by decide +kernel
theorem dX0_writeOutside_45 : decode cX0_writeOutside 45 = .ok (.getfield 63, 3) := by decide +kernel
theorem dX0_writeOutside_48 : decode cX0_writeOutside 48 = .ok (.iconst 1, 1) := by decide +kernel
theorem dX0_writeOutside_49 : decode cX0_writeOutside 49 = .ok (.iadd, 1) := by decide +kernel
theorem dX0_writeOutside_50 : decode cX0_writeOutside 50 = .ok (.putfield 63, 3) := by decide +kernel
theorem dX0_writeOutside_53 : decode cX0_writeOutside 53 = .ok (.aload_n 0, 1) := by decide +kernel
theorem dX0_writeOutside_54 : decode cX0_writeOutside 54 = .ok (.getfield 63, 3) := by decide +kernel
theorem dX0_writeOutside_57 : decode cX0_writeOutside 57 = .ok (.aload_n 0, 1) := by decide +kernel
theorem dX0_writeOutside_58 : decode cX0_writeOutside 58 = .ok (.getfield 60, 3) := by decide +kernel
theorem dX0_writeOutside_61 : decode cX0_writeOutside 61 = .ok (.if_icmp .lt 12, 3) := by decide +kernel
theorem dX0_writeOutside_64 : decode cX0_writeOutside 64 = .ok (.aload_n 0, 1) := by decide +kernel
theorem dX0_writeOutside_65 : decode cX0_writeOutside 65 = .ok (.invokevirtual 187, 3) := by decide +kernel
theorem dX0_writeOutside_68 : decode cX0_writeOutside 68 = .ok (.ifCond .ne 5, 3) := by decide +kernel
theorem dX0_writeOutside_71 : decode cX0_writeOutside 71 = .ok (.iconst (-1), 1) := by decide +kernel
theorem dX0_writeOutside_72 : decode cX0_writeOutside 72 = .ok (.ireturn, 1) := by decide +kernel
theorem dX0_writeOutside_73 : decode cX0_writeOutside 73 = .ok (.aload_n 0, 1) := by decide +kernel
theorem dX0_writeOutside_74 : decode cX0_writeOutside 74 = .ok (.dup, 1) := by decide +kernel
theorem dX0_writeOutside_75 : decode cX0_writeOutside 75 = .ok (.getfield 78, 3) := by decide +kernel
theorem dX0_writeOutside_78 : decode cX0_writeOutside 78 = .ok (.iconst 1, 1) := by decide +kernel
theorem dX0_writeOutside_79 : decode cX0_writeOutside 79 = .ok (.iadd, 1) := by decide +kernel
theorem dX0_writeOutside_80 : decode cX0_writeOutside 80 = .ok (.putfield 78, 3) := by decide +kernel
theorem dX0_writeOutside_83 : decode cX0_writeOutside 83 = .ok (.iload 4, 2) := by decide +kernel
theorem dX0_writeOutside_85 : decode cX0_writeOutside 85 = .ok (.ireturn, 1) := by decide +kernel
theorem dX0_commitTransaction_0 : decode cX0_commitTransaction 0 = .ok (.iload_n 2, 1) := by decide +kernel
theorem dX0_commitTransaction_1 : decode cX0_commitTransaction 1 = .ok (.ifCond .ne 14, 3) := by decide +kernel
theorem dX0_commitTransaction_4 : decode cX0_commitTransaction 4 = .ok (.aload_n 0, 1) := by decide +kernel
theorem dX0_commitTransaction_5 : decode cX0_commitTransaction 5 = .ok (.getfield 21, 3) := by decide +kernel
theorem dX0_commitTransaction_8 : decode cX0_commitTransaction 8 = .ok (.iload_n 1, 1) := by decide +kernel
theorem dX0_commitTransaction_9 : decode cX0_commitTransaction 9 = .ok (.iconst 2, 1) := by decide +kernel
theorem dX0_commitTransaction_10 : decode cX0_commitTransaction 10 = .ok (.invokevirtual 190, 3) := by decide +kernel
theorem dX0_commitTransaction_13 : decode cX0_commitTransaction 13 = .ok (.iconst 1, 1) := by decide +kernel
theorem dX0_commitTransaction_14 : decode cX0_commitTransaction 14 = .ok (.ireturn, 1) := by decide +kernel
theorem dX0_commitTransaction_15 : decode cX0_commitTransaction 15 = .ok (.aload_n 0, 1) := by decide +kernel
theorem dX0_commitTransaction_16 : decode cX0_commitTransaction 16 = .ok (.iconst 2, 1) := by decide +kernel
theorem dX0_commitTransaction_17 : decode cX0_commitTransaction 17 = .ok (.iload_n 2, 1) := by decide +kernel
theorem dX0_commitTransaction_18 : decode cX0_commitTransaction 18 = .ok (.iload_n 1, 1) := by decide +kernel
theorem dX0_commitTransaction_19 : decode cX0_commitTransaction 19 = .ok (.bipush (-2), 2) := by decide +kernel
theorem dX0_commitTransaction_21 : decode cX0_commitTransaction 21 = .ok (.invokevirtual 177, 3) := by decide +kernel
theorem dX0_commitTransaction_24 : decode cX0_commitTransaction 24 = .ok (.ifCond .ge 5, 3) := by decide +kernel
theorem dX0_commitTransaction_27 : decode cX0_commitTransaction 27 = .ok (.iconst 0, 1) := by decide +kernel
theorem dX0_commitTransaction_28 : decode cX0_commitTransaction 28 = .ok (.ireturn, 1) := by decide +kernel
theorem dX0_commitTransaction_29 : decode cX0_commitTransaction 29 = .ok (.aload_n 0, 1) := by decide +kernel
theorem dX0_commitTransaction_30 : decode cX0_commitTransaction 30 = .ok (.getfield 28, 3) := by decide +kernel
theorem dX0_commitTransaction_33 : decode cX0_commitTransaction 33 = .ok (.iload_n 1, 1) := by decide +kernel
theorem dX0_commitTransaction_34 : decode cX0_commitTransaction 34 = .ok (.invokevirtual 193, 3) := by decide +kernel
theorem dX0_commitTransaction_37 : decode cX0_commitTransaction 37 = .ok (.aload_n 0, 1) := by decide +kernel
theorem dX0_commitTransaction_38 : decode cX0_commitTransaction 38 = .ok (.getfield 21, 3) := by decide +kernel
theorem dX0_commitTransaction_41 : decode cX0_commitTransaction 41 = .ok (.iload_n 1, 1) := by decide +kernel
theorem dX0_commitTransaction_42 : decode cX0_commitTransaction 42 = .ok (.iconst 2, 1) := by decide +kernel
theorem dX0_commitTransaction_43 : decode cX0_commitTransaction 43 = .ok (.invokevirtual 190, 3) := by decide +kernel
theorem dX0_commitTransaction_46 : decode cX0_commitTransaction 46 = .ok (.aload_n 0, 1) := by decide +kernel
theorem dX0_commitTransaction_47 : decode cX0_commitTransaction 47 = .ok (.dup, 1) := by decide +kernel
theorem dX0_commitTransaction_48 : decode cX0_commitTransaction 48 = .ok (.getfield 63, 3) := by decide +kernel
theorem dX0_commitTransaction_51 : decode cX0_commitTransaction 51 = .ok (.iconst 1, 1) := by decide +kernel
theorem dX0_commitTransaction_52 : decode cX0_commitTransaction 52 = .ok (.iadd, 1) := by decide +kernel
theorem dX0_commitTransaction_53 : decode cX0_commitTransaction 53 = .ok (.putfield 63, 3) := by decide +kernel
theorem dX0_commitTransaction_56 : decode cX0_commitTransaction 56 = .ok (.aload_n 0, 1) := by decide +kernel
theorem dX0_commitTransaction_57 : decode cX0_commitTransaction 57 = .ok (.getfield 63, 3) := by decide +kernel
theorem dX0_commitTransaction_60 : decode cX0_commitTransaction 60 = .ok (.aload_n 0, 1) := by decide +kernel
theorem dX0_commitTransaction_61 : decode cX0_commitTransaction 61 = .ok (.getfield 60, 3) := by decide +kernel
theorem dX0_commitTransaction_64 : decode cX0_commitTransaction 64 = .ok (.if_icmp .lt 10, 3) := by decide +kernel
theorem dX0_commitTransaction_67 : decode cX0_commitTransaction 67 = .ok (.aload_n 0, 1) := by decide +kernel
theorem dX0_commitTransaction_68 : decode cX0_commitTransaction 68 = .ok (.invokevirtual 187, 3) := by decide +kernel
theorem dX0_commitTransaction_71 : decode cX0_commitTransaction 71 = .ok (.ifCond .eq 7, 3) := by decide +kernel
theorem dX0_commitTransaction_74 : decode cX0_commitTransaction 74 = .ok (.iconst 1, 1) := by decide +kernel
theorem dX0_commitTransaction_75 : decode cX0_commitTransaction 75 = .ok (.goto 4, 3) := by decide +kernel
theorem dX0_commitTransaction_78 : decode cX0_commitTransaction 78 = .ok (.iconst 0, 1) := by decide +kernel
theorem dX0_commitTransaction_79 : decode cX0_commitTransaction 79 = .ok (.ireturn, 1) := by decide +kernel
theorem dX0_makeCheckpoint_0 : decode cX0_makeCheckpoint 0 = .ok (.aload_n 0, 1) := by decide +kernel
theorem dX0_makeCheckpoint_1 : decode cX0_makeCheckpoint 1 = .ok (.dup, 1) := by decide +kernel
theorem dX0_makeCheckpoint_2 : decode cX0_makeCheckpoint 2 = .ok (.getfield 66, 3) := by decide +kernel
theorem dX0_makeCheckpoint_5 : decode cX0_makeCheckpoint 5 = .ok (.iconst 1, 1) := by decide +kernel
theorem dX0_makeCheckpoint_6 : decode cX0_makeCheckpoint 6 = .ok (.iadd, 1) := by decide +kernel
theorem dX0_makeCheckpoint_7 : decode cX0_makeCheckpoint 7 = .ok (.putfield 66, 3) := by decide +kernel
theorem dX0_makeCheckpoint_10 : decode cX0_makeCheckpoint 10 = .ok (.aload_n 0, 1) := by decide +kernel
theorem dX0_makeCheckpoint_11 : decode cX0_makeCheckpoint 11 = .ok (.aload_n 0, 1) := by decide +kernel
theorem dX0_makeCheckpoint_12 : decode cX0_makeCheckpoint 12 = .ok (.getfield 66, 3) := by decide +kernel
theorem dX0_makeCheckpoint_15 : decode cX0_makeCheckpoint 15 = .ok (.putfield 75, 3) := by decide +kernel
theorem dX0_makeCheckpoint_18 : decode cX0_makeCheckpoint 18 = .ok (.iconst 0, 1) := by decide +kernel
theorem dX0_makeCheckpoint_19 : decode cX0_makeCheckpoint 19 = .ok (.istore_n 1, 1) := by decide +kernel
theorem dX0_makeCheckpoint_20 : decode cX0_makeCheckpoint 20 = .ok (.iload_n 1, 1) := by decide +kernel
theorem dX0_makeCheckpoint_21 : decode cX0_makeCheckpoint 21 = .ok (.aload_n 0, 1) := by decide +kernel
theorem dX0_makeCheckpoint_22 : decode cX0_makeCheckpoint 22 = .ok (.getfield 28, 3) := by decide +kernel
theorem dX0_makeCheckpoint_25 : decode cX0_makeCheckpoint 25 = .ok (.getfield 128, 3) := by decide +kernel
theorem dX0_makeCheckpoint_28 : decode cX0_makeCheckpoint 28 = .ok (.if_icmp .ge 34, 3) := by decide +kernel
theorem dX0_makeCheckpoint_31 : decode cX0_makeCheckpoint 31 = .ok (.aload_n 0, 1) := by decide +kernel
theorem dX0_makeCheckpoint_32 : decode cX0_makeCheckpoint 32 = .ok (.iconst 3, 1) := by decide +kernel
theorem dX0_makeCheckpoint_33 : decode cX0_makeCheckpoint 33 = .ok (.iload_n 1, 1) := by decide +kernel
theorem dX0_makeCheckpoint_34 : decode cX0_makeCheckpoint 34 = .ok (.aload_n 0, 1) := by decide +kernel
theorem dX0_makeCheckpoint_35 : decode cX0_makeCheckpoint 35 = .ok (.getfield 66, 3) := by decide +kernel
theorem dX0_makeCheckpoint_38 : decode cX0_makeCheckpoint 38 = .ok (.bipush (-2), 2) := by decide +kernel
theorem dX0_makeCheckpoint_40 : decode cX0_makeCheckpoint 40 = .ok (.invokevirtual 177, 3) := by decide +kernel
theorem dX0_makeCheckpoint_43 : decode cX0_makeCheckpoint 43 = .ok (.istore_n 2, 1) := by decide +kernel
theorem dX0_makeCheckpoint_44 : decode cX0_makeCheckpoint 44 = .ok (.iload_n 2, 1) := by decide +kernel
theorem dX0_makeCheckpoint_45 : decode cX0_makeCheckpoint 45 = .ok (.ifCond .ge 5, 3) := by decide +kernel
theorem dX0_makeCheckpoint_48 : decode cX0_makeCheckpoint 48 = .ok (.iconst 0, 1) := by decide +kernel
theorem dX0_makeCheckpoint_49 : decode cX0_makeCheckpoint 49 = .ok (.ireturn, 1) := by decide +kernel
theorem dX0_makeCheckpoint_50 : decode cX0_makeCheckpoint 50 = .ok (.aload_n 0, 1) := by decide +kernel
theorem dX0_makeCheckpoint_51 : decode cX0_makeCheckpoint 51 = .ok (.iload_n 2, 1) := by decide +kernel
theorem dX0_makeCheckpoint_52 : decode cX0_makeCheckpoint 52 = .ok (.iload_n 1, 1) := by decide +kernel
theorem dX0_makeCheckpoint_53 : decode cX0_makeCheckpoint 53 = .ok (.invokevirtual 196, 3) := by decide +kernel
theorem dX0_makeCheckpoint_56 : decode cX0_makeCheckpoint 56 = .ok (.iinc 1 1, 3) := by decide +kernel
theorem dX0_makeCheckpoint_59 : decode cX0_makeCheckpoint 59 = .ok (.goto (-39), 3) := by decide +kernel
theorem dX0_makeCheckpoint_62 : decode cX0_makeCheckpoint 62 = .ok (.aload_n 0, 1) := by decide +kernel
theorem dX0_makeCheckpoint_63 : decode cX0_makeCheckpoint 63 = .ok (.iconst 4, 1) := by decide +kernel
theorem dX0_makeCheckpoint_64 : decode cX0_makeCheckpoint 64 = .ok (.iconst 0, 1) := by decide +kernel
theorem dX0_makeCheckpoint_65 : decode cX0_makeCheckpoint 65 = .ok (.aload_n 0, 1) := by decide +kernel
theorem dX0_makeCheckpoint_66 : decode cX0_makeCheckpoint 66 = .ok (.getfield 66, 3) := by decide +kernel
theorem dX0_makeCheckpoint_69 : decode cX0_makeCheckpoint 69 = .ok (.bipush (-2), 2) := by decide +kernel
theorem dX0_makeCheckpoint_71 : decode cX0_makeCheckpoint 71 = .ok (.invokevirtual 177, 3) := by decide +kernel
theorem dX0_makeCheckpoint_74 : decode cX0_makeCheckpoint 74 = .ok (.istore_n 1, 1) := by decide +kernel
theorem dX0_makeCheckpoint_75 : decode cX0_makeCheckpoint 75 = .ok (.aload_n 0, 1) := by decide +kernel
theorem dX0_makeCheckpoint_76 : decode cX0_makeCheckpoint 76 = .ok (.getfield 12, 3) := by decide +kernel
theorem dX0_makeCheckpoint_79 : decode cX0_makeCheckpoint 79 = .ok (.iload_n 1, 1) := by decide +kernel
theorem dX0_makeCheckpoint_80 : decode cX0_makeCheckpoint 80 = .ok (.invokevirtual 91, 3) := by decide +kernel
theorem dX0_makeCheckpoint_83 : decode cX0_makeCheckpoint 83 = .ok (.ifCond .ne 5, 3) := by decide +kernel
theorem dX0_makeCheckpoint_86 : decode cX0_makeCheckpoint 86 = .ok (.iconst 0, 1) := by decide +kernel
theorem dX0_makeCheckpoint_87 : decode cX0_makeCheckpoint 87 = .ok (.ireturn, 1) := by decide +kernel
theorem dX0_makeCheckpoint_88 : decode cX0_makeCheckpoint 88 = .ok (.aload_n 0, 1) := by decide +kernel
theorem dX0_makeCheckpoint_89 : decode cX0_makeCheckpoint 89 = .ok (.aload_n 0, 1) := by decide +kernel
theorem dX0_makeCheckpoint_90 : decode cX0_makeCheckpoint 90 = .ok (.getfield 66, 3) := by decide +kernel
theorem dX0_makeCheckpoint_93 : decode cX0_makeCheckpoint 93 = .ok (.putfield 69, 3) := by decide +kernel
theorem dX0_makeCheckpoint_96 : decode cX0_makeCheckpoint 96 = .ok (.aload_n 0, 1) := by decide +kernel
theorem dX0_makeCheckpoint_97 : decode cX0_makeCheckpoint 97 = .ok (.aload_n 0, 1) := by decide +kernel
theorem dX0_makeCheckpoint_98 : decode cX0_makeCheckpoint 98 = .ok (.getfield 12, 3) := by decide +kernel
theorem dX0_makeCheckpoint_101 : decode cX0_makeCheckpoint 101 = .ok (.getfield 105, 3) := by decide +kernel
theorem dX0_makeCheckpoint_104 : decode cX0_makeCheckpoint 104 = .ok (.iload_n 1, 1) := by decide +kernel
theorem dX0_makeCheckpoint_105 : decode cX0_makeCheckpoint 105 = .ok (.iaload, 1) := by decide +kernel
theorem dX0_makeCheckpoint_106 : decode cX0_makeCheckpoint 106 = .ok (.putfield 72, 3) := by decide +kernel
theorem dX0_makeCheckpoint_109 : decode cX0_makeCheckpoint 109 = .ok (.aload_n 0, 1) := by decide +kernel
theorem dX0_makeCheckpoint_110 : decode cX0_makeCheckpoint 110 = .ok (.iconst 0, 1) := by decide +kernel
theorem dX0_makeCheckpoint_111 : decode cX0_makeCheckpoint 111 = .ok (.putfield 75, 3) := by decide +kernel
theorem dX0_makeCheckpoint_114 : decode cX0_makeCheckpoint 114 = .ok (.aload_n 0, 1) := by decide +kernel
theorem dX0_makeCheckpoint_115 : decode cX0_makeCheckpoint 115 = .ok (.iconst 0, 1) := by decide +kernel
theorem dX0_makeCheckpoint_116 : decode cX0_makeCheckpoint 116 = .ok (.putfield 63, 3) := by decide +kernel
theorem dX0_makeCheckpoint_119 : decode cX0_makeCheckpoint 119 = .ok (.iconst 1, 1) := by decide +kernel
theorem dX0_makeCheckpoint_120 : decode cX0_makeCheckpoint 120 = .ok (.ireturn, 1) := by decide +kernel
theorem dX0_fillMapPage_0 : decode cX0_fillMapPage 0 = .ok (.iconst 0, 1) := by decide +kernel
theorem dX0_fillMapPage_1 : decode cX0_fillMapPage 1 = .ok (.istore_n 3, 1) := by decide +kernel
theorem dX0_fillMapPage_2 : decode cX0_fillMapPage 2 = .ok (.aload_n 0, 1) := by decide +kernel
theorem dX0_fillMapPage_3 : decode cX0_fillMapPage 3 = .ok (.getfield 12, 3) := by decide +kernel
theorem dX0_fillMapPage_6 : decode cX0_fillMapPage 6 = .ok (.iload_n 1, 1) := by decide +kernel
theorem dX0_fillMapPage_7 : decode cX0_fillMapPage 7 = .ok (.invokevirtual 91, 3) := by decide +kernel
theorem dX0_fillMapPage_10 : decode cX0_fillMapPage 10 = .ok (.ifCond .eq 43, 3) := by decide +kernel
theorem dX0_fillMapPage_13 : decode cX0_fillMapPage 13 = .ok (.iload_n 3, 1) := by decide +kernel
theorem dX0_fillMapPage_14 : decode cX0_fillMapPage 14 = .ok (.bipush 8, 2) := by decide +kernel
theorem dX0_fillMapPage_16 : decode cX0_fillMapPage 16 = .ok (.if_icmp .ge 37, 3) := by decide +kernel
theorem dX0_fillMapPage_19 : decode cX0_fillMapPage 19 = .ok (.aload_n 0, 1) := by decide +kernel
theorem dX0_fillMapPage_20 : decode cX0_fillMapPage 20 = .ok (.getfield 12, 3) := by decide +kernel
theorem dX0_fillMapPage_23 : decode cX0_fillMapPage 23 = .ok (.getfield 199, 3) := by decide +kernel
theorem dX0_fillMapPage_26 : decode cX0_fillMapPage 26 = .ok (.iload_n 1, 1) := by decide +kernel
theorem dX0_fillMapPage_27 : decode cX0_fillMapPage 27 = .ok (.bipush 8, 2) := by decide +kernel
theorem dX0_fillMapPage_29 : decode cX0_fillMapPage 29 = .ok (.imul, 1) := by decide +kernel
theorem dX0_fillMapPage_30 : decode cX0_fillMapPage 30 = .ok (.iload_n 3, 1) := by decide +kernel
theorem dX0_fillMapPage_31 : decode cX0_fillMapPage 31 = .ok (.iadd, 1) := by decide +kernel
theorem dX0_fillMapPage_32 : decode cX0_fillMapPage 32 = .ok (.aload_n 0, 1) := by decide +kernel
theorem dX0_fillMapPage_33 : decode cX0_fillMapPage 33 = .ok (.getfield 28, 3) := by decide +kernel
theorem dX0_fillMapPage_36 : decode cX0_fillMapPage 36 = .ok (.iconst 0, 1) := by decide +kernel
theorem dX0_fillMapPage_37 : decode cX0_fillMapPage 37 = .ok (.iload_n 2, 1) := by decide +kernel
theorem dX0_fillMapPage_38 : decode cX0_fillMapPage 38 = .ok (.bipush 8, 2) := by decide +kernel
theorem dX0_fillMapPage_40 : decode cX0_fillMapPage 40 = .ok (.imul, 1) := by decide +kernel
theorem dX0_fillMapPage_41 : decode cX0_fillMapPage 41 = .ok (.iload_n 3, 1) := by decide +kernel
theorem dX0_fillMapPage_42 : decode cX0_fillMapPage 42 = .ok (.iadd, 1) := by decide +kernel
theorem dX0_fillMapPage_43 : decode cX0_fillMapPage 43 = .ok (.invokevirtual 202, 3) := by decide +kernel
theorem dX0_fillMapPage_46 : decode cX0_fillMapPage 46 = .ok (.iastore, 1) := by decide +kernel
theorem dX0_fillMapPage_47 : decode cX0_fillMapPage 47 = .ok (.iinc 3 1, 3) := by decide +kernel
theorem dX0_fillMapPage_50 : decode cX0_fillMapPage 50 = .ok (.goto (-48), 3) := by decide +kernel
theorem dX0_fillMapPage_53 : decode cX0_fillMapPage 53 = .ok (.return_, 1) := by decide +kernel
theorem dX0_restore_0 : decode cX0_restore 0 = .ok (.aload_n 0, 1) := by decide +kernel
theorem dX0_restore_1 : decode cX0_restore 1 = .ok (.getfield 12, 3) := by decide +kernel
theorem dX0_restore_4 : decode cX0_restore 4 = .ok (.invokevirtual 205, 3) := by decide +kernel
theorem dX0_restore_7 : decode cX0_restore 7 = .ok (.istore_n 1, 1) := by decide +kernel
theorem dX0_restore_8 : decode cX0_restore 8 = .ok (.aload_n 0, 1) := by decide +kernel
theorem dX0_restore_9 : decode cX0_restore 9 = .ok (.getfield 12, 3) := by decide +kernel
theorem dX0_restore_12 : decode cX0_restore 12 = .ok (.iload_n 1, 1) := by decide +kernel
theorem dX0_restore_13 : decode cX0_restore 13 = .ok (.invokevirtual 91, 3) := by decide +kernel
theorem dX0_restore_16 : decode cX0_restore 16 = .ok (.ifCond .eq 33, 3) := by decide +kernel
theorem dX0_restore_19 : decode cX0_restore 19 = .ok (.aload_n 0, 1) := by decide +kernel
theorem dX0_restore_20 : decode cX0_restore 20 = .ok (.aload_n 0, 1) := by decide +kernel
theorem dX0_restore_21 : decode cX0_restore 21 = .ok (.getfield 12, 3) := by decide +kernel
theorem dX0_restore_24 : decode cX0_restore 24 = .ok (.getfield 112, 3) := by decide +kernel
theorem dX0_restore_27 : decode cX0_restore 27 = .ok (.iload_n 1, 1) := by decide +kernel
theorem dX0_restore_28 : decode cX0_restore 28 = .ok (.iaload, 1) := by decide +kernel
theorem dX0_restore_29 : decode cX0_restore 29 = .ok (.putfield 69, 3) := by decide +kernel
theorem dX0_restore_32 : decode cX0_restore 32 = .ok (.aload_n 0, 1) := by decide +kernel
theorem dX0_restore_33 : decode cX0_restore 33 = .ok (.aload_n 0, 1) := by decide +kernel
theorem dX0_restore_34 : decode cX0_restore 34 = .ok (.getfield 12, 3) := by decide +kernel
theorem dX0_restore_37 : decode cX0_restore 37 = .ok (.getfield 105, 3) := by decide +kernel
theorem dX0_restore_40 : decode cX0_restore 40 = .ok (.iload_n 1, 1) := by decide +kernel
theorem dX0_restore_41 : decode cX0_restore 41 = .ok (.iaload, 1) := by decide +kernel
theorem dX0_restore_42 : decode cX0_restore 42 = .ok (.putfield 72, 3) := by decide +kernel
theorem dX0_restore_45 : decode cX0_restore 45 = .ok (.aload_n 0, 1) := by decide +kernel
theorem dX0_restore_46 : decode cX0_restore 46 = .ok (.invokevirtual 208, 3) := by decide +kernel
theorem dX0_restore_49 : decode cX0_restore 49 = .ok (.aload_n 0, 1) := by decide +kernel
theorem dX0_restore_50 : decode cX0_restore 50 = .ok (.aload_n 0, 1) := by decide +kernel
theorem dX0_restore_51 : decode cX0_restore 51 = .ok (.getfield 35, 3) := by decide +kernel
theorem dX0_restore_54 : decode cX0_restore 54 = .ok (.aload_n 0, 1) := by decide +kernel
theorem dX0_restore_55 : decode cX0_restore 55 = .ok (.getfield 12, 3) := by decide +kernel
theorem dX0_restore_58 : decode cX0_restore 58 = .ok (.aload_n 0, 1) := by decide +kernel
theorem dX0_restore_59 : decode cX0_restore 59 = .ok (.getfield 28, 3) := by decide +kernel
theorem dX0_restore_62 : decode cX0_restore 62 = .ok (.aload_n 0, 1) := by decide +kernel
theorem dX0_restore_63 : decode cX0_restore 63 = .ok (.getfield 72, 3) := by decide +kernel
theorem dX0_restore_66 : decode cX0_restore 66 = .ok (.invokevirtual 211, 3) := by decide +kernel
theorem dX0_restore_69 : decode cX0_restore 69 = .ok (.putfield 63, 3) := by decide +kernel
theorem dX0_restore_72 : decode cX0_restore 72 = .ok (.aload_n 0, 1) := by decide +kernel
theorem dX0_restore_73 : decode cX0_restore 73 = .ok (.getfield 21, 3) := by decide +kernel
theorem dX0_restore_76 : decode cX0_restore 76 = .ok (.invokevirtual 215, 3) := by decide +kernel
theorem dX0_restore_79 : decode cX0_restore 79 = .ok (.aload_n 0, 1) := by decide +kernel
theorem dX0_restore_80 : decode cX0_restore 80 = .ok (.iconst 1, 1) := by decide +kernel
theorem dX0_restore_81 : decode cX0_restore 81 = .ok (.putfield 84, 3) := by decide +kernel
theorem dX0_restore_84 : decode cX0_restore 84 = .ok (.aload_n 0, 1) := by decide +kernel
theorem dX0_restore_85 : decode cX0_restore 85 = .ok (.invokevirtual 218, 3) := by decide +kernel
theorem dX0_restore_88 : decode cX0_restore 88 = .ok (.ifCond .ne 9, 3) := by decide +kernel
theorem dX0_restore_91 : decode cX0_restore 91 = .ok (.aload_n 0, 1) := by decide +kernel
theorem dX0_restore_92 : decode cX0_restore 92 = .ok (.invokevirtual 150, 3) := by decide +kernel
theorem dX0_restore_95 : decode cX0_restore 95 = .ok (.iconst 0, 1) := by decide +kernel
theorem dX0_restore_96 : decode cX0_restore 96 = .ok (.ireturn, 1) := by decide +kernel
theorem dX0_restore_97 : decode cX0_restore 97 = .ok (.aload_n 0, 1) := by decide +kernel
theorem dX0_restore_98 : decode cX0_restore 98 = .ok (.getfield 12, 3) := by decide +kernel
theorem dX0_restore_101 : decode cX0_restore 101 = .ok (.invokevirtual 221, 3) := by decide +kernel
theorem dX0_restore_104 : decode cX0_restore 104 = .ok (.istore_n 2, 1) := by decide +kernel
theorem dX0_restore_105 : decode cX0_restore 105 = .ok (.aload_n 0, 1) := by decide +kernel
theorem dX0_restore_106 : decode cX0_restore 106 = .ok (.aload_n 0, 1) := by decide +kernel
theorem dX0_restore_107 : decode cX0_restore 107 = .ok (.getfield 12, 3) := by decide +kernel
theorem dX0_restore_110 : decode cX0_restore 110 = .ok (.iload_n 2, 1) := by decide +kernel
theorem dX0_restore_111 : decode cX0_restore 111 = .ok (.invokevirtual 138, 3) := by decide +kernel
theorem dX0_restore_114 : decode cX0_restore 114 = .ok (.ifCond .le 7, 3) := by decide +kernel
theorem dX0_restore_117 : decode cX0_restore 117 = .ok (.iload_n 2, 1) := by decide +kernel
theorem dX0_restore_118 : decode cX0_restore 118 = .ok (.goto 4, 3) := by decide +kernel
theorem dX0_restore_121 : decode cX0_restore 121 = .ok (.iconst (-1), 1) := by decide +kernel
theorem dX0_restore_122 : decode cX0_restore 122 = .ok (.putfield 43, 3) := by decide +kernel
theorem dX0_restore_125 : decode cX0_restore 125 = .ok (.iconst 1, 1) := by decide +kernel
theorem dX0_restore_126 : decode cX0_restore 126 = .ok (.ireturn, 1) := by decide +kernel
theorem dX0_readMap_0 : decode cX0_readMap 0 = .ok (.iconst 0, 1) := by decide +kernel
theorem dX0_readMap_1 : decode cX0_readMap 1 = .ok (.istore_n 1, 1) := by decide +kernel
theorem dX0_readMap_2 : decode cX0_readMap 2 = .ok (.iload_n 1, 1) := by decide +kernel
theorem dX0_readMap_3 : decode cX0_readMap 3 = .ok (.aload_n 0, 1) := by decide +kernel
theorem dX0_readMap_4 : decode cX0_readMap 4 = .ok (.getfield 12, 3) := by decide +kernel
theorem dX0_readMap_7 : decode cX0_readMap 7 = .ok (.getfield 224, 3) := by decide +kernel
theorem dX0_readMap_10 : decode cX0_readMap 10 = .ok (.if_icmp .ge 87, 3) := by decide +kernel
theorem dX0_readMap_13 : decode cX0_readMap 13 = .ok (.aload_n 0, 1) := by decide +kernel
theorem dX0_readMap_14 : decode cX0_readMap 14 = .ok (.getfield 12, 3) := by decide +kernel
theorem dX0_readMap_17 : decode cX0_readMap 17 = .ok (.getfield 99, 3) := by decide +kernel
theorem dX0_readMap_20 : decode cX0_readMap 20 = .ok (.iload_n 1, 1) := by decide +kernel
theorem dX0_readMap_21 : decode cX0_readMap 21 = .ok (.iaload, 1) := by decide +kernel
theorem dX0_readMap_22 : decode cX0_readMap 22 = .ok (.iconst 3, 1) := by decide +kernel
theorem dX0_readMap_23 : decode cX0_readMap 23 = .ok (.if_icmp .ne 68, 3) := by decide +kernel
theorem dX0_readMap_26 : decode cX0_readMap 26 = .ok (.aload_n 0, 1) := by decide +kernel
theorem dX0_readMap_27 : decode cX0_readMap 27 = .ok (.getfield 12, 3) := by decide +kernel
theorem dX0_readMap_30 : decode cX0_readMap 30 = .ok (.getfield 112, 3) := by decide +kernel
theorem dX0_readMap_33 : decode cX0_readMap 33 = .ok (.iload_n 1, 1) := by decide +kernel
theorem dX0_readMap_34 : decode cX0_readMap 34 = .ok (.iaload, 1) := by decide +kernel
theorem dX0_readMap_35 : decode cX0_readMap 35 = .ok (.aload_n 0, 1) := by decide +kernel
theorem dX0_readMap_36 : decode cX0_readMap 36 = .ok (.getfield 69, 3) := by decide +kernel
theorem dX0_readMap_39 : decode cX0_readMap 39 = .ok (.if_icmp .ne 52, 3) := by decide +kernel
theorem dX0_readMap_42 : decode cX0_readMap 42 = .ok (.iconst 0, 1) := by decide +kernel
theorem dX0_readMap_43 : decode cX0_readMap 43 = .ok (.istore_n 2, 1) := by decide +kernel
theorem dX0_readMap_44 : decode cX0_readMap 44 = .ok (.iload_n 2, 1) := by decide +kernel
theorem dX0_readMap_45 : decode cX0_readMap 45 = .ok (.bipush 8, 2) := by decide +kernel
theorem dX0_readMap_47 : decode cX0_readMap 47 = .ok (.if_icmp .ge 44, 3) := by decide +kernel
theorem dX0_readMap_50 : decode cX0_readMap 50 = .ok (.aload_n 0, 1) := by decide +kernel
theorem dX0_readMap_51 : decode cX0_readMap 51 = .ok (.getfield 28, 3) := by decide +kernel
theorem dX0_readMap_54 : decode cX0_readMap 54 = .ok (.aload_n 0, 1) := by decide +kernel
theorem dX0_readMap_55 : decode cX0_readMap 55 = .ok (.getfield 12, 3) := by decide +kernel
theorem dX0_readMap_58 : decode cX0_readMap 58 = .ok (.getfield 102, 3) := by decide +kernel
theorem dX0_readMap_61 : decode cX0_readMap 61 = .ok (.iload_n 1, 1) := by decide +kernel
theorem dX0_readMap_62 : decode cX0_readMap 62 = .ok (.iaload, 1) := by decide +kernel
theorem dX0_readMap_63 : decode cX0_readMap 63 = .ok (.bipush 8, 2) := by decide +kernel
theorem dX0_readMap_65 : decode cX0_readMap 65 = .ok (.imul, 1) := by decide +kernel
theorem dX0_readMap_66 : decode cX0_readMap 66 = .ok (.iload_n 2, 1) := by decide +kernel
theorem dX0_readMap_67 : decode cX0_readMap 67 = .ok (.iadd, 1) := by decide +kernel
theorem dX0_readMap_68 : decode cX0_readMap 68 = .ok (.aload_n 0, 1) := by decide +kernel
theorem dX0_readMap_69 : decode cX0_readMap 69 = .ok (.getfield 12, 3) := by decide +kernel
theorem dX0_readMap_72 : decode cX0_readMap 72 = .ok (.getfield 199, 3) := by decide +kernel
theorem dX0_readMap_75 : decode cX0_readMap 75 = .ok (.iload_n 1, 1) := by decide +kernel
theorem dX0_readMap_76 : decode cX0_readMap 76 = .ok (.bipush 8, 2) := by decide +kernel
theorem dX0_readMap_78 : decode cX0_readMap 78 = .ok (.imul, 1) := by decide +kernel
theorem dX0_readMap_79 : decode cX0_readMap 79 = .ok (.iload_n 2, 1) := by decide +kernel
theorem dX0_readMap_80 : decode cX0_readMap 80 = .ok (.iadd, 1) := by decide +kernel
theorem dX0_readMap_81 : decode cX0_readMap 81 = .ok (.iaload, 1) := by decide +kernel
theorem dX0_readMap_82 : decode cX0_readMap 82 = .ok (.invokevirtual 184, 3) := by decide +kernel
theorem dX0_readMap_85 : decode cX0_readMap 85 = .ok (.iinc 2 1, 3) := by decide +kernel
theorem dX0_readMap_88 : decode cX0_readMap 88 = .ok (.goto (-44), 3) := by decide +kernel
theorem dX0_readMap_91 : decode cX0_readMap 91 = .ok (.iinc 1 1, 3) := by decide +kernel
theorem dX0_readMap_94 : decode cX0_readMap 94 = .ok (.goto (-92), 3) := by decide +kernel
theorem dX0_readMap_97 : decode cX0_readMap 97 = .ok (.return_, 1) := by decide +kernel
theorem dX0_eraseDeadBlocks_0 : decode cX0_eraseDeadBlocks 0 = .ok (.aload_n 0, 1) := by decide +kernel
theorem dX0_eraseDeadBlocks_1 : decode cX0_eraseDeadBlocks 1 = .ok (.invokevirtual 124, 3) := by decide +kernel
theorem dX0_eraseDeadBlocks_4 : decode cX0_eraseDeadBlocks 4 = .ok (.pop, 1) := by decide +kernel
theorem dX0_eraseDeadBlocks_5 : decode cX0_eraseDeadBlocks 5 = .ok (.iconst 0, 1) := by decide +kernel
theorem dX0_eraseDeadBlocks_6 : decode cX0_eraseDeadBlocks 6 = .ok (.istore_n 1, 1) := by decide +kernel
theorem dX0_eraseDeadBlocks_7 : decode cX0_eraseDeadBlocks 7 = .ok (.iload_n 1, 1) := by decide +kernel
theorem dX0_eraseDeadBlocks_8 : decode cX0_eraseDeadBlocks 8 = .ok (.aload_n 0, 1) := by decide +kernel
theorem dX0_eraseDeadBlocks_9 : decode cX0_eraseDeadBlocks 9 = .ok (.getfield 12, 3) := by decide +kernel
theorem dX0_eraseDeadBlocks_12 : decode cX0_eraseDeadBlocks 12 = .ok (.getfield 47, 3) := by decide +kernel
theorem dX0_eraseDeadBlocks_15 : decode cX0_eraseDeadBlocks 15 = .ok (.if_icmp .ge 43, 3) := by decide +kernel
theorem dX0_eraseDeadBlocks_18 : decode cX0_eraseDeadBlocks 18 = .ok (.aload_n 0, 1) := by decide +kernel
theorem dX0_eraseDeadBlocks_19 : decode cX0_eraseDeadBlocks 19 = .ok (.getfield 12, 3) := by decide +kernel
theorem dX0_eraseDeadBlocks_22 : decode cX0_eraseDeadBlocks 22 = .ok (.getfield 121, 3) := by decide +kernel
theorem dX0_eraseDeadBlocks_25 : decode cX0_eraseDeadBlocks 25 = .ok (.iload_n 1, 1) := by decide +kernel
theorem dX0_eraseDeadBlocks_26 : decode cX0_eraseDeadBlocks 26 = .ok (.iaload, 1) := by decide +kernel
theorem dX0_eraseDeadBlocks_27 : decode cX0_eraseDeadBlocks 27 = .ok (.ifCond .le 25, 3) := by decide +kernel
theorem dX0_eraseDeadBlocks_30 : decode cX0_eraseDeadBlocks 30 = .ok (.aload_n 0, 1) := by decide +kernel
theorem dX0_eraseDeadBlocks_31 : decode cX0_eraseDeadBlocks 31 = .ok (.getfield 39, 3) := by decide +kernel
theorem dX0_eraseDeadBlocks_34 : decode cX0_eraseDeadBlocks 34 = .ok (.iload_n 1, 1) := by decide +kernel
theorem dX0_eraseDeadBlocks_35 : decode cX0_eraseDeadBlocks 35 = .ok (.iaload, 1) := by decide +kernel
theorem dX0_eraseDeadBlocks_36 : decode cX0_eraseDeadBlocks 36 = .ok (.ifCond .ne 16, 3) := by decide +kernel
theorem dX0_eraseDeadBlocks_39 : decode cX0_eraseDeadBlocks 39 = .ok (.aload_n 0, 1) := by decide +kernel
theorem dX0_eraseDeadBlocks_40 : decode cX0_eraseDeadBlocks 40 = .ok (.getfield 12, 3) := by decide +kernel
theorem dX0_eraseDeadBlocks_43 : decode cX0_eraseDeadBlocks 43 = .ok (.iload_n 1, 1) := by decide +kernel
theorem dX0_eraseDeadBlocks_44 : decode cX0_eraseDeadBlocks 44 = .ok (.invokevirtual 174, 3) := by decide +kernel
theorem dX0_eraseDeadBlocks_47 : decode cX0_eraseDeadBlocks 47 = .ok (.ifCond .ne 5, 3) := by decide +kernel
theorem dX0_eraseDeadBlocks_50 : decode cX0_eraseDeadBlocks 50 = .ok (.iconst 0, 1) := by decide +kernel
theorem dX0_eraseDeadBlocks_51 : decode cX0_eraseDeadBlocks 51 = .ok (.ireturn, 1) := by decide +kernel
theorem dX0_eraseDeadBlocks_52 : decode cX0_eraseDeadBlocks 52 = .ok (.iinc 1 1, 3) := by decide +kernel
theorem dX0_eraseDeadBlocks_55 : decode cX0_eraseDeadBlocks 55 = .ok (.goto (-48), 3) := by decide +kernel
theorem dX0_eraseDeadBlocks_58 : decode cX0_eraseDeadBlocks 58 = .ok (.iconst 1, 1) := by decide +kernel
theorem dX0_eraseDeadBlocks_59 : decode cX0_eraseDeadBlocks 59 = .ok (.ireturn, 1) := by decide +kernel
theorem dX1_init_0 : decode cX1_init 0 = .ok (.aload_n 0, 1) := by decide +kernel
theorem dX1_init_1 : decode cX1_init 1 = .ok (.invokespecial 3, 3) := by decide +kernel
theorem dX1_init_4 : decode cX1_init 4 = .ok (.aload_n 0, 1) := by decide +kernel
theorem dX1_init_5 : decode cX1_init 5 = .ok (.sipush 1024, 3) := by decide +kernel
theorem dX1_init_8 : decode cX1_init 8 = .ok (.newarray .int, 2) := by decide +kernel
theorem dX1_init_10 : decode cX1_init 10 = .ok (.putfield 9, 3) := by decide +kernel
theorem dX1_init_13 : decode cX1_init 13 = .ok (.aload_n 0, 1) := by decide +kernel
theorem dX1_init_14 : decode cX1_init 14 = .ok (.sipush 1024, 3) := by decide +kernel
theorem dX1_init_17 : decode cX1_init 17 = .ok (.newarray .int, 2) := by decide +kernel
theorem dX1_init_19 : decode cX1_init 19 = .ok (.putfield 15, 3) := by decide +kernel
theorem dX1_init_22 : decode cX1_init 22 = .ok (.aload_n 0, 1) := by decide +kernel
theorem dX1_init_23 : decode cX1_init 23 = .ok (.sipush 1024, 3) := by decide +kernel
theorem dX1_init_26 : decode cX1_init 26 = .ok (.newarray .int, 2) := by decide +kernel
theorem dX1_init_28 : decode cX1_init 28 = .ok (.putfield 18, 3) := by decide +kernel
theorem dX1_init_31 : decode cX1_init 31 = .ok (.aload_n 0, 1) := by decide +kernel
theorem dX1_init_32 : decode cX1_init 32 = .ok (.sipush 1024, 3) := by decide +kernel
theorem dX1_init_35 : decode cX1_init 35 = .ok (.newarray .int, 2) := by decide +kernel
theorem dX1_init_37 : decode cX1_init 37 = .ok (.putfield 21, 3) := by decide +kernel
theorem dX1_init_40 : decode cX1_init 40 = .ok (.aload_n 0, 1) := by decide +kernel
theorem dX1_init_41 : decode cX1_init 41 = .ok (.sipush 1024, 3) := by decide +kernel
theorem dX1_init_44 : decode cX1_init 44 = .ok (.newarray .int, 2) := by decide +kernel
theorem dX1_init_46 : decode cX1_init 46 = .ok (.putfield 24, 3) := by decide +kernel
theorem dX1_init_49 : decode cX1_init 49 = .ok (.aload_n 0, 1) := by decide +kernel
theorem dX1_init_50 : decode cX1_init 50 = .ok (.sipush 1024, 3) := by decide +kernel
theorem dX1_init_53 : decode cX1_init 53 = .ok (.newarray .int, 2) := by decide +kernel
theorem dX1_init_55 : decode cX1_init 55 = .ok (.putfield 27, 3) := by decide +kernel
theorem dX1_init_58 : decode cX1_init 58 = .ok (.aload_n 0, 1) := by decide +kernel
theorem dX1_init_59 : decode cX1_init 59 = .ok (.sipush 8192, 3) := by decide +kernel
theorem dX1_init_62 : decode cX1_init 62 = .ok (.newarray .int, 2) := by decide +kernel
theorem dX1_init_64 : decode cX1_init 64 = .ok (.putfield 30, 3) := by decide +kernel
theorem dX1_init_67 : decode cX1_init 67 = .ok (.aload_n 0, 1) := by decide +kernel
theorem dX1_init_68 : decode cX1_init 68 = .ok (.sipush 1024, 3) := by decide +kernel
theorem dX1_init_71 : decode cX1_init 71 = .ok (.newarray .boolean, 2) := by decide +kernel
theorem dX1_init_73 : decode cX1_init 73 = .ok (.putfield 33, 3) := by decide +kernel
theorem dX1_init_76 : decode cX1_init 76 = .ok (.aload_n 0, 1) := by decide +kernel
theorem dX1_init_77 : decode cX1_init 77 = .ok (.bipush 32, 2) := by decide +kernel
theorem dX1_init_79 : decode cX1_init 79 = .ok (.newarray .int, 2) := by decide +kernel
theorem dX1_init_81 : decode cX1_init 81 = .ok (.putfield 37, 3) := by decide +kernel
theorem dX1_init_84 : decode cX1_init 84 = .ok (.aload_n 0, 1) := by decide +kernel
theorem dX1_init_85 : decode cX1_init 85 = .ok (.bipush 32, 2) := by decide +kernel
theorem dX1_init_87 : decode cX1_init 87 = .ok (.newarray .int, 2) := by decide +kernel
theorem dX1_init_89 : decode cX1_init 89 = .ok (.putfield 40, 3) := by decide +kernel
theorem dX1_init_92 : decode cX1_init 92 = .ok (.return_, 1) := by decide +kernel
theorem dX1_clearAll_0 : decode cX1_clearAll 0 = .ok (.aload_n 0, 1) := by decide +kernel
theorem dX1_clearAll_1 : decode cX1_clearAll 1 = .ok (.iload_n 1, 1) := by decide +kernel
theorem dX1_clearAll_2 : decode cX1_clearAll 2 = .ok (.putfield 43, 3) := by decide +kernel
theorem dX1_clearAll_5 : decode cX1_clearAll 5 = .ok (.aload_n 0, 1) := by decide +kernel
theorem dX1_clearAll_6 : decode cX1_clearAll 6 = .ok (.iload_n 2, 1) := by decide +kernel
theorem dX1_clearAll_7 : decode cX1_clearAll 7 = .ok (.putfield 47, 3) := by decide +kernel
theorem dX1_clearAll_10 : decode cX1_clearAll 10 = .ok (.aload_n 0, 1) := by decide +kernel
theorem dX1_clearAll_11 : decode cX1_clearAll 11 = .ok (.iload_n 1, 1) := by decide +kernel
theorem dX1_clearAll_12 : decode cX1_clearAll 12 = .ok (.iload_n 2, 1) := by decide +kernel
theorem dX1_clearAll_13 : decode cX1_clearAll 13 = .ok (.imul, 1) := by decide +kernel
theorem dX1_clearAll_14 : decode cX1_clearAll 14 = .ok (.putfield 50, 3) := by decide +kernel
theorem dX1_clearAll_17 : decode cX1_clearAll 17 = .ok (.iconst 0, 1) := by decide +kernel
theorem dX1_clearAll_18 : decode cX1_clearAll 18 = .ok (.istore_n 3, 1) := by decide +kernel
theorem dX1_clearAll_19 : decode cX1_clearAll 19 = .ok (.iload_n 3, 1) := by decide +kernel
theorem dX1_clearAll_20 : decode cX1_clearAll 20 = .ok (.sipush 1024, 3) := by decide +kernel
theorem dX1_clearAll_23 : decode cX1_clearAll 23 = .ok (.if_icmp .ge 15, 3) := by decide +kernel
theorem dX1_clearAll_26 : decode cX1_clearAll 26 = .ok (.aload_n 0, 1) := by decide +kernel
theorem dX1_clearAll_27 : decode cX1_clearAll 27 = .ok (.iload_n 3, 1) := by decide +kernel
theorem dX1_clearAll_28 : decode cX1_clearAll 28 = .ok (.iconst 0, 1) := by decide +kernel
theorem dX1_clearAll_29 : decode cX1_clearAll 29 = .ok (.invokevirtual 53, 3) := by decide +kernel
theorem dX1_clearAll_32 : decode cX1_clearAll 32 = .ok (.iinc 3 1, 3) := by decide +kernel
theorem dX1_clearAll_35 : decode cX1_clearAll 35 = .ok (.goto (-16), 3) := by decide +kernel
theorem dX1_clearAll_38 : decode cX1_clearAll 38 = .ok (.iconst 0, 1) := by decide +kernel
theorem dX1_clearAll_39 : decode cX1_clearAll 39 = .ok (.istore_n 3, 1) := by decide +kernel
theorem dX1_clearAll_40 : decode cX1_clearAll 40 = .ok (.iload_n 3, 1) := by decide +kernel
theorem dX1_clearAll_41 : decode cX1_clearAll 41 = .ok (.bipush 32, 2) := by decide +kernel
theorem dX1_clearAll_43 : decode cX1_clearAll 43 = .ok (.if_icmp .ge 23, 3) := by decide +kernel
theorem dX1_clearAll_46 : decode cX1_clearAll 46 = .ok (.aload_n 0, 1) := by decide +kernel
theorem dX1_clearAll_47 : decode cX1_clearAll 47 = .ok (.getfield 37, 3) := by decide +kernel
theorem dX1_clearAll_50 : decode cX1_clearAll 50 = .ok (.iload_n 3, 1) := by decide +kernel
theorem dX1_clearAll_51 : decode cX1_clearAll 51 = .ok (.iconst 0, 1) := by decide +kernel
theorem dX1_clearAll_52 : decode cX1_clearAll 52 = .ok (.iastore, 1) := by decide +kernel
theorem dX1_clearAll_53 : decode cX1_clearAll 53 = .ok (.aload_n 0, 1) := by decide +kernel
theorem dX1_clearAll_54 : decode cX1_clearAll 54 = .ok (.getfield 40, 3) := by decide +kernel
theorem dX1_clearAll_57 : decode cX1_clearAll 57 = .ok (.iload_n 3, 1) := by decide +kernel
theorem dX1_clearAll_58 : decode cX1_clearAll 58 = .ok (.iconst 0, 1) := by decide +kernel
theorem dX1_clearAll_59 : decode cX1_clearAll 59 = .ok (.iastore, 1) := by decide +kernel
theorem dX1_clearAll_60 : decode cX1_clearAll 60 = .ok (.iinc 3 1, 3) := by decide +kernel
theorem dX1_clearAll_63 : decode cX1_clearAll 63 = .ok (.goto (-23), 3) := by decide +kernel
theorem dX1_clearAll_66 : decode cX1_clearAll 66 = .ok (.aload_n 0, 1) := by decide +kernel
theorem dX1_clearAll_67 : decode cX1_clearAll 67 = .ok (.iconst 0, 1) := by decide +kernel
theorem dX1_clearAll_68 : decode cX1_clearAll 68 = .ok (.putfield 57, 3) := by decide +kernel
theorem dX1_clearAll_71 : decode cX1_clearAll 71 = .ok (.aload_n 0, 1) := by decide +kernel
theorem dX1_clearAll_72 : decode cX1_clearAll 72 = .ok (.iconst 0, 1) := by decide +kernel
theorem dX1_clearAll_73 : decode cX1_clearAll 73 = .ok (.putfield 60, 3) := by decide +kernel
theorem dX1_clearAll_76 : decode cX1_clearAll 76 = .ok (.aload_n 0, 1) := by decide +kernel
theorem dX1_clearAll_77 : decode cX1_clearAll 77 = .ok (.iconst 0, 1) := by decide +kernel
theorem dX1_clearAll_78 : decode cX1_clearAll 78 = .ok (.putfield 63, 3) := by decide +kernel
theorem dX1_clearAll_81 : decode cX1_clearAll 81 = .ok (.aload_n 0, 1) := by decide +kernel
theorem dX1_clearAll_82 : decode cX1_clearAll 82 = .ok (.iconst 0, 1) := by decide +kernel
theorem dX1_clearAll_83 : decode cX1_clearAll 83 = .ok (.putfield 66, 3) := by decide +kernel
theorem dX1_clearAll_86 : decode cX1_clearAll 86 = .ok (.aload_n 0, 1) := by decide +kernel
theorem dX1_clearAll_87 : decode cX1_clearAll 87 = .ok (.iconst 0, 1) := by decide +kernel
theorem dX1_clearAll_88 : decode cX1_clearAll 88 = .ok (.putfield 69, 3) := by decide +kernel
theorem dX1_clearAll_91 : decode cX1_clearAll 91 = .ok (.return_, 1) := by decide +kernel
theorem dX1_clearPage_0 : decode cX1_clearPage 0 = .ok (.iload_n 1, 1) := by decide +kernel
theorem dX1_clearPage_1 : decode cX1_clearPage 1 = .ok (.ifCond .lt 10, 3) := by decide +kernel
theorem dX1_clearPage_4 : decode cX1_clearPage 4 = .ok (.iload_n 1, 1) := by decide +kernel
theorem dX1_clearPage_5 : decode cX1_clearPage 5 = .ok (.sipush 1024, 3) := by decide +kernel
theorem dX1_clearPage_8 : decode cX1_clearPage 8 = .ok (.if_icmp .lt 4, 3) := by decide +kernel
theorem dX1_clearPage_11 : decode cX1_clearPage 11 = .ok (.return_, 1) := by decide +kernel
theorem dX1_clearPage_12 : decode cX1_clearPage 12 = .ok (.aload_n 0, 1) := by decide +kernel
theorem dX1_clearPage_13 : decode cX1_clearPage 13 = .ok (.getfield 9, 3) := by decide +kernel
theorem dX1_clearPage_16 : decode cX1_clearPage 16 = .ok (.iload_n 1, 1) := by decide +kernel
theorem dX1_clearPage_17 : decode cX1_clearPage 17 = .ok (.iload_n 2, 1) := by decide +kernel
theorem dX1_clearPage_18 : decode cX1_clearPage 18 = .ok (.iastore, 1) := by decide +kernel
theorem dX1_clearPage_19 : decode cX1_clearPage 19 = .ok (.aload_n 0, 1) := by decide +kernel
theorem dX1_clearPage_20 : decode cX1_clearPage 20 = .ok (.getfield 15, 3) := by decide +kernel
theorem dX1_clearPage_23 : decode cX1_clearPage 23 = .ok (.iload_n 1, 1) := by decide +kernel
theorem dX1_clearPage_24 : decode cX1_clearPage 24 = .ok (.iconst (-1), 1) := by decide +kernel
theorem dX1_clearPage_25 : decode cX1_clearPage 25 = .ok (.iastore, 1) := by decide +kernel
theorem dX1_clearPage_26 : decode cX1_clearPage 26 = .ok (.aload_n 0, 1) := by decide +kernel
theorem dX1_clearPage_27 : decode cX1_clearPage 27 = .ok (.getfield 18, 3) := by decide +kernel
theorem dX1_clearPage_30 : decode cX1_clearPage 30 = .ok (.iload_n 1, 1) := by decide +kernel
theorem dX1_clearPage_31 : decode cX1_clearPage 31 = .ok (.iconst (-1), 1) := by decide +kernel
theorem dX1_clearPage_32 : decode cX1_clearPage 32 = .ok (.iastore, 1) := by decide +kernel
theorem dX1_clearPage_33 : decode cX1_clearPage 33 = .ok (.aload_n 0, 1) := by decide +kernel
theorem dX1_clearPage_34 : decode cX1_clearPage 34 = .ok (.getfield 21, 3) := by decide +kernel
theorem dX1_clearPage_37 : decode cX1_clearPage 37 = .ok (.iload_n 1, 1) := by decide +kernel
theorem dX1_clearPage_38 : decode cX1_clearPage 38 = .ok (.iconst (-1), 1) := by decide +kernel
theorem dX1_clearPage_39 : decode cX1_clearPage 39 = .ok (.iastore, 1) := by decide +kernel
theorem dX1_clearPage_40 : decode cX1_clearPage 40 = .ok (.aload_n 0, 1) := by decide +kernel
theorem dX1_clearPage_41 : decode cX1_clearPage 41 = .ok (.getfield 24, 3) := by decide +kernel
theorem dX1_clearPage_44 : decode cX1_clearPage 44 = .ok (.iload_n 1, 1) := by decide +kernel
theorem dX1_clearPage_45 : decode cX1_clearPage 45 = .ok (.iconst (-1), 1) := by decide +kernel
theorem dX1_clearPage_46 : decode cX1_clearPage 46 = .ok (.iastore, 1) := by decide +kernel
theorem dX1_clearPage_47 : decode cX1_clearPage 47 = .ok (.aload_n 0, 1) := by decide +kernel
theorem dX1_clearPage_48 : decode cX1_clearPage 48 = .ok (.getfield 27, 3) := by decide +kernel
theorem dX1_clearPage_51 : decode cX1_clearPage 51 = .ok (.iload_n 1, 1) := by decide +kernel
theorem dX1_clearPage_52 : decode cX1_clearPage 52 = .ok (.bipush (-2), 2) := by decide +kernel
theorem dX1_clearPage_54 : decode cX1_clearPage 54 = .ok (.iastore, 1) := by decide +kernel
theorem dX1_clearPage_55 : decode cX1_clearPage 55 = .ok (.aload_n 0, 1) := by decide +kernel
theorem dX1_clearPage_56 : decode cX1_clearPage 56 = .ok (.getfield 33, 3) := by decide +kernel
theorem dX1_clearPage_59 : decode cX1_clearPage 59 = .ok (.iload_n 1, 1) := by decide +kernel
theorem dX1_clearPage_60 : decode cX1_clearPage 60 = .ok (.iconst 0, 1) := by decide +kernel
theorem dX1_clearPage_61 : decode cX1_clearPage 61 = .ok (.bastore, 1) := by decide +kernel
theorem dX1_clearPage_62 : decode cX1_clearPage 62 = .ok (.return_, 1) := by decide +kernel
theorem dX1_hasBlock_0 : decode cX1_hasBlock 0 = .ok (.iload_n 1, 1) := by decide +kernel
theorem dX1_hasBlock_1 : decode cX1_hasBlock 1 = .ok (.ifCond .lt 15, 3) := by decide +kernel
theorem dX1_hasBlock_4 : decode cX1_hasBlock 4 = .ok (.iload_n 1, 1) := by decide +kernel
theorem dX1_hasBlock_5 : decode cX1_hasBlock 5 = .ok (.aload_n 0, 1) := by decide +kernel
theorem dX1_hasBlock_6 : decode cX1_hasBlock 6 = .ok (.getfield 43, 3) := by decide +kernel
theorem dX1_hasBlock_9 : decode cX1_hasBlock 9 = .ok (.if_icmp .ge 7, 3) := by decide +kernel
theorem dX1_hasBlock_12 : decode cX1_hasBlock 12 = .ok (.iconst 1, 1) := by decide +kernel
theorem dX1_hasBlock_13 : decode cX1_hasBlock 13 = .ok (.goto 4, 3) := by decide +kernel
theorem dX1_hasBlock_16 : decode cX1_hasBlock 16 = .ok (.iconst 0, 1) := by decide +kernel
theorem dX1_hasBlock_17 : decode cX1_hasBlock 17 = .ok (.ireturn, 1) := by decide +kernel
theorem dX1_hasPlace_0 : decode cX1_hasPlace 0 = .ok (.iload_n 1, 1) := by decide +kernel
theorem dX1_hasPlace_1 : decode cX1_hasPlace 1 = .ok (.ifCond .lt 15, 3) := by decide +kernel
theorem dX1_hasPlace_4 : decode cX1_hasPlace 4 = .ok (.iload_n 1, 1) := by decide +kernel
theorem dX1_hasPlace_5 : decode cX1_hasPlace 5 = .ok (.aload_n 0, 1) := by decide +kernel
theorem dX1_hasPlace_6 : decode cX1_hasPlace 6 = .ok (.getfield 50, 3) := by decide +kernel
theorem dX1_hasPlace_9 : decode cX1_hasPlace 9 = .ok (.if_icmp .ge 7, 3) := by decide +kernel
theorem dX1_hasPlace_12 : decode cX1_hasPlace 12 = .ok (.iconst 1, 1) := by decide +kernel
theorem dX1_hasPlace_13 : decode cX1_hasPlace 13 = .ok (.goto 4, 3) := by decide +kernel
theorem dX1_hasPlace_16 : decode cX1_hasPlace 16 = .ok (.iconst 0, 1) := by decide +kernel
theorem dX1_hasPlace_17 : decode cX1_hasPlace 17 = .ok (.ireturn, 1) := by decide +kernel
theorem dX1_losesPower_0 : decode cX1_losesPower 0 = .ok (.aload_n 0, 1) := by decide +kernel
theorem dX1_losesPower_1 : decode cX1_losesPower 1 = .ok (.getfield 69, 3) := by decide +kernel
theorem dX1_losesPower_4 : decode cX1_losesPower 4 = .ok (.ifCond .ne 5, 3) := by decide +kernel
theorem dX1_losesPower_7 : decode cX1_losesPower 7 = .ok (.iconst 0, 1) := by decide +kernel
theorem dX1_losesPower_8 : decode cX1_losesPower 8 = .ok (.ireturn, 1) := by decide +kernel
theorem dX1_losesPower_9 : decode cX1_losesPower 9 = .ok (.aload_n 0, 1) := by decide +kernel
theorem dX1_losesPower_10 : decode cX1_losesPower 10 = .ok (.dup, 1) := by decide +kernel
theorem dX1_losesPower_11 : decode cX1_losesPower 11 = .ok (.getfield 69, 3) := by decide +kernel
theorem dX1_losesPower_14 : decode cX1_losesPower 14 = .ok (.iconst 1, 1) := by decide +kernel
theorem dX1_losesPower_15 : decode cX1_losesPower 15 = .ok (.isub, 1) := by decide +kernel
theorem dX1_losesPower_16 : decode cX1_losesPower 16 = .ok (.putfield 69, 3) := by decide +kernel
theorem dX1_losesPower_19 : decode cX1_losesPower 19 = .ok (.aload_n 0, 1) := by decide +kernel
theorem dX1_losesPower_20 : decode cX1_losesPower 20 = .ok (.getfield 69, 3) := by decide +kernel
theorem dX1_losesPower_23 : decode cX1_losesPower 23 = .ok (.ifCond .ne 7, 3) := by decide +kernel
theorem dX1_losesPower_26 : decode cX1_losesPower 26 = .ok (.iconst 1, 1) := by decide +kernel
theorem dX1_losesPower_27 : decode cX1_losesPower 27 = .ok (.goto 4, 3) := by decide +kernel
theorem dX1_losesPower_30 : decode cX1_losesPower 30 = .ok (.iconst 0, 1) := by decide +kernel
theorem dX1_losesPower_31 : decode cX1_losesPower 31 = .ok (.ireturn, 1) := by decide +kernel
theorem dX1_countFreePages_0 : decode cX1_countFreePages 0 = .ok (.aload_n 0, 1) := by decide +kernel
theorem dX1_countFreePages_1 : decode cX1_countFreePages 1 = .ok (.iload_n 1, 1) := by decide +kernel
theorem dX1_countFreePages_2 : decode cX1_countFreePages 2 = .ok (.invokevirtual 72, 3) := by decide +kernel
theorem dX1_countFreePages_5 : decode cX1_countFreePages 5 = .ok (.ifCond .eq 17, 3) := by decide +kernel
theorem dX1_countFreePages_8 : decode cX1_countFreePages 8 = .ok (.aload_n 0, 1) := by decide +kernel
theorem dX1_countFreePages_9 : decode cX1_countFreePages 9 = .ok (.getfield 47, 3) := by decide +kernel
theorem dX1_countFreePages_12 : decode cX1_countFreePages 12 = .ok (.aload_n 0, 1) := by decide +kernel
theorem dX1_countFreePages_13 : decode cX1_countFreePages 13 = .ok (.getfield 37, 3) := by decide +kernel
theorem dX1_countFreePages_16 : decode cX1_countFreePages 16 = .ok (.iload_n 1, 1) := by decide +kernel
theorem dX1_countFreePages_17 : decode cX1_countFreePages 17 = .ok (.iaload, 1) := by decide +kernel
theorem dX1_countFreePages_18 : decode cX1_countFreePages 18 = .ok (.isub, 1) := by decide +kernel
theorem dX1_countFreePages_19 : decode cX1_countFreePages 19 = .ok (.goto 4, 3) := by decide +kernel
theorem dX1_countFreePages_22 : decode cX1_countFreePages 22 = .ok (.iconst 0, 1) := by decide +kernel
theorem dX1_countFreePages_23 : decode cX1_countFreePages 23 = .ok (.ireturn, 1) := by decide +kernel
theorem dX1_program_0 : decode cX1_program 0 = .ok (.aload_n 0, 1) := by decide +kernel
theorem dX1_program_1 : decode cX1_program 1 = .ok (.iload_n 1, 1) := by decide +kernel
theorem dX1_program_2 : decode cX1_program 2 = .ok (.invokevirtual 72, 3) := by decide +kernel
theorem dX1_program_5 : decode cX1_program 5 = .ok (.ifCond .eq 16, 3) := by decide +kernel
theorem dX1_program_8 : decode cX1_program 8 = .ok (.aload_n 0, 1) := by decide +kernel
theorem dX1_program_9 : decode cX1_program 9 = .ok (.getfield 37, 3) := by decide +kernel
theorem dX1_program_12 : decode cX1_program 12 = .ok (.iload_n 1, 1) := by decide +kernel
theorem dX1_program_13 : decode cX1_program 13 = .ok (.iaload, 1) := by decide +kernel
theorem dX1_program_14 : decode cX1_program 14 = .ok (.aload_n 0, 1) := by decide +kernel
theorem dX1_program_15 : decode cX1_program 15 = .ok (.getfield 47, 3) := by decide +kernel
theorem dX1_program_18 : decode cX1_program 18 = .ok (.if_icmp .lt 5, 3) := by decide +kernel
theorem dX1_program_21 : decode cX1_program 21 = .ok (.iconst (-1), 1) := by decide +kernel
theorem dX1_program_22 : decode cX1_program 22 = .ok (.ireturn, 1) := by decide +kernel
theorem dX1_program_23 : decode cX1_program 23 = .ok (.iload_n 1, 1) := by decide +kernel
theorem dX1_program_24 : decode cX1_program 24 = .ok (.aload_n 0, 1) := by decide +kernel
theorem dX1_program_25 : decode cX1_program 25 = .ok (.getfield 47, 3) := by decide +kernel
theorem dX1_program_28 : decode cX1_program 28 = .ok (.imul, 1) := by decide +kernel
theorem dX1_program_29 : decode cX1_program 29 = .ok (.aload_n 0, 1) := by decide +kernel
theorem dX1_program_30 : decode cX1_program 30 = .ok (.getfield 37, 3) := by decide +kernel
theorem dX1_program_33 : decode cX1_program 33 = .ok (.iload_n 1, 1) := by decide +kernel
theorem dX1_program_34 : decode cX1_program 34 = .ok (.iaload, 1) := by decide +kernel
theorem dX1_program_35 : decode cX1_program 35 = .ok (.iadd, 1) := by decide +kernel
theorem dX1_program_36 : decode cX1_program 36 = .ok (.istore 6, 2) := by decide +kernel
theorem dX1_program_38 : decode cX1_program 38 = .ok (.aload_n 0, 1) := by decide +kernel
theorem dX1_program_39 : decode cX1_program 39 = .ok (.getfield 37, 3) := by decide +kernel
theorem dX1_program_42 : decode cX1_program 42 = .ok (.iload_n 1, 1) := by decide +kernel
theorem dX1_program_43 : decode cX1_program 43 = .ok (.dup2, 1) := by decide +kernel
theorem dX1_program_44 : decode cX1_program 44 = .ok (.iaload, 1) := by decide +kernel
theorem dX1_program_45 : decode cX1_program 45 = .ok (.iconst 1, 1) := by decide +kernel
theorem dX1_program_46 : decode cX1_program 46 = .ok (.iadd, 1) := by decide +kernel
theorem dX1_program_47 : decode cX1_program 47 = .ok (.iastore, 1) := by decide +kernel
theorem dX1_program_48 : decode cX1_program 48 = .ok (.aload_n 0, 1) := by decide +kernel
theorem dX1_program_49 : decode cX1_program 49 = .ok (.invokevirtual 76, 3) := by decide +kernel
theorem dX1_program_52 : decode cX1_program 52 = .ok (.ifCond .eq 12, 3) := by decide +kernel
theorem dX1_program_55 : decode cX1_program 55 = .ok (.aload_n 0, 1) := by decide +kernel
theorem dX1_program_56 : decode cX1_program 56 = .ok (.iload 6, 2) := by decide +kernel
theorem dX1_program_58 : decode cX1_program 58 = .ok (.iconst 5, 1) := by decide +kernel
theorem dX1_program_59 : decode cX1_program 59 = .ok (.invokevirtual 53, 3) := by decide +kernel
theorem dX1_program_62 : decode cX1_program 62 = .ok (.iconst (-1), 1) := by decide +kernel
theorem dX1_program_63 : decode cX1_program 63 = .ok (.ireturn, 1) := by decide +kernel
theorem dX1_program_64 : decode cX1_program 64 = .ok (.aload_n 0, 1) := by decide +kernel
theorem dX1_program_65 : decode cX1_program 65 = .ok (.dup, 1) := by decide +kernel
theorem dX1_program_66 : decode cX1_program 66 = .ok (.getfield 57, 3) := by decide +kernel
theorem dX1_program_69 : decode cX1_program 69 = .ok (.iconst 1, 1) := by decide +kernel
theorem dX1_program_70 : decode cX1_program 70 = .ok (.iadd, 1) := by decide +kernel
theorem dX1_program_71 : decode cX1_program 71 = .ok (.putfield 57, 3) := by decide +kernel
theorem dX1_program_74 : decode cX1_program 74 = .ok (.aload_n 0, 1) := by decide +kernel
theorem dX1_program_75 : decode cX1_program 75 = .ok (.dup, 1) := by decide +kernel
theorem dX1_program_76 : decode cX1_program 76 = .ok (.getfield 60, 3) := by decide +kernel
theorem dX1_program_79 : decode cX1_program 79 = .ok (.iconst 1, 1) := by decide +kernel
theorem dX1_program_80 : decode cX1_program 80 = .ok (.iadd, 1) := by decide +kernel
theorem dX1_program_81 : decode cX1_program 81 = .ok (.putfield 60, 3) := by decide +kernel
theorem dX1_program_84 : decode cX1_program 84 = .ok (.aload_n 0, 1) := by decide +kernel
theorem dX1_program_85 : decode cX1_program 85 = .ok (.getfield 9, 3) := by decide +kernel
theorem dX1_program_88 : decode cX1_program 88 = .ok (.iload 6, 2) := by decide +kernel
theorem dX1_program_90 : decode cX1_program 90 = .ok (.iload_n 2, 1) := by decide +kernel
theorem dX1_program_91 : decode cX1_program 91 = .ok (.iastore, 1) := by decide +kernel
theorem dX1_program_92 : decode cX1_program 92 = .ok (.aload_n 0, 1) := by decide +kernel
theorem dX1_program_93 : decode cX1_program 93 = .ok (.getfield 15, 3) := by decide +kernel
theorem dX1_program_96 : decode cX1_program 96 = .ok (.iload 6, 2) := by decide +kernel
theorem dX1_program_98 : decode cX1_program 98 = .ok (.iload_n 3, 1) := by decide +kernel
theorem dX1_program_99 : decode cX1_program 99 = .ok (.iastore, 1) := by decide +kernel
theorem dX1_program_100 : decode cX1_program 100 = .ok (.aload_n 0, 1) := by decide +kernel
theorem dX1_program_101 : decode cX1_program 101 = .ok (.getfield 18, 3) := by decide +kernel
theorem dX1_program_104 : decode cX1_program 104 = .ok (.iload 6, 2) := by decide +kernel
theorem dX1_program_106 : decode cX1_program 106 = .ok (.iload 4, 2) := by decide +kernel
theorem dX1_program_108 : decode cX1_program 108 = .ok (.iastore, 1) := by decide +kernel
theorem dX1_program_109 : decode cX1_program 109 = .ok (.aload_n 0, 1) := by decide +kernel
theorem dX1_program_110 : decode cX1_program 110 = .ok (.getfield 21, 3) := by decide +kernel
theorem dX1_program_113 : decode cX1_program 113 = .ok (.iload 6, 2) := by decide +kernel
theorem dX1_program_115 : decode cX1_program 115 = .ok (.aload_n 0, 1) := by decide +kernel
theorem dX1_program_116 : decode cX1_program 116 = .ok (.getfield 57, 3) := by decide +kernel
theorem dX1_program_119 : decode cX1_program 119 = .ok (.iastore, 1) := by decide +kernel
theorem dX1_program_120 : decode cX1_program 120 = .ok (.aload_n 0, 1) := by decide +kernel
theorem dX1_program_121 : decode cX1_program 121 = .ok (.getfield 24, 3) := by decide +kernel
theorem dX1_program_124 : decode cX1_program 124 = .ok (.iload 6, 2) := by decide +kernel
theorem dX1_program_126 : decode cX1_program 126 = .ok (.aload_n 0, 1) := by decide +kernel
theorem dX1_program_127 : decode cX1_program 127 = .ok (.getfield 57, 3) := by decide +kernel
theorem dX1_program_130 : decode cX1_program 130 = .ok (.iastore, 1) := by decide +kernel
theorem dX1_program_131 : decode cX1_program 131 = .ok (.aload_n 0, 1) := by decide +kernel
theorem dX1_program_132 : decode cX1_program 132 = .ok (.getfield 27, 3) := by decide +kernel
theorem dX1_program_135 : decode cX1_program 135 = .ok (.iload 6, 2) := by decide +kernel
theorem dX1_program_137 : decode cX1_program 137 = .ok (.iload 5, 2) := by decide +kernel
theorem dX1_program_139 : decode cX1_program 139 = .ok (.iastore, 1) := by decide +kernel
theorem dX1_program_140 : decode cX1_program 140 = .ok (.iload 6, 2) := by decide +kernel
theorem dX1_program_142 : decode cX1_program 142 = .ok (.ireturn, 1) := by decide +kernel
theorem dX1_makeCopy_0 : decode cX1_makeCopy 0 = .ok (.aload_n 0, 1) := by decide +kernel
theorem dX1_makeCopy_1 : decode cX1_makeCopy 1 = .ok (.iload_n 1, 1) := by decide +kernel
theorem dX1_makeCopy_2 : decode cX1_makeCopy 2 = .ok (.invokevirtual 80, 3) := by decide +kernel
theorem dX1_makeCopy_5 : decode cX1_makeCopy 5 = .ok (.ifCond .eq 11, 3) := by decide +kernel
theorem dX1_makeCopy_8 : decode cX1_makeCopy 8 = .ok (.aload_n 0, 1) := by decide +kernel
theorem dX1_makeCopy_9 : decode cX1_makeCopy 9 = .ok (.iload_n 2, 1) := by decide +kernel
theorem dX1_makeCopy_10 : decode cX1_makeCopy 10 = .ok (.invokevirtual 80, 3) := by decide +kernel
theorem dX1_makeCopy_13 : decode cX1_makeCopy 13 = .ok (.ifCond .ne 4, 3) := by decide +kernel
theorem dX1_makeCopy_16 : decode cX1_makeCopy 16 = .ok (.return_, 1) := by decide +kernel
theorem dX1_makeCopy_17 : decode cX1_makeCopy 17 = .ok (.aload_n 0, 1) := by decide +kernel
theorem dX1_makeCopy_18 : decode cX1_makeCopy 18 = .ok (.getfield 21, 3) := by decide +kernel
theorem dX1_makeCopy_21 : decode cX1_makeCopy 21 = .ok (.iload_n 1, 1) := by decide +kernel
theorem dX1_makeCopy_22 : decode cX1_makeCopy 22 = .ok (.aload_n 0, 1) := by decide +kernel
theorem dX1_makeCopy_23 : decode cX1_makeCopy 23 = .ok (.getfield 21, 3) := by decide +kernel
theorem dX1_makeCopy_26 : decode cX1_makeCopy 26 = .ok (.iload_n 2, 1) := by decide +kernel
theorem dX1_makeCopy_27 : decode cX1_makeCopy 27 = .ok (.iaload, 1) := by decide +kernel
theorem dX1_makeCopy_28 : decode cX1_makeCopy 28 = .ok (.iastore, 1) := by decide +kernel
theorem dX1_makeCopy_29 : decode cX1_makeCopy 29 = .ok (.iconst 0, 1) := by decide +kernel
theorem dX1_makeCopy_30 : decode cX1_makeCopy 30 = .ok (.istore_n 3, 1) := by decide +kernel
theorem dX1_makeCopy_31 : decode cX1_makeCopy 31 = .ok (.iload_n 3, 1) := by decide +kernel
theorem dX1_makeCopy_32 : decode cX1_makeCopy 32 = .ok (.bipush 8, 2) := by decide +kernel
theorem dX1_makeCopy_34 : decode cX1_makeCopy 34 = .ok (.if_icmp .ge 31, 3) := by decide +kernel
theorem dX1_makeCopy_37 : decode cX1_makeCopy 37 = .ok (.aload_n 0, 1) := by decide +kernel
theorem dX1_makeCopy_38 : decode cX1_makeCopy 38 = .ok (.getfield 30, 3) := by decide +kernel
theorem dX1_makeCopy_41 : decode cX1_makeCopy 41 = .ok (.iload_n 1, 1) := by decide +kernel
theorem dX1_makeCopy_42 : decode cX1_makeCopy 42 = .ok (.bipush 8, 2) := by decide +kernel
theorem dX1_makeCopy_44 : decode cX1_makeCopy 44 = .ok (.imul, 1) := by decide +kernel
theorem dX1_makeCopy_45 : decode cX1_makeCopy 45 = .ok (.iload_n 3, 1) := by decide +kernel
theorem dX1_makeCopy_46 : decode cX1_makeCopy 46 = .ok (.iadd, 1) := by decide +kernel
theorem dX1_makeCopy_47 : decode cX1_makeCopy 47 = .ok (.aload_n 0, 1) := by decide +kernel
theorem dX1_makeCopy_48 : decode cX1_makeCopy 48 = .ok (.getfield 30, 3) := by decide +kernel
theorem dX1_makeCopy_51 : decode cX1_makeCopy 51 = .ok (.iload_n 2, 1) := by decide +kernel
theorem dX1_makeCopy_52 : decode cX1_makeCopy 52 = .ok (.bipush 8, 2) := by decide +kernel
theorem dX1_makeCopy_54 : decode cX1_makeCopy 54 = .ok (.imul, 1) := by decide +kernel
theorem dX1_makeCopy_55 : decode cX1_makeCopy 55 = .ok (.iload_n 3, 1) := by decide +kernel
theorem dX1_makeCopy_56 : decode cX1_makeCopy 56 = .ok (.iadd, 1) := by decide +kernel
theorem dX1_makeCopy_57 : decode cX1_makeCopy 57 = .ok (.iaload, 1) := by decide +kernel
theorem dX1_makeCopy_58 : decode cX1_makeCopy 58 = .ok (.iastore, 1) := by decide +kernel
theorem dX1_makeCopy_59 : decode cX1_makeCopy 59 = .ok (.iinc 3 1, 3) := by decide +kernel
theorem dX1_makeCopy_62 : decode cX1_makeCopy 62 = .ok (.goto (-31), 3) := by decide +kernel
theorem dX1_makeCopy_65 : decode cX1_makeCopy 65 = .ok (.aload_n 0, 1) := by decide +kernel
theorem dX1_makeCopy_66 : decode cX1_makeCopy 66 = .ok (.getfield 33, 3) := by decide +kernel
theorem dX1_makeCopy_69 : decode cX1_makeCopy 69 = .ok (.iload_n 2, 1) := by decide +kernel
theorem dX1_makeCopy_70 : decode cX1_makeCopy 70 = .ok (.iconst 1, 1) := by decide +kernel
theorem dX1_makeCopy_71 : decode cX1_makeCopy 71 = .ok (.bastore, 1) := by decide +kernel
theorem dX1_makeCopy_72 : decode cX1_makeCopy 72 = .ok (.aload_n 0, 1) := by decide +kernel
theorem dX1_makeCopy_73 : decode cX1_makeCopy 73 = .ok (.dup, 1) := by decide +kernel
theorem dX1_makeCopy_74 : decode cX1_makeCopy 74 = .ok (.getfield 66, 3) := by decide +kernel
theorem dX1_makeCopy_77 : decode cX1_makeCopy 77 = .ok (.iconst 1, 1) := by decide +kernel
theorem dX1_makeCopy_78 : decode cX1_makeCopy 78 = .ok (.iadd, 1) := by decide +kernel
theorem dX1_makeCopy_79 : decode cX1_makeCopy 79 = .ok (.putfield 66, 3) := by decide +kernel
theorem dX1_makeCopy_82 : decode cX1_makeCopy 82 = .ok (.return_, 1) := by decide +kernel
theorem dX1_erase_0 : decode cX1_erase 0 = .ok (.aload_n 0, 1) := by decide +kernel
theorem dX1_erase_1 : decode cX1_erase 1 = .ok (.iload_n 1, 1) := by decide +kernel
theorem dX1_erase_2 : decode cX1_erase 2 = .ok (.invokevirtual 72, 3) := by decide +kernel
theorem dX1_erase_5 : decode cX1_erase 5 = .ok (.ifCond .ne 5, 3) := by decide +kernel
theorem dX1_erase_8 : decode cX1_erase 8 = .ok (.iconst 1, 1) := by decide +kernel
theorem dX1_erase_9 : decode cX1_erase 9 = .ok (.ireturn, 1) := by decide +kernel
theorem dX1_erase_10 : decode cX1_erase 10 = .ok (.aload_n 0, 1) := by decide +kernel
theorem dX1_erase_11 : decode cX1_erase 11 = .ok (.invokevirtual 76, 3) := by decide +kernel
theorem dX1_erase_14 : decode cX1_erase 14 = .ok (.istore_n 2, 1) := by decide +kernel
theorem dX1_erase_15 : decode cX1_erase 15 = .ok (.iconst 0, 1) := by decide +kernel
theorem dX1_erase_16 : decode cX1_erase 16 = .ok (.istore_n 3, 1) := by decide +kernel
theorem dX1_erase_17 : decode cX1_erase 17 = .ok (.iload_n 3, 1) := by decide +kernel
theorem dX1_erase_18 : decode cX1_erase 18 = .ok (.aload_n 0, 1) := by decide +kernel
theorem dX1_erase_19 : decode cX1_erase 19 = .ok (.getfield 47, 3) := by decide +kernel
theorem dX1_erase_22 : decode cX1_erase 22 = .ok (.if_icmp .ge 30, 3) := by decide +kernel
theorem dX1_erase_25 : decode cX1_erase 25 = .ok (.aload_n 0, 1) := by decide +kernel
theorem dX1_erase_26 : decode cX1_erase 26 = .ok (.iload_n 1, 1) := by decide +kernel
theorem dX1_erase_27 : decode cX1_erase 27 = .ok (.aload_n 0, 1) := by decide +kernel
theorem dX1_erase_28 : decode cX1_erase 28 = .ok (.getfield 47, 3) := by decide +kernel
theorem dX1_erase_31 : decode cX1_erase 31 = .ok (.imul, 1) := by decide +kernel
theorem dX1_erase_32 : decode cX1_erase 32 = .ok (.iload_n 3, 1) := by decide +kernel
theorem dX1_erase_33 : decode cX1_erase 33 = .ok (.iadd, 1) := by decide +kernel
theorem dX1_erase_34 : decode cX1_erase 34 = .ok (.iload_n 2, 1) := by decide +kernel
theorem dX1_erase_35 : decode cX1_erase 35 = .ok (.ifCond .eq 7, 3) := by decide +kernel
theorem dX1_erase_38 : decode cX1_erase 38 = .ok (.iconst 5, 1) := by decide +kernel
theorem dX1_erase_39 : decode cX1_erase 39 = .ok (.goto 4, 3) := by decide +kernel
theorem dX1_erase_42 : decode cX1_erase 42 = .ok (.iconst 0, 1) := by decide +kernel
theorem dX1_erase_43 : decode cX1_erase 43 = .ok (.invokevirtual 53, 3) := by decide +kernel
theorem dX1_erase_46 : decode cX1_erase 46 = .ok (.iinc 3 1, 3) := by decide +kernel
theorem dX1_erase_49 : decode cX1_erase 49 = .ok (.goto (-32), 3) := by decide +kernel
theorem dX1_erase_52 : decode cX1_erase 52 = .ok (.aload_n 0, 1) := by decide +kernel
theorem dX1_erase_53 : decode cX1_erase 53 = .ok (.getfield 37, 3) := by decide +kernel
theorem dX1_erase_56 : decode cX1_erase 56 = .ok (.iload_n 1, 1) := by decide +kernel
theorem dX1_erase_57 : decode cX1_erase 57 = .ok (.iload_n 2, 1) := by decide +kernel
theorem dX1_erase_58 : decode cX1_erase 58 = .ok (.ifCond .eq 10, 3) := by decide +kernel
theorem dX1_erase_61 : decode cX1_erase 61 = .ok (.aload_n 0, 1) := by decide +kernel
theorem dX1_erase_62 : decode cX1_erase 62 = .ok (.getfield 47, 3) := by decide +kernel
theorem dX1_erase_65 : decode cX1_erase 65 = .ok (.goto 4, 3) := by decide +kernel
theorem dX1_erase_68 : decode cX1_erase 68 = .ok (.iconst 0, 1) := by decide +kernel
theorem dX1_erase_69 : decode cX1_erase 69 = .ok (.iastore, 1) := by decide +kernel
theorem dX1_erase_70 : decode cX1_erase 70 = .ok (.iload_n 2, 1) := by decide +kernel
theorem dX1_erase_71 : decode cX1_erase 71 = .ok (.ifCond .ne 23, 3) := by decide +kernel
theorem dX1_erase_74 : decode cX1_erase 74 = .ok (.aload_n 0, 1) := by decide +kernel
theorem dX1_erase_75 : decode cX1_erase 75 = .ok (.getfield 40, 3) := by decide +kernel
theorem dX1_erase_78 : decode cX1_erase 78 = .ok (.iload_n 1, 1) := by decide +kernel
theorem dX1_erase_79 : decode cX1_erase 79 = .ok (.dup2, 1) := by decide +kernel
theorem dX1_erase_80 : decode cX1_erase 80 = .ok (.iaload, 1) := by decide +kernel
theorem dX1_erase_81 : decode cX1_erase 81 = .ok (.iconst 1, 1) := by decide +kernel
theorem dX1_erase_82 : decode cX1_erase 82 = .ok (.iadd, 1) := by decide +kernel
theorem dX1_erase_83 : decode cX1_erase 83 = .ok (.iastore, 1) := by decide +kernel
theorem dX1_erase_84 : decode cX1_erase 84 = .ok (.aload_n 0, 1) := by decide +kernel
theorem dX1_erase_85 : decode cX1_erase 85 = .ok (.dup, 1) := by decide +kernel
theorem dX1_erase_86 : decode cX1_erase 86 = .ok (.getfield 63, 3) := by decide +kernel
theorem dX1_erase_89 : decode cX1_erase 89 = .ok (.iconst 1, 1) := by decide +kernel
theorem dX1_erase_90 : decode cX1_erase 90 = .ok (.iadd, 1) := by decide +kernel
theorem dX1_erase_91 : decode cX1_erase 91 = .ok (.putfield 63, 3) := by decide +kernel
theorem dX1_erase_94 : decode cX1_erase 94 = .ok (.iload_n 2, 1) := by decide +kernel
theorem dX1_erase_95 : decode cX1_erase 95 = .ok (.ifCond .ne 7, 3) := by decide +kernel
theorem dX1_erase_98 : decode cX1_erase 98 = .ok (.iconst 1, 1) := by decide +kernel
theorem dX1_erase_99 : decode cX1_erase 99 = .ok (.goto 4, 3) := by decide +kernel
theorem dX1_erase_102 : decode cX1_erase 102 = .ok (.iconst 0, 1) := by decide +kernel
theorem dX1_erase_103 : decode cX1_erase 103 = .ok (.ireturn, 1) := by decide +kernel
theorem dX1_countFreeBlocks_0 : decode cX1_countFreeBlocks 0 = .ok (.iconst 0, 1) := by decide +kernel
theorem dX1_countFreeBlocks_1 : decode cX1_countFreeBlocks 1 = .ok (.istore_n 2, 1) := by decide +kernel
theorem dX1_countFreeBlocks_2 : decode cX1_countFreeBlocks 2 = .ok (.iconst 0, 1) := by decide +kernel
theorem dX1_countFreeBlocks_3 : decode cX1_countFreeBlocks 3 = .ok (.istore_n 3, 1) := by decide +kernel
theorem dX1_countFreeBlocks_4 : decode cX1_countFreeBlocks 4 = .ok (.iload_n 3, 1) := by decide +kernel
theorem dX1_countFreeBlocks_5 : decode cX1_countFreeBlocks 5 = .ok (.aload_n 0, 1) := by decide +kernel
theorem dX1_countFreeBlocks_6 : decode cX1_countFreeBlocks 6 = .ok (.getfield 43, 3) := by decide +kernel
theorem dX1_countFreeBlocks_9 : decode cX1_countFreeBlocks 9 = .ok (.if_icmp .ge 26, 3) := by decide +kernel
theorem dX1_countFreeBlocks_12 : decode cX1_countFreeBlocks 12 = .ok (.aload_n 0, 1) := by decide +kernel
theorem dX1_countFreeBlocks_13 : decode cX1_countFreeBlocks 13 = .ok (.getfield 37, 3) := by decide +kernel
theorem dX1_countFreeBlocks_16 : decode cX1_countFreeBlocks 16 = .ok (.iload_n 3, 1) := by decide +kernel
theorem dX1_countFreeBlocks_17 : decode cX1_countFreeBlocks 17 = .ok (.iaload, 1) := by decide +kernel
theorem dX1_countFreeBlocks_18 : decode cX1_countFreeBlocks 18 = .ok (.ifCond .ne 11, 3) := by decide +kernel
theorem dX1_countFreeBlocks_21 : decode cX1_countFreeBlocks 21 = .ok (.iload_n 3, 1) := by decide +kernel
theorem dX1_countFreeBlocks_22 : decode cX1_countFreeBlocks 22 = .ok (.iload_n 1, 1) := by decide +kernel
theorem dX1_countFreeBlocks_23 : decode cX1_countFreeBlocks 23 = .ok (.if_icmp .eq 6, 3) := by decide +kernel
theorem dX1_countFreeBlocks_26 : decode cX1_countFreeBlocks 26 = .ok (.iinc 2 1, 3) := by decide +kernel
theorem dX1_countFreeBlocks_29 : decode cX1_countFreeBlocks 29 = .ok (.iinc 3 1, 3) := by decide +kernel
theorem dX1_countFreeBlocks_32 : decode cX1_countFreeBlocks 32 = .ok (.goto (-28), 3) := by decide +kernel
theorem dX1_countFreeBlocks_35 : decode cX1_countFreeBlocks 35 = .ok (.iload_n 2, 1) := by decide +kernel
theorem dX1_countFreeBlocks_36 : decode cX1_countFreeBlocks 36 = .ok (.ireturn, 1) := by decide +kernel
theorem dX1_leastWornFreeBlock_0 : decode cX1_leastWornFreeBlock 0 = .ok (.iconst (-1), 1) := by decide +kernel
theorem dX1_leastWornFreeBlock_1 : decode cX1_leastWornFreeBlock 1 = .ok (.istore_n 2, 1) := by decide +kernel
theorem dX1_leastWornFreeBlock_2 : decode cX1_leastWornFreeBlock 2 = .ok (.iconst 0, 1) := by decide +kernel
theorem dX1_leastWornFreeBlock_3 : decode cX1_leastWornFreeBlock 3 = .ok (.istore_n 3, 1) := by decide +kernel
theorem dX1_leastWornFreeBlock_4 : decode cX1_leastWornFreeBlock 4 = .ok (.iload_n 3, 1) := by decide +kernel
theorem dX1_leastWornFreeBlock_5 : decode cX1_leastWornFreeBlock 5 = .ok (.aload_n 0, 1) := by decide +kernel
theorem dX1_leastWornFreeBlock_6 : decode cX1_leastWornFreeBlock 6 = .ok (.getfield 43, 3) := by decide +kernel
theorem dX1_leastWornFreeBlock_9 : decode cX1_leastWornFreeBlock 9 = .ok (.if_icmp .ge 44, 3) := by decide +kernel
theorem dX1_leastWornFreeBlock_12 : decode cX1_leastWornFreeBlock 12 = .ok (.aload_n 0, 1) := by decide +kernel
theorem dX1_leastWornFreeBlock_13 : decode cX1_leastWornFreeBlock 13 = .ok (.getfield 37, 3) := by decide +kernel
theorem dX1_leastWornFreeBlock_16 : decode cX1_leastWornFreeBlock 16 = .ok (.iload_n 3, 1) := by decide +kernel
theorem dX1_leastWornFreeBlock_17 : decode cX1_leastWornFreeBlock 17 = .ok (.iaload, 1) := by decide +kernel
theorem dX1_leastWornFreeBlock_18 : decode cX1_leastWornFreeBlock 18 = .ok (.ifCond .ne 29, 3) := by decide +kernel
theorem dX1_leastWornFreeBlock_21 : decode cX1_leastWornFreeBlock 21 = .ok (.iload_n 3, 1) := by decide +kernel
theorem dX1_leastWornFreeBlock_22 : decode cX1_leastWornFreeBlock 22 = .ok (.iload_n 1, 1) := by decide +kernel
theorem dX1_leastWornFreeBlock_23 : decode cX1_leastWornFreeBlock 23 = .ok (.if_icmp .eq 24, 3) := by decide +kernel
theorem dX1_leastWornFreeBlock_26 : decode cX1_leastWornFreeBlock 26 = .ok (.iload_n 2, 1) := by decide +kernel
theorem dX1_leastWornFreeBlock_27 : decode cX1_leastWornFreeBlock 27 = .ok (.ifCond .lt 18, 3) := by decide +kernel
theorem dX1_leastWornFreeBlock_30 : decode cX1_leastWornFreeBlock 30 = .ok (.aload_n 0, 1) := by decide +kernel
theorem dX1_leastWornFreeBlock_31 : decode cX1_leastWornFreeBlock 31 = .ok (.getfield 40, 3) := by decide +kernel
theorem dX1_leastWornFreeBlock_34 : decode cX1_leastWornFreeBlock 34 = .ok (.iload_n 3, 1) := by decide +kernel
theorem dX1_leastWornFreeBlock_35 : decode cX1_leastWornFreeBlock 35 = .ok (.iaload, 1) := by decide +kernel
theorem dX1_leastWornFreeBlock_36 : decode cX1_leastWornFreeBlock 36 = .ok (.aload_n 0, 1) := by decide +kernel
theorem dX1_leastWornFreeBlock_37 : decode cX1_leastWornFreeBlock 37 = .ok (.getfield 40, 3) := by decide +kernel
theorem dX1_leastWornFreeBlock_40 : decode cX1_leastWornFreeBlock 40 = .ok (.iload_n 2, 1) := by decide +kernel
theorem dX1_leastWornFreeBlock_41 : decode cX1_leastWornFreeBlock 41 = .ok (.iaload, 1) := by decide +kernel
theorem dX1_leastWornFreeBlock_42 : decode cX1_leastWornFreeBlock 42 = .ok (.if_icmp .ge 5, 3) := by decide +kernel
theorem dX1_leastWornFreeBlock_45 : decode cX1_leastWornFreeBlock 45 = .ok (.iload_n 3, 1) := by decide +kernel
theorem dX1_leastWornFreeBlock_46 : decode cX1_leastWornFreeBlock 46 = .ok (.istore_n 2, 1) := by decide +kernel
theorem dX1_leastWornFreeBlock_47 : decode cX1_leastWornFreeBlock 47 = .ok (.iinc 3 1, 3) := by decide +kernel
theorem dX1_leastWornFreeBlock_50 : decode cX1_leastWornFreeBlock 50 = .ok (.goto (-46), 3) := by decide +kernel
theorem dX1_leastWornFreeBlock_53 : decode cX1_leastWornFreeBlock 53 = .ok (.iload_n 2, 1) := by decide +kernel
theorem dX1_leastWornFreeBlock_54 : decode cX1_leastWornFreeBlock 54 = .ok (.ireturn, 1) := by decide +kernel
theorem dX1_countTornIn_0 : decode cX1_countTornIn 0 = .ok (.iconst 0, 1) := by decide +kernel
theorem dX1_countTornIn_1 : decode cX1_countTornIn 1 = .ok (.istore_n 2, 1) := by decide +kernel
theorem dX1_countTornIn_2 : decode cX1_countTornIn 2 = .ok (.iconst 0, 1) := by decide +kernel
theorem dX1_countTornIn_3 : decode cX1_countTornIn 3 = .ok (.istore_n 3, 1) := by decide +kernel
theorem dX1_countTornIn_4 : decode cX1_countTornIn 4 = .ok (.aload_n 0, 1) := by decide +kernel
theorem dX1_countTornIn_5 : decode cX1_countTornIn 5 = .ok (.iload_n 1, 1) := by decide +kernel
theorem dX1_countTornIn_6 : decode cX1_countTornIn 6 = .ok (.invokevirtual 72, 3) := by decide +kernel
theorem dX1_countTornIn_9 : decode cX1_countTornIn 9 = .ok (.ifCond .eq 37, 3) := by decide +kernel
theorem dX1_countTornIn_12 : decode cX1_countTornIn 12 = .ok (.iload_n 3, 1) := by decide +kernel
theorem dX1_countTornIn_13 : decode cX1_countTornIn 13 = .ok (.aload_n 0, 1) := by decide +kernel
theorem dX1_countTornIn_14 : decode cX1_countTornIn 14 = .ok (.getfield 47, 3) := by decide +kernel
theorem dX1_countTornIn_17 : decode cX1_countTornIn 17 = .ok (.if_icmp .ge 29, 3) := by decide +kernel
theorem dX1_countTornIn_20 : decode cX1_countTornIn 20 = .ok (.aload_n 0, 1) := by decide +kernel
theorem dX1_countTornIn_21 : decode cX1_countTornIn 21 = .ok (.getfield 9, 3) := by decide +kernel
theorem dX1_countTornIn_24 : decode cX1_countTornIn 24 = .ok (.iload_n 1, 1) := by decide +kernel
theorem dX1_countTornIn_25 : decode cX1_countTornIn 25 = .ok (.aload_n 0, 1) := by decide +kernel
theorem dX1_countTornIn_26 : decode cX1_countTornIn 26 = .ok (.getfield 47, 3) := by decide +kernel
theorem dX1_countTornIn_29 : decode cX1_countTornIn 29 = .ok (.imul, 1) := by decide +kernel
theorem dX1_countTornIn_30 : decode cX1_countTornIn 30 = .ok (.iload_n 3, 1) := by decide +kernel
theorem dX1_countTornIn_31 : decode cX1_countTornIn 31 = .ok (.iadd, 1) := by decide +kernel
theorem dX1_countTornIn_32 : decode cX1_countTornIn 32 = .ok (.iaload, 1) := by decide +kernel
theorem dX1_countTornIn_33 : decode cX1_countTornIn 33 = .ok (.iconst 5, 1) := by decide +kernel
theorem dX1_countTornIn_34 : decode cX1_countTornIn 34 = .ok (.if_icmp .ne 6, 3) := by decide +kernel
theorem dX1_countTornIn_37 : decode cX1_countTornIn 37 = .ok (.iinc 2 1, 3) := by decide +kernel
theorem dX1_countTornIn_40 : decode cX1_countTornIn 40 = .ok (.iinc 3 1, 3) := by decide +kernel
theorem dX1_countTornIn_43 : decode cX1_countTornIn 43 = .ok (.goto (-39), 3) := by decide +kernel
theorem dX1_countTornIn_46 : decode cX1_countTornIn 46 = .ok (.iload_n 2, 1) := by decide +kernel
theorem dX1_countTornIn_47 : decode cX1_countTornIn 47 = .ok (.ireturn, 1) := by decide +kernel
theorem dX1_wearDifference_0 : decode cX1_wearDifference 0 = .ok (.aload_n 0, 1) := by decide +kernel
theorem dX1_wearDifference_1 : decode cX1_wearDifference 1 = .ok (.getfield 40, 3) := by decide +kernel
theorem dX1_wearDifference_4 : decode cX1_wearDifference 4 = .ok (.iconst 0, 1) := by decide +kernel
theorem dX1_wearDifference_5 : decode cX1_wearDifference 5 = .ok (.iaload, 1) := by decide +kernel
theorem dX1_wearDifference_6 : decode cX1_wearDifference 6 = .ok (.istore_n 1, 1) := by decide +kernel
theorem dX1_wearDifference_7 : decode cX1_wearDifference 7 = .ok (.aload_n 0, 1) := by decide +kernel
theorem dX1_wearDifference_8 : decode cX1_wearDifference 8 = .ok (.getfield 40, 3) := by decide +kernel
theorem dX1_wearDifference_11 : decode cX1_wearDifference 11 = .ok (.iconst 0, 1) := by decide +kernel
theorem dX1_wearDifference_12 : decode cX1_wearDifference 12 = .ok (.iaload, 1) := by decide +kernel
theorem dX1_wearDifference_13 : decode cX1_wearDifference 13 = .ok (.istore_n 2, 1) := by decide +kernel
theorem dX1_wearDifference_14 : decode cX1_wearDifference 14 = .ok (.iconst 1, 1) := by decide +kernel
theorem dX1_wearDifference_15 : decode cX1_wearDifference 15 = .ok (.istore_n 3, 1) := by decide +kernel
theorem dX1_wearDifference_16 : decode cX1_wearDifference 16 = .ok (.iload_n 3, 1) := by decide +kernel
theorem dX1_wearDifference_17 : decode cX1_wearDifference 17 = .ok (.aload_n 0, 1) := by decide +kernel
theorem dX1_wearDifference_18 : decode cX1_wearDifference 18 = .ok (.getfield 43, 3) := by decide +kernel
theorem dX1_wearDifference_21 : decode cX1_wearDifference 21 = .ok (.if_icmp .ge 31, 3) := by decide +kernel
theorem dX1_wearDifference_24 : decode cX1_wearDifference 24 = .ok (.iload_n 1, 1) := by decide +kernel
theorem dX1_wearDifference_25 : decode cX1_wearDifference 25 = .ok (.aload_n 0, 1) := by decide +kernel
theorem dX1_wearDifference_26 : decode cX1_wearDifference 26 = .ok (.getfield 40, 3) := by decide +kernel
theorem dX1_wearDifference_29 : decode cX1_wearDifference 29 = .ok (.iload_n 3, 1) := by decide +kernel
theorem dX1_wearDifference_30 : decode cX1_wearDifference 30 = .ok (.iaload, 1) := by decide +kernel
theorem dX1_wearDifference_31 : decode cX1_wearDifference 31 = .ok (.invokestatic 83, 3) := by decide +kernel
theorem dX1_wearDifference_34 : decode cX1_wearDifference 34 = .ok (.istore_n 1, 1) := by decide +kernel
theorem dX1_wearDifference_35 : decode cX1_wearDifference 35 = .ok (.iload_n 2, 1) := by decide +kernel
theorem dX1_wearDifference_36 : decode cX1_wearDifference 36 = .ok (.aload_n 0, 1) := by decide +kernel
theorem dX1_wearDifference_37 : decode cX1_wearDifference 37 = .ok (.getfield 40, 3) := by decide +kernel
theorem dX1_wearDifference_40 : decode cX1_wearDifference 40 = .ok (.iload_n 3, 1) := by decide +kernel
theorem dX1_wearDifference_41 : decode cX1_wearDifference 41 = .ok (.iaload, 1) := by decide +kernel
theorem dX1_wearDifference_42 : decode cX1_wearDifference 42 = .ok (.invokestatic 89, 3) := by decide +kernel
theorem dX1_wearDifference_45 : decode cX1_wearDifference 45 = .ok (.istore_n 2, 1) := by decide +kernel
theorem dX1_wearDifference_46 : decode cX1_wearDifference 46 = .ok (.iinc 3 1, 3) := by decide +kernel
theorem dX1_wearDifference_49 : decode cX1_wearDifference 49 = .ok (.goto (-33), 3) := by decide +kernel
theorem dX1_wearDifference_52 : decode cX1_wearDifference 52 = .ok (.iload_n 2, 1) := by decide +kernel
theorem dX1_wearDifference_53 : decode cX1_wearDifference 53 = .ok (.iload_n 1, 1) := by decide +kernel
theorem dX1_wearDifference_54 : decode cX1_wearDifference 54 = .ok (.isub, 1) := by decide +kernel
theorem dX1_wearDifference_55 : decode cX1_wearDifference 55 = .ok (.ireturn, 1) := by decide +kernel
theorem dX1_findData_0 : decode cX1_findData 0 = .ok (.iconst 0, 1) := by decide +kernel
theorem dX1_findData_1 : decode cX1_findData 1 = .ok (.istore_n 3, 1) := by decide +kernel
theorem dX1_findData_2 : decode cX1_findData 2 = .ok (.iload_n 3, 1) := by decide +kernel
theorem dX1_findData_3 : decode cX1_findData 3 = .ok (.aload_n 0, 1) := by decide +kernel
theorem dX1_findData_4 : decode cX1_findData 4 = .ok (.getfield 50, 3) := by decide +kernel
theorem dX1_findData_7 : decode cX1_findData 7 = .ok (.if_icmp .ge 50, 3) := by decide +kernel
theorem dX1_findData_10 : decode cX1_findData 10 = .ok (.aload_n 0, 1) := by decide +kernel
theorem dX1_findData_11 : decode cX1_findData 11 = .ok (.getfield 9, 3) := by decide +kernel
theorem dX1_findData_14 : decode cX1_findData 14 = .ok (.iload_n 3, 1) := by decide +kernel
theorem dX1_findData_15 : decode cX1_findData 15 = .ok (.iaload, 1) := by decide +kernel
theorem dX1_findData_16 : decode cX1_findData 16 = .ok (.iconst 1, 1) := by decide +kernel
theorem dX1_findData_17 : decode cX1_findData 17 = .ok (.if_icmp .ne 34, 3) := by decide +kernel
theorem dX1_findData_20 : decode cX1_findData 20 = .ok (.aload_n 0, 1) := by decide +kernel
theorem dX1_findData_21 : decode cX1_findData 21 = .ok (.getfield 15, 3) := by decide +kernel
theorem dX1_findData_24 : decode cX1_findData 24 = .ok (.iload_n 3, 1) := by decide +kernel
theorem dX1_findData_25 : decode cX1_findData 25 = .ok (.iaload, 1) := by decide +kernel
theorem dX1_findData_26 : decode cX1_findData 26 = .ok (.iload_n 1, 1) := by decide +kernel
theorem dX1_findData_27 : decode cX1_findData 27 = .ok (.if_icmp .ne 24, 3) := by decide +kernel
theorem dX1_findData_30 : decode cX1_findData 30 = .ok (.aload_n 0, 1) := by decide +kernel
theorem dX1_findData_31 : decode cX1_findData 31 = .ok (.getfield 21, 3) := by decide +kernel
theorem dX1_findData_34 : decode cX1_findData 34 = .ok (.iload_n 3, 1) := by decide +kernel
theorem dX1_findData_35 : decode cX1_findData 35 = .ok (.iaload, 1) := by decide +kernel
theorem dX1_findData_36 : decode cX1_findData 36 = .ok (.iload_n 2, 1) := by decide +kernel
theorem dX1_findData_37 : decode cX1_findData 37 = .ok (.if_icmp .ne 14, 3) := by decide +kernel
theorem dX1_findData_40 : decode cX1_findData 40 = .ok (.aload_n 0, 1) := by decide +kernel
theorem dX1_findData_41 : decode cX1_findData 41 = .ok (.getfield 33, 3) := by decide +kernel
theorem dX1_findData_44 : decode cX1_findData 44 = .ok (.iload_n 3, 1) := by decide +kernel
theorem dX1_findData_45 : decode cX1_findData 45 = .ok (.baload, 1) := by decide +kernel
theorem dX1_findData_46 : decode cX1_findData 46 = .ok (.ifCond .ne 5, 3) := by decide +kernel
theorem dX1_findData_49 : decode cX1_findData 49 = .ok (.iload_n 3, 1) := by decide +kernel
theorem dX1_findData_50 : decode cX1_findData 50 = .ok (.ireturn, 1) := by decide +kernel
theorem dX1_findData_51 : decode cX1_findData 51 = .ok (.iinc 3 1, 3) := by decide +kernel
theorem dX1_findData_54 : decode cX1_findData 54 = .ok (.goto (-52), 3) := by decide +kernel
theorem dX1_findData_57 : decode cX1_findData 57 = .ok (.iconst (-1), 1) := by decide +kernel
theorem dX1_findData_58 : decode cX1_findData 58 = .ok (.ireturn, 1) := by decide +kernel
theorem dX1_findLatestEnd_0 : decode cX1_findLatestEnd 0 = .ok (.iconst (-1), 1) := by decide +kernel
theorem dX1_findLatestEnd_1 : decode cX1_findLatestEnd 1 = .ok (.istore_n 1, 1) := by decide +kernel
theorem dX1_findLatestEnd_2 : decode cX1_findLatestEnd 2 = .ok (.iconst 0, 1) := by decide +kernel
theorem dX1_findLatestEnd_3 : decode cX1_findLatestEnd 3 = .ok (.istore_n 2, 1) := by decide +kernel
theorem dX1_findLatestEnd_4 : decode cX1_findLatestEnd 4 = .ok (.iload_n 2, 1) := by decide +kernel
theorem dX1_findLatestEnd_5 : decode cX1_findLatestEnd 5 = .ok (.aload_n 0, 1) := by decide +kernel
theorem dX1_findLatestEnd_6 : decode cX1_findLatestEnd 6 = .ok (.getfield 50, 3) := by decide +kernel
theorem dX1_findLatestEnd_9 : decode cX1_findLatestEnd 9 = .ok (.if_icmp .ge 40, 3) := by decide +kernel
theorem dX1_findLatestEnd_12 : decode cX1_findLatestEnd 12 = .ok (.aload_n 0, 1) := by decide +kernel
theorem dX1_findLatestEnd_13 : decode cX1_findLatestEnd 13 = .ok (.getfield 9, 3) := by decide +kernel
theorem dX1_findLatestEnd_16 : decode cX1_findLatestEnd 16 = .ok (.iload_n 2, 1) := by decide +kernel
theorem dX1_findLatestEnd_17 : decode cX1_findLatestEnd 17 = .ok (.iaload, 1) := by decide +kernel
theorem dX1_findLatestEnd_18 : decode cX1_findLatestEnd 18 = .ok (.iconst 4, 1) := by decide +kernel
theorem dX1_findLatestEnd_19 : decode cX1_findLatestEnd 19 = .ok (.if_icmp .ne 24, 3) := by decide +kernel
theorem dX1_findLatestEnd_22 : decode cX1_findLatestEnd 22 = .ok (.iload_n 1, 1) := by decide +kernel
theorem dX1_findLatestEnd_23 : decode cX1_findLatestEnd 23 = .ok (.ifCond .lt 18, 3) := by decide +kernel
theorem dX1_findLatestEnd_26 : decode cX1_findLatestEnd 26 = .ok (.aload_n 0, 1) := by decide +kernel
theorem dX1_findLatestEnd_27 : decode cX1_findLatestEnd 27 = .ok (.getfield 21, 3) := by decide +kernel
theorem dX1_findLatestEnd_30 : decode cX1_findLatestEnd 30 = .ok (.iload_n 2, 1) := by decide +kernel
theorem dX1_findLatestEnd_31 : decode cX1_findLatestEnd 31 = .ok (.iaload, 1) := by decide +kernel
theorem dX1_findLatestEnd_32 : decode cX1_findLatestEnd 32 = .ok (.aload_n 0, 1) := by decide +kernel
theorem dX1_findLatestEnd_33 : decode cX1_findLatestEnd 33 = .ok (.getfield 21, 3) := by decide +kernel
theorem dX1_findLatestEnd_36 : decode cX1_findLatestEnd 36 = .ok (.iload_n 1, 1) := by decide +kernel
theorem dX1_findLatestEnd_37 : decode cX1_findLatestEnd 37 = .ok (.iaload, 1) := by decide +kernel
theorem dX1_findLatestEnd_38 : decode cX1_findLatestEnd 38 = .ok (.if_icmp .le 5, 3) := by decide +kernel
theorem dX1_findLatestEnd_41 : decode cX1_findLatestEnd 41 = .ok (.iload_n 2, 1) := by decide +kernel
theorem dX1_findLatestEnd_42 : decode cX1_findLatestEnd 42 = .ok (.istore_n 1, 1) := by decide +kernel
theorem dX1_findLatestEnd_43 : decode cX1_findLatestEnd 43 = .ok (.iinc 2 1, 3) := by decide +kernel
theorem dX1_findLatestEnd_46 : decode cX1_findLatestEnd 46 = .ok (.goto (-42), 3) := by decide +kernel
theorem dX1_findLatestEnd_49 : decode cX1_findLatestEnd 49 = .ok (.iload_n 1, 1) := by decide +kernel
theorem dX1_findLatestEnd_50 : decode cX1_findLatestEnd 50 = .ok (.ireturn, 1) := by decide +kernel
theorem dX1_findNewestBlock_0 : decode cX1_findNewestBlock 0 = .ok (.iconst (-1), 1) := by decide +kernel
theorem dX1_findNewestBlock_1 : decode cX1_findNewestBlock 1 = .ok (.istore_n 1, 1) := by decide +kernel
theorem dX1_findNewestBlock_2 : decode cX1_findNewestBlock 2 = .ok (.iconst 0, 1) := by decide +kernel
theorem dX1_findNewestBlock_3 : decode cX1_findNewestBlock 3 = .ok (.istore_n 2, 1) := by decide +kernel
theorem dX1_findNewestBlock_4 : decode cX1_findNewestBlock 4 = .ok (.iconst 0, 1) := by decide +kernel
theorem dX1_findNewestBlock_5 : decode cX1_findNewestBlock 5 = .ok (.istore_n 3, 1) := by decide +kernel
theorem dX1_findNewestBlock_6 : decode cX1_findNewestBlock 6 = .ok (.iload_n 3, 1) := by decide +kernel
theorem dX1_findNewestBlock_7 : decode cX1_findNewestBlock 7 = .ok (.aload_n 0, 1) := by decide +kernel
theorem dX1_findNewestBlock_8 : decode cX1_findNewestBlock 8 = .ok (.getfield 43, 3) := by decide +kernel
theorem dX1_findNewestBlock_11 : decode cX1_findNewestBlock 11 = .ok (.if_icmp .ge 54, 3) := by decide +kernel
theorem dX1_findNewestBlock_14 : decode cX1_findNewestBlock 14 = .ok (.iconst 0, 1) := by decide +kernel
theorem dX1_findNewestBlock_15 : decode cX1_findNewestBlock 15 = .ok (.istore 4, 2) := by decide +kernel
theorem dX1_findNewestBlock_17 : decode cX1_findNewestBlock 17 = .ok (.iload 4, 2) := by decide +kernel
theorem dX1_findNewestBlock_19 : decode cX1_findNewestBlock 19 = .ok (.aload_n 0, 1) := by decide +kernel
theorem dX1_findNewestBlock_20 : decode cX1_findNewestBlock 20 = .ok (.getfield 47, 3) := by decide +kernel
theorem dX1_findNewestBlock_23 : decode cX1_findNewestBlock 23 = .ok (.if_icmp .ge 36, 3) := by decide +kernel
theorem dX1_findNewestBlock_26 : decode cX1_findNewestBlock 26 = .ok (.aload_n 0, 1) := by decide +kernel
theorem dX1_findNewestBlock_27 : decode cX1_findNewestBlock 27 = .ok (.getfield 24, 3) := by decide +kernel
theorem dX1_findNewestBlock_30 : decode cX1_findNewestBlock 30 = .ok (.iload_n 3, 1) := by decide +kernel
theorem dX1_findNewestBlock_31 : decode cX1_findNewestBlock 31 = .ok (.aload_n 0, 1) := by decide +kernel
theorem dX1_findNewestBlock_32 : decode cX1_findNewestBlock 32 = .ok (.getfield 47, 3) := by decide +kernel
theorem dX1_findNewestBlock_35 : decode cX1_findNewestBlock 35 = .ok (.imul, 1) := by decide +kernel
theorem dX1_findNewestBlock_36 : decode cX1_findNewestBlock 36 = .ok (.iload 4, 2) := by decide +kernel
theorem dX1_findNewestBlock_38 : decode cX1_findNewestBlock 38 = .ok (.iadd, 1) := by decide +kernel
theorem dX1_findNewestBlock_39 : decode cX1_findNewestBlock 39 = .ok (.iaload, 1) := by decide +kernel
theorem dX1_findNewestBlock_40 : decode cX1_findNewestBlock 40 = .ok (.istore 5, 2) := by decide +kernel
theorem dX1_findNewestBlock_42 : decode cX1_findNewestBlock 42 = .ok (.iload 5, 2) := by decide +kernel
theorem dX1_findNewestBlock_44 : decode cX1_findNewestBlock 44 = .ok (.iload_n 2, 1) := by decide +kernel
theorem dX1_findNewestBlock_45 : decode cX1_findNewestBlock 45 = .ok (.if_icmp .le 8, 3) := by decide +kernel
theorem dX1_findNewestBlock_48 : decode cX1_findNewestBlock 48 = .ok (.iload 5, 2) := by decide +kernel
theorem dX1_findNewestBlock_50 : decode cX1_findNewestBlock 50 = .ok (.istore_n 2, 1) := by decide +kernel
theorem dX1_findNewestBlock_51 : decode cX1_findNewestBlock 51 = .ok (.iload_n 3, 1) := by decide +kernel
theorem dX1_findNewestBlock_52 : decode cX1_findNewestBlock 52 = .ok (.istore_n 1, 1) := by decide +kernel
theorem dX1_findNewestBlock_53 : decode cX1_findNewestBlock 53 = .ok (.iinc 4 1, 3) := by decide +kernel
theorem dX1_findNewestBlock_56 : decode cX1_findNewestBlock 56 = .ok (.goto (-39), 3) := by decide +kernel
theorem dX1_findNewestBlock_59 : decode cX1_findNewestBlock 59 = .ok (.iinc 3 1, 3) := by decide +kernel
theorem dX1_findNewestBlock_62 : decode cX1_findNewestBlock 62 = .ok (.goto (-56), 3) := by decide +kernel
theorem dX1_findNewestBlock_65 : decode cX1_findNewestBlock 65 = .ok (.iload_n 1, 1) := by decide +kernel
theorem dX1_findNewestBlock_66 : decode cX1_findNewestBlock 66 = .ok (.ireturn, 1) := by decide +kernel
theorem dX2_init_0 : decode cX2_init 0 = .ok (.aload_n 0, 1) := by decide +kernel
theorem dX2_init_1 : decode cX2_init 1 = .ok (.invokespecial 3, 3) := by decide +kernel
theorem dX2_init_4 : decode cX2_init 4 = .ok (.aload_n 0, 1) := by decide +kernel
theorem dX2_init_5 : decode cX2_init 5 = .ok (.sipush 600, 3) := by decide +kernel
theorem dX2_init_8 : decode cX2_init 8 = .ok (.newarray .int, 2) := by decide +kernel
theorem dX2_init_10 : decode cX2_init 10 = .ok (.putfield 9, 3) := by decide +kernel
theorem dX2_init_13 : decode cX2_init 13 = .ok (.aload_n 0, 1) := by decide +kernel
theorem dX2_init_14 : decode cX2_init 14 = .ok (.bipush 64, 2) := by decide +kernel
theorem dX2_init_16 : decode cX2_init 16 = .ok (.newarray .int, 2) := by decide +kernel
theorem dX2_init_18 : decode cX2_init 18 = .ok (.putfield 15, 3) := by decide +kernel
theorem dX2_init_21 : decode cX2_init 21 = .ok (.aload_n 0, 1) := by decide +kernel
theorem dX2_init_22 : decode cX2_init 22 = .ok (.iconst (-1), 1) := by decide +kernel
theorem dX2_init_23 : decode cX2_init 23 = .ok (.putfield 18, 3) := by decide +kernel
theorem dX2_init_26 : decode cX2_init 26 = .ok (.return_, 1) := by decide +kernel
theorem dX2_append_0 : decode cX2_append 0 = .ok (.bipush 24, 2) := by decide +kernel
theorem dX2_append_2 : decode cX2_append 2 = .ok (.istore_n 2, 1) := by decide +kernel
theorem dX2_append_3 : decode cX2_append 3 = .ok (.iload_n 2, 1) := by decide +kernel
theorem dX2_append_4 : decode cX2_append 4 = .ok (.ifCond .lt 45, 3) := by decide +kernel
theorem dX2_append_7 : decode cX2_append 7 = .ok (.aload_n 0, 1) := by decide +kernel
theorem dX2_append_8 : decode cX2_append 8 = .ok (.getfield 22, 3) := by decide +kernel
theorem dX2_append_11 : decode cX2_append 11 = .ok (.sipush 600, 3) := by decide +kernel
theorem dX2_append_14 : decode cX2_append 14 = .ok (.if_icmp .ge 35, 3) := by decide +kernel
theorem dX2_append_17 : decode cX2_append 17 = .ok (.aload_n 0, 1) := by decide +kernel
theorem dX2_append_18 : decode cX2_append 18 = .ok (.getfield 9, 3) := by decide +kernel
theorem dX2_append_21 : decode cX2_append 21 = .ok (.aload_n 0, 1) := by decide +kernel
theorem dX2_append_22 : decode cX2_append 22 = .ok (.getfield 22, 3) := by decide +kernel
theorem dX2_append_25 : decode cX2_append 25 = .ok (.iload_n 1, 1) := by decide +kernel
theorem dX2_append_26 : decode cX2_append 26 = .ok (.iload_n 2, 1) := by decide +kernel
theorem dX2_append_27 : decode cX2_append 27 = .ok (.iushr, 1) := by decide +kernel
theorem dX2_append_28 : decode cX2_append 28 = .ok (.sipush 255, 3) := by decide +kernel
theorem dX2_append_31 : decode cX2_append 31 = .ok (.iand, 1) := by decide +kernel
theorem dX2_append_32 : decode cX2_append 32 = .ok (.iastore, 1) := by decide +kernel
theorem dX2_append_33 : decode cX2_append 33 = .ok (.aload_n 0, 1) := by decide +kernel
theorem dX2_append_34 : decode cX2_append 34 = .ok (.dup, 1) := by decide +kernel
theorem dX2_append_35 : decode cX2_append 35 = .ok (.getfield 22, 3) := by decide +kernel
theorem dX2_append_38 : decode cX2_append 38 = .ok (.iconst 1, 1) := by decide +kernel
theorem dX2_append_39 : decode cX2_append 39 = .ok (.iadd, 1) := by decide +kernel
theorem dX2_append_40 : decode cX2_append 40 = .ok (.putfield 22, 3) := by decide +kernel
theorem dX2_append_43 : decode cX2_append 43 = .ok (.iinc 2 (-8), 3) := by decide +kernel
theorem dX2_append_46 : decode cX2_append 46 = .ok (.goto (-43), 3) := by decide +kernel
theorem dX2_append_49 : decode cX2_append 49 = .ok (.return_, 1) := by decide +kernel
theorem dX2_parse_0 : decode cX2_parse 0 = .ok (.aload_n 0, 1) := by decide +kernel
theorem dX2_parse_1 : decode cX2_parse 1 = .ok (.iconst 0, 1) := by decide +kernel
theorem dX2_parse_2 : decode cX2_parse 2 = .ok (.putfield 25, 3) := by decide +kernel
theorem dX2_parse_5 : decode cX2_parse 5 = .ok (.aload_n 0, 1) := by decide +kernel
theorem dX2_parse_6 : decode cX2_parse 6 = .ok (.iconst (-1), 1) := by decide +kernel
theorem dX2_parse_7 : decode cX2_parse 7 = .ok (.putfield 18, 3) := by decide +kernel
theorem dX2_parse_10 : decode cX2_parse 10 = .ok (.aload_n 0, 1) := by decide +kernel
theorem dX2_parse_11 : decode cX2_parse 11 = .ok (.iconst 0, 1) := by decide +kernel
theorem dX2_parse_12 : decode cX2_parse 12 = .ok (.putfield 28, 3) := by decide +kernel
theorem dX2_parse_15 : decode cX2_parse 15 = .ok (.aload_n 0, 1) := by decide +kernel
theorem dX2_parse_16 : decode cX2_parse 16 = .ok (.iconst 0, 1) := by decide +kernel
theorem dX2_parse_17 : decode cX2_parse 17 = .ok (.putfield 31, 3) := by decide +kernel
theorem dX2_parse_20 : decode cX2_parse 20 = .ok (.iconst 0, 1) := by decide +kernel
theorem dX2_parse_21 : decode cX2_parse 21 = .ok (.istore_n 2, 1) := by decide +kernel
theorem dX2_parse_22 : decode cX2_parse 22 = .ok (.iconst (-1), 1) := by decide +kernel
theorem dX2_parse_23 : decode cX2_parse 23 = .ok (.istore_n 3, 1) := by decide +kernel
theorem dX2_parse_24 : decode cX2_parse 24 = .ok (.iload_n 2, 1) := by decide +kernel
theorem dX2_parse_25 : decode cX2_parse 25 = .ok (.iload_n 1, 1) := by decide +kernel
theorem dX2_parse_26 : decode cX2_parse 26 = .ok (.if_icmp .ge 141, 3) := by decide +kernel
theorem dX2_parse_29 : decode cX2_parse 29 = .ok (.aload_n 0, 1) := by decide +kernel
theorem dX2_parse_30 : decode cX2_parse 30 = .ok (.getfield 25, 3) := by decide +kernel
theorem dX2_parse_33 : decode cX2_parse 33 = .ok (.ifCond .ne 134, 3) := by decide +kernel
theorem dX2_parse_36 : decode cX2_parse 36 = .ok (.iload_n 2, 1) := by decide +kernel
theorem dX2_parse_37 : decode cX2_parse 37 = .ok (.istore 4, 2) := by decide +kernel
theorem dX2_parse_39 : decode cX2_parse 39 = .ok (.aload_n 0, 1) := by decide +kernel
theorem dX2_parse_40 : decode cX2_parse 40 = .ok (.getfield 9, 3) := by decide +kernel
theorem dX2_parse_43 : decode cX2_parse 43 = .ok (.iload 4, 2) := by decide +kernel
theorem dX2_parse_45 : decode cX2_parse 45 = .ok (.iaload, 1) := by decide +kernel
theorem dX2_parse_46 : decode cX2_parse 46 = .ok (.istore 5, 2) := by decide +kernel
theorem dX2_parse_48 : decode cX2_parse 48 = .ok (.iload 4, 2) := by decide +kernel
theorem dX2_parse_50 : decode cX2_parse 50 = .ok (.iconst 1, 1) := by decide +kernel
theorem dX2_parse_51 : decode cX2_parse 51 = .ok (.iadd, 1) := by decide +kernel
theorem dX2_parse_52 : decode cX2_parse 52 = .ok (.istore_n 2, 1) := by decide +kernel
theorem dX2_parse_53 : decode cX2_parse 53 = .ok (.iload 5, 2) := by decide +kernel
theorem dX2_parse_55 : decode cX2_parse 55 = .ok (.invokestatic 34, 3) := by decide +kernel
theorem dX2_parse_58 : decode cX2_parse 58 = .ok (.ifCond .ne 11, 3) := by decide +kernel
theorem dX2_parse_61 : decode cX2_parse 61 = .ok (.iload 5, 2) := by decide +kernel
theorem dX2_parse_63 : decode cX2_parse 63 = .ok (.invokestatic 38, 3) := by decide +kernel
theorem dX2_parse_66 : decode cX2_parse 66 = .ok (.ifCond .eq 57, 3) := by decide +kernel
theorem dX2_parse_69 : decode cX2_parse 69 = .ok (.iload_n 2, 1) := by decide +kernel
theorem dX2_parse_70 : decode cX2_parse 70 = .ok (.aload_n 0, 1) := by decide +kernel
theorem dX2_parse_71 : decode cX2_parse 71 = .ok (.iload 4, 2) := by decide +kernel
theorem dX2_parse_73 : decode cX2_parse 73 = .ok (.iload_n 1, 1) := by decide +kernel
theorem dX2_parse_74 : decode cX2_parse 74 = .ok (.iload 5, 2) := by decide +kernel
theorem dX2_parse_76 : decode cX2_parse 76 = .ok (.invokestatic 34, 3) := by decide +kernel
theorem dX2_parse_79 : decode cX2_parse 79 = .ok (.invokevirtual 41, 3) := by decide +kernel
theorem dX2_parse_82 : decode cX2_parse 82 = .ok (.invokestatic 45, 3) := by decide +kernel
theorem dX2_parse_85 : decode cX2_parse 85 = .ok (.istore_n 2, 1) := by decide +kernel
theorem dX2_parse_86 : decode cX2_parse 86 = .ok (.iload 4, 2) := by decide +kernel
theorem dX2_parse_88 : decode cX2_parse 88 = .ok (.iload_n 3, 1) := by decide +kernel
theorem dX2_parse_89 : decode cX2_parse 89 = .ok (.if_icmp .ne 7, 3) := by decide +kernel
theorem dX2_parse_92 : decode cX2_parse 92 = .ok (.iconst 1, 1) := by decide +kernel
theorem dX2_parse_93 : decode cX2_parse 93 = .ok (.goto 15, 3) := by decide +kernel
theorem dX2_parse_96 : decode cX2_parse 96 = .ok (.aload_n 0, 1) := by decide +kernel
theorem dX2_parse_97 : decode cX2_parse 97 = .ok (.iload 4, 2) := by decide +kernel
theorem dX2_parse_99 : decode cX2_parse 99 = .ok (.iload_n 2, 1) := by decide +kernel
theorem dX2_parse_100 : decode cX2_parse 100 = .ok (.iload 5, 2) := by decide +kernel
theorem dX2_parse_102 : decode cX2_parse 102 = .ok (.invokestatic 34, 3) := by decide +kernel
theorem dX2_parse_105 : decode cX2_parse 105 = .ok (.invokevirtual 51, 3) := by decide +kernel
theorem dX2_parse_108 : decode cX2_parse 108 = .ok (.istore 6, 2) := by decide +kernel
theorem dX2_parse_110 : decode cX2_parse 110 = .ok (.aload_n 0, 1) := by decide +kernel
theorem dX2_parse_111 : decode cX2_parse 111 = .ok (.iload 6, 2) := by decide +kernel
theorem dX2_parse_113 : decode cX2_parse 113 = .ok (.iload 4, 2) := by decide +kernel
theorem dX2_parse_115 : decode cX2_parse 115 = .ok (.invokevirtual 54, 3) := by decide +kernel
theorem dX2_parse_118 : decode cX2_parse 118 = .ok (.iload_n 2, 1) := by decide +kernel
theorem dX2_parse_119 : decode cX2_parse 119 = .ok (.istore_n 3, 1) := by decide +kernel
theorem dX2_parse_120 : decode cX2_parse 120 = .ok (.goto 44, 3) := by decide +kernel
theorem dX2_parse_123 : decode cX2_parse 123 = .ok (.iload 5, 2) := by decide +kernel
theorem dX2_parse_125 : decode cX2_parse 125 = .ok (.bipush 59, 2) := by decide +kernel
theorem dX2_parse_127 : decode cX2_parse 127 = .ok (.if_icmp .ne 16, 3) := by decide +kernel
theorem dX2_parse_130 : decode cX2_parse 130 = .ok (.aload_n 0, 1) := by decide +kernel
theorem dX2_parse_131 : decode cX2_parse 131 = .ok (.aload_n 0, 1) := by decide +kernel
theorem dX2_parse_132 : decode cX2_parse 132 = .ok (.invokevirtual 58, 3) := by decide +kernel
theorem dX2_parse_135 : decode cX2_parse 135 = .ok (.iload 4, 2) := by decide +kernel
theorem dX2_parse_137 : decode cX2_parse 137 = .ok (.invokevirtual 54, 3) := by decide +kernel
theorem dX2_parse_140 : decode cX2_parse 140 = .ok (.goto 24, 3) := by decide +kernel
theorem dX2_parse_143 : decode cX2_parse 143 = .ok (.iload 5, 2) := by decide +kernel
theorem dX2_parse_145 : decode cX2_parse 145 = .ok (.bipush 32, 2) := by decide +kernel
theorem dX2_parse_147 : decode cX2_parse 147 = .ok (.if_icmp .eq 17, 3) := by decide +kernel
theorem dX2_parse_150 : decode cX2_parse 150 = .ok (.iload 5, 2) := by decide +kernel
theorem dX2_parse_152 : decode cX2_parse 152 = .ok (.bipush 10, 2) := by decide +kernel
theorem dX2_parse_154 : decode cX2_parse 154 = .ok (.if_icmp .eq 10, 3) := by decide +kernel
theorem dX2_parse_157 : decode cX2_parse 157 = .ok (.aload_n 0, 1) := by decide +kernel
theorem dX2_parse_158 : decode cX2_parse 158 = .ok (.iconst 1, 1) := by decide +kernel
theorem dX2_parse_159 : decode cX2_parse 159 = .ok (.iload 4, 2) := by decide +kernel
theorem dX2_parse_161 : decode cX2_parse 161 = .ok (.invokevirtual 54, 3) := by decide +kernel
theorem dX2_parse_164 : decode cX2_parse 164 = .ok (.goto (-140), 3) := by decide +kernel
theorem dX2_parse_167 : decode cX2_parse 167 = .ok (.aload_n 0, 1) := by decide +kernel
theorem dX2_parse_168 : decode cX2_parse 168 = .ok (.getfield 25, 3) := by decide +kernel
theorem dX2_parse_171 : decode cX2_parse 171 = .ok (.ifCond .ne 18, 3) := by decide +kernel
theorem dX2_parse_174 : decode cX2_parse 174 = .ok (.aload_n 0, 1) := by decide +kernel
theorem dX2_parse_175 : decode cX2_parse 175 = .ok (.getfield 31, 3) := by decide +kernel
theorem dX2_parse_178 : decode cX2_parse 178 = .ok (.bipush 9, 2) := by decide +kernel
theorem dX2_parse_180 : decode cX2_parse 180 = .ok (.if_icmp .eq 9, 3) := by decide +kernel
theorem dX2_parse_183 : decode cX2_parse 183 = .ok (.aload_n 0, 1) := by decide +kernel
theorem dX2_parse_184 : decode cX2_parse 184 = .ok (.iconst 1, 1) := by decide +kernel
theorem dX2_parse_185 : decode cX2_parse 185 = .ok (.iload_n 1, 1) := by decide +kernel
theorem dX2_parse_186 : decode cX2_parse 186 = .ok (.invokevirtual 54, 3) := by decide +kernel
theorem dX2_parse_189 : decode cX2_parse 189 = .ok (.return_, 1) := by decide +kernel
