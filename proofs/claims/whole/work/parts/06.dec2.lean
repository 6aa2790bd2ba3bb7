theorem dX6_state_23 : decode cX6_state 23 = .ok (.athrow, 1) := by decide +kernel
theorem dX6_state_24 : decode cX6_state 24 = .ok (.aload_n 0, 1) := by decide +kernel
theorem dX6_state_25 : decode cX6_state 25 = .ok (.getfield 19, 3) := by decide +kernel
theorem dX6_state_28 : decode cX6_state 28 = .ok (.getfield 81, 3) := by decide +kernel
theorem dX6_state_31 : decode cX6_state 31 = .ok (.iload_n 1, 1) := by decide +kernel
theorem dX6_state_32 : decode cX6_state 32 = .ok (.invokevirtual 249, 3) := by decide +kernel
theorem dX6_state_35 : decode cX6_state 35 = .ok (.ireturn, 1) := by decide +kernel
theorem dX6_locks_0 : decode cX6_locks 0 = .ok (.aload_n 0, 1) := by decide +kernel
theorem dX6_locks_1 : decode cX6_locks 1 = .ok (.getfield 19, 3) := by decide +kernel
theorem dX6_locks_4 : decode cX6_locks 4 = .ok (.getfield 81, 3) := by decide +kernel
theorem dX6_locks_7 : decode cX6_locks 7 = .ok (.iload_n 1, 1) := by decide +kernel
theorem dX6_locks_8 : decode cX6_locks 8 = .ok (.invokevirtual 155, 3) := by decide +kernel
theorem dX6_locks_11 : decode cX6_locks 11 = .ok (.ifCond .ne 13, 3) := by decide +kernel
theorem dX6_locks_14 : decode cX6_locks 14 = .ok (.new 116, 3) := by decide +kernel
theorem dX6_locks_17 : decode cX6_locks 17 = .ok (.dup, 1) := by decide +kernel
theorem dX6_locks_18 : decode cX6_locks 18 = .ok (.ldc 158, 2) := by decide +kernel
theorem dX6_locks_20 : decode cX6_locks 20 = .ok (.invokespecial 120, 3) := by decide +kernel
theorem dX6_locks_23 : decode cX6_locks 23 = .ok (.athrow, 1) := by decide +kernel
theorem dX6_locks_24 : decode cX6_locks 24 = .ok (.aload_n 0, 1) := by decide +kernel
theorem dX6_locks_25 : decode cX6_locks 25 = .ok (.getfield 19, 3) := by decide +kernel
theorem dX6_locks_28 : decode cX6_locks 28 = .ok (.getfield 107, 3) := by decide +kernel
theorem dX6_locks_31 : decode cX6_locks 31 = .ok (.iload_n 1, 1) := by decide +kernel
theorem dX6_locks_32 : decode cX6_locks 32 = .ok (.invokevirtual 165, 3) := by decide +kernel
theorem dX6_locks_35 : decode cX6_locks 35 = .ok (.ireturn, 1) := by decide +kernel
theorem dX6_readers_0 : decode cX6_readers 0 = .ok (.aload_n 0, 1) := by decide +kernel
theorem dX6_readers_1 : decode cX6_readers 1 = .ok (.getfield 19, 3) := by decide +kernel
theorem dX6_readers_4 : decode cX6_readers 4 = .ok (.getfield 107, 3) := by decide +kernel
theorem dX6_readers_7 : decode cX6_readers 7 = .ok (.getfield 252, 3) := by decide +kernel
theorem dX6_readers_10 : decode cX6_readers 10 = .ok (.ireturn, 1) := by decide +kernel
theorem dX6_activeBlock_0 : decode cX6_activeBlock 0 = .ok (.aload_n 0, 1) := by decide +kernel
theorem dX6_activeBlock_1 : decode cX6_activeBlock 1 = .ok (.getfield 19, 3) := by decide +kernel
theorem dX6_activeBlock_4 : decode cX6_activeBlock 4 = .ok (.getfield 255, 3) := by decide +kernel
theorem dX6_activeBlock_7 : decode cX6_activeBlock 7 = .ok (.ireturn, 1) := by decide +kernel
theorem dX6_freeBlocks_0 : decode cX6_freeBlocks 0 = .ok (.aload_n 0, 1) := by decide +kernel
theorem dX6_freeBlocks_1 : decode cX6_freeBlocks 1 = .ok (.getfield 19, 3) := by decide +kernel
theorem dX6_freeBlocks_4 : decode cX6_freeBlocks 4 = .ok (.getfield 213, 3) := by decide +kernel
theorem dX6_freeBlocks_7 : decode cX6_freeBlocks 7 = .ok (.aload_n 0, 1) := by decide +kernel
theorem dX6_freeBlocks_8 : decode cX6_freeBlocks 8 = .ok (.getfield 19, 3) := by decide +kernel
theorem dX6_freeBlocks_11 : decode cX6_freeBlocks 11 = .ok (.getfield 255, 3) := by decide +kernel
theorem dX6_freeBlocks_14 : decode cX6_freeBlocks 14 = .ok (.invokevirtual 258, 3) := by decide +kernel
theorem dX6_freeBlocks_17 : decode cX6_freeBlocks 17 = .ok (.ireturn, 1) := by decide +kernel
theorem dX6_validPages_0 : decode cX6_validPages 0 = .ok (.aload_n 0, 1) := by decide +kernel
theorem dX6_validPages_1 : decode cX6_validPages 1 = .ok (.getfield 19, 3) := by decide +kernel
theorem dX6_validPages_4 : decode cX6_validPages 4 = .ok (.getfield 85, 3) := by decide +kernel
theorem dX6_validPages_7 : decode cX6_validPages 7 = .ok (.ifCond .eq 13, 3) := by decide +kernel
theorem dX6_validPages_10 : decode cX6_validPages 10 = .ok (.aload_n 0, 1) := by decide +kernel
theorem dX6_validPages_11 : decode cX6_validPages 11 = .ok (.getfield 19, 3) := by decide +kernel
theorem dX6_validPages_14 : decode cX6_validPages 14 = .ok (.invokevirtual 261, 3) := by decide +kernel
theorem dX6_validPages_17 : decode cX6_validPages 17 = .ok (.goto 4, 3) := by decide +kernel
theorem dX6_validPages_20 : decode cX6_validPages 20 = .ok (.iconst 0, 1) := by decide +kernel
theorem dX6_validPages_21 : decode cX6_validPages 21 = .ok (.ireturn, 1) := by decide +kernel
theorem dX6_block_0 : decode cX6_block 0 = .ok (.aload_n 0, 1) := by decide +kernel
theorem dX6_block_1 : decode cX6_block 1 = .ok (.getfield 19, 3) := by decide +kernel
theorem dX6_block_4 : decode cX6_block 4 = .ok (.getfield 213, 3) := by decide +kernel
theorem dX6_block_7 : decode cX6_block 7 = .ok (.astore_n 3, 1) := by decide +kernel
theorem dX6_block_8 : decode cX6_block 8 = .ok (.aload_n 3, 1) := by decide +kernel
theorem dX6_block_9 : decode cX6_block 9 = .ok (.iload_n 1, 1) := by decide +kernel
theorem dX6_block_10 : decode cX6_block 10 = .ok (.invokevirtual 264, 3) := by decide +kernel
theorem dX6_block_13 : decode cX6_block 13 = .ok (.ifCond .ne 14, 3) := by decide +kernel
theorem dX6_block_16 : decode cX6_block 16 = .ok (.new 116, 3) := by decide +kernel
theorem dX6_block_19 : decode cX6_block 19 = .ok (.dup, 1) := by decide +kernel
theorem dX6_block_20 : decode cX6_block 20 = .ok (.ldc_w 267, 3) := by decide +kernel
theorem dX6_block_23 : decode cX6_block 23 = .ok (.invokespecial 120, 3) := by decide +kernel
theorem dX6_block_26 : decode cX6_block 26 = .ok (.athrow, 1) := by decide +kernel
theorem dX6_block_27 : decode cX6_block 27 = .ok (.iload_n 2, 1) := by decide +kernel
theorem dX6_block_28 : decode cX6_block 28 = .ok (.tableswitch 75 0 3 #[32, 39, 46, 69], 32) := by decide +kernel
theorem dX6_block_60 : decode cX6_block 60 = .ok (.aload_n 3, 1) := by decide +kernel
theorem dX6_block_61 : decode cX6_block 61 = .ok (.getfield 269, 3) := by decide +kernel
theorem dX6_block_64 : decode cX6_block 64 = .ok (.iload_n 1, 1) := by decide +kernel
theorem dX6_block_65 : decode cX6_block 65 = .ok (.iaload, 1) := by decide +kernel
theorem dX6_block_66 : decode cX6_block 66 = .ok (.ireturn, 1) := by decide +kernel
theorem dX6_block_67 : decode cX6_block 67 = .ok (.aload_n 3, 1) := by decide +kernel
theorem dX6_block_68 : decode cX6_block 68 = .ok (.getfield 272, 3) := by decide +kernel
theorem dX6_block_71 : decode cX6_block 71 = .ok (.iload_n 1, 1) := by decide +kernel
theorem dX6_block_72 : decode cX6_block 72 = .ok (.iaload, 1) := by decide +kernel
theorem dX6_block_73 : decode cX6_block 73 = .ok (.ireturn, 1) := by decide +kernel
theorem dX6_block_74 : decode cX6_block 74 = .ok (.aload_n 0, 1) := by decide +kernel
theorem dX6_block_75 : decode cX6_block 75 = .ok (.getfield 19, 3) := by decide +kernel
theorem dX6_block_78 : decode cX6_block 78 = .ok (.getfield 85, 3) := by decide +kernel
theorem dX6_block_81 : decode cX6_block 81 = .ok (.ifCond .eq 14, 3) := by decide +kernel
theorem dX6_block_84 : decode cX6_block 84 = .ok (.aload_n 0, 1) := by decide +kernel
theorem dX6_block_85 : decode cX6_block 85 = .ok (.getfield 19, 3) := by decide +kernel
theorem dX6_block_88 : decode cX6_block 88 = .ok (.iload_n 1, 1) := by decide +kernel
theorem dX6_block_89 : decode cX6_block 89 = .ok (.invokevirtual 275, 3) := by decide +kernel
theorem dX6_block_92 : decode cX6_block 92 = .ok (.goto 4, 3) := by decide +kernel
theorem dX6_block_95 : decode cX6_block 95 = .ok (.iconst 0, 1) := by decide +kernel
theorem dX6_block_96 : decode cX6_block 96 = .ok (.ireturn, 1) := by decide +kernel
theorem dX6_block_97 : decode cX6_block 97 = .ok (.aload_n 3, 1) := by decide +kernel
theorem dX6_block_98 : decode cX6_block 98 = .ok (.iload_n 1, 1) := by decide +kernel
theorem dX6_block_99 : decode cX6_block 99 = .ok (.invokevirtual 278, 3) := by decide +kernel
theorem dX6_block_102 : decode cX6_block 102 = .ok (.ireturn, 1) := by decide +kernel
theorem dX6_block_103 : decode cX6_block 103 = .ok (.new 38, 3) := by decide +kernel
theorem dX6_block_106 : decode cX6_block 106 = .ok (.dup, 1) := by decide +kernel
theorem dX6_block_107 : decode cX6_block 107 = .ok (.ldc_w 281, 3) := by decide +kernel
theorem dX6_block_110 : decode cX6_block 110 = .ok (.invokespecial 42, 3) := by decide +kernel
theorem dX6_block_113 : decode cX6_block 113 = .ok (.athrow, 1) := by decide +kernel
theorem dX6_flashPage_0 : decode cX6_flashPage 0 = .ok (.aload_n 0, 1) := by decide +kernel
theorem dX6_flashPage_1 : decode cX6_flashPage 1 = .ok (.getfield 19, 3) := by decide +kernel
theorem dX6_flashPage_4 : decode cX6_flashPage 4 = .ok (.getfield 213, 3) := by decide +kernel
theorem dX6_flashPage_7 : decode cX6_flashPage 7 = .ok (.astore_n 3, 1) := by decide +kernel
theorem dX6_flashPage_8 : decode cX6_flashPage 8 = .ok (.aload_n 3, 1) := by decide +kernel
theorem dX6_flashPage_9 : decode cX6_flashPage 9 = .ok (.iload_n 1, 1) := by decide +kernel
theorem dX6_flashPage_10 : decode cX6_flashPage 10 = .ok (.invokevirtual 283, 3) := by decide +kernel
theorem dX6_flashPage_13 : decode cX6_flashPage 13 = .ok (.ifCond .ne 14, 3) := by decide +kernel
theorem dX6_flashPage_16 : decode cX6_flashPage 16 = .ok (.new 116, 3) := by decide +kernel
theorem dX6_flashPage_19 : decode cX6_flashPage 19 = .ok (.dup, 1) := by decide +kernel
theorem dX6_flashPage_20 : decode cX6_flashPage 20 = .ok (.ldc_w 286, 3) := by decide +kernel
theorem dX6_flashPage_23 : decode cX6_flashPage 23 = .ok (.invokespecial 120, 3) := by decide +kernel
theorem dX6_flashPage_26 : decode cX6_flashPage 26 = .ok (.athrow, 1) := by decide +kernel
theorem dX6_flashPage_27 : decode cX6_flashPage 27 = .ok (.iload_n 2, 1) := by decide +kernel
theorem dX6_flashPage_28 : decode cX6_flashPage 28 = .ok (.tableswitch 82 0 5 #[40, 47, 54, 61, 68, 75], 40) := by decide +kernel
theorem dX6_flashPage_68 : decode cX6_flashPage 68 = .ok (.aload_n 3, 1) := by decide +kernel
theorem dX6_flashPage_69 : decode cX6_flashPage 69 = .ok (.getfield 288, 3) := by decide +kernel
theorem dX6_flashPage_72 : decode cX6_flashPage 72 = .ok (.iload_n 1, 1) := by decide +kernel
theorem dX6_flashPage_73 : decode cX6_flashPage 73 = .ok (.iaload, 1) := by decide +kernel
theorem dX6_flashPage_74 : decode cX6_flashPage 74 = .ok (.ireturn, 1) := by decide +kernel
theorem dX6_flashPage_75 : decode cX6_flashPage 75 = .ok (.aload_n 3, 1) := by decide +kernel
theorem dX6_flashPage_76 : decode cX6_flashPage 76 = .ok (.getfield 291, 3) := by decide +kernel
theorem dX6_flashPage_79 : decode cX6_flashPage 79 = .ok (.iload_n 1, 1) := by decide +kernel
theorem dX6_flashPage_80 : decode cX6_flashPage 80 = .ok (.iaload, 1) := by decide +kernel
theorem dX6_flashPage_81 : decode cX6_flashPage 81 = .ok (.ireturn, 1) := by decide +kernel
theorem dX6_flashPage_82 : decode cX6_flashPage 82 = .ok (.aload_n 3, 1) := by decide +kernel
theorem dX6_flashPage_83 : decode cX6_flashPage 83 = .ok (.getfield 294, 3) := by decide +kernel
theorem dX6_flashPage_86 : decode cX6_flashPage 86 = .ok (.iload_n 1, 1) := by decide +kernel
theorem dX6_flashPage_87 : decode cX6_flashPage 87 = .ok (.iaload, 1) := by decide +kernel
theorem dX6_flashPage_88 : decode cX6_flashPage 88 = .ok (.ireturn, 1) := by decide +kernel
theorem dX6_flashPage_89 : decode cX6_flashPage 89 = .ok (.aload_n 3, 1) := by decide +kernel
theorem dX6_flashPage_90 : decode cX6_flashPage 90 = .ok (.getfield 297, 3) := by decide +kernel
theorem dX6_flashPage_93 : decode cX6_flashPage 93 = .ok (.iload_n 1, 1) := by decide +kernel
theorem dX6_flashPage_94 : decode cX6_flashPage 94 = .ok (.iaload, 1) := by decide +kernel
theorem dX6_flashPage_95 : decode cX6_flashPage 95 = .ok (.ireturn, 1) := by decide +kernel
theorem dX6_flashPage_96 : decode cX6_flashPage 96 = .ok (.aload_n 3, 1) := by decide +kernel
theorem dX6_flashPage_97 : decode cX6_flashPage 97 = .ok (.getfield 300, 3) := by decide +kernel
theorem dX6_flashPage_100 : decode cX6_flashPage 100 = .ok (.iload_n 1, 1) := by decide +kernel
theorem dX6_flashPage_101 : decode cX6_flashPage 101 = .ok (.iaload, 1) := by decide +kernel
theorem dX6_flashPage_102 : decode cX6_flashPage 102 = .ok (.ireturn, 1) := by decide +kernel
theorem dX6_flashPage_103 : decode cX6_flashPage 103 = .ok (.aload_n 3, 1) := by decide +kernel
theorem dX6_flashPage_104 : decode cX6_flashPage 104 = .ok (.getfield 303, 3) := by decide +kernel
theorem dX6_flashPage_107 : decode cX6_flashPage 107 = .ok (.iload_n 1, 1) := by decide +kernel
theorem dX6_flashPage_108 : decode cX6_flashPage 108 = .ok (.iaload, 1) := by decide +kernel
theorem dX6_flashPage_109 : decode cX6_flashPage 109 = .ok (.ireturn, 1) := by decide +kernel
theorem dX6_flashPage_110 : decode cX6_flashPage 110 = .ok (.new 38, 3) := by decide +kernel
theorem dX6_flashPage_113 : decode cX6_flashPage 113 = .ok (.dup, 1) := by decide +kernel
theorem dX6_flashPage_114 : decode cX6_flashPage 114 = .ok (.ldc_w 281, 3) := by decide +kernel
theorem dX6_flashPage_117 : decode cX6_flashPage 117 = .ok (.invokespecial 42, 3) := by decide +kernel
theorem dX6_flashPage_120 : decode cX6_flashPage 120 = .ok (.athrow, 1) := by decide +kernel
theorem dX6_isValid_0 : decode cX6_isValid 0 = .ok (.aload_n 0, 1) := by decide +kernel
theorem dX6_isValid_1 : decode cX6_isValid 1 = .ok (.getfield 19, 3) := by decide +kernel
theorem dX6_isValid_4 : decode cX6_isValid 4 = .ok (.getfield 213, 3) := by decide +kernel
theorem dX6_isValid_7 : decode cX6_isValid 7 = .ok (.iload_n 1, 1) := by decide +kernel
theorem dX6_isValid_8 : decode cX6_isValid 8 = .ok (.invokevirtual 283, 3) := by decide +kernel
theorem dX6_isValid_11 : decode cX6_isValid 11 = .ok (.ifCond .ne 14, 3) := by decide +kernel
theorem dX6_isValid_14 : decode cX6_isValid 14 = .ok (.new 116, 3) := by decide +kernel
theorem dX6_isValid_17 : decode cX6_isValid 17 = .ok (.dup, 1) := by decide +kernel
theorem dX6_isValid_18 : decode cX6_isValid 18 = .ok (.ldc_w 286, 3) := by decide +kernel
theorem dX6_isValid_21 : decode cX6_isValid 21 = .ok (.invokespecial 120, 3) := by decide +kernel
theorem dX6_isValid_24 : decode cX6_isValid 24 = .ok (.athrow, 1) := by decide +kernel
theorem dX6_isValid_25 : decode cX6_isValid 25 = .ok (.aload_n 0, 1) := by decide +kernel
theorem dX6_isValid_26 : decode cX6_isValid 26 = .ok (.getfield 19, 3) := by decide +kernel
theorem dX6_isValid_29 : decode cX6_isValid 29 = .ok (.getfield 85, 3) := by decide +kernel
theorem dX6_isValid_32 : decode cX6_isValid 32 = .ok (.ifCond .eq 18, 3) := by decide +kernel
theorem dX6_isValid_35 : decode cX6_isValid 35 = .ok (.aload_n 0, 1) := by decide +kernel
theorem dX6_isValid_36 : decode cX6_isValid 36 = .ok (.getfield 19, 3) := by decide +kernel
theorem dX6_isValid_39 : decode cX6_isValid 39 = .ok (.iload_n 1, 1) := by decide +kernel
theorem dX6_isValid_40 : decode cX6_isValid 40 = .ok (.invokevirtual 306, 3) := by decide +kernel
theorem dX6_isValid_43 : decode cX6_isValid 43 = .ok (.ifCond .eq 7, 3) := by decide +kernel
theorem dX6_isValid_46 : decode cX6_isValid 46 = .ok (.iconst 1, 1) := by decide +kernel
theorem dX6_isValid_47 : decode cX6_isValid 47 = .ok (.goto 4, 3) := by decide +kernel
theorem dX6_isValid_50 : decode cX6_isValid 50 = .ok (.iconst 0, 1) := by decide +kernel
theorem dX6_isValid_51 : decode cX6_isValid 51 = .ok (.ireturn, 1) := by decide +kernel
theorem dX6_programs_0 : decode cX6_programs 0 = .ok (.aload_n 0, 1) := by decide +kernel
theorem dX6_programs_1 : decode cX6_programs 1 = .ok (.getfield 19, 3) := by decide +kernel
theorem dX6_programs_4 : decode cX6_programs 4 = .ok (.getfield 213, 3) := by decide +kernel
theorem dX6_programs_7 : decode cX6_programs 7 = .ok (.getfield 309, 3) := by decide +kernel
theorem dX6_programs_10 : decode cX6_programs 10 = .ok (.ireturn, 1) := by decide +kernel
theorem dX6_erases_0 : decode cX6_erases 0 = .ok (.aload_n 0, 1) := by decide +kernel
theorem dX6_erases_1 : decode cX6_erases 1 = .ok (.getfield 19, 3) := by decide +kernel
theorem dX6_erases_4 : decode cX6_erases 4 = .ok (.getfield 213, 3) := by decide +kernel
theorem dX6_erases_7 : decode cX6_erases 7 = .ok (.getfield 312, 3) := by decide +kernel
theorem dX6_erases_10 : decode cX6_erases 10 = .ok (.ireturn, 1) := by decide +kernel
theorem dX6_copies_0 : decode cX6_copies 0 = .ok (.aload_n 0, 1) := by decide +kernel
theorem dX6_copies_1 : decode cX6_copies 1 = .ok (.getfield 19, 3) := by decide +kernel
theorem dX6_copies_4 : decode cX6_copies 4 = .ok (.getfield 213, 3) := by decide +kernel
theorem dX6_copies_7 : decode cX6_copies 7 = .ok (.getfield 315, 3) := by decide +kernel
theorem dX6_copies_10 : decode cX6_copies 10 = .ok (.ireturn, 1) := by decide +kernel
theorem dX6_writes_0 : decode cX6_writes 0 = .ok (.aload_n 0, 1) := by decide +kernel
theorem dX6_writes_1 : decode cX6_writes 1 = .ok (.getfield 19, 3) := by decide +kernel
theorem dX6_writes_4 : decode cX6_writes 4 = .ok (.getfield 318, 3) := by decide +kernel
theorem dX6_writes_7 : decode cX6_writes 7 = .ok (.ireturn, 1) := by decide +kernel
theorem dX6_wearGap_0 : decode cX6_wearGap 0 = .ok (.aload_n 0, 1) := by decide +kernel
theorem dX6_wearGap_1 : decode cX6_wearGap 1 = .ok (.getfield 19, 3) := by decide +kernel
theorem dX6_wearGap_4 : decode cX6_wearGap 4 = .ok (.getfield 213, 3) := by decide +kernel
theorem dX6_wearGap_7 : decode cX6_wearGap 7 = .ok (.invokevirtual 321, 3) := by decide +kernel
theorem dX6_wearGap_10 : decode cX6_wearGap 10 = .ok (.ireturn, 1) := by decide +kernel
theorem dX6_lastCheckpoint_0 : decode cX6_lastCheckpoint 0 = .ok (.aload_n 0, 1) := by decide +kernel
theorem dX6_lastCheckpoint_1 : decode cX6_lastCheckpoint 1 = .ok (.getfield 19, 3) := by decide +kernel
theorem dX6_lastCheckpoint_4 : decode cX6_lastCheckpoint 4 = .ok (.getfield 208, 3) := by decide +kernel
theorem dX6_lastCheckpoint_7 : decode cX6_lastCheckpoint 7 = .ok (.ireturn, 1) := by decide +kernel
theorem dX6_commits_0 : decode cX6_commits 0 = .ok (.aload_n 0, 1) := by decide +kernel
theorem dX6_commits_1 : decode cX6_commits 1 = .ok (.getfield 19, 3) := by decide +kernel
theorem dX6_commits_4 : decode cX6_commits 4 = .ok (.getfield 324, 3) := by decide +kernel
theorem dX6_commits_7 : decode cX6_commits 7 = .ok (.ireturn, 1) := by decide +kernel
theorem dX6_losses_0 : decode cX6_losses 0 = .ok (.aload_n 0, 1) := by decide +kernel
theorem dX6_losses_1 : decode cX6_losses 1 = .ok (.getfield 19, 3) := by decide +kernel
theorem dX6_losses_4 : decode cX6_losses 4 = .ok (.getfield 327, 3) := by decide +kernel
theorem dX6_losses_7 : decode cX6_losses 7 = .ok (.ireturn, 1) := by decide +kernel
theorem dX6_victim_0 : decode cX6_victim 0 = .ok (.aload_n 0, 1) := by decide +kernel
theorem dX6_victim_1 : decode cX6_victim 1 = .ok (.getfield 19, 3) := by decide +kernel
theorem dX6_victim_4 : decode cX6_victim 4 = .ok (.getfield 85, 3) := by decide +kernel
theorem dX6_victim_7 : decode cX6_victim 7 = .ok (.ifCond .eq 13, 3) := by decide +kernel
theorem dX6_victim_10 : decode cX6_victim 10 = .ok (.aload_n 0, 1) := by decide +kernel
theorem dX6_victim_11 : decode cX6_victim 11 = .ok (.getfield 19, 3) := by decide +kernel
theorem dX6_victim_14 : decode cX6_victim 14 = .ok (.invokevirtual 330, 3) := by decide +kernel
theorem dX6_victim_17 : decode cX6_victim 17 = .ok (.goto 4, 3) := by decide +kernel
theorem dX6_victim_20 : decode cX6_victim 20 = .ok (.iconst (-1), 1) := by decide +kernel
theorem dX6_victim_21 : decode cX6_victim 21 = .ok (.ireturn, 1) := by decide +kernel
theorem dX6_isNoneOrKnown_0 : decode cX6_isNoneOrKnown 0 = .ok (.iload_n 1, 1) := by decide +kernel
theorem dX6_isNoneOrKnown_1 : decode cX6_isNoneOrKnown 1 = .ok (.ifCond .eq 17, 3) := by decide +kernel
theorem dX6_isNoneOrKnown_4 : decode cX6_isNoneOrKnown 4 = .ok (.aload_n 0, 1) := by decide +kernel
theorem dX6_isNoneOrKnown_5 : decode cX6_isNoneOrKnown 5 = .ok (.getfield 19, 3) := by decide +kernel
theorem dX6_isNoneOrKnown_8 : decode cX6_isNoneOrKnown 8 = .ok (.getfield 81, 3) := by decide +kernel
theorem dX6_isNoneOrKnown_11 : decode cX6_isNoneOrKnown 11 = .ok (.iload_n 1, 1) := by decide +kernel
theorem dX6_isNoneOrKnown_12 : decode cX6_isNoneOrKnown 12 = .ok (.invokevirtual 155, 3) := by decide +kernel
theorem dX6_isNoneOrKnown_15 : decode cX6_isNoneOrKnown 15 = .ok (.ifCond .eq 7, 3) := by decide +kernel
theorem dX6_isNoneOrKnown_18 : decode cX6_isNoneOrKnown 18 = .ok (.iconst 1, 1) := by decide +kernel
theorem dX6_isNoneOrKnown_19 : decode cX6_isNoneOrKnown 19 = .ok (.goto 4, 3) := by decide +kernel
theorem dX6_isNoneOrKnown_22 : decode cX6_isNoneOrKnown 22 = .ok (.iconst 0, 1) := by decide +kernel
theorem dX6_isNoneOrKnown_23 : decode cX6_isNoneOrKnown 23 = .ok (.ireturn, 1) := by decide +kernel
theorem dX6_isNoneOrOpen_0 : decode cX6_isNoneOrOpen 0 = .ok (.iload_n 1, 1) := by decide +kernel
theorem dX6_isNoneOrOpen_1 : decode cX6_isNoneOrOpen 1 = .ok (.ifCond .eq 17, 3) := by decide +kernel
theorem dX6_isNoneOrOpen_4 : decode cX6_isNoneOrOpen 4 = .ok (.aload_n 0, 1) := by decide +kernel
theorem dX6_isNoneOrOpen_5 : decode cX6_isNoneOrOpen 5 = .ok (.getfield 19, 3) := by decide +kernel
theorem dX6_isNoneOrOpen_8 : decode cX6_isNoneOrOpen 8 = .ok (.getfield 81, 3) := by decide +kernel
theorem dX6_isNoneOrOpen_11 : decode cX6_isNoneOrOpen 11 = .ok (.iload_n 1, 1) := by decide +kernel
theorem dX6_isNoneOrOpen_12 : decode cX6_isNoneOrOpen 12 = .ok (.invokevirtual 160, 3) := by decide +kernel
theorem dX6_isNoneOrOpen_15 : decode cX6_isNoneOrOpen 15 = .ok (.ifCond .eq 7, 3) := by decide +kernel
theorem dX6_isNoneOrOpen_18 : decode cX6_isNoneOrOpen 18 = .ok (.iconst 1, 1) := by decide +kernel
theorem dX6_isNoneOrOpen_19 : decode cX6_isNoneOrOpen 19 = .ok (.goto 4, 3) := by decide +kernel
theorem dX6_isNoneOrOpen_22 : decode cX6_isNoneOrOpen 22 = .ok (.iconst 0, 1) := by decide +kernel
theorem dX6_isNoneOrOpen_23 : decode cX6_isNoneOrOpen 23 = .ok (.ireturn, 1) := by decide +kernel
theorem dX7_init_0 : decode cX7_init 0 = .ok (.aload_n 0, 1) := by decide +kernel
theorem dX7_init_1 : decode cX7_init 1 = .ok (.invokespecial 1, 3) := by decide +kernel
theorem dX7_init_4 : decode cX7_init 4 = .ok (.aload_n 0, 1) := by decide +kernel
theorem dX7_init_5 : decode cX7_init 5 = .ok (.bipush 64, 2) := by decide +kernel
theorem dX7_init_7 : decode cX7_init 7 = .ok (.newarray .int, 2) := by decide +kernel
theorem dX7_init_9 : decode cX7_init 9 = .ok (.putfield 7, 3) := by decide +kernel
theorem dX7_init_12 : decode cX7_init 12 = .ok (.aload_n 0, 1) := by decide +kernel
theorem dX7_init_13 : decode cX7_init 13 = .ok (.sipush 1024, 3) := by decide +kernel
theorem dX7_init_16 : decode cX7_init 16 = .ok (.newarray .int, 2) := by decide +kernel
theorem dX7_init_18 : decode cX7_init 18 = .ok (.putfield 13, 3) := by decide +kernel
theorem dX7_init_21 : decode cX7_init 21 = .ok (.aload_n 0, 1) := by decide +kernel
theorem dX7_init_22 : decode cX7_init 22 = .ok (.sipush 1024, 3) := by decide +kernel
theorem dX7_init_25 : decode cX7_init 25 = .ok (.newarray .int, 2) := by decide +kernel
theorem dX7_init_27 : decode cX7_init 27 = .ok (.putfield 16, 3) := by decide +kernel
theorem dX7_init_30 : decode cX7_init 30 = .ok (.aload_n 0, 1) := by decide +kernel
theorem dX7_init_31 : decode cX7_init 31 = .ok (.sipush 1024, 3) := by decide +kernel
theorem dX7_init_34 : decode cX7_init 34 = .ok (.newarray .int, 2) := by decide +kernel
theorem dX7_init_36 : decode cX7_init 36 = .ok (.putfield 19, 3) := by decide +kernel
theorem dX7_init_39 : decode cX7_init 39 = .ok (.aload_n 0, 1) := by decide +kernel
theorem dX7_init_40 : decode cX7_init 40 = .ok (.sipush 1024, 3) := by decide +kernel
theorem dX7_init_43 : decode cX7_init 43 = .ok (.newarray .int, 2) := by decide +kernel
theorem dX7_init_45 : decode cX7_init 45 = .ok (.putfield 22, 3) := by decide +kernel
theorem dX7_init_48 : decode cX7_init 48 = .ok (.aload_n 0, 1) := by decide +kernel
theorem dX7_init_49 : decode cX7_init 49 = .ok (.sipush 1024, 3) := by decide +kernel
theorem dX7_init_52 : decode cX7_init 52 = .ok (.newarray .int, 2) := by decide +kernel
theorem dX7_init_54 : decode cX7_init 54 = .ok (.putfield 25, 3) := by decide +kernel
theorem dX7_init_57 : decode cX7_init 57 = .ok (.aload_n 0, 1) := by decide +kernel
theorem dX7_init_58 : decode cX7_init 58 = .ok (.sipush 1024, 3) := by decide +kernel
theorem dX7_init_61 : decode cX7_init 61 = .ok (.newarray .int, 2) := by decide +kernel
theorem dX7_init_63 : decode cX7_init 63 = .ok (.putfield 28, 3) := by decide +kernel
theorem dX7_init_66 : decode cX7_init 66 = .ok (.aload_n 0, 1) := by decide +kernel
theorem dX7_init_67 : decode cX7_init 67 = .ok (.sipush 8192, 3) := by decide +kernel
theorem dX7_init_70 : decode cX7_init 70 = .ok (.newarray .int, 2) := by decide +kernel
theorem dX7_init_72 : decode cX7_init 72 = .ok (.putfield 31, 3) := by decide +kernel
theorem dX7_init_75 : decode cX7_init 75 = .ok (.aload_n 0, 1) := by decide +kernel
theorem dX7_init_76 : decode cX7_init 76 = .ok (.bipush 32, 2) := by decide +kernel
theorem dX7_init_78 : decode cX7_init 78 = .ok (.newarray .int, 2) := by decide +kernel
theorem dX7_init_80 : decode cX7_init 80 = .ok (.putfield 34, 3) := by decide +kernel
theorem dX7_init_83 : decode cX7_init 83 = .ok (.aload_n 0, 1) := by decide +kernel
theorem dX7_init_84 : decode cX7_init 84 = .ok (.bipush 64, 2) := by decide +kernel
theorem dX7_init_86 : decode cX7_init 86 = .ok (.newarray .int, 2) := by decide +kernel
theorem dX7_init_88 : decode cX7_init 88 = .ok (.putfield 37, 3) := by decide +kernel
theorem dX7_init_91 : decode cX7_init 91 = .ok (.aload_n 0, 1) := by decide +kernel
theorem dX7_init_92 : decode cX7_init 92 = .ok (.bipush 64, 2) := by decide +kernel
theorem dX7_init_94 : decode cX7_init 94 = .ok (.newarray .int, 2) := by decide +kernel
theorem dX7_init_96 : decode cX7_init 96 = .ok (.putfield 40, 3) := by decide +kernel
theorem dX7_init_99 : decode cX7_init 99 = .ok (.aload_n 0, 1) := by decide +kernel
theorem dX7_init_100 : decode cX7_init 100 = .ok (.bipush 64, 2) := by decide +kernel
theorem dX7_init_102 : decode cX7_init 102 = .ok (.newarray .int, 2) := by decide +kernel
theorem dX7_init_104 : decode cX7_init 104 = .ok (.putfield 43, 3) := by decide +kernel
theorem dX7_init_107 : decode cX7_init 107 = .ok (.aload_n 0, 1) := by decide +kernel
theorem dX7_init_108 : decode cX7_init 108 = .ok (.sipush 256, 3) := by decide +kernel
theorem dX7_init_111 : decode cX7_init 111 = .ok (.newarray .int, 2) := by decide +kernel
theorem dX7_init_113 : decode cX7_init 113 = .ok (.putfield 46, 3) := by decide +kernel
theorem dX7_init_116 : decode cX7_init 116 = .ok (.aload_n 0, 1) := by decide +kernel
theorem dX7_init_117 : decode cX7_init 117 = .ok (.iconst 4, 1) := by decide +kernel
theorem dX7_init_118 : decode cX7_init 118 = .ok (.newarray .boolean, 2) := by decide +kernel
theorem dX7_init_120 : decode cX7_init 120 = .ok (.putfield 49, 3) := by decide +kernel
theorem dX7_init_123 : decode cX7_init 123 = .ok (.aload_n 0, 1) := by decide +kernel
theorem dX7_init_124 : decode cX7_init 124 = .ok (.iconst (-1), 1) := by decide +kernel
theorem dX7_init_125 : decode cX7_init 125 = .ok (.putfield 53, 3) := by decide +kernel
theorem dX7_init_128 : decode cX7_init 128 = .ok (.aload_n 0, 1) := by decide +kernel
theorem dX7_init_129 : decode cX7_init 129 = .ok (.sipush 1001, 3) := by decide +kernel
theorem dX7_init_132 : decode cX7_init 132 = .ok (.newarray .int, 2) := by decide +kernel
theorem dX7_init_134 : decode cX7_init 134 = .ok (.putfield 57, 3) := by decide +kernel
theorem dX7_init_137 : decode cX7_init 137 = .ok (.aload_n 0, 1) := by decide +kernel
theorem dX7_init_138 : decode cX7_init 138 = .ok (.sipush 600, 3) := by decide +kernel
theorem dX7_init_141 : decode cX7_init 141 = .ok (.newarray .int, 2) := by decide +kernel
theorem dX7_init_143 : decode cX7_init 143 = .ok (.putfield 60, 3) := by decide +kernel
theorem dX7_init_146 : decode cX7_init 146 = .ok (.aload_n 0, 1) := by decide +kernel
theorem dX7_init_147 : decode cX7_init 147 = .ok (.iconst (-1), 1) := by decide +kernel
theorem dX7_init_148 : decode cX7_init 148 = .ok (.putfield 63, 3) := by decide +kernel
theorem dX7_init_151 : decode cX7_init 151 = .ok (.aload_n 0, 1) := by decide +kernel
theorem dX7_init_152 : decode cX7_init 152 = .ok (.bipush 64, 2) := by decide +kernel
theorem dX7_init_154 : decode cX7_init 154 = .ok (.newarray .int, 2) := by decide +kernel
theorem dX7_init_156 : decode cX7_init 156 = .ok (.putfield 66, 3) := by decide +kernel
theorem dX7_init_159 : decode cX7_init 159 = .ok (.return_, 1) := by decide +kernel
theorem dX7_thrown_0 : decode cX7_thrown 0 = .ok (.aload_n 0, 1) := by decide +kernel
theorem dX7_thrown_1 : decode cX7_thrown 1 = .ok (.getfield 69, 3) := by decide +kernel
theorem dX7_thrown_4 : decode cX7_thrown 4 = .ok (.ireturn, 1) := by decide +kernel
theorem dX7_refuse_0 : decode cX7_refuse 0 = .ok (.aload_n 0, 1) := by decide +kernel
theorem dX7_refuse_1 : decode cX7_refuse 1 = .ok (.iload_n 1, 1) := by decide +kernel
theorem dX7_refuse_2 : decode cX7_refuse 2 = .ok (.putfield 69, 3) := by decide +kernel
theorem dX7_refuse_5 : decode cX7_refuse 5 = .ok (.iconst 0, 1) := by decide +kernel
theorem dX7_refuse_6 : decode cX7_refuse 6 = .ok (.ireturn, 1) := by decide +kernel
theorem dX7_told_0 : decode cX7_told 0 = .ok (.aload_n 0, 1) := by decide +kernel
theorem dX7_told_1 : decode cX7_told 1 = .ok (.iconst 0, 1) := by decide +kernel
theorem dX7_told_2 : decode cX7_told 2 = .ok (.putfield 69, 3) := by decide +kernel
theorem dX7_told_5 : decode cX7_told 5 = .ok (.iload_n 1, 1) := by decide +kernel
theorem dX7_told_6 : decode cX7_told 6 = .ok (.ireturn, 1) := by decide +kernel
theorem dX7_in_0 : decode cX7_in 0 = .ok (.iload_n 0, 1) := by decide +kernel
theorem dX7_in_1 : decode cX7_in 1 = .ok (.iload_n 1, 1) := by decide +kernel
theorem dX7_in_2 : decode cX7_in 2 = .ok (.if_icmp .lt 12, 3) := by decide +kernel
theorem dX7_in_5 : decode cX7_in 5 = .ok (.iload_n 0, 1) := by decide +kernel
theorem dX7_in_6 : decode cX7_in 6 = .ok (.iload_n 2, 1) := by decide +kernel
theorem dX7_in_7 : decode cX7_in 7 = .ok (.if_icmp .gt 7, 3) := by decide +kernel
theorem dX7_in_10 : decode cX7_in 10 = .ok (.iconst 1, 1) := by decide +kernel
theorem dX7_in_11 : decode cX7_in 11 = .ok (.goto 4, 3) := by decide +kernel
theorem dX7_in_14 : decode cX7_in 14 = .ok (.iconst 0, 1) := by decide +kernel
theorem dX7_in_15 : decode cX7_in 15 = .ok (.ireturn, 1) := by decide +kernel
theorem dX7_partsOf_0 : decode cX7_partsOf 0 = .ok (.iload_n 0, 1) := by decide +kernel
theorem dX7_partsOf_1 : decode cX7_partsOf 1 = .ok (.bipush 8, 2) := by decide +kernel
theorem dX7_partsOf_3 : decode cX7_partsOf 3 = .ok (.iadd, 1) := by decide +kernel
theorem dX7_partsOf_4 : decode cX7_partsOf 4 = .ok (.iconst 1, 1) := by decide +kernel
theorem dX7_partsOf_5 : decode cX7_partsOf 5 = .ok (.isub, 1) := by decide +kernel
theorem dX7_partsOf_6 : decode cX7_partsOf 6 = .ok (.bipush 8, 2) := by decide +kernel
theorem dX7_partsOf_8 : decode cX7_partsOf 8 = .ok (.idiv, 1) := by decide +kernel
theorem dX7_partsOf_9 : decode cX7_partsOf 9 = .ok (.ireturn, 1) := by decide +kernel
theorem dX7_parts_0 : decode cX7_parts 0 = .ok (.aload_n 0, 1) := by decide +kernel
theorem dX7_parts_1 : decode cX7_parts 1 = .ok (.getfield 72, 3) := by decide +kernel
theorem dX7_parts_4 : decode cX7_parts 4 = .ok (.invokestatic 75, 3) := by decide +kernel
theorem dX7_parts_7 : decode cX7_parts 7 = .ok (.ireturn, 1) := by decide +kernel
theorem dX7_flashSize_0 : decode cX7_flashSize 0 = .ok (.aload_n 0, 1) := by decide +kernel
theorem dX7_flashSize_1 : decode cX7_flashSize 1 = .ok (.getfield 79, 3) := by decide +kernel
theorem dX7_flashSize_4 : decode cX7_flashSize 4 = .ok (.aload_n 0, 1) := by decide +kernel
theorem dX7_flashSize_5 : decode cX7_flashSize 5 = .ok (.getfield 82, 3) := by decide +kernel
theorem dX7_flashSize_8 : decode cX7_flashSize 8 = .ok (.imul, 1) := by decide +kernel
theorem dX7_flashSize_9 : decode cX7_flashSize 9 = .ok (.ireturn, 1) := by decide +kernel
theorem dX7_isLogical_0 : decode cX7_isLogical 0 = .ok (.iload_n 1, 1) := by decide +kernel
theorem dX7_isLogical_1 : decode cX7_isLogical 1 = .ok (.iconst 0, 1) := by decide +kernel
theorem dX7_isLogical_2 : decode cX7_isLogical 2 = .ok (.aload_n 0, 1) := by decide +kernel
theorem dX7_isLogical_3 : decode cX7_isLogical 3 = .ok (.getfield 72, 3) := by decide +kernel
theorem dX7_isLogical_6 : decode cX7_isLogical 6 = .ok (.iconst 1, 1) := by decide +kernel
theorem dX7_isLogical_7 : decode cX7_isLogical 7 = .ok (.isub, 1) := by decide +kernel
theorem dX7_isLogical_8 : decode cX7_isLogical 8 = .ok (.invokestatic 85, 3) := by decide +kernel
theorem dX7_isLogical_11 : decode cX7_isLogical 11 = .ok (.ireturn, 1) := by decide +kernel
theorem dX7_isBlock_0 : decode cX7_isBlock 0 = .ok (.iload_n 1, 1) := by decide +kernel
theorem dX7_isBlock_1 : decode cX7_isBlock 1 = .ok (.iconst 0, 1) := by decide +kernel
theorem dX7_isBlock_2 : decode cX7_isBlock 2 = .ok (.aload_n 0, 1) := by decide +kernel
theorem dX7_isBlock_3 : decode cX7_isBlock 3 = .ok (.getfield 79, 3) := by decide +kernel
theorem dX7_isBlock_6 : decode cX7_isBlock 6 = .ok (.iconst 1, 1) := by decide +kernel
theorem dX7_isBlock_7 : decode cX7_isBlock 7 = .ok (.isub, 1) := by decide +kernel
theorem dX7_isBlock_8 : decode cX7_isBlock 8 = .ok (.invokestatic 85, 3) := by decide +kernel
theorem dX7_isBlock_11 : decode cX7_isBlock 11 = .ok (.ireturn, 1) := by decide +kernel
theorem dX7_forgets_0 : decode cX7_forgets 0 = .ok (.iconst 0, 1) := by decide +kernel
theorem dX7_forgets_1 : decode cX7_forgets 1 = .ok (.istore_n 1, 1) := by decide +kernel
theorem dX7_forgets_2 : decode cX7_forgets 2 = .ok (.iload_n 1, 1) := by decide +kernel
theorem dX7_forgets_3 : decode cX7_forgets 3 = .ok (.bipush 64, 2) := by decide +kernel
theorem dX7_forgets_5 : decode cX7_forgets 5 = .ok (.if_icmp .ge 30, 3) := by decide +kernel
theorem dX7_forgets_8 : decode cX7_forgets 8 = .ok (.aload_n 0, 1) := by decide +kernel
theorem dX7_forgets_9 : decode cX7_forgets 9 = .ok (.getfield 37, 3) := by decide +kernel
theorem dX7_forgets_12 : decode cX7_forgets 12 = .ok (.iload_n 1, 1) := by decide +kernel
theorem dX7_forgets_13 : decode cX7_forgets 13 = .ok (.iconst 0, 1) := by decide +kernel
theorem dX7_forgets_14 : decode cX7_forgets 14 = .ok (.iastore, 1) := by decide +kernel
theorem dX7_forgets_15 : decode cX7_forgets 15 = .ok (.aload_n 0, 1) := by decide +kernel
theorem dX7_forgets_16 : decode cX7_forgets 16 = .ok (.getfield 40, 3) := by decide +kernel
theorem dX7_forgets_19 : decode cX7_forgets 19 = .ok (.iload_n 1, 1) := by decide +kernel
theorem dX7_forgets_20 : decode cX7_forgets 20 = .ok (.iconst 0, 1) := by decide +kernel
theorem dX7_forgets_21 : decode cX7_forgets 21 = .ok (.iastore, 1) := by decide +kernel
theorem dX7_forgets_22 : decode cX7_forgets 22 = .ok (.aload_n 0, 1) := by decide +kernel
theorem dX7_forgets_23 : decode cX7_forgets 23 = .ok (.getfield 43, 3) := by decide +kernel
theorem dX7_forgets_26 : decode cX7_forgets 26 = .ok (.iload_n 1, 1) := by decide +kernel
theorem dX7_forgets_27 : decode cX7_forgets 27 = .ok (.iconst 0, 1) := by decide +kernel
theorem dX7_forgets_28 : decode cX7_forgets 28 = .ok (.iastore, 1) := by decide +kernel
theorem dX7_forgets_29 : decode cX7_forgets 29 = .ok (.iinc 1 1, 3) := by decide +kernel
theorem dX7_forgets_32 : decode cX7_forgets 32 = .ok (.goto (-30), 3) := by decide +kernel
theorem dX7_forgets_35 : decode cX7_forgets 35 = .ok (.iconst 0, 1) := by decide +kernel
theorem dX7_forgets_36 : decode cX7_forgets 36 = .ok (.istore_n 1, 1) := by decide +kernel
theorem dX7_forgets_37 : decode cX7_forgets 37 = .ok (.iload_n 1, 1) := by decide +kernel
theorem dX7_forgets_38 : decode cX7_forgets 38 = .ok (.iconst 4, 1) := by decide +kernel
theorem dX7_forgets_39 : decode cX7_forgets 39 = .ok (.if_icmp .ge 16, 3) := by decide +kernel
theorem dX7_forgets_42 : decode cX7_forgets 42 = .ok (.aload_n 0, 1) := by decide +kernel
theorem dX7_forgets_43 : decode cX7_forgets 43 = .ok (.getfield 49, 3) := by decide +kernel
theorem dX7_forgets_46 : decode cX7_forgets 46 = .ok (.iload_n 1, 1) := by decide +kernel
theorem dX7_forgets_47 : decode cX7_forgets 47 = .ok (.iconst 0, 1) := by decide +kernel
theorem dX7_forgets_48 : decode cX7_forgets 48 = .ok (.bastore, 1) := by decide +kernel
theorem dX7_forgets_49 : decode cX7_forgets 49 = .ok (.iinc 1 1, 3) := by decide +kernel
theorem dX7_forgets_52 : decode cX7_forgets 52 = .ok (.goto (-15), 3) := by decide +kernel
theorem dX7_forgets_55 : decode cX7_forgets 55 = .ok (.aload_n 0, 1) := by decide +kernel
theorem dX7_forgets_56 : decode cX7_forgets 56 = .ok (.iconst (-1), 1) := by decide +kernel
theorem dX7_forgets_57 : decode cX7_forgets 57 = .ok (.putfield 53, 3) := by decide +kernel
theorem dX7_forgets_60 : decode cX7_forgets 60 = .ok (.aload_n 0, 1) := by decide +kernel
theorem dX7_forgets_61 : decode cX7_forgets 61 = .ok (.iconst 0, 1) := by decide +kernel
theorem dX7_forgets_62 : decode cX7_forgets 62 = .ok (.putfield 89, 3) := by decide +kernel
theorem dX7_forgets_65 : decode cX7_forgets 65 = .ok (.aload_n 0, 1) := by decide +kernel
theorem dX7_forgets_66 : decode cX7_forgets 66 = .ok (.iconst 0, 1) := by decide +kernel
theorem dX7_forgets_67 : decode cX7_forgets 67 = .ok (.putfield 92, 3) := by decide +kernel
theorem dX7_forgets_70 : decode cX7_forgets 70 = .ok (.aload_n 0, 1) := by decide +kernel
theorem dX7_forgets_71 : decode cX7_forgets 71 = .ok (.iconst 0, 1) := by decide +kernel
theorem dX7_forgets_72 : decode cX7_forgets 72 = .ok (.putfield 95, 3) := by decide +kernel
theorem dX7_forgets_75 : decode cX7_forgets 75 = .ok (.aload_n 0, 1) := by decide +kernel
theorem dX7_forgets_76 : decode cX7_forgets 76 = .ok (.iconst 0, 1) := by decide +kernel
theorem dX7_forgets_77 : decode cX7_forgets 77 = .ok (.putfield 98, 3) := by decide +kernel
theorem dX7_forgets_80 : decode cX7_forgets 80 = .ok (.return_, 1) := by decide +kernel
theorem dX7_losesPower_0 : decode cX7_losesPower 0 = .ok (.aload_n 0, 1) := by decide +kernel
theorem dX7_losesPower_1 : decode cX7_losesPower 1 = .ok (.invokevirtual 101, 3) := by decide +kernel
theorem dX7_losesPower_4 : decode cX7_losesPower 4 = .ok (.aload_n 0, 1) := by decide +kernel
theorem dX7_losesPower_5 : decode cX7_losesPower 5 = .ok (.iconst 0, 1) := by decide +kernel
theorem dX7_losesPower_6 : decode cX7_losesPower 6 = .ok (.putfield 104, 3) := by decide +kernel
theorem dX7_losesPower_9 : decode cX7_losesPower 9 = .ok (.aload_n 0, 1) := by decide +kernel
theorem dX7_losesPower_10 : decode cX7_losesPower 10 = .ok (.aload_n 0, 1) := by decide +kernel
theorem dX7_losesPower_11 : decode cX7_losesPower 11 = .ok (.getfield 108, 3) := by decide +kernel
theorem dX7_losesPower_14 : decode cX7_losesPower 14 = .ok (.iconst 1, 1) := by decide +kernel
theorem dX7_losesPower_15 : decode cX7_losesPower 15 = .ok (.iadd, 1) := by decide +kernel
theorem dX7_losesPower_16 : decode cX7_losesPower 16 = .ok (.putfield 108, 3) := by decide +kernel
theorem dX7_losesPower_19 : decode cX7_losesPower 19 = .ok (.return_, 1) := by decide +kernel
theorem dX7_startAnew_0 : decode cX7_startAnew 0 = .ok (.aload_n 0, 1) := by decide +kernel
theorem dX7_startAnew_1 : decode cX7_startAnew 1 = .ok (.invokevirtual 101, 3) := by decide +kernel
theorem dX7_startAnew_4 : decode cX7_startAnew 4 = .ok (.iconst 0, 1) := by decide +kernel
theorem dX7_startAnew_5 : decode cX7_startAnew 5 = .ok (.istore_n 1, 1) := by decide +kernel
theorem dX7_startAnew_6 : decode cX7_startAnew 6 = .ok (.iload_n 1, 1) := by decide +kernel
theorem dX7_startAnew_7 : decode cX7_startAnew 7 = .ok (.sipush 1024, 3) := by decide +kernel
theorem dX7_startAnew_10 : decode cX7_startAnew 10 = .ok (.if_icmp .ge 16, 3) := by decide +kernel
theorem dX7_startAnew_13 : decode cX7_startAnew 13 = .ok (.aload_n 0, 1) := by decide +kernel
theorem dX7_startAnew_14 : decode cX7_startAnew 14 = .ok (.getfield 13, 3) := by decide +kernel
theorem dX7_startAnew_17 : decode cX7_startAnew 17 = .ok (.iload_n 1, 1) := by decide +kernel
theorem dX7_startAnew_18 : decode cX7_startAnew 18 = .ok (.iconst 0, 1) := by decide +kernel
theorem dX7_startAnew_19 : decode cX7_startAnew 19 = .ok (.iastore, 1) := by decide +kernel
theorem dX7_startAnew_20 : decode cX7_startAnew 20 = .ok (.iinc 1 1, 3) := by decide +kernel
theorem dX7_startAnew_23 : decode cX7_startAnew 23 = .ok (.goto (-17), 3) := by decide +kernel
theorem dX7_startAnew_26 : decode cX7_startAnew 26 = .ok (.iconst 0, 1) := by decide +kernel
theorem dX7_startAnew_27 : decode cX7_startAnew 27 = .ok (.istore_n 1, 1) := by decide +kernel
theorem dX7_startAnew_28 : decode cX7_startAnew 28 = .ok (.iload_n 1, 1) := by decide +kernel
theorem dX7_startAnew_29 : decode cX7_startAnew 29 = .ok (.bipush 32, 2) := by decide +kernel
theorem dX7_startAnew_31 : decode cX7_startAnew 31 = .ok (.if_icmp .ge 16, 3) := by decide +kernel
theorem dX7_startAnew_34 : decode cX7_startAnew 34 = .ok (.aload_n 0, 1) := by decide +kernel
theorem dX7_startAnew_35 : decode cX7_startAnew 35 = .ok (.getfield 34, 3) := by decide +kernel
theorem dX7_startAnew_38 : decode cX7_startAnew 38 = .ok (.iload_n 1, 1) := by decide +kernel
theorem dX7_startAnew_39 : decode cX7_startAnew 39 = .ok (.iconst 0, 1) := by decide +kernel
theorem dX7_startAnew_40 : decode cX7_startAnew 40 = .ok (.iastore, 1) := by decide +kernel
theorem dX7_startAnew_41 : decode cX7_startAnew 41 = .ok (.iinc 1 1, 3) := by decide +kernel
theorem dX7_startAnew_44 : decode cX7_startAnew 44 = .ok (.goto (-16), 3) := by decide +kernel
theorem dX7_startAnew_47 : decode cX7_startAnew 47 = .ok (.aload_n 0, 1) := by decide +kernel
theorem dX7_startAnew_48 : decode cX7_startAnew 48 = .ok (.iconst 0, 1) := by decide +kernel
theorem dX7_startAnew_49 : decode cX7_startAnew 49 = .ok (.putfield 111, 3) := by decide +kernel
theorem dX7_startAnew_52 : decode cX7_startAnew 52 = .ok (.aload_n 0, 1) := by decide +kernel
theorem dX7_startAnew_53 : decode cX7_startAnew 53 = .ok (.iconst 0, 1) := by decide +kernel
theorem dX7_startAnew_54 : decode cX7_startAnew 54 = .ok (.putfield 114, 3) := by decide +kernel
theorem dX7_startAnew_57 : decode cX7_startAnew 57 = .ok (.aload_n 0, 1) := by decide +kernel
theorem dX7_startAnew_58 : decode cX7_startAnew 58 = .ok (.iconst 0, 1) := by decide +kernel
theorem dX7_startAnew_59 : decode cX7_startAnew 59 = .ok (.putfield 117, 3) := by decide +kernel
theorem dX7_startAnew_62 : decode cX7_startAnew 62 = .ok (.aload_n 0, 1) := by decide +kernel
theorem dX7_startAnew_63 : decode cX7_startAnew 63 = .ok (.iconst 0, 1) := by decide +kernel
theorem dX7_startAnew_64 : decode cX7_startAnew 64 = .ok (.putfield 120, 3) := by decide +kernel
theorem dX7_startAnew_67 : decode cX7_startAnew 67 = .ok (.aload_n 0, 1) := by decide +kernel
theorem dX7_startAnew_68 : decode cX7_startAnew 68 = .ok (.iconst 0, 1) := by decide +kernel
theorem dX7_startAnew_69 : decode cX7_startAnew 69 = .ok (.putfield 123, 3) := by decide +kernel
theorem dX7_startAnew_72 : decode cX7_startAnew 72 = .ok (.aload_n 0, 1) := by decide +kernel
theorem dX7_startAnew_73 : decode cX7_startAnew 73 = .ok (.iconst 0, 1) := by decide +kernel
theorem dX7_startAnew_74 : decode cX7_startAnew 74 = .ok (.putfield 108, 3) := by decide +kernel
theorem dX7_startAnew_77 : decode cX7_startAnew 77 = .ok (.aload_n 0, 1) := by decide +kernel
theorem dX7_startAnew_78 : decode cX7_startAnew 78 = .ok (.iconst 0, 1) := by decide +kernel
theorem dX7_startAnew_79 : decode cX7_startAnew 79 = .ok (.putfield 126, 3) := by decide +kernel
theorem dX7_startAnew_82 : decode cX7_startAnew 82 = .ok (.aload_n 0, 1) := by decide +kernel
theorem dX7_startAnew_83 : decode cX7_startAnew 83 = .ok (.iconst 0, 1) := by decide +kernel
theorem dX7_startAnew_84 : decode cX7_startAnew 84 = .ok (.putfield 129, 3) := by decide +kernel
theorem dX7_startAnew_87 : decode cX7_startAnew 87 = .ok (.aload_n 0, 1) := by decide +kernel
theorem dX7_startAnew_88 : decode cX7_startAnew 88 = .ok (.iconst 0, 1) := by decide +kernel
theorem dX7_startAnew_89 : decode cX7_startAnew 89 = .ok (.putfield 132, 3) := by decide +kernel
theorem dX7_startAnew_92 : decode cX7_startAnew 92 = .ok (.aload_n 0, 1) := by decide +kernel
theorem dX7_startAnew_93 : decode cX7_startAnew 93 = .ok (.iconst 1, 1) := by decide +kernel
theorem dX7_startAnew_94 : decode cX7_startAnew 94 = .ok (.putfield 104, 3) := by decide +kernel
theorem dX7_startAnew_97 : decode cX7_startAnew 97 = .ok (.return_, 1) := by decide +kernel
theorem dX7_feed_0 : decode cX7_feed 0 = .ok (.aload_n 0, 1) := by decide +kernel
theorem dX7_feed_1 : decode cX7_feed 1 = .ok (.iconst 0, 1) := by decide +kernel
theorem dX7_feed_2 : decode cX7_feed 2 = .ok (.putfield 69, 3) := by decide +kernel
theorem dX7_feed_5 : decode cX7_feed 5 = .ok (.aload_n 0, 1) := by decide +kernel
theorem dX7_feed_6 : decode cX7_feed 6 = .ok (.getfield 135, 3) := by decide +kernel
theorem dX7_feed_9 : decode cX7_feed 9 = .ok (.bipush 20, 2) := by decide +kernel
theorem dX7_feed_11 : decode cX7_feed 11 = .ok (.iadd, 1) := by decide +kernel
theorem dX7_feed_12 : decode cX7_feed 12 = .ok (.sipush 600, 3) := by decide +kernel
theorem dX7_feed_15 : decode cX7_feed 15 = .ok (.if_icmp .le 9, 3) := by decide +kernel
theorem dX7_feed_18 : decode cX7_feed 18 = .ok (.aload_n 0, 1) := by decide +kernel
theorem dX7_feed_19 : decode cX7_feed 19 = .ok (.iconst 1, 1) := by decide +kernel
theorem dX7_feed_20 : decode cX7_feed 20 = .ok (.invokevirtual 138, 3) := by decide +kernel
theorem dX7_feed_23 : decode cX7_feed 23 = .ok (.ireturn, 1) := by decide +kernel
theorem dX7_feed_24 : decode cX7_feed 24 = .ok (.aload_n 0, 1) := by decide +kernel
theorem dX7_feed_25 : decode cX7_feed 25 = .ok (.iload_n 1, 1) := by decide +kernel
theorem dX7_feed_26 : decode cX7_feed 26 = .ok (.invokevirtual 141, 3) := by decide +kernel
theorem dX7_feed_29 : decode cX7_feed 29 = .ok (.aload_n 0, 1) := by decide +kernel
theorem dX7_feed_30 : decode cX7_feed 30 = .ok (.iload_n 2, 1) := by decide +kernel
theorem dX7_feed_31 : decode cX7_feed 31 = .ok (.invokevirtual 141, 3) := by decide +kernel
theorem dX7_feed_34 : decode cX7_feed 34 = .ok (.aload_n 0, 1) := by decide +kernel
theorem dX7_feed_35 : decode cX7_feed 35 = .ok (.iload_n 3, 1) := by decide +kernel
theorem dX7_feed_36 : decode cX7_feed 36 = .ok (.invokevirtual 141, 3) := by decide +kernel
theorem dX7_feed_39 : decode cX7_feed 39 = .ok (.aload_n 0, 1) := by decide +kernel
theorem dX7_feed_40 : decode cX7_feed 40 = .ok (.iload 4, 2) := by decide +kernel
theorem dX7_feed_42 : decode cX7_feed 42 = .ok (.invokevirtual 141, 3) := by decide +kernel
theorem dX7_feed_45 : decode cX7_feed 45 = .ok (.aload_n 0, 1) := by decide +kernel
theorem dX7_feed_46 : decode cX7_feed 46 = .ok (.iload 5, 2) := by decide +kernel
theorem dX7_feed_48 : decode cX7_feed 48 = .ok (.invokevirtual 141, 3) := by decide +kernel
theorem dX7_feed_51 : decode cX7_feed 51 = .ok (.aload_n 0, 1) := by decide +kernel
theorem dX7_feed_52 : decode cX7_feed 52 = .ok (.getfield 135, 3) := by decide +kernel
theorem dX7_feed_55 : decode cX7_feed 55 = .ok (.ireturn, 1) := by decide +kernel
theorem dX7_append_0 : decode cX7_append 0 = .ok (.bipush 24, 2) := by decide +kernel
theorem dX7_append_2 : decode cX7_append 2 = .ok (.istore_n 2, 1) := by decide +kernel
theorem dX7_append_3 : decode cX7_append 3 = .ok (.iload_n 2, 1) := by decide +kernel
theorem dX7_append_4 : decode cX7_append 4 = .ok (.ifCond .lt 37, 3) := by decide +kernel
theorem dX7_append_7 : decode cX7_append 7 = .ok (.aload_n 0, 1) := by decide +kernel
theorem dX7_append_8 : decode cX7_append 8 = .ok (.getfield 60, 3) := by decide +kernel
theorem dX7_append_11 : decode cX7_append 11 = .ok (.aload_n 0, 1) := by decide +kernel
theorem dX7_append_12 : decode cX7_append 12 = .ok (.getfield 135, 3) := by decide +kernel
theorem dX7_append_15 : decode cX7_append 15 = .ok (.iload_n 1, 1) := by decide +kernel
theorem dX7_append_16 : decode cX7_append 16 = .ok (.iload_n 2, 1) := by decide +kernel
theorem dX7_append_17 : decode cX7_append 17 = .ok (.ishr, 1) := by decide +kernel
theorem dX7_append_18 : decode cX7_append 18 = .ok (.sipush 255, 3) := by decide +kernel
theorem dX7_append_21 : decode cX7_append 21 = .ok (.iand, 1) := by decide +kernel
theorem dX7_append_22 : decode cX7_append 22 = .ok (.iastore, 1) := by decide +kernel
theorem dX7_append_23 : decode cX7_append 23 = .ok (.aload_n 0, 1) := by decide +kernel
theorem dX7_append_24 : decode cX7_append 24 = .ok (.aload_n 0, 1) := by decide +kernel
theorem dX7_append_25 : decode cX7_append 25 = .ok (.getfield 135, 3) := by decide +kernel
theorem dX7_append_28 : decode cX7_append 28 = .ok (.iconst 1, 1) := by decide +kernel
theorem dX7_append_29 : decode cX7_append 29 = .ok (.iadd, 1) := by decide +kernel
theorem dX7_append_30 : decode cX7_append 30 = .ok (.putfield 135, 3) := by decide +kernel
theorem dX7_append_33 : decode cX7_append 33 = .ok (.iload_n 2, 1) := by decide +kernel
theorem dX7_append_34 : decode cX7_append 34 = .ok (.bipush 8, 2) := by decide +kernel
theorem dX7_append_36 : decode cX7_append 36 = .ok (.isub, 1) := by decide +kernel
theorem dX7_append_37 : decode cX7_append 37 = .ok (.istore_n 2, 1) := by decide +kernel
theorem dX7_append_38 : decode cX7_append 38 = .ok (.goto (-35), 3) := by decide +kernel
theorem dX7_append_41 : decode cX7_append 41 = .ok (.return_, 1) := by decide +kernel
theorem dX7_errorCode_0 : decode cX7_errorCode 0 = .ok (.aload_n 0, 1) := by decide +kernel
theorem dX7_errorCode_1 : decode cX7_errorCode 1 = .ok (.aload_n 0, 1) := by decide +kernel
theorem dX7_errorCode_2 : decode cX7_errorCode 2 = .ok (.getfield 145, 3) := by decide +kernel
theorem dX7_errorCode_5 : decode cX7_errorCode 5 = .ok (.invokevirtual 148, 3) := by decide +kernel
theorem dX7_errorCode_8 : decode cX7_errorCode 8 = .ok (.ireturn, 1) := by decide +kernel
theorem dX7_errorPosition_0 : decode cX7_errorPosition 0 = .ok (.aload_n 0, 1) := by decide +kernel
theorem dX7_errorPosition_1 : decode cX7_errorPosition 1 = .ok (.aload_n 0, 1) := by decide +kernel
theorem dX7_errorPosition_2 : decode cX7_errorPosition 2 = .ok (.getfield 63, 3) := by decide +kernel
theorem dX7_errorPosition_5 : decode cX7_errorPosition 5 = .ok (.invokevirtual 148, 3) := by decide +kernel
theorem dX7_errorPosition_8 : decode cX7_errorPosition 8 = .ok (.ireturn, 1) := by decide +kernel
theorem dX7_byteAt_0 : decode cX7_byteAt 0 = .ok (.iload_n 1, 1) := by decide +kernel
theorem dX7_byteAt_1 : decode cX7_byteAt 1 = .ok (.aload_n 0, 1) := by decide +kernel
theorem dX7_byteAt_2 : decode cX7_byteAt 2 = .ok (.getfield 151, 3) := by decide +kernel
theorem dX7_byteAt_5 : decode cX7_byteAt 5 = .ok (.if_icmp .ge 12, 3) := by decide +kernel
theorem dX7_byteAt_8 : decode cX7_byteAt 8 = .ok (.aload_n 0, 1) := by decide +kernel
theorem dX7_byteAt_9 : decode cX7_byteAt 9 = .ok (.getfield 60, 3) := by decide +kernel
theorem dX7_byteAt_12 : decode cX7_byteAt 12 = .ok (.iload_n 1, 1) := by decide +kernel
theorem dX7_byteAt_13 : decode cX7_byteAt 13 = .ok (.iaload, 1) := by decide +kernel
theorem dX7_byteAt_14 : decode cX7_byteAt 14 = .ok (.goto 4, 3) := by decide +kernel
theorem dX7_byteAt_17 : decode cX7_byteAt 17 = .ok (.iconst (-1), 1) := by decide +kernel
theorem dX7_byteAt_18 : decode cX7_byteAt 18 = .ok (.ireturn, 1) := by decide +kernel
theorem dX7_isLetter_0 : decode cX7_isLetter 0 = .ok (.iload_n 0, 1) := by decide +kernel
theorem dX7_isLetter_1 : decode cX7_isLetter 1 = .ok (.bipush 97, 2) := by decide +kernel
theorem dX7_isLetter_3 : decode cX7_isLetter 3 = .ok (.bipush 122, 2) := by decide +kernel
theorem dX7_isLetter_5 : decode cX7_isLetter 5 = .ok (.invokestatic 85, 3) := by decide +kernel
theorem dX7_isLetter_8 : decode cX7_isLetter 8 = .ok (.ireturn, 1) := by decide +kernel
theorem dX7_isDigit_0 : decode cX7_isDigit 0 = .ok (.iload_n 0, 1) := by decide +kernel
theorem dX7_isDigit_1 : decode cX7_isDigit 1 = .ok (.bipush 48, 2) := by decide +kernel
theorem dX7_isDigit_3 : decode cX7_isDigit 3 = .ok (.bipush 57, 2) := by decide +kernel
theorem dX7_isDigit_5 : decode cX7_isDigit 5 = .ok (.invokestatic 85, 3) := by decide +kernel
theorem dX7_isDigit_8 : decode cX7_isDigit 8 = .ok (.ireturn, 1) := by decide +kernel
theorem dX7_peek_0 : decode cX7_peek 0 = .ok (.aload_n 0, 1) := by decide +kernel
theorem dX7_peek_1 : decode cX7_peek 1 = .ok (.aload_n 0, 1) := by decide +kernel
theorem dX7_peek_2 : decode cX7_peek 2 = .ok (.getfield 154, 3) := by decide +kernel
theorem dX7_peek_5 : decode cX7_peek 5 = .ok (.invokevirtual 157, 3) := by decide +kernel
theorem dX7_peek_8 : decode cX7_peek 8 = .ok (.bipush 32, 2) := by decide +kernel
theorem dX7_peek_10 : decode cX7_peek 10 = .ok (.if_icmp .eq 16, 3) := by decide +kernel
theorem dX7_peek_13 : decode cX7_peek 13 = .ok (.aload_n 0, 1) := by decide +kernel
theorem dX7_peek_14 : decode cX7_peek 14 = .ok (.aload_n 0, 1) := by decide +kernel
theorem dX7_peek_15 : decode cX7_peek 15 = .ok (.getfield 154, 3) := by decide +kernel
theorem dX7_peek_18 : decode cX7_peek 18 = .ok (.invokevirtual 157, 3) := by decide +kernel
theorem dX7_peek_21 : decode cX7_peek 21 = .ok (.bipush 10, 2) := by decide +kernel
theorem dX7_peek_23 : decode cX7_peek 23 = .ok (.if_icmp .ne 16, 3) := by decide +kernel
theorem dX7_peek_26 : decode cX7_peek 26 = .ok (.aload_n 0, 1) := by decide +kernel
theorem dX7_peek_27 : decode cX7_peek 27 = .ok (.aload_n 0, 1) := by decide +kernel
theorem dX7_peek_28 : decode cX7_peek 28 = .ok (.getfield 154, 3) := by decide +kernel
theorem dX7_peek_31 : decode cX7_peek 31 = .ok (.iconst 1, 1) := by decide +kernel
theorem dX7_peek_32 : decode cX7_peek 32 = .ok (.iadd, 1) := by decide +kernel
theorem dX7_peek_33 : decode cX7_peek 33 = .ok (.putfield 154, 3) := by decide +kernel
theorem dX7_peek_36 : decode cX7_peek 36 = .ok (.goto (-36), 3) := by decide +kernel
theorem dX7_peek_39 : decode cX7_peek 39 = .ok (.aload_n 0, 1) := by decide +kernel
theorem dX7_peek_40 : decode cX7_peek 40 = .ok (.aload_n 0, 1) := by decide +kernel
theorem dX7_peek_41 : decode cX7_peek 41 = .ok (.getfield 154, 3) := by decide +kernel
theorem dX7_peek_44 : decode cX7_peek 44 = .ok (.putfield 160, 3) := by decide +kernel
theorem dX7_peek_47 : decode cX7_peek 47 = .ok (.aload_n 0, 1) := by decide +kernel
theorem dX7_peek_48 : decode cX7_peek 48 = .ok (.aload_n 0, 1) := by decide +kernel
theorem dX7_peek_49 : decode cX7_peek 49 = .ok (.getfield 154, 3) := by decide +kernel
theorem dX7_peek_52 : decode cX7_peek 52 = .ok (.invokevirtual 157, 3) := by decide +kernel
theorem dX7_peek_55 : decode cX7_peek 55 = .ok (.ireturn, 1) := by decide +kernel
theorem dX7_fails_0 : decode cX7_fails 0 = .ok (.aload_n 0, 1) := by decide +kernel
theorem dX7_fails_1 : decode cX7_fails 1 = .ok (.iload_n 1, 1) := by decide +kernel
theorem dX7_fails_2 : decode cX7_fails 2 = .ok (.putfield 145, 3) := by decide +kernel
theorem dX7_fails_5 : decode cX7_fails 5 = .ok (.aload_n 0, 1) := by decide +kernel
theorem dX7_fails_6 : decode cX7_fails 6 = .ok (.iload_n 2, 1) := by decide +kernel
theorem dX7_fails_7 : decode cX7_fails 7 = .ok (.putfield 63, 3) := by decide +kernel
theorem dX7_fails_10 : decode cX7_fails 10 = .ok (.iconst 0, 1) := by decide +kernel
theorem dX7_fails_11 : decode cX7_fails 11 = .ok (.ireturn, 1) := by decide +kernel
theorem dX7_takesWord_0 : decode cX7_takesWord 0 = .ok (.aload_n 0, 1) := by decide +kernel
theorem dX7_takesWord_1 : decode cX7_takesWord 1 = .ok (.invokevirtual 163, 3) := by decide +kernel
theorem dX7_takesWord_4 : decode cX7_takesWord 4 = .ok (.invokestatic 167, 3) := by decide +kernel
theorem dX7_takesWord_7 : decode cX7_takesWord 7 = .ok (.ifCond .eq 14, 3) := by decide +kernel
theorem dX7_takesWord_10 : decode cX7_takesWord 10 = .ok (.aload_n 0, 1) := by decide +kernel
theorem dX7_takesWord_11 : decode cX7_takesWord 11 = .ok (.getfield 160, 3) := by decide +kernel
theorem dX7_takesWord_14 : decode cX7_takesWord 14 = .ok (.aload_n 0, 1) := by decide +kernel
theorem dX7_takesWord_15 : decode cX7_takesWord 15 = .ok (.getfield 171, 3) := by decide +kernel
theorem dX7_takesWord_18 : decode cX7_takesWord 18 = .ok (.if_icmp .ne 13, 3) := by decide +kernel
theorem dX7_takesWord_21 : decode cX7_takesWord 21 = .ok (.aload_n 0, 1) := by decide +kernel
theorem dX7_takesWord_22 : decode cX7_takesWord 22 = .ok (.iconst 1, 1) := by decide +kernel
theorem dX7_takesWord_23 : decode cX7_takesWord 23 = .ok (.aload_n 0, 1) := by decide +kernel
theorem dX7_takesWord_24 : decode cX7_takesWord 24 = .ok (.getfield 160, 3) := by decide +kernel
theorem dX7_takesWord_27 : decode cX7_takesWord 27 = .ok (.invokevirtual 174, 3) := by decide +kernel
theorem dX7_takesWord_30 : decode cX7_takesWord 30 = .ok (.ireturn, 1) := by decide +kernel
theorem dX7_takesWord_31 : decode cX7_takesWord 31 = .ok (.aload_n 0, 1) := by decide +kernel
theorem dX7_takesWord_32 : decode cX7_takesWord 32 = .ok (.lconst 0, 1) := by decide +kernel
theorem dX7_takesWord_33 : decode cX7_takesWord 33 = .ok (.putfield 178, 3) := by decide +kernel
theorem dX7_takesWord_36 : decode cX7_takesWord 36 = .ok (.iconst 0, 1) := by decide +kernel
theorem dX7_takesWord_37 : decode cX7_takesWord 37 = .ok (.istore_n 3, 1) := by decide +kernel
theorem dX7_takesWord_38 : decode cX7_takesWord 38 = .ok (.aload_n 0, 1) := by decide +kernel
theorem dX7_takesWord_39 : decode cX7_takesWord 39 = .ok (.aload_n 0, 1) := by decide +kernel
theorem dX7_takesWord_40 : decode cX7_takesWord 40 = .ok (.getfield 160, 3) := by decide +kernel
theorem dX7_takesWord_43 : decode cX7_takesWord 43 = .ok (.iload_n 3, 1) := by decide +kernel
theorem dX7_takesWord_44 : decode cX7_takesWord 44 = .ok (.iadd, 1) := by decide +kernel
theorem dX7_takesWord_45 : decode cX7_takesWord 45 = .ok (.invokevirtual 157, 3) := by decide +kernel
theorem dX7_takesWord_48 : decode cX7_takesWord 48 = .ok (.invokestatic 167, 3) := by decide +kernel
theorem dX7_takesWord_51 : decode cX7_takesWord 51 = .ok (.ifCond .eq 48, 3) := by decide +kernel
theorem dX7_takesWord_54 : decode cX7_takesWord 54 = .ok (.aload_n 0, 1) := by decide +kernel
theorem dX7_takesWord_55 : decode cX7_takesWord 55 = .ok (.iload_n 3, 1) := by decide +kernel
theorem dX7_takesWord_56 : decode cX7_takesWord 56 = .ok (.bipush 7, 2) := by decide +kernel
theorem dX7_takesWord_58 : decode cX7_takesWord 58 = .ok (.if_icmp .ge 30, 3) := by decide +kernel
theorem dX7_takesWord_61 : decode cX7_takesWord 61 = .ok (.ldc2_w 182, 3) := by decide +kernel
theorem dX7_takesWord_64 : decode cX7_takesWord 64 = .ok (.aload_n 0, 1) := by decide +kernel
theorem dX7_takesWord_65 : decode cX7_takesWord 65 = .ok (.getfield 178, 3) := by decide +kernel
theorem dX7_takesWord_68 : decode cX7_takesWord 68 = .ok (.lmul, 1) := by decide +kernel
theorem dX7_takesWord_69 : decode cX7_takesWord 69 = .ok (.aload_n 0, 1) := by decide +kernel
theorem dX7_takesWord_70 : decode cX7_takesWord 70 = .ok (.aload_n 0, 1) := by decide +kernel
theorem dX7_takesWord_71 : decode cX7_takesWord 71 = .ok (.getfield 160, 3) := by decide +kernel
theorem dX7_takesWord_74 : decode cX7_takesWord 74 = .ok (.iload_n 3, 1) := by decide +kernel
theorem dX7_takesWord_75 : decode cX7_takesWord 75 = .ok (.iadd, 1) := by decide +kernel
theorem dX7_takesWord_76 : decode cX7_takesWord 76 = .ok (.invokevirtual 157, 3) := by decide +kernel
theorem dX7_takesWord_79 : decode cX7_takesWord 79 = .ok (.i2l, 1) := by decide +kernel
theorem dX7_takesWord_80 : decode cX7_takesWord 80 = .ok (.ladd, 1) := by decide +kernel
theorem dX7_takesWord_81 : decode cX7_takesWord 81 = .ok (.ldc2_w 184, 3) := by decide +kernel
theorem dX7_takesWord_84 : decode cX7_takesWord 84 = .ok (.lsub, 1) := by decide +kernel
theorem dX7_takesWord_85 : decode cX7_takesWord 85 = .ok (.goto 4, 3) := by decide +kernel
theorem dX7_takesWord_88 : decode cX7_takesWord 88 = .ok (.lconst 0, 1) := by decide +kernel
theorem dX7_takesWord_89 : decode cX7_takesWord 89 = .ok (.putfield 178, 3) := by decide +kernel
theorem dX7_takesWord_92 : decode cX7_takesWord 92 = .ok (.iload_n 3, 1) := by decide +kernel
theorem dX7_takesWord_93 : decode cX7_takesWord 93 = .ok (.iconst 1, 1) := by decide +kernel
theorem dX7_takesWord_94 : decode cX7_takesWord 94 = .ok (.iadd, 1) := by decide +kernel
theorem dX7_takesWord_95 : decode cX7_takesWord 95 = .ok (.istore_n 3, 1) := by decide +kernel
theorem dX7_takesWord_96 : decode cX7_takesWord 96 = .ok (.goto (-58), 3) := by decide +kernel
theorem dX7_takesWord_99 : decode cX7_takesWord 99 = .ok (.aload_n 0, 1) := by decide +kernel
theorem dX7_takesWord_100 : decode cX7_takesWord 100 = .ok (.getfield 178, 3) := by decide +kernel
theorem dX7_takesWord_103 : decode cX7_takesWord 103 = .ok (.lload_n 1, 1) := by decide +kernel
theorem dX7_takesWord_104 : decode cX7_takesWord 104 = .ok (.lcmp, 1) := by decide +kernel
theorem dX7_takesWord_105 : decode cX7_takesWord 105 = .ok (.ifCond .eq 13, 3) := by decide +kernel
theorem dX7_takesWord_108 : decode cX7_takesWord 108 = .ok (.aload_n 0, 1) := by decide +kernel
theorem dX7_takesWord_109 : decode cX7_takesWord 109 = .ok (.iconst 1, 1) := by decide +kernel
theorem dX7_takesWord_110 : decode cX7_takesWord 110 = .ok (.aload_n 0, 1) := by decide +kernel
theorem dX7_takesWord_111 : decode cX7_takesWord 111 = .ok (.getfield 160, 3) := by decide +kernel
theorem dX7_takesWord_114 : decode cX7_takesWord 114 = .ok (.invokevirtual 174, 3) := by decide +kernel
theorem dX7_takesWord_117 : decode cX7_takesWord 117 = .ok (.ireturn, 1) := by decide +kernel
theorem dX7_takesWord_118 : decode cX7_takesWord 118 = .ok (.aload_n 0, 1) := by decide +kernel
theorem dX7_takesWord_119 : decode cX7_takesWord 119 = .ok (.aload_n 0, 1) := by decide +kernel
theorem dX7_takesWord_120 : decode cX7_takesWord 120 = .ok (.getfield 160, 3) := by decide +kernel
theorem dX7_takesWord_123 : decode cX7_takesWord 123 = .ok (.iload_n 3, 1) := by decide +kernel
theorem dX7_takesWord_124 : decode cX7_takesWord 124 = .ok (.iadd, 1) := by decide +kernel
theorem dX7_takesWord_125 : decode cX7_takesWord 125 = .ok (.putfield 154, 3) := by decide +kernel
theorem dX7_takesWord_128 : decode cX7_takesWord 128 = .ok (.aload_n 0, 1) := by decide +kernel
theorem dX7_takesWord_129 : decode cX7_takesWord 129 = .ok (.aload_n 0, 1) := by decide +kernel
theorem dX7_takesWord_130 : decode cX7_takesWord 130 = .ok (.getfield 154, 3) := by decide +kernel
theorem dX7_takesWord_133 : decode cX7_takesWord 133 = .ok (.putfield 171, 3) := by decide +kernel
theorem dX7_takesWord_136 : decode cX7_takesWord 136 = .ok (.iconst 1, 1) := by decide +kernel
theorem dX7_takesWord_137 : decode cX7_takesWord 137 = .ok (.ireturn, 1) := by decide +kernel
theorem dX7_readNumber_0 : decode cX7_readNumber 0 = .ok (.aload_n 0, 1) := by decide +kernel
theorem dX7_readNumber_1 : decode cX7_readNumber 1 = .ok (.invokevirtual 163, 3) := by decide +kernel
theorem dX7_readNumber_4 : decode cX7_readNumber 4 = .ok (.invokestatic 186, 3) := by decide +kernel
theorem dX7_readNumber_7 : decode cX7_readNumber 7 = .ok (.ifCond .eq 14, 3) := by decide +kernel
theorem dX7_readNumber_10 : decode cX7_readNumber 10 = .ok (.aload_n 0, 1) := by decide +kernel
theorem dX7_readNumber_11 : decode cX7_readNumber 11 = .ok (.getfield 160, 3) := by decide +kernel
theorem dX7_readNumber_14 : decode cX7_readNumber 14 = .ok (.aload_n 0, 1) := by decide +kernel
theorem dX7_readNumber_15 : decode cX7_readNumber 15 = .ok (.getfield 171, 3) := by decide +kernel
theorem dX7_readNumber_18 : decode cX7_readNumber 18 = .ok (.if_icmp .ne 13, 3) := by decide +kernel
theorem dX7_readNumber_21 : decode cX7_readNumber 21 = .ok (.aload_n 0, 1) := by decide +kernel
theorem dX7_readNumber_22 : decode cX7_readNumber 22 = .ok (.iconst 1, 1) := by decide +kernel
theorem dX7_readNumber_23 : decode cX7_readNumber 23 = .ok (.aload_n 0, 1) := by decide +kernel
theorem dX7_readNumber_24 : decode cX7_readNumber 24 = .ok (.getfield 160, 3) := by decide +kernel
theorem dX7_readNumber_27 : decode cX7_readNumber 27 = .ok (.invokevirtual 174, 3) := by decide +kernel
theorem dX7_readNumber_30 : decode cX7_readNumber 30 = .ok (.ireturn, 1) := by decide +kernel
theorem dX7_readNumber_31 : decode cX7_readNumber 31 = .ok (.aload_n 0, 1) := by decide +kernel
theorem dX7_readNumber_32 : decode cX7_readNumber 32 = .ok (.iconst 0, 1) := by decide +kernel
theorem dX7_readNumber_33 : decode cX7_readNumber 33 = .ok (.putfield 189, 3) := by decide +kernel
theorem dX7_readNumber_36 : decode cX7_readNumber 36 = .ok (.iconst 0, 1) := by decide +kernel
theorem dX7_readNumber_37 : decode cX7_readNumber 37 = .ok (.istore_n 3, 1) := by decide +kernel
theorem dX7_readNumber_38 : decode cX7_readNumber 38 = .ok (.aload_n 0, 1) := by decide +kernel
theorem dX7_readNumber_39 : decode cX7_readNumber 39 = .ok (.aload_n 0, 1) := by decide +kernel
theorem dX7_readNumber_40 : decode cX7_readNumber 40 = .ok (.getfield 160, 3) := by decide +kernel
theorem dX7_readNumber_43 : decode cX7_readNumber 43 = .ok (.iload_n 3, 1) := by decide +kernel
theorem dX7_readNumber_44 : decode cX7_readNumber 44 = .ok (.iadd, 1) := by decide +kernel
theorem dX7_readNumber_45 : decode cX7_readNumber 45 = .ok (.invokevirtual 157, 3) := by decide +kernel
theorem dX7_readNumber_48 : decode cX7_readNumber 48 = .ok (.invokestatic 186, 3) := by decide +kernel
theorem dX7_readNumber_51 : decode cX7_readNumber 51 = .ok (.ifCond .eq 48, 3) := by decide +kernel
theorem dX7_readNumber_54 : decode cX7_readNumber 54 = .ok (.aload_n 0, 1) := by decide +kernel
theorem dX7_readNumber_55 : decode cX7_readNumber 55 = .ok (.iload_n 3, 1) := by decide +kernel
theorem dX7_readNumber_56 : decode cX7_readNumber 56 = .ok (.bipush 6, 2) := by decide +kernel
theorem dX7_readNumber_58 : decode cX7_readNumber 58 = .ok (.if_icmp .ge 27, 3) := by decide +kernel
theorem dX7_readNumber_61 : decode cX7_readNumber 61 = .ok (.bipush 10, 2) := by decide +kernel
theorem dX7_readNumber_63 : decode cX7_readNumber 63 = .ok (.aload_n 0, 1) := by decide +kernel
theorem dX7_readNumber_64 : decode cX7_readNumber 64 = .ok (.getfield 189, 3) := by decide +kernel
theorem dX7_readNumber_67 : decode cX7_readNumber 67 = .ok (.imul, 1) := by decide +kernel
theorem dX7_readNumber_68 : decode cX7_readNumber 68 = .ok (.aload_n 0, 1) := by decide +kernel
theorem dX7_readNumber_69 : decode cX7_readNumber 69 = .ok (.aload_n 0, 1) := by decide +kernel
theorem dX7_readNumber_70 : decode cX7_readNumber 70 = .ok (.getfield 160, 3) := by decide +kernel
theorem dX7_readNumber_73 : decode cX7_readNumber 73 = .ok (.iload_n 3, 1) := by decide +kernel
theorem dX7_readNumber_74 : decode cX7_readNumber 74 = .ok (.iadd, 1) := by decide +kernel
theorem dX7_readNumber_75 : decode cX7_readNumber 75 = .ok (.invokevirtual 157, 3) := by decide +kernel
theorem dX7_readNumber_78 : decode cX7_readNumber 78 = .ok (.iadd, 1) := by decide +kernel
theorem dX7_readNumber_79 : decode cX7_readNumber 79 = .ok (.bipush 48, 2) := by decide +kernel
theorem dX7_readNumber_81 : decode cX7_readNumber 81 = .ok (.isub, 1) := by decide +kernel
theorem dX7_readNumber_82 : decode cX7_readNumber 82 = .ok (.goto 7, 3) := by decide +kernel
theorem dX7_readNumber_85 : decode cX7_readNumber 85 = .ok (.aload_n 0, 1) := by decide +kernel
theorem dX7_readNumber_86 : decode cX7_readNumber 86 = .ok (.getfield 189, 3) := by decide +kernel
theorem dX7_readNumber_89 : decode cX7_readNumber 89 = .ok (.putfield 189, 3) := by decide +kernel
theorem dX7_readNumber_92 : decode cX7_readNumber 92 = .ok (.iload_n 3, 1) := by decide +kernel
theorem dX7_readNumber_93 : decode cX7_readNumber 93 = .ok (.iconst 1, 1) := by decide +kernel
theorem dX7_readNumber_94 : decode cX7_readNumber 94 = .ok (.iadd, 1) := by decide +kernel
theorem dX7_readNumber_95 : decode cX7_readNumber 95 = .ok (.istore_n 3, 1) := by decide +kernel
theorem dX7_readNumber_96 : decode cX7_readNumber 96 = .ok (.goto (-58), 3) := by decide +kernel
theorem dX7_readNumber_99 : decode cX7_readNumber 99 = .ok (.iload_n 3, 1) := by decide +kernel
theorem dX7_readNumber_100 : decode cX7_readNumber 100 = .ok (.bipush 6, 2) := by decide +kernel
theorem dX7_readNumber_102 : decode cX7_readNumber 102 = .ok (.if_icmp .le 13, 3) := by decide +kernel
theorem dX7_readNumber_105 : decode cX7_readNumber 105 = .ok (.aload_n 0, 1) := by decide +kernel
theorem dX7_readNumber_106 : decode cX7_readNumber 106 = .ok (.iconst 1, 1) := by decide +kernel
theorem dX7_readNumber_107 : decode cX7_readNumber 107 = .ok (.aload_n 0, 1) := by decide +kernel
theorem dX7_readNumber_108 : decode cX7_readNumber 108 = .ok (.getfield 160, 3) := by decide +kernel
theorem dX7_readNumber_111 : decode cX7_readNumber 111 = .ok (.invokevirtual 174, 3) := by decide +kernel
theorem dX7_readNumber_114 : decode cX7_readNumber 114 = .ok (.ireturn, 1) := by decide +kernel
theorem dX7_readNumber_115 : decode cX7_readNumber 115 = .ok (.aload_n 0, 1) := by decide +kernel
theorem dX7_readNumber_116 : decode cX7_readNumber 116 = .ok (.getfield 189, 3) := by decide +kernel
theorem dX7_readNumber_119 : decode cX7_readNumber 119 = .ok (.iload_n 1, 1) := by decide +kernel
theorem dX7_readNumber_120 : decode cX7_readNumber 120 = .ok (.iload_n 2, 1) := by decide +kernel
theorem dX7_readNumber_121 : decode cX7_readNumber 121 = .ok (.invokestatic 85, 3) := by decide +kernel
theorem dX7_readNumber_124 : decode cX7_readNumber 124 = .ok (.ifCond .ne 13, 3) := by decide +kernel
theorem dX7_readNumber_127 : decode cX7_readNumber 127 = .ok (.aload_n 0, 1) := by decide +kernel
theorem dX7_readNumber_128 : decode cX7_readNumber 128 = .ok (.iconst 2, 1) := by decide +kernel
theorem dX7_readNumber_129 : decode cX7_readNumber 129 = .ok (.aload_n 0, 1) := by decide +kernel
theorem dX7_readNumber_130 : decode cX7_readNumber 130 = .ok (.getfield 160, 3) := by decide +kernel
theorem dX7_readNumber_133 : decode cX7_readNumber 133 = .ok (.invokevirtual 174, 3) := by decide +kernel
theorem dX7_readNumber_136 : decode cX7_readNumber 136 = .ok (.ireturn, 1) := by decide +kernel
theorem dX7_readNumber_137 : decode cX7_readNumber 137 = .ok (.aload_n 0, 1) := by decide +kernel
theorem dX7_readNumber_138 : decode cX7_readNumber 138 = .ok (.aload_n 0, 1) := by decide +kernel
theorem dX7_readNumber_139 : decode cX7_readNumber 139 = .ok (.getfield 160, 3) := by decide +kernel
theorem dX7_readNumber_142 : decode cX7_readNumber 142 = .ok (.iload_n 3, 1) := by decide +kernel
theorem dX7_readNumber_143 : decode cX7_readNumber 143 = .ok (.iadd, 1) := by decide +kernel
theorem dX7_readNumber_144 : decode cX7_readNumber 144 = .ok (.putfield 154, 3) := by decide +kernel
theorem dX7_readNumber_147 : decode cX7_readNumber 147 = .ok (.aload_n 0, 1) := by decide +kernel
theorem dX7_readNumber_148 : decode cX7_readNumber 148 = .ok (.aload_n 0, 1) := by decide +kernel
theorem dX7_readNumber_149 : decode cX7_readNumber 149 = .ok (.getfield 154, 3) := by decide +kernel
theorem dX7_readNumber_152 : decode cX7_readNumber 152 = .ok (.putfield 171, 3) := by decide +kernel
theorem dX7_readNumber_155 : decode cX7_readNumber 155 = .ok (.iconst 1, 1) := by decide +kernel
theorem dX7_readNumber_156 : decode cX7_readNumber 156 = .ok (.ireturn, 1) := by decide +kernel
theorem dX7_readSetting_0 : decode cX7_readSetting 0 = .ok (.aload_n 0, 1) := by decide +kernel
theorem dX7_readSetting_1 : decode cX7_readSetting 1 = .ok (.lload_n 1, 1) := by decide +kernel
theorem dX7_readSetting_2 : decode cX7_readSetting 2 = .ok (.invokevirtual 192, 3) := by decide +kernel
theorem dX7_readSetting_5 : decode cX7_readSetting 5 = .ok (.ifCond .eq 17, 3) := by decide +kernel
theorem dX7_readSetting_8 : decode cX7_readSetting 8 = .ok (.aload_n 0, 1) := by decide +kernel
theorem dX7_readSetting_9 : decode cX7_readSetting 9 = .ok (.iload_n 3, 1) := by decide +kernel
theorem dX7_readSetting_10 : decode cX7_readSetting 10 = .ok (.iload 4, 2) := by decide +kernel
theorem dX7_readSetting_12 : decode cX7_readSetting 12 = .ok (.invokevirtual 196, 3) := by decide +kernel
theorem dX7_readSetting_15 : decode cX7_readSetting 15 = .ok (.ifCond .eq 7, 3) := by decide +kernel
theorem dX7_readSetting_18 : decode cX7_readSetting 18 = .ok (.iconst 1, 1) := by decide +kernel
theorem dX7_readSetting_19 : decode cX7_readSetting 19 = .ok (.goto 4, 3) := by decide +kernel
theorem dX7_readSetting_22 : decode cX7_readSetting 22 = .ok (.iconst 0, 1) := by decide +kernel
theorem dX7_readSetting_23 : decode cX7_readSetting 23 = .ok (.ireturn, 1) := by decide +kernel
theorem dX7_readSemicolon_0 : decode cX7_readSemicolon 0 = .ok (.aload_n 0, 1) := by decide +kernel
theorem dX7_readSemicolon_1 : decode cX7_readSemicolon 1 = .ok (.invokevirtual 163, 3) := by decide +kernel
theorem dX7_readSemicolon_4 : decode cX7_readSemicolon 4 = .ok (.bipush 59, 2) := by decide +kernel
theorem dX7_readSemicolon_6 : decode cX7_readSemicolon 6 = .ok (.if_icmp .eq 13, 3) := by decide +kernel
theorem dX7_readSemicolon_9 : decode cX7_readSemicolon 9 = .ok (.aload_n 0, 1) := by decide +kernel
theorem dX7_readSemicolon_10 : decode cX7_readSemicolon 10 = .ok (.iconst 1, 1) := by decide +kernel
theorem dX7_readSemicolon_11 : decode cX7_readSemicolon 11 = .ok (.aload_n 0, 1) := by decide +kernel
theorem dX7_readSemicolon_12 : decode cX7_readSemicolon 12 = .ok (.getfield 160, 3) := by decide +kernel
theorem dX7_readSemicolon_15 : decode cX7_readSemicolon 15 = .ok (.invokevirtual 174, 3) := by decide +kernel
theorem dX7_readSemicolon_18 : decode cX7_readSemicolon 18 = .ok (.ireturn, 1) := by decide +kernel
theorem dX7_readSemicolon_19 : decode cX7_readSemicolon 19 = .ok (.aload_n 0, 1) := by decide +kernel
theorem dX7_readSemicolon_20 : decode cX7_readSemicolon 20 = .ok (.aload_n 0, 1) := by decide +kernel
theorem dX7_readSemicolon_21 : decode cX7_readSemicolon 21 = .ok (.getfield 160, 3) := by decide +kernel
theorem dX7_readSemicolon_24 : decode cX7_readSemicolon 24 = .ok (.iconst 1, 1) := by decide +kernel
theorem dX7_readSemicolon_25 : decode cX7_readSemicolon 25 = .ok (.iadd, 1) := by decide +kernel
theorem dX7_readSemicolon_26 : decode cX7_readSemicolon 26 = .ok (.putfield 154, 3) := by decide +kernel
theorem dX7_readSemicolon_29 : decode cX7_readSemicolon 29 = .ok (.aload_n 0, 1) := by decide +kernel
theorem dX7_readSemicolon_30 : decode cX7_readSemicolon 30 = .ok (.iconst (-1), 1) := by decide +kernel
theorem dX7_readSemicolon_31 : decode cX7_readSemicolon 31 = .ok (.putfield 171, 3) := by decide +kernel
theorem dX7_readSemicolon_34 : decode cX7_readSemicolon 34 = .ok (.iconst 1, 1) := by decide +kernel
theorem dX7_readSemicolon_35 : decode cX7_readSemicolon 35 = .ok (.ireturn, 1) := by decide +kernel
theorem dX7_readLogical_0 : decode cX7_readLogical 0 = .ok (.aload_n 0, 1) := by decide +kernel
theorem dX7_readLogical_1 : decode cX7_readLogical 1 = .ok (.ldc2_w 199, 3) := by decide +kernel
theorem dX7_readLogical_4 : decode cX7_readLogical 4 = .ok (.iconst 1, 1) := by decide +kernel
theorem dX7_readLogical_5 : decode cX7_readLogical 5 = .ok (.bipush 64, 2) := by decide +kernel
theorem dX7_readLogical_7 : decode cX7_readLogical 7 = .ok (.invokevirtual 201, 3) := by decide +kernel
theorem dX7_readLogical_10 : decode cX7_readLogical 10 = .ok (.ifCond .ne 5, 3) := by decide +kernel
theorem dX7_readLogical_13 : decode cX7_readLogical 13 = .ok (.iconst 0, 1) := by decide +kernel
theorem dX7_readLogical_14 : decode cX7_readLogical 14 = .ok (.ireturn, 1) := by decide +kernel
theorem dX7_readLogical_15 : decode cX7_readLogical 15 = .ok (.aload_n 0, 1) := by decide +kernel
theorem dX7_readLogical_16 : decode cX7_readLogical 16 = .ok (.aload_n 0, 1) := by decide +kernel
theorem dX7_readLogical_17 : decode cX7_readLogical 17 = .ok (.getfield 189, 3) := by decide +kernel
theorem dX7_readLogical_20 : decode cX7_readLogical 20 = .ok (.putfield 205, 3) := by decide +kernel
theorem dX7_readLogical_23 : decode cX7_readLogical 23 = .ok (.aload_n 0, 1) := by decide +kernel
theorem dX7_readLogical_24 : decode cX7_readLogical 24 = .ok (.getfield 208, 3) := by decide +kernel
theorem dX7_readLogical_27 : decode cX7_readLogical 27 = .ok (.iconst 2, 1) := by decide +kernel
theorem dX7_readLogical_28 : decode cX7_readLogical 28 = .ok (.isub, 1) := by decide +kernel
theorem dX7_readLogical_29 : decode cX7_readLogical 29 = .ok (.aload_n 0, 1) := by decide +kernel
theorem dX7_readLogical_30 : decode cX7_readLogical 30 = .ok (.getfield 211, 3) := by decide +kernel
theorem dX7_readLogical_33 : decode cX7_readLogical 33 = .ok (.imul, 1) := by decide +kernel
theorem dX7_readLogical_34 : decode cX7_readLogical 34 = .ok (.aload_n 0, 1) := by decide +kernel
theorem dX7_readLogical_35 : decode cX7_readLogical 35 = .ok (.getfield 205, 3) := by decide +kernel
theorem dX7_readLogical_38 : decode cX7_readLogical 38 = .ok (.iconst 2, 1) := by decide +kernel
theorem dX7_readLogical_39 : decode cX7_readLogical 39 = .ok (.aload_n 0, 1) := by decide +kernel
theorem dX7_readLogical_40 : decode cX7_readLogical 40 = .ok (.getfield 205, 3) := by decide +kernel
theorem dX7_readLogical_43 : decode cX7_readLogical 43 = .ok (.invokestatic 75, 3) := by decide +kernel
theorem dX7_readLogical_46 : decode cX7_readLogical 46 = .ok (.iconst 1, 1) := by decide +kernel
theorem dX7_readLogical_47 : decode cX7_readLogical 47 = .ok (.iadd, 1) := by decide +kernel
theorem dX7_readLogical_48 : decode cX7_readLogical 48 = .ok (.imul, 1) := by decide +kernel
theorem dX7_readLogical_49 : decode cX7_readLogical 49 = .ok (.iadd, 1) := by decide +kernel
theorem dX7_readLogical_50 : decode cX7_readLogical 50 = .ok (.iconst 1, 1) := by decide +kernel
theorem dX7_readLogical_51 : decode cX7_readLogical 51 = .ok (.iadd, 1) := by decide +kernel
theorem dX7_readLogical_52 : decode cX7_readLogical 52 = .ok (.if_icmp .lt 7, 3) := by decide +kernel
theorem dX7_readLogical_55 : decode cX7_readLogical 55 = .ok (.iconst 1, 1) := by decide +kernel
theorem dX7_readLogical_56 : decode cX7_readLogical 56 = .ok (.goto 4, 3) := by decide +kernel
theorem dX7_readLogical_59 : decode cX7_readLogical 59 = .ok (.iconst 0, 1) := by decide +kernel
theorem dX7_readLogical_60 : decode cX7_readLogical 60 = .ok (.istore_n 1, 1) := by decide +kernel
theorem dX7_readLogical_61 : decode cX7_readLogical 61 = .ok (.iload_n 1, 1) := by decide +kernel
theorem dX7_readLogical_62 : decode cX7_readLogical 62 = .ok (.ifCond .ne 15, 3) := by decide +kernel
theorem dX7_readLogical_65 : decode cX7_readLogical 65 = .ok (.aload_n 0, 1) := by decide +kernel
theorem dX7_readLogical_66 : decode cX7_readLogical 66 = .ok (.iconst 2, 1) := by decide +kernel
theorem dX7_readLogical_67 : decode cX7_readLogical 67 = .ok (.aload_n 0, 1) := by decide +kernel
theorem dX7_readLogical_68 : decode cX7_readLogical 68 = .ok (.getfield 160, 3) := by decide +kernel
theorem dX7_readLogical_71 : decode cX7_readLogical 71 = .ok (.invokevirtual 174, 3) := by decide +kernel
theorem dX7_readLogical_74 : decode cX7_readLogical 74 = .ok (.ifCond .eq 7, 3) := by decide +kernel
theorem dX7_readLogical_77 : decode cX7_readLogical 77 = .ok (.iconst 1, 1) := by decide +kernel
theorem dX7_readLogical_78 : decode cX7_readLogical 78 = .ok (.goto 4, 3) := by decide +kernel
theorem dX7_readLogical_81 : decode cX7_readLogical 81 = .ok (.iconst 0, 1) := by decide +kernel
theorem dX7_readLogical_82 : decode cX7_readLogical 82 = .ok (.ireturn, 1) := by decide +kernel
theorem dX7_readHead_0 : decode cX7_readHead 0 = .ok (.aload_n 0, 1) := by decide +kernel
theorem dX7_readHead_1 : decode cX7_readHead 1 = .ok (.ldc2_w 214, 3) := by decide +kernel
theorem dX7_readHead_4 : decode cX7_readHead 4 = .ok (.iconst 4, 1) := by decide +kernel
theorem dX7_readHead_5 : decode cX7_readHead 5 = .ok (.bipush 32, 2) := by decide +kernel
theorem dX7_readHead_7 : decode cX7_readHead 7 = .ok (.invokevirtual 201, 3) := by decide +kernel
theorem dX7_readHead_10 : decode cX7_readHead 10 = .ok (.ifCond .ne 5, 3) := by decide +kernel
theorem dX7_readHead_13 : decode cX7_readHead 13 = .ok (.iconst 0, 1) := by decide +kernel
theorem dX7_readHead_14 : decode cX7_readHead 14 = .ok (.ireturn, 1) := by decide +kernel
theorem dX7_readHead_15 : decode cX7_readHead 15 = .ok (.aload_n 0, 1) := by decide +kernel
theorem dX7_readHead_16 : decode cX7_readHead 16 = .ok (.aload_n 0, 1) := by decide +kernel
theorem dX7_readHead_17 : decode cX7_readHead 17 = .ok (.getfield 189, 3) := by decide +kernel
theorem dX7_readHead_20 : decode cX7_readHead 20 = .ok (.putfield 208, 3) := by decide +kernel
theorem dX7_readHead_23 : decode cX7_readHead 23 = .ok (.aload_n 0, 1) := by decide +kernel
theorem dX7_readHead_24 : decode cX7_readHead 24 = .ok (.ldc2_w 216, 3) := by decide +kernel
theorem dX7_readHead_27 : decode cX7_readHead 27 = .ok (.iconst 2, 1) := by decide +kernel
theorem dX7_readHead_28 : decode cX7_readHead 28 = .ok (.bipush 32, 2) := by decide +kernel
theorem dX7_readHead_30 : decode cX7_readHead 30 = .ok (.invokevirtual 201, 3) := by decide +kernel
theorem dX7_readHead_33 : decode cX7_readHead 33 = .ok (.ifCond .ne 5, 3) := by decide +kernel
theorem dX7_readHead_36 : decode cX7_readHead 36 = .ok (.iconst 0, 1) := by decide +kernel
theorem dX7_readHead_37 : decode cX7_readHead 37 = .ok (.ireturn, 1) := by decide +kernel
theorem dX7_readHead_38 : decode cX7_readHead 38 = .ok (.aload_n 0, 1) := by decide +kernel
theorem dX7_readHead_39 : decode cX7_readHead 39 = .ok (.aload_n 0, 1) := by decide +kernel
theorem dX7_readHead_40 : decode cX7_readHead 40 = .ok (.getfield 189, 3) := by decide +kernel
theorem dX7_readHead_43 : decode cX7_readHead 43 = .ok (.putfield 211, 3) := by decide +kernel
theorem dX7_readHead_46 : decode cX7_readHead 46 = .ok (.aload_n 0, 1) := by decide +kernel
theorem dX7_readHead_47 : decode cX7_readHead 47 = .ok (.invokevirtual 218, 3) := by decide +kernel
theorem dX7_readHead_50 : decode cX7_readHead 50 = .ok (.ifCond .eq 16, 3) := by decide +kernel
theorem dX7_readHead_53 : decode cX7_readHead 53 = .ok (.aload_n 0, 1) := by decide +kernel
theorem dX7_readHead_54 : decode cX7_readHead 54 = .ok (.ldc2_w 222, 3) := by decide +kernel
theorem dX7_readHead_57 : decode cX7_readHead 57 = .ok (.iconst 1, 1) := by decide +kernel
theorem dX7_readHead_58 : decode cX7_readHead 58 = .ok (.bipush 50, 2) := by decide +kernel
theorem dX7_readHead_60 : decode cX7_readHead 60 = .ok (.invokevirtual 201, 3) := by decide +kernel
theorem dX7_readHead_63 : decode cX7_readHead 63 = .ok (.ifCond .ne 5, 3) := by decide +kernel
theorem dX7_readHead_66 : decode cX7_readHead 66 = .ok (.iconst 0, 1) := by decide +kernel
theorem dX7_readHead_67 : decode cX7_readHead 67 = .ok (.ireturn, 1) := by decide +kernel
theorem dX7_readHead_68 : decode cX7_readHead 68 = .ok (.aload_n 0, 1) := by decide +kernel
theorem dX7_readHead_69 : decode cX7_readHead 69 = .ok (.aload_n 0, 1) := by decide +kernel
theorem dX7_readHead_70 : decode cX7_readHead 70 = .ok (.getfield 189, 3) := by decide +kernel
theorem dX7_readHead_73 : decode cX7_readHead 73 = .ok (.putfield 224, 3) := by decide +kernel
theorem dX7_readHead_76 : decode cX7_readHead 76 = .ok (.aload_n 0, 1) := by decide +kernel
theorem dX7_readHead_77 : decode cX7_readHead 77 = .ok (.invokevirtual 227, 3) := by decide +kernel
theorem dX7_readHead_80 : decode cX7_readHead 80 = .ok (.ireturn, 1) := by decide +kernel
theorem dX7_readValue_0 : decode cX7_readValue 0 = .ok (.aload_n 0, 1) := by decide +kernel
theorem dX7_readValue_1 : decode cX7_readValue 1 = .ok (.iconst 0, 1) := by decide +kernel
theorem dX7_readValue_2 : decode cX7_readValue 2 = .ok (.ldc 230, 2) := by decide +kernel
theorem dX7_readValue_4 : decode cX7_readValue 4 = .ok (.invokevirtual 196, 3) := by decide +kernel
theorem dX7_readValue_7 : decode cX7_readValue 7 = .ok (.ifCond .ne 5, 3) := by decide +kernel
theorem dX7_readValue_10 : decode cX7_readValue 10 = .ok (.iconst 0, 1) := by decide +kernel
theorem dX7_readValue_11 : decode cX7_readValue 11 = .ok (.ireturn, 1) := by decide +kernel
theorem dX7_readValue_12 : decode cX7_readValue 12 = .ok (.aload_n 0, 1) := by decide +kernel
theorem dX7_readValue_13 : decode cX7_readValue 13 = .ok (.getfield 231, 3) := by decide +kernel
theorem dX7_readValue_16 : decode cX7_readValue 16 = .ok (.aload_n 0, 1) := by decide +kernel
theorem dX7_readValue_17 : decode cX7_readValue 17 = .ok (.getfield 205, 3) := by decide +kernel
theorem dX7_readValue_20 : decode cX7_readValue 20 = .ok (.if_icmp .ne 13, 3) := by decide +kernel
theorem dX7_readValue_23 : decode cX7_readValue 23 = .ok (.aload_n 0, 1) := by decide +kernel
theorem dX7_readValue_24 : decode cX7_readValue 24 = .ok (.iconst 3, 1) := by decide +kernel
theorem dX7_readValue_25 : decode cX7_readValue 25 = .ok (.aload_n 0, 1) := by decide +kernel
theorem dX7_readValue_26 : decode cX7_readValue 26 = .ok (.getfield 160, 3) := by decide +kernel
theorem dX7_readValue_29 : decode cX7_readValue 29 = .ok (.invokevirtual 174, 3) := by decide +kernel
theorem dX7_readValue_32 : decode cX7_readValue 32 = .ok (.ireturn, 1) := by decide +kernel
theorem dX7_readValue_33 : decode cX7_readValue 33 = .ok (.aload_n 0, 1) := by decide +kernel
theorem dX7_readValue_34 : decode cX7_readValue 34 = .ok (.getfield 7, 3) := by decide +kernel
theorem dX7_readValue_37 : decode cX7_readValue 37 = .ok (.aload_n 0, 1) := by decide +kernel
theorem dX7_readValue_38 : decode cX7_readValue 38 = .ok (.getfield 231, 3) := by decide +kernel
theorem dX7_readValue_41 : decode cX7_readValue 41 = .ok (.aload_n 0, 1) := by decide +kernel
theorem dX7_readValue_42 : decode cX7_readValue 42 = .ok (.getfield 189, 3) := by decide +kernel
theorem dX7_readValue_45 : decode cX7_readValue 45 = .ok (.iastore, 1) := by decide +kernel
theorem dX7_readValue_46 : decode cX7_readValue 46 = .ok (.aload_n 0, 1) := by decide +kernel
theorem dX7_readValue_47 : decode cX7_readValue 47 = .ok (.aload_n 0, 1) := by decide +kernel
theorem dX7_readValue_48 : decode cX7_readValue 48 = .ok (.getfield 231, 3) := by decide +kernel
theorem dX7_readValue_51 : decode cX7_readValue 51 = .ok (.iconst 1, 1) := by decide +kernel
theorem dX7_readValue_52 : decode cX7_readValue 52 = .ok (.iadd, 1) := by decide +kernel
theorem dX7_readValue_53 : decode cX7_readValue 53 = .ok (.putfield 231, 3) := by decide +kernel
theorem dX7_readValue_56 : decode cX7_readValue 56 = .ok (.iconst 1, 1) := by decide +kernel
theorem dX7_readValue_57 : decode cX7_readValue 57 = .ok (.ireturn, 1) := by decide +kernel
theorem dX7_readFill_0 : decode cX7_readFill 0 = .ok (.aload_n 0, 1) := by decide +kernel
theorem dX7_readFill_1 : decode cX7_readFill 1 = .ok (.ldc2_w 234, 3) := by decide +kernel
theorem dX7_readFill_4 : decode cX7_readFill 4 = .ok (.invokevirtual 192, 3) := by decide +kernel
theorem dX7_readFill_7 : decode cX7_readFill 7 = .ok (.ifCond .eq 10, 3) := by decide +kernel
theorem dX7_readFill_10 : decode cX7_readFill 10 = .ok (.aload_n 0, 1) := by decide +kernel
theorem dX7_readFill_11 : decode cX7_readFill 11 = .ok (.invokevirtual 236, 3) := by decide +kernel
theorem dX7_readFill_14 : decode cX7_readFill 14 = .ok (.ifCond .ne 5, 3) := by decide +kernel
theorem dX7_readFill_17 : decode cX7_readFill 17 = .ok (.iconst 0, 1) := by decide +kernel
theorem dX7_readFill_18 : decode cX7_readFill 18 = .ok (.ireturn, 1) := by decide +kernel
theorem dX7_readFill_19 : decode cX7_readFill 19 = .ok (.aload_n 0, 1) := by decide +kernel
theorem dX7_readFill_20 : decode cX7_readFill 20 = .ok (.invokevirtual 163, 3) := by decide +kernel
theorem dX7_readFill_23 : decode cX7_readFill 23 = .ok (.invokestatic 186, 3) := by decide +kernel
theorem dX7_readFill_26 : decode cX7_readFill 26 = .ok (.ifCond .eq 12, 3) := by decide +kernel
theorem dX7_readFill_29 : decode cX7_readFill 29 = .ok (.aload_n 0, 1) := by decide +kernel
theorem dX7_readFill_30 : decode cX7_readFill 30 = .ok (.invokevirtual 236, 3) := by decide +kernel
theorem dX7_readFill_33 : decode cX7_readFill 33 = .ok (.ifCond .ne (-14), 3) := by decide +kernel
theorem dX7_readFill_36 : decode cX7_readFill 36 = .ok (.iconst 0, 1) := by decide +kernel
theorem dX7_readFill_37 : decode cX7_readFill 37 = .ok (.ireturn, 1) := by decide +kernel
theorem dX7_readFill_38 : decode cX7_readFill 38 = .ok (.aload_n 0, 1) := by decide +kernel
theorem dX7_readFill_39 : decode cX7_readFill 39 = .ok (.invokevirtual 227, 3) := by decide +kernel
theorem dX7_readFill_42 : decode cX7_readFill 42 = .ok (.ireturn, 1) := by decide +kernel
theorem dX7_readFormat_0 : decode cX7_readFormat 0 = .ok (.aload_n 0, 1) := by decide +kernel
theorem dX7_readFormat_1 : decode cX7_readFormat 1 = .ok (.iconst 0, 1) := by decide +kernel
theorem dX7_readFormat_2 : decode cX7_readFormat 2 = .ok (.putfield 231, 3) := by decide +kernel
theorem dX7_readFormat_5 : decode cX7_readFormat 5 = .ok (.aload_n 0, 1) := by decide +kernel
theorem dX7_readFormat_6 : decode cX7_readFormat 6 = .ok (.invokevirtual 239, 3) := by decide +kernel
theorem dX7_readFormat_9 : decode cX7_readFormat 9 = .ok (.ifCond .ne 5, 3) := by decide +kernel
theorem dX7_readFormat_12 : decode cX7_readFormat 12 = .ok (.iconst 0, 1) := by decide +kernel
theorem dX7_readFormat_13 : decode cX7_readFormat 13 = .ok (.ireturn, 1) := by decide +kernel
theorem dX7_readFormat_14 : decode cX7_readFormat 14 = .ok (.aload_n 0, 1) := by decide +kernel
theorem dX7_readFormat_15 : decode cX7_readFormat 15 = .ok (.invokevirtual 163, 3) := by decide +kernel
theorem dX7_readFormat_18 : decode cX7_readFormat 18 = .ok (.iconst (-1), 1) := by decide +kernel
theorem dX7_readFormat_19 : decode cX7_readFormat 19 = .ok (.if_icmp .eq 12, 3) := by decide +kernel
theorem dX7_readFormat_22 : decode cX7_readFormat 22 = .ok (.aload_n 0, 1) := by decide +kernel
theorem dX7_readFormat_23 : decode cX7_readFormat 23 = .ok (.invokevirtual 242, 3) := by decide +kernel
theorem dX7_readFormat_26 : decode cX7_readFormat 26 = .ok (.ifCond .ne (-12), 3) := by decide +kernel
theorem dX7_readFormat_29 : decode cX7_readFormat 29 = .ok (.iconst 0, 1) := by decide +kernel
theorem dX7_readFormat_30 : decode cX7_readFormat 30 = .ok (.ireturn, 1) := by decide +kernel
theorem dX7_readFormat_31 : decode cX7_readFormat 31 = .ok (.iconst 1, 1) := by decide +kernel
theorem dX7_readFormat_32 : decode cX7_readFormat 32 = .ok (.ireturn, 1) := by decide +kernel
theorem dX7_format_0 : decode cX7_format 0 = .ok (.aload_n 0, 1) := by decide +kernel
theorem dX7_format_1 : decode cX7_format 1 = .ok (.iconst 0, 1) := by decide +kernel
theorem dX7_format_2 : decode cX7_format 2 = .ok (.putfield 69, 3) := by decide +kernel
theorem dX7_format_5 : decode cX7_format 5 = .ok (.iload_n 1, 1) := by decide +kernel
theorem dX7_format_6 : decode cX7_format 6 = .ok (.iconst 0, 1) := by decide +kernel
theorem dX7_format_7 : decode cX7_format 7 = .ok (.aload_n 0, 1) := by decide +kernel
theorem dX7_format_8 : decode cX7_format 8 = .ok (.getfield 135, 3) := by decide +kernel
theorem dX7_format_11 : decode cX7_format 11 = .ok (.invokestatic 85, 3) := by decide +kernel
theorem dX7_format_14 : decode cX7_format 14 = .ok (.ifCond .ne 9, 3) := by decide +kernel
theorem dX7_format_17 : decode cX7_format 17 = .ok (.aload_n 0, 1) := by decide +kernel
theorem dX7_format_18 : decode cX7_format 18 = .ok (.iconst 1, 1) := by decide +kernel
theorem dX7_format_19 : decode cX7_format 19 = .ok (.invokevirtual 138, 3) := by decide +kernel
theorem dX7_format_22 : decode cX7_format 22 = .ok (.ireturn, 1) := by decide +kernel
theorem dX7_format_23 : decode cX7_format 23 = .ok (.aload_n 0, 1) := by decide +kernel
theorem dX7_format_24 : decode cX7_format 24 = .ok (.iload_n 1, 1) := by decide +kernel
theorem dX7_format_25 : decode cX7_format 25 = .ok (.putfield 151, 3) := by decide +kernel
theorem dX7_format_28 : decode cX7_format 28 = .ok (.aload_n 0, 1) := by decide +kernel
theorem dX7_format_29 : decode cX7_format 29 = .ok (.iconst 0, 1) := by decide +kernel
theorem dX7_format_30 : decode cX7_format 30 = .ok (.putfield 154, 3) := by decide +kernel
theorem dX7_format_33 : decode cX7_format 33 = .ok (.aload_n 0, 1) := by decide +kernel
theorem dX7_format_34 : decode cX7_format 34 = .ok (.iconst (-1), 1) := by decide +kernel
theorem dX7_format_35 : decode cX7_format 35 = .ok (.putfield 171, 3) := by decide +kernel
theorem dX7_format_38 : decode cX7_format 38 = .ok (.aload_n 0, 1) := by decide +kernel
theorem dX7_format_39 : decode cX7_format 39 = .ok (.iconst 0, 1) := by decide +kernel
theorem dX7_format_40 : decode cX7_format 40 = .ok (.putfield 145, 3) := by decide +kernel
theorem dX7_format_43 : decode cX7_format 43 = .ok (.aload_n 0, 1) := by decide +kernel
theorem dX7_format_44 : decode cX7_format 44 = .ok (.iconst (-1), 1) := by decide +kernel
theorem dX7_format_45 : decode cX7_format 45 = .ok (.putfield 63, 3) := by decide +kernel
theorem dX7_format_48 : decode cX7_format 48 = .ok (.aload_n 0, 1) := by decide +kernel
theorem dX7_format_49 : decode cX7_format 49 = .ok (.invokevirtual 245, 3) := by decide +kernel
theorem dX7_format_52 : decode cX7_format 52 = .ok (.istore_n 2, 1) := by decide +kernel
theorem dX7_format_53 : decode cX7_format 53 = .ok (.aload_n 0, 1) := by decide +kernel
theorem dX7_format_54 : decode cX7_format 54 = .ok (.iconst 0, 1) := by decide +kernel
theorem dX7_format_55 : decode cX7_format 55 = .ok (.putfield 135, 3) := by decide +kernel
theorem dX7_format_58 : decode cX7_format 58 = .ok (.iload_n 2, 1) := by decide +kernel
theorem dX7_format_59 : decode cX7_format 59 = .ok (.ifCond .ne 9, 3) := by decide +kernel
theorem dX7_format_62 : decode cX7_format 62 = .ok (.aload_n 0, 1) := by decide +kernel
theorem dX7_format_63 : decode cX7_format 63 = .ok (.iconst 2, 1) := by decide +kernel
theorem dX7_format_64 : decode cX7_format 64 = .ok (.invokevirtual 138, 3) := by decide +kernel
theorem dX7_format_67 : decode cX7_format 67 = .ok (.ireturn, 1) := by decide +kernel
theorem dX7_format_68 : decode cX7_format 68 = .ok (.aload_n 0, 1) := by decide +kernel
theorem dX7_format_69 : decode cX7_format 69 = .ok (.aload_n 0, 1) := by decide +kernel
theorem dX7_format_70 : decode cX7_format 70 = .ok (.getfield 208, 3) := by decide +kernel
theorem dX7_format_73 : decode cX7_format 73 = .ok (.putfield 79, 3) := by decide +kernel
theorem dX7_format_76 : decode cX7_format 76 = .ok (.aload_n 0, 1) := by decide +kernel
theorem dX7_format_77 : decode cX7_format 77 = .ok (.aload_n 0, 1) := by decide +kernel
theorem dX7_format_78 : decode cX7_format 78 = .ok (.getfield 211, 3) := by decide +kernel
theorem dX7_format_81 : decode cX7_format 81 = .ok (.putfield 82, 3) := by decide +kernel
theorem dX7_format_84 : decode cX7_format 84 = .ok (.aload_n 0, 1) := by decide +kernel
theorem dX7_format_85 : decode cX7_format 85 = .ok (.aload_n 0, 1) := by decide +kernel
theorem dX7_format_86 : decode cX7_format 86 = .ok (.getfield 205, 3) := by decide +kernel
theorem dX7_format_89 : decode cX7_format 89 = .ok (.putfield 72, 3) := by decide +kernel
theorem dX7_format_92 : decode cX7_format 92 = .ok (.aload_n 0, 1) := by decide +kernel
theorem dX7_format_93 : decode cX7_format 93 = .ok (.aload_n 0, 1) := by decide +kernel
theorem dX7_format_94 : decode cX7_format 94 = .ok (.getfield 224, 3) := by decide +kernel
theorem dX7_format_97 : decode cX7_format 97 = .ok (.putfield 248, 3) := by decide +kernel
theorem dX7_format_100 : decode cX7_format 100 = .ok (.aload_n 0, 1) := by decide +kernel
theorem dX7_format_101 : decode cX7_format 101 = .ok (.invokevirtual 251, 3) := by decide +kernel
theorem dX7_format_104 : decode cX7_format 104 = .ok (.iconst 0, 1) := by decide +kernel
theorem dX7_format_105 : decode cX7_format 105 = .ok (.istore_n 3, 1) := by decide +kernel
theorem dX7_format_106 : decode cX7_format 106 = .ok (.iload_n 3, 1) := by decide +kernel
theorem dX7_format_107 : decode cX7_format 107 = .ok (.aload_n 0, 1) := by decide +kernel
theorem dX7_format_108 : decode cX7_format 108 = .ok (.getfield 231, 3) := by decide +kernel
theorem dX7_format_111 : decode cX7_format 111 = .ok (.if_icmp .ge 29, 3) := by decide +kernel
theorem dX7_format_114 : decode cX7_format 114 = .ok (.aload_n 0, 1) := by decide +kernel
theorem dX7_format_115 : decode cX7_format 115 = .ok (.iload_n 3, 1) := by decide +kernel
theorem dX7_format_116 : decode cX7_format 116 = .ok (.aload_n 0, 1) := by decide +kernel
theorem dX7_format_117 : decode cX7_format 117 = .ok (.getfield 7, 3) := by decide +kernel
theorem dX7_format_120 : decode cX7_format 120 = .ok (.iload_n 3, 1) := by decide +kernel
theorem dX7_format_121 : decode cX7_format 121 = .ok (.iaload, 1) := by decide +kernel
theorem dX7_format_122 : decode cX7_format 122 = .ok (.invokevirtual 254, 3) := by decide +kernel
theorem dX7_format_125 : decode cX7_format 125 = .ok (.ifCond .ne 9, 3) := by decide +kernel
theorem dX7_format_128 : decode cX7_format 128 = .ok (.aload_n 0, 1) := by decide +kernel
theorem dX7_format_129 : decode cX7_format 129 = .ok (.iconst 2, 1) := by decide +kernel
theorem dX7_format_130 : decode cX7_format 130 = .ok (.invokevirtual 138, 3) := by decide +kernel
theorem dX7_format_133 : decode cX7_format 133 = .ok (.ireturn, 1) := by decide +kernel
theorem dX7_format_134 : decode cX7_format 134 = .ok (.iinc 3 1, 3) := by decide +kernel
theorem dX7_format_137 : decode cX7_format 137 = .ok (.goto (-31), 3) := by decide +kernel
theorem dX7_format_140 : decode cX7_format 140 = .ok (.aload_n 0, 1) := by decide +kernel
theorem dX7_format_141 : decode cX7_format 141 = .ok (.getfield 231, 3) := by decide +kernel
theorem dX7_format_144 : decode cX7_format 144 = .ok (.ireturn, 1) := by decide +kernel
theorem dX7_isProgrammed_0 : decode cX7_isProgrammed 0 = .ok (.aload_n 0, 1) := by decide +kernel
theorem dX7_isProgrammed_1 : decode cX7_isProgrammed 1 = .ok (.getfield 13, 3) := by decide +kernel
theorem dX7_isProgrammed_4 : decode cX7_isProgrammed 4 = .ok (.iload_n 1, 1) := by decide +kernel
theorem dX7_isProgrammed_5 : decode cX7_isProgrammed 5 = .ok (.iaload, 1) := by decide +kernel
theorem dX7_isProgrammed_6 : decode cX7_isProgrammed 6 = .ok (.iconst 1, 1) := by decide +kernel
theorem dX7_isProgrammed_7 : decode cX7_isProgrammed 7 = .ok (.iconst 4, 1) := by decide +kernel
theorem dX7_isProgrammed_8 : decode cX7_isProgrammed 8 = .ok (.invokestatic 85, 3) := by decide +kernel
theorem dX7_isProgrammed_11 : decode cX7_isProgrammed 11 = .ok (.ireturn, 1) := by decide +kernel
theorem dX7_isReadBy_0 : decode cX7_isReadBy 0 = .ok (.iconst 0, 1) := by decide +kernel
theorem dX7_isReadBy_1 : decode cX7_isReadBy 1 = .ok (.istore_n 3, 1) := by decide +kernel
theorem dX7_isReadBy_2 : decode cX7_isReadBy 2 = .ok (.iload_n 3, 1) := by decide +kernel
theorem dX7_isReadBy_3 : decode cX7_isReadBy 3 = .ok (.iconst 4, 1) := by decide +kernel
theorem dX7_isReadBy_4 : decode cX7_isReadBy 4 = .ok (.if_icmp .ge 35, 3) := by decide +kernel
theorem dX7_isReadBy_7 : decode cX7_isReadBy 7 = .ok (.aload_n 0, 1) := by decide +kernel
theorem dX7_isReadBy_8 : decode cX7_isReadBy 8 = .ok (.getfield 49, 3) := by decide +kernel
theorem dX7_isReadBy_11 : decode cX7_isReadBy 11 = .ok (.iload_n 3, 1) := by decide +kernel
theorem dX7_isReadBy_12 : decode cX7_isReadBy 12 = .ok (.baload, 1) := by decide +kernel
theorem dX7_isReadBy_13 : decode cX7_isReadBy 13 = .ok (.ifCond .eq 20, 3) := by decide +kernel
theorem dX7_isReadBy_16 : decode cX7_isReadBy 16 = .ok (.aload_n 0, 1) := by decide +kernel
theorem dX7_isReadBy_17 : decode cX7_isReadBy 17 = .ok (.getfield 46, 3) := by decide +kernel
theorem dX7_isReadBy_20 : decode cX7_isReadBy 20 = .ok (.bipush 64, 2) := by decide +kernel
theorem dX7_isReadBy_22 : decode cX7_isReadBy 22 = .ok (.iload_n 3, 1) := by decide +kernel
theorem dX7_isReadBy_23 : decode cX7_isReadBy 23 = .ok (.imul, 1) := by decide +kernel
theorem dX7_isReadBy_24 : decode cX7_isReadBy 24 = .ok (.iload_n 1, 1) := by decide +kernel
theorem dX7_isReadBy_25 : decode cX7_isReadBy 25 = .ok (.iadd, 1) := by decide +kernel
theorem dX7_isReadBy_26 : decode cX7_isReadBy 26 = .ok (.iaload, 1) := by decide +kernel
theorem dX7_isReadBy_27 : decode cX7_isReadBy 27 = .ok (.iload_n 2, 1) := by decide +kernel
theorem dX7_isReadBy_28 : decode cX7_isReadBy 28 = .ok (.if_icmp .ne 5, 3) := by decide +kernel
theorem dX7_isReadBy_31 : decode cX7_isReadBy 31 = .ok (.iconst 1, 1) := by decide +kernel
theorem dX7_isReadBy_32 : decode cX7_isReadBy 32 = .ok (.ireturn, 1) := by decide +kernel
theorem dX7_isReadBy_33 : decode cX7_isReadBy 33 = .ok (.iinc 3 1, 3) := by decide +kernel
theorem dX7_isReadBy_36 : decode cX7_isReadBy 36 = .ok (.goto (-34), 3) := by decide +kernel
theorem dX7_isReadBy_39 : decode cX7_isReadBy 39 = .ok (.iconst 0, 1) := by decide +kernel
theorem dX7_isReadBy_40 : decode cX7_isReadBy 40 = .ok (.ireturn, 1) := by decide +kernel
theorem dX7_isWantedData_0 : decode cX7_isWantedData 0 = .ok (.aload_n 0, 1) := by decide +kernel
theorem dX7_isWantedData_1 : decode cX7_isWantedData 1 = .ok (.getfield 16, 3) := by decide +kernel
theorem dX7_isWantedData_4 : decode cX7_isWantedData 4 = .ok (.iload_n 1, 1) := by decide +kernel
theorem dX7_isWantedData_5 : decode cX7_isWantedData 5 = .ok (.iaload, 1) := by decide +kernel
theorem dX7_isWantedData_6 : decode cX7_isWantedData 6 = .ok (.istore_n 2, 1) := by decide +kernel
theorem dX7_isWantedData_7 : decode cX7_isWantedData 7 = .ok (.aload_n 0, 1) := by decide +kernel
theorem dX7_isWantedData_8 : decode cX7_isWantedData 8 = .ok (.getfield 22, 3) := by decide +kernel
theorem dX7_isWantedData_11 : decode cX7_isWantedData 11 = .ok (.iload_n 1, 1) := by decide +kernel
theorem dX7_isWantedData_12 : decode cX7_isWantedData 12 = .ok (.iaload, 1) := by decide +kernel
theorem dX7_isWantedData_13 : decode cX7_isWantedData 13 = .ok (.istore_n 3, 1) := by decide +kernel
theorem dX7_isWantedData_14 : decode cX7_isWantedData 14 = .ok (.iload_n 3, 1) := by decide +kernel
theorem dX7_isWantedData_15 : decode cX7_isWantedData 15 = .ok (.aload_n 0, 1) := by decide +kernel
theorem dX7_isWantedData_16 : decode cX7_isWantedData 16 = .ok (.getfield 37, 3) := by decide +kernel
theorem dX7_isWantedData_19 : decode cX7_isWantedData 19 = .ok (.iload_n 2, 1) := by decide +kernel
theorem dX7_isWantedData_20 : decode cX7_isWantedData 20 = .ok (.iaload, 1) := by decide +kernel
theorem dX7_isWantedData_21 : decode cX7_isWantedData 21 = .ok (.if_icmp .eq 31, 3) := by decide +kernel
theorem dX7_isWantedData_24 : decode cX7_isWantedData 24 = .ok (.aload_n 0, 1) := by decide +kernel
theorem dX7_isWantedData_25 : decode cX7_isWantedData 25 = .ok (.getfield 40, 3) := by decide +kernel
theorem dX7_isWantedData_28 : decode cX7_isWantedData 28 = .ok (.iload_n 2, 1) := by decide +kernel
theorem dX7_isWantedData_29 : decode cX7_isWantedData 29 = .ok (.iaload, 1) := by decide +kernel
theorem dX7_isWantedData_30 : decode cX7_isWantedData 30 = .ok (.ifCond .le 13, 3) := by decide +kernel
theorem dX7_isWantedData_33 : decode cX7_isWantedData 33 = .ok (.iload_n 3, 1) := by decide +kernel
theorem dX7_isWantedData_34 : decode cX7_isWantedData 34 = .ok (.aload_n 0, 1) := by decide +kernel
theorem dX7_isWantedData_35 : decode cX7_isWantedData 35 = .ok (.getfield 43, 3) := by decide +kernel
theorem dX7_isWantedData_38 : decode cX7_isWantedData 38 = .ok (.iload_n 2, 1) := by decide +kernel
theorem dX7_isWantedData_39 : decode cX7_isWantedData 39 = .ok (.iaload, 1) := by decide +kernel
theorem dX7_isWantedData_40 : decode cX7_isWantedData 40 = .ok (.if_icmp .eq 12, 3) := by decide +kernel
theorem dX7_isWantedData_43 : decode cX7_isWantedData 43 = .ok (.aload_n 0, 1) := by decide +kernel
theorem dX7_isWantedData_44 : decode cX7_isWantedData 44 = .ok (.iload_n 2, 1) := by decide +kernel
theorem dX7_isWantedData_45 : decode cX7_isWantedData 45 = .ok (.iload_n 3, 1) := by decide +kernel
theorem dX7_isWantedData_46 : decode cX7_isWantedData 46 = .ok (.invokevirtual 258, 3) := by decide +kernel
theorem dX7_isWantedData_49 : decode cX7_isWantedData 49 = .ok (.ifCond .eq 7, 3) := by decide +kernel
theorem dX7_isWantedData_52 : decode cX7_isWantedData 52 = .ok (.iconst 1, 1) := by decide +kernel
theorem dX7_isWantedData_53 : decode cX7_isWantedData 53 = .ok (.goto 4, 3) := by decide +kernel
theorem dX7_isWantedData_56 : decode cX7_isWantedData 56 = .ok (.iconst 0, 1) := by decide +kernel
theorem dX7_isWantedData_57 : decode cX7_isWantedData 57 = .ok (.ireturn, 1) := by decide +kernel
theorem dX7_isWanted_0 : decode cX7_isWanted 0 = .ok (.aload_n 0, 1) := by decide +kernel
theorem dX7_isWanted_1 : decode cX7_isWanted 1 = .ok (.getfield 13, 3) := by decide +kernel
theorem dX7_isWanted_4 : decode cX7_isWanted 4 = .ok (.iload_n 1, 1) := by decide +kernel
theorem dX7_isWanted_5 : decode cX7_isWanted 5 = .ok (.iaload, 1) := by decide +kernel
theorem dX7_isWanted_6 : decode cX7_isWanted 6 = .ok (.tableswitch 106 1 4 #[30, 36, 55, 87], 30) := by decide +kernel
theorem dX7_isWanted_36 : decode cX7_isWanted 36 = .ok (.aload_n 0, 1) := by decide +kernel
theorem dX7_isWanted_37 : decode cX7_isWanted 37 = .ok (.iload_n 1, 1) := by decide +kernel
theorem dX7_isWanted_38 : decode cX7_isWanted 38 = .ok (.invokevirtual 261, 3) := by decide +kernel
theorem dX7_isWanted_41 : decode cX7_isWanted 41 = .ok (.ireturn, 1) := by decide +kernel
theorem dX7_isWanted_42 : decode cX7_isWanted 42 = .ok (.aload_n 0, 1) := by decide +kernel
theorem dX7_isWanted_43 : decode cX7_isWanted 43 = .ok (.getfield 22, 3) := by decide +kernel
theorem dX7_isWanted_46 : decode cX7_isWanted 46 = .ok (.iload_n 1, 1) := by decide +kernel
theorem dX7_isWanted_47 : decode cX7_isWanted 47 = .ok (.iaload, 1) := by decide +kernel
theorem dX7_isWanted_48 : decode cX7_isWanted 48 = .ok (.aload_n 0, 1) := by decide +kernel
theorem dX7_isWanted_49 : decode cX7_isWanted 49 = .ok (.getfield 92, 3) := by decide +kernel
theorem dX7_isWanted_52 : decode cX7_isWanted 52 = .ok (.if_icmp .le 7, 3) := by decide +kernel
theorem dX7_isWanted_55 : decode cX7_isWanted 55 = .ok (.iconst 1, 1) := by decide +kernel
theorem dX7_isWanted_56 : decode cX7_isWanted 56 = .ok (.goto 4, 3) := by decide +kernel
theorem dX7_isWanted_59 : decode cX7_isWanted 59 = .ok (.iconst 0, 1) := by decide +kernel
theorem dX7_isWanted_60 : decode cX7_isWanted 60 = .ok (.ireturn, 1) := by decide +kernel
theorem dX7_isWanted_61 : decode cX7_isWanted 61 = .ok (.aload_n 0, 1) := by decide +kernel
theorem dX7_isWanted_62 : decode cX7_isWanted 62 = .ok (.getfield 19, 3) := by decide +kernel
theorem dX7_isWanted_65 : decode cX7_isWanted 65 = .ok (.iload_n 1, 1) := by decide +kernel
theorem dX7_isWanted_66 : decode cX7_isWanted 66 = .ok (.iaload, 1) := by decide +kernel
theorem dX7_isWanted_67 : decode cX7_isWanted 67 = .ok (.aload_n 0, 1) := by decide +kernel
theorem dX7_isWanted_68 : decode cX7_isWanted 68 = .ok (.getfield 89, 3) := by decide +kernel
theorem dX7_isWanted_71 : decode cX7_isWanted 71 = .ok (.if_icmp .eq 16, 3) := by decide +kernel
theorem dX7_isWanted_74 : decode cX7_isWanted 74 = .ok (.aload_n 0, 1) := by decide +kernel
theorem dX7_isWanted_75 : decode cX7_isWanted 75 = .ok (.getfield 19, 3) := by decide +kernel
theorem dX7_isWanted_78 : decode cX7_isWanted 78 = .ok (.iload_n 1, 1) := by decide +kernel
theorem dX7_isWanted_79 : decode cX7_isWanted 79 = .ok (.iaload, 1) := by decide +kernel
theorem dX7_isWanted_80 : decode cX7_isWanted 80 = .ok (.aload_n 0, 1) := by decide +kernel
theorem dX7_isWanted_81 : decode cX7_isWanted 81 = .ok (.getfield 95, 3) := by decide +kernel
theorem dX7_isWanted_84 : decode cX7_isWanted 84 = .ok (.if_icmp .ne 7, 3) := by decide +kernel
theorem dX7_isWanted_87 : decode cX7_isWanted 87 = .ok (.iconst 1, 1) := by decide +kernel
theorem dX7_isWanted_88 : decode cX7_isWanted 88 = .ok (.goto 4, 3) := by decide +kernel
theorem dX7_isWanted_91 : decode cX7_isWanted 91 = .ok (.iconst 0, 1) := by decide +kernel
theorem dX7_isWanted_92 : decode cX7_isWanted 92 = .ok (.ireturn, 1) := by decide +kernel
theorem dX7_isWanted_93 : decode cX7_isWanted 93 = .ok (.aload_n 0, 1) := by decide +kernel
theorem dX7_isWanted_94 : decode cX7_isWanted 94 = .ok (.getfield 19, 3) := by decide +kernel
theorem dX7_isWanted_97 : decode cX7_isWanted 97 = .ok (.iload_n 1, 1) := by decide +kernel
theorem dX7_isWanted_98 : decode cX7_isWanted 98 = .ok (.iaload, 1) := by decide +kernel
theorem dX7_isWanted_99 : decode cX7_isWanted 99 = .ok (.aload_n 0, 1) := by decide +kernel
theorem dX7_isWanted_100 : decode cX7_isWanted 100 = .ok (.getfield 89, 3) := by decide +kernel
theorem dX7_isWanted_103 : decode cX7_isWanted 103 = .ok (.if_icmp .ne 7, 3) := by decide +kernel
theorem dX7_isWanted_106 : decode cX7_isWanted 106 = .ok (.iconst 1, 1) := by decide +kernel
theorem dX7_isWanted_107 : decode cX7_isWanted 107 = .ok (.goto 4, 3) := by decide +kernel
theorem dX7_isWanted_110 : decode cX7_isWanted 110 = .ok (.iconst 0, 1) := by decide +kernel
theorem dX7_isWanted_111 : decode cX7_isWanted 111 = .ok (.ireturn, 1) := by decide +kernel
theorem dX7_isWanted_112 : decode cX7_isWanted 112 = .ok (.iconst 0, 1) := by decide +kernel
theorem dX7_isWanted_113 : decode cX7_isWanted 113 = .ok (.ireturn, 1) := by decide +kernel
theorem dX7_isCopyOf_0 : decode cX7_isCopyOf 0 = .ok (.aload_n 0, 1) := by decide +kernel
theorem dX7_isCopyOf_1 : decode cX7_isCopyOf 1 = .ok (.getfield 13, 3) := by decide +kernel
theorem dX7_isCopyOf_4 : decode cX7_isCopyOf 4 = .ok (.iload_n 1, 1) := by decide +kernel
theorem dX7_isCopyOf_5 : decode cX7_isCopyOf 5 = .ok (.iaload, 1) := by decide +kernel
theorem dX7_isCopyOf_6 : decode cX7_isCopyOf 6 = .ok (.aload_n 0, 1) := by decide +kernel
theorem dX7_isCopyOf_7 : decode cX7_isCopyOf 7 = .ok (.getfield 13, 3) := by decide +kernel
theorem dX7_isCopyOf_10 : decode cX7_isCopyOf 10 = .ok (.iload_n 2, 1) := by decide +kernel
theorem dX7_isCopyOf_11 : decode cX7_isCopyOf 11 = .ok (.iaload, 1) := by decide +kernel
theorem dX7_isCopyOf_12 : decode cX7_isCopyOf 12 = .ok (.if_icmp .ne 52, 3) := by decide +kernel
theorem dX7_isCopyOf_15 : decode cX7_isCopyOf 15 = .ok (.aload_n 0, 1) := by decide +kernel
theorem dX7_isCopyOf_16 : decode cX7_isCopyOf 16 = .ok (.getfield 19, 3) := by decide +kernel
theorem dX7_isCopyOf_19 : decode cX7_isCopyOf 19 = .ok (.iload_n 1, 1) := by decide +kernel
theorem dX7_isCopyOf_20 : decode cX7_isCopyOf 20 = .ok (.iaload, 1) := by decide +kernel
theorem dX7_isCopyOf_21 : decode cX7_isCopyOf 21 = .ok (.aload_n 0, 1) := by decide +kernel
theorem dX7_isCopyOf_22 : decode cX7_isCopyOf 22 = .ok (.getfield 19, 3) := by decide +kernel
theorem dX7_isCopyOf_25 : decode cX7_isCopyOf 25 = .ok (.iload_n 2, 1) := by decide +kernel
theorem dX7_isCopyOf_26 : decode cX7_isCopyOf 26 = .ok (.iaload, 1) := by decide +kernel
theorem dX7_isCopyOf_27 : decode cX7_isCopyOf 27 = .ok (.if_icmp .ne 37, 3) := by decide +kernel
theorem dX7_isCopyOf_30 : decode cX7_isCopyOf 30 = .ok (.aload_n 0, 1) := by decide +kernel
theorem dX7_isCopyOf_31 : decode cX7_isCopyOf 31 = .ok (.getfield 16, 3) := by decide +kernel
theorem dX7_isCopyOf_34 : decode cX7_isCopyOf 34 = .ok (.iload_n 1, 1) := by decide +kernel
theorem dX7_isCopyOf_35 : decode cX7_isCopyOf 35 = .ok (.iaload, 1) := by decide +kernel
theorem dX7_isCopyOf_36 : decode cX7_isCopyOf 36 = .ok (.aload_n 0, 1) := by decide +kernel
theorem dX7_isCopyOf_37 : decode cX7_isCopyOf 37 = .ok (.getfield 16, 3) := by decide +kernel
theorem dX7_isCopyOf_40 : decode cX7_isCopyOf 40 = .ok (.iload_n 2, 1) := by decide +kernel
theorem dX7_isCopyOf_41 : decode cX7_isCopyOf 41 = .ok (.iaload, 1) := by decide +kernel
theorem dX7_isCopyOf_42 : decode cX7_isCopyOf 42 = .ok (.if_icmp .ne 22, 3) := by decide +kernel
theorem dX7_isCopyOf_45 : decode cX7_isCopyOf 45 = .ok (.aload_n 0, 1) := by decide +kernel
theorem dX7_isCopyOf_46 : decode cX7_isCopyOf 46 = .ok (.getfield 22, 3) := by decide +kernel
theorem dX7_isCopyOf_49 : decode cX7_isCopyOf 49 = .ok (.iload_n 1, 1) := by decide +kernel
theorem dX7_isCopyOf_50 : decode cX7_isCopyOf 50 = .ok (.iaload, 1) := by decide +kernel
theorem dX7_isCopyOf_51 : decode cX7_isCopyOf 51 = .ok (.aload_n 0, 1) := by decide +kernel
theorem dX7_isCopyOf_52 : decode cX7_isCopyOf 52 = .ok (.getfield 22, 3) := by decide +kernel
theorem dX7_isCopyOf_55 : decode cX7_isCopyOf 55 = .ok (.iload_n 2, 1) := by decide +kernel
theorem dX7_isCopyOf_56 : decode cX7_isCopyOf 56 = .ok (.iaload, 1) := by decide +kernel
theorem dX7_isCopyOf_57 : decode cX7_isCopyOf 57 = .ok (.if_icmp .ne 7, 3) := by decide +kernel
theorem dX7_isCopyOf_60 : decode cX7_isCopyOf 60 = .ok (.iconst 1, 1) := by decide +kernel
theorem dX7_isCopyOf_61 : decode cX7_isCopyOf 61 = .ok (.goto 4, 3) := by decide +kernel
theorem dX7_isCopyOf_64 : decode cX7_isCopyOf 64 = .ok (.iconst 0, 1) := by decide +kernel
theorem dX7_isCopyOf_65 : decode cX7_isCopyOf 65 = .ok (.ireturn, 1) := by decide +kernel
theorem dX7_isNewest_0 : decode cX7_isNewest 0 = .ok (.iconst 0, 1) := by decide +kernel
theorem dX7_isNewest_1 : decode cX7_isNewest 1 = .ok (.istore_n 2, 1) := by decide +kernel
theorem dX7_isNewest_2 : decode cX7_isNewest 2 = .ok (.iload_n 2, 1) := by decide +kernel
theorem dX7_isNewest_3 : decode cX7_isNewest 3 = .ok (.aload_n 0, 1) := by decide +kernel
theorem dX7_isNewest_4 : decode cX7_isNewest 4 = .ok (.invokevirtual 264, 3) := by decide +kernel
theorem dX7_isNewest_7 : decode cX7_isNewest 7 = .ok (.if_icmp .ge 35, 3) := by decide +kernel
theorem dX7_isNewest_10 : decode cX7_isNewest 10 = .ok (.aload_n 0, 1) := by decide +kernel
theorem dX7_isNewest_11 : decode cX7_isNewest 11 = .ok (.iload_n 2, 1) := by decide +kernel
theorem dX7_isNewest_12 : decode cX7_isNewest 12 = .ok (.iload_n 1, 1) := by decide +kernel
theorem dX7_isNewest_13 : decode cX7_isNewest 13 = .ok (.invokevirtual 267, 3) := by decide +kernel
theorem dX7_isNewest_16 : decode cX7_isNewest 16 = .ok (.ifCond .eq 20, 3) := by decide +kernel
theorem dX7_isNewest_19 : decode cX7_isNewest 19 = .ok (.aload_n 0, 1) := by decide +kernel
theorem dX7_isNewest_20 : decode cX7_isNewest 20 = .ok (.getfield 25, 3) := by decide +kernel
theorem dX7_isNewest_23 : decode cX7_isNewest 23 = .ok (.iload_n 2, 1) := by decide +kernel
theorem dX7_isNewest_24 : decode cX7_isNewest 24 = .ok (.iaload, 1) := by decide +kernel
theorem dX7_isNewest_25 : decode cX7_isNewest 25 = .ok (.aload_n 0, 1) := by decide +kernel
theorem dX7_isNewest_26 : decode cX7_isNewest 26 = .ok (.getfield 25, 3) := by decide +kernel
theorem dX7_isNewest_29 : decode cX7_isNewest 29 = .ok (.iload_n 1, 1) := by decide +kernel
theorem dX7_isNewest_30 : decode cX7_isNewest 30 = .ok (.iaload, 1) := by decide +kernel
theorem dX7_isNewest_31 : decode cX7_isNewest 31 = .ok (.if_icmp .le 5, 3) := by decide +kernel
theorem dX7_isNewest_34 : decode cX7_isNewest 34 = .ok (.iconst 0, 1) := by decide +kernel
theorem dX7_isNewest_35 : decode cX7_isNewest 35 = .ok (.ireturn, 1) := by decide +kernel
theorem dX7_isNewest_36 : decode cX7_isNewest 36 = .ok (.iinc 2 1, 3) := by decide +kernel
theorem dX7_isNewest_39 : decode cX7_isNewest 39 = .ok (.goto (-37), 3) := by decide +kernel
theorem dX7_isNewest_42 : decode cX7_isNewest 42 = .ok (.iconst 1, 1) := by decide +kernel
theorem dX7_isNewest_43 : decode cX7_isNewest 43 = .ok (.ireturn, 1) := by decide +kernel
theorem dX7_isGood_0 : decode cX7_isGood 0 = .ok (.aload_n 0, 1) := by decide +kernel
theorem dX7_isGood_1 : decode cX7_isGood 1 = .ok (.getfield 104, 3) := by decide +kernel
theorem dX7_isGood_4 : decode cX7_isGood 4 = .ok (.ifCond .eq 23, 3) := by decide +kernel
theorem dX7_isGood_7 : decode cX7_isGood 7 = .ok (.aload_n 0, 1) := by decide +kernel
theorem dX7_isGood_8 : decode cX7_isGood 8 = .ok (.iload_n 1, 1) := by decide +kernel
theorem dX7_isGood_9 : decode cX7_isGood 9 = .ok (.invokevirtual 270, 3) := by decide +kernel
theorem dX7_isGood_12 : decode cX7_isGood 12 = .ok (.ifCond .eq 15, 3) := by decide +kernel
theorem dX7_isGood_15 : decode cX7_isGood 15 = .ok (.aload_n 0, 1) := by decide +kernel
theorem dX7_isGood_16 : decode cX7_isGood 16 = .ok (.iload_n 1, 1) := by decide +kernel
theorem dX7_isGood_17 : decode cX7_isGood 17 = .ok (.invokevirtual 273, 3) := by decide +kernel
theorem dX7_isGood_20 : decode cX7_isGood 20 = .ok (.ifCond .eq 7, 3) := by decide +kernel
theorem dX7_isGood_23 : decode cX7_isGood 23 = .ok (.iconst 1, 1) := by decide +kernel
theorem dX7_isGood_24 : decode cX7_isGood 24 = .ok (.goto 4, 3) := by decide +kernel
theorem dX7_isGood_27 : decode cX7_isGood 27 = .ok (.iconst 0, 1) := by decide +kernel
theorem dX7_isGood_28 : decode cX7_isGood 28 = .ok (.ireturn, 1) := by decide +kernel
theorem dX7_validIn_0 : decode cX7_validIn 0 = .ok (.iconst 0, 1) := by decide +kernel
theorem dX7_validIn_1 : decode cX7_validIn 1 = .ok (.istore_n 2, 1) := by decide +kernel
theorem dX7_validIn_2 : decode cX7_validIn 2 = .ok (.aload_n 0, 1) := by decide +kernel
theorem dX7_validIn_3 : decode cX7_validIn 3 = .ok (.getfield 82, 3) := by decide +kernel
theorem dX7_validIn_6 : decode cX7_validIn 6 = .ok (.iload_n 1, 1) := by decide +kernel
theorem dX7_validIn_7 : decode cX7_validIn 7 = .ok (.imul, 1) := by decide +kernel
theorem dX7_validIn_8 : decode cX7_validIn 8 = .ok (.istore_n 3, 1) := by decide +kernel
theorem dX7_validIn_9 : decode cX7_validIn 9 = .ok (.iload_n 3, 1) := by decide +kernel
theorem dX7_validIn_10 : decode cX7_validIn 10 = .ok (.aload_n 0, 1) := by decide +kernel
theorem dX7_validIn_11 : decode cX7_validIn 11 = .ok (.getfield 82, 3) := by decide +kernel
theorem dX7_validIn_14 : decode cX7_validIn 14 = .ok (.iload_n 1, 1) := by decide +kernel
theorem dX7_validIn_15 : decode cX7_validIn 15 = .ok (.iconst 1, 1) := by decide +kernel
theorem dX7_validIn_16 : decode cX7_validIn 16 = .ok (.iadd, 1) := by decide +kernel
theorem dX7_validIn_17 : decode cX7_validIn 17 = .ok (.imul, 1) := by decide +kernel
theorem dX7_validIn_18 : decode cX7_validIn 18 = .ok (.if_icmp .ge 25, 3) := by decide +kernel
theorem dX7_validIn_21 : decode cX7_validIn 21 = .ok (.aload_n 0, 1) := by decide +kernel
theorem dX7_validIn_22 : decode cX7_validIn 22 = .ok (.iload_n 3, 1) := by decide +kernel
theorem dX7_validIn_23 : decode cX7_validIn 23 = .ok (.invokevirtual 276, 3) := by decide +kernel
theorem dX7_validIn_26 : decode cX7_validIn 26 = .ok (.ifCond .eq 9, 3) := by decide +kernel
theorem dX7_validIn_29 : decode cX7_validIn 29 = .ok (.iload_n 2, 1) := by decide +kernel
theorem dX7_validIn_30 : decode cX7_validIn 30 = .ok (.iconst 1, 1) := by decide +kernel
theorem dX7_validIn_31 : decode cX7_validIn 31 = .ok (.iadd, 1) := by decide +kernel
theorem dX7_validIn_32 : decode cX7_validIn 32 = .ok (.goto 4, 3) := by decide +kernel
theorem dX7_validIn_35 : decode cX7_validIn 35 = .ok (.iload_n 2, 1) := by decide +kernel
theorem dX7_validIn_36 : decode cX7_validIn 36 = .ok (.istore_n 2, 1) := by decide +kernel
theorem dX7_validIn_37 : decode cX7_validIn 37 = .ok (.iinc 3 1, 3) := by decide +kernel
theorem dX7_validIn_40 : decode cX7_validIn 40 = .ok (.goto (-31), 3) := by decide +kernel
theorem dX7_validIn_43 : decode cX7_validIn 43 = .ok (.iload_n 2, 1) := by decide +kernel
theorem dX7_validIn_44 : decode cX7_validIn 44 = .ok (.ireturn, 1) := by decide +kernel
theorem dX7_validAll_0 : decode cX7_validAll 0 = .ok (.iconst 0, 1) := by decide +kernel
theorem dX7_validAll_1 : decode cX7_validAll 1 = .ok (.istore_n 1, 1) := by decide +kernel
theorem dX7_validAll_2 : decode cX7_validAll 2 = .ok (.iconst 0, 1) := by decide +kernel
theorem dX7_validAll_3 : decode cX7_validAll 3 = .ok (.istore_n 2, 1) := by decide +kernel
theorem dX7_validAll_4 : decode cX7_validAll 4 = .ok (.iload_n 2, 1) := by decide +kernel
theorem dX7_validAll_5 : decode cX7_validAll 5 = .ok (.aload_n 0, 1) := by decide +kernel
theorem dX7_validAll_6 : decode cX7_validAll 6 = .ok (.getfield 79, 3) := by decide +kernel
theorem dX7_validAll_9 : decode cX7_validAll 9 = .ok (.if_icmp .ge 17, 3) := by decide +kernel
theorem dX7_validAll_12 : decode cX7_validAll 12 = .ok (.iload_n 1, 1) := by decide +kernel
theorem dX7_validAll_13 : decode cX7_validAll 13 = .ok (.aload_n 0, 1) := by decide +kernel
theorem dX7_validAll_14 : decode cX7_validAll 14 = .ok (.iload_n 2, 1) := by decide +kernel
theorem dX7_validAll_15 : decode cX7_validAll 15 = .ok (.invokevirtual 279, 3) := by decide +kernel
theorem dX7_validAll_18 : decode cX7_validAll 18 = .ok (.iadd, 1) := by decide +kernel
theorem dX7_validAll_19 : decode cX7_validAll 19 = .ok (.istore_n 1, 1) := by decide +kernel
theorem dX7_validAll_20 : decode cX7_validAll 20 = .ok (.iinc 2 1, 3) := by decide +kernel
theorem dX7_validAll_23 : decode cX7_validAll 23 = .ok (.goto (-19), 3) := by decide +kernel
theorem dX7_validAll_26 : decode cX7_validAll 26 = .ok (.iload_n 1, 1) := by decide +kernel
theorem dX7_validAll_27 : decode cX7_validAll 27 = .ok (.ireturn, 1) := by decide +kernel
theorem dX7_kindMany_0 : decode cX7_kindMany 0 = .ok (.iconst 0, 1) := by decide +kernel
theorem dX7_kindMany_1 : decode cX7_kindMany 1 = .ok (.istore_n 3, 1) := by decide +kernel
theorem dX7_kindMany_2 : decode cX7_kindMany 2 = .ok (.aload_n 0, 1) := by decide +kernel
theorem dX7_kindMany_3 : decode cX7_kindMany 3 = .ok (.getfield 82, 3) := by decide +kernel
theorem dX7_kindMany_6 : decode cX7_kindMany 6 = .ok (.iload_n 1, 1) := by decide +kernel
theorem dX7_kindMany_7 : decode cX7_kindMany 7 = .ok (.imul, 1) := by decide +kernel
theorem dX7_kindMany_8 : decode cX7_kindMany 8 = .ok (.istore 4, 2) := by decide +kernel
theorem dX7_kindMany_10 : decode cX7_kindMany 10 = .ok (.iload 4, 2) := by decide +kernel
theorem dX7_kindMany_12 : decode cX7_kindMany 12 = .ok (.aload_n 0, 1) := by decide +kernel
theorem dX7_kindMany_13 : decode cX7_kindMany 13 = .ok (.getfield 82, 3) := by decide +kernel
theorem dX7_kindMany_16 : decode cX7_kindMany 16 = .ok (.iload_n 1, 1) := by decide +kernel
theorem dX7_kindMany_17 : decode cX7_kindMany 17 = .ok (.iconst 1, 1) := by decide +kernel
theorem dX7_kindMany_18 : decode cX7_kindMany 18 = .ok (.iadd, 1) := by decide +kernel
theorem dX7_kindMany_19 : decode cX7_kindMany 19 = .ok (.imul, 1) := by decide +kernel
theorem dX7_kindMany_20 : decode cX7_kindMany 20 = .ok (.if_icmp .ge 28, 3) := by decide +kernel
theorem dX7_kindMany_23 : decode cX7_kindMany 23 = .ok (.aload_n 0, 1) := by decide +kernel
theorem dX7_kindMany_24 : decode cX7_kindMany 24 = .ok (.getfield 13, 3) := by decide +kernel
theorem dX7_kindMany_27 : decode cX7_kindMany 27 = .ok (.iload 4, 2) := by decide +kernel
theorem dX7_kindMany_29 : decode cX7_kindMany 29 = .ok (.iaload, 1) := by decide +kernel
theorem dX7_kindMany_30 : decode cX7_kindMany 30 = .ok (.iload_n 2, 1) := by decide +kernel
theorem dX7_kindMany_31 : decode cX7_kindMany 31 = .ok (.if_icmp .ne 9, 3) := by decide +kernel
theorem dX7_kindMany_34 : decode cX7_kindMany 34 = .ok (.iload_n 3, 1) := by decide +kernel
theorem dX7_kindMany_35 : decode cX7_kindMany 35 = .ok (.iconst 1, 1) := by decide +kernel
theorem dX7_kindMany_36 : decode cX7_kindMany 36 = .ok (.iadd, 1) := by decide +kernel
theorem dX7_kindMany_37 : decode cX7_kindMany 37 = .ok (.goto 4, 3) := by decide +kernel
theorem dX7_kindMany_40 : decode cX7_kindMany 40 = .ok (.iload_n 3, 1) := by decide +kernel
theorem dX7_kindMany_41 : decode cX7_kindMany 41 = .ok (.istore_n 3, 1) := by decide +kernel
theorem dX7_kindMany_42 : decode cX7_kindMany 42 = .ok (.iinc 4 1, 3) := by decide +kernel
theorem dX7_kindMany_45 : decode cX7_kindMany 45 = .ok (.goto (-35), 3) := by decide +kernel
theorem dX7_kindMany_48 : decode cX7_kindMany 48 = .ok (.iload_n 3, 1) := by decide +kernel
theorem dX7_kindMany_49 : decode cX7_kindMany 49 = .ok (.ireturn, 1) := by decide +kernel
theorem dX7_freeIn_0 : decode cX7_freeIn 0 = .ok (.aload_n 0, 1) := by decide +kernel
theorem dX7_freeIn_1 : decode cX7_freeIn 1 = .ok (.iload_n 1, 1) := by decide +kernel
theorem dX7_freeIn_2 : decode cX7_freeIn 2 = .ok (.iconst 0, 1) := by decide +kernel
theorem dX7_freeIn_3 : decode cX7_freeIn 3 = .ok (.invokevirtual 282, 3) := by decide +kernel
theorem dX7_freeIn_6 : decode cX7_freeIn 6 = .ok (.ireturn, 1) := by decide +kernel
theorem dX7_isFree_0 : decode cX7_isFree 0 = .ok (.iload_n 1, 1) := by decide +kernel
theorem dX7_isFree_1 : decode cX7_isFree 1 = .ok (.aload_n 0, 1) := by decide +kernel
theorem dX7_isFree_2 : decode cX7_isFree 2 = .ok (.getfield 53, 3) := by decide +kernel
theorem dX7_isFree_5 : decode cX7_isFree 5 = .ok (.if_icmp .eq 19, 3) := by decide +kernel
theorem dX7_isFree_8 : decode cX7_isFree 8 = .ok (.aload_n 0, 1) := by decide +kernel
theorem dX7_isFree_9 : decode cX7_isFree 9 = .ok (.iload_n 1, 1) := by decide +kernel
theorem dX7_isFree_10 : decode cX7_isFree 10 = .ok (.invokevirtual 285, 3) := by decide +kernel
theorem dX7_isFree_13 : decode cX7_isFree 13 = .ok (.aload_n 0, 1) := by decide +kernel
theorem dX7_isFree_14 : decode cX7_isFree 14 = .ok (.getfield 82, 3) := by decide +kernel
theorem dX7_isFree_17 : decode cX7_isFree 17 = .ok (.if_icmp .ne 7, 3) := by decide +kernel
theorem dX7_isFree_20 : decode cX7_isFree 20 = .ok (.iconst 1, 1) := by decide +kernel
theorem dX7_isFree_21 : decode cX7_isFree 21 = .ok (.goto 4, 3) := by decide +kernel
theorem dX7_isFree_24 : decode cX7_isFree 24 = .ok (.iconst 0, 1) := by decide +kernel
theorem dX7_isFree_25 : decode cX7_isFree 25 = .ok (.ireturn, 1) := by decide +kernel
theorem dX7_freeMany_0 : decode cX7_freeMany 0 = .ok (.iconst 0, 1) := by decide +kernel
theorem dX7_freeMany_1 : decode cX7_freeMany 1 = .ok (.istore_n 1, 1) := by decide +kernel
theorem dX7_freeMany_2 : decode cX7_freeMany 2 = .ok (.iconst 0, 1) := by decide +kernel
theorem dX7_freeMany_3 : decode cX7_freeMany 3 = .ok (.istore_n 2, 1) := by decide +kernel
theorem dX7_freeMany_4 : decode cX7_freeMany 4 = .ok (.iload_n 2, 1) := by decide +kernel
theorem dX7_freeMany_5 : decode cX7_freeMany 5 = .ok (.aload_n 0, 1) := by decide +kernel
theorem dX7_freeMany_6 : decode cX7_freeMany 6 = .ok (.getfield 79, 3) := by decide +kernel
theorem dX7_freeMany_9 : decode cX7_freeMany 9 = .ok (.if_icmp .ge 25, 3) := by decide +kernel
theorem dX7_freeMany_12 : decode cX7_freeMany 12 = .ok (.aload_n 0, 1) := by decide +kernel
theorem dX7_freeMany_13 : decode cX7_freeMany 13 = .ok (.iload_n 2, 1) := by decide +kernel
theorem dX7_freeMany_14 : decode cX7_freeMany 14 = .ok (.invokevirtual 288, 3) := by decide +kernel
theorem dX7_freeMany_17 : decode cX7_freeMany 17 = .ok (.ifCond .eq 9, 3) := by decide +kernel
theorem dX7_freeMany_20 : decode cX7_freeMany 20 = .ok (.iload_n 1, 1) := by decide +kernel
theorem dX7_freeMany_21 : decode cX7_freeMany 21 = .ok (.iconst 1, 1) := by decide +kernel
theorem dX7_freeMany_22 : decode cX7_freeMany 22 = .ok (.iadd, 1) := by decide +kernel
theorem dX7_freeMany_23 : decode cX7_freeMany 23 = .ok (.goto 4, 3) := by decide +kernel
theorem dX7_freeMany_26 : decode cX7_freeMany 26 = .ok (.iload_n 1, 1) := by decide +kernel
theorem dX7_freeMany_27 : decode cX7_freeMany 27 = .ok (.istore_n 1, 1) := by decide +kernel
theorem dX7_freeMany_28 : decode cX7_freeMany 28 = .ok (.iinc 2 1, 3) := by decide +kernel
theorem dX7_freeMany_31 : decode cX7_freeMany 31 = .ok (.goto (-27), 3) := by decide +kernel
theorem dX7_freeMany_34 : decode cX7_freeMany 34 = .ok (.iload_n 1, 1) := by decide +kernel
theorem dX7_freeMany_35 : decode cX7_freeMany 35 = .ok (.ireturn, 1) := by decide +kernel
theorem dX7_operates_0 : decode cX7_operates 0 = .ok (.aload_n 0, 1) := by decide +kernel
theorem dX7_operates_1 : decode cX7_operates 1 = .ok (.getfield 126, 3) := by decide +kernel
theorem dX7_operates_4 : decode cX7_operates 4 = .ok (.ifCond .ne 5, 3) := by decide +kernel
theorem dX7_operates_7 : decode cX7_operates 7 = .ok (.iconst 1, 1) := by decide +kernel
theorem dX7_operates_8 : decode cX7_operates 8 = .ok (.ireturn, 1) := by decide +kernel
theorem dX7_operates_9 : decode cX7_operates 9 = .ok (.aload_n 0, 1) := by decide +kernel
theorem dX7_operates_10 : decode cX7_operates 10 = .ok (.aload_n 0, 1) := by decide +kernel
theorem dX7_operates_11 : decode cX7_operates 11 = .ok (.getfield 126, 3) := by decide +kernel
theorem dX7_operates_14 : decode cX7_operates 14 = .ok (.iconst 1, 1) := by decide +kernel
theorem dX7_operates_15 : decode cX7_operates 15 = .ok (.isub, 1) := by decide +kernel
theorem dX7_operates_16 : decode cX7_operates 16 = .ok (.putfield 126, 3) := by decide +kernel
theorem dX7_operates_19 : decode cX7_operates 19 = .ok (.aload_n 0, 1) := by decide +kernel
theorem dX7_operates_20 : decode cX7_operates 20 = .ok (.getfield 126, 3) := by decide +kernel
theorem dX7_operates_23 : decode cX7_operates 23 = .ok (.ifCond .le 7, 3) := by decide +kernel
theorem dX7_operates_26 : decode cX7_operates 26 = .ok (.iconst 1, 1) := by decide +kernel
theorem dX7_operates_27 : decode cX7_operates 27 = .ok (.goto 4, 3) := by decide +kernel
theorem dX7_operates_30 : decode cX7_operates 30 = .ok (.iconst 0, 1) := by decide +kernel
theorem dX7_operates_31 : decode cX7_operates 31 = .ok (.ireturn, 1) := by decide +kernel
theorem dX7_erasesBlock_0 : decode cX7_erasesBlock 0 = .ok (.aload_n 0, 1) := by decide +kernel
theorem dX7_erasesBlock_1 : decode cX7_erasesBlock 1 = .ok (.invokevirtual 291, 3) := by decide +kernel
theorem dX7_erasesBlock_4 : decode cX7_erasesBlock 4 = .ok (.istore_n 2, 1) := by decide +kernel
theorem dX7_erasesBlock_5 : decode cX7_erasesBlock 5 = .ok (.aload_n 0, 1) := by decide +kernel
theorem dX7_erasesBlock_6 : decode cX7_erasesBlock 6 = .ok (.getfield 82, 3) := by decide +kernel
theorem dX7_erasesBlock_9 : decode cX7_erasesBlock 9 = .ok (.iload_n 1, 1) := by decide +kernel
theorem dX7_erasesBlock_10 : decode cX7_erasesBlock 10 = .ok (.imul, 1) := by decide +kernel
theorem dX7_erasesBlock_11 : decode cX7_erasesBlock 11 = .ok (.istore_n 3, 1) := by decide +kernel
theorem dX7_erasesBlock_12 : decode cX7_erasesBlock 12 = .ok (.iload_n 3, 1) := by decide +kernel
theorem dX7_erasesBlock_13 : decode cX7_erasesBlock 13 = .ok (.aload_n 0, 1) := by decide +kernel
theorem dX7_erasesBlock_14 : decode cX7_erasesBlock 14 = .ok (.getfield 82, 3) := by decide +kernel
theorem dX7_erasesBlock_17 : decode cX7_erasesBlock 17 = .ok (.iload_n 1, 1) := by decide +kernel
theorem dX7_erasesBlock_18 : decode cX7_erasesBlock 18 = .ok (.iconst 1, 1) := by decide +kernel
theorem dX7_erasesBlock_19 : decode cX7_erasesBlock 19 = .ok (.iadd, 1) := by decide +kernel
theorem dX7_erasesBlock_20 : decode cX7_erasesBlock 20 = .ok (.imul, 1) := by decide +kernel
theorem dX7_erasesBlock_21 : decode cX7_erasesBlock 21 = .ok (.if_icmp .ge 24, 3) := by decide +kernel
theorem dX7_erasesBlock_24 : decode cX7_erasesBlock 24 = .ok (.aload_n 0, 1) := by decide +kernel
theorem dX7_erasesBlock_25 : decode cX7_erasesBlock 25 = .ok (.getfield 13, 3) := by decide +kernel
theorem dX7_erasesBlock_28 : decode cX7_erasesBlock 28 = .ok (.iload_n 3, 1) := by decide +kernel
theorem dX7_erasesBlock_29 : decode cX7_erasesBlock 29 = .ok (.iload_n 2, 1) := by decide +kernel
theorem dX7_erasesBlock_30 : decode cX7_erasesBlock 30 = .ok (.ifCond .eq 7, 3) := by decide +kernel
theorem dX7_erasesBlock_33 : decode cX7_erasesBlock 33 = .ok (.iconst 0, 1) := by decide +kernel
theorem dX7_erasesBlock_34 : decode cX7_erasesBlock 34 = .ok (.goto 4, 3) := by decide +kernel
theorem dX7_erasesBlock_37 : decode cX7_erasesBlock 37 = .ok (.iconst 5, 1) := by decide +kernel
theorem dX7_erasesBlock_38 : decode cX7_erasesBlock 38 = .ok (.iastore, 1) := by decide +kernel
theorem dX7_erasesBlock_39 : decode cX7_erasesBlock 39 = .ok (.iinc 3 1, 3) := by decide +kernel
theorem dX7_erasesBlock_42 : decode cX7_erasesBlock 42 = .ok (.goto (-30), 3) := by decide +kernel
theorem dX7_erasesBlock_45 : decode cX7_erasesBlock 45 = .ok (.iload_n 2, 1) := by decide +kernel
theorem dX7_erasesBlock_46 : decode cX7_erasesBlock 46 = .ok (.ifCond .ne 9, 3) := by decide +kernel
theorem dX7_erasesBlock_49 : decode cX7_erasesBlock 49 = .ok (.aload_n 0, 1) := by decide +kernel
theorem dX7_erasesBlock_50 : decode cX7_erasesBlock 50 = .ok (.invokevirtual 294, 3) := by decide +kernel
theorem dX7_erasesBlock_53 : decode cX7_erasesBlock 53 = .ok (.iconst 0, 1) := by decide +kernel
theorem dX7_erasesBlock_54 : decode cX7_erasesBlock 54 = .ok (.ireturn, 1) := by decide +kernel
theorem dX7_erasesBlock_55 : decode cX7_erasesBlock 55 = .ok (.aload_n 0, 1) := by decide +kernel
theorem dX7_erasesBlock_56 : decode cX7_erasesBlock 56 = .ok (.getfield 34, 3) := by decide +kernel
theorem dX7_erasesBlock_59 : decode cX7_erasesBlock 59 = .ok (.iload_n 1, 1) := by decide +kernel
theorem dX7_erasesBlock_60 : decode cX7_erasesBlock 60 = .ok (.aload_n 0, 1) := by decide +kernel
theorem dX7_erasesBlock_61 : decode cX7_erasesBlock 61 = .ok (.getfield 34, 3) := by decide +kernel
theorem dX7_erasesBlock_64 : decode cX7_erasesBlock 64 = .ok (.iload_n 1, 1) := by decide +kernel
theorem dX7_erasesBlock_65 : decode cX7_erasesBlock 65 = .ok (.iaload, 1) := by decide +kernel
theorem dX7_erasesBlock_66 : decode cX7_erasesBlock 66 = .ok (.iconst 1, 1) := by decide +kernel
theorem dX7_erasesBlock_67 : decode cX7_erasesBlock 67 = .ok (.iadd, 1) := by decide +kernel
theorem dX7_erasesBlock_68 : decode cX7_erasesBlock 68 = .ok (.iastore, 1) := by decide +kernel
theorem dX7_erasesBlock_69 : decode cX7_erasesBlock 69 = .ok (.aload_n 0, 1) := by decide +kernel
theorem dX7_erasesBlock_70 : decode cX7_erasesBlock 70 = .ok (.aload_n 0, 1) := by decide +kernel
theorem dX7_erasesBlock_71 : decode cX7_erasesBlock 71 = .ok (.getfield 117, 3) := by decide +kernel
theorem dX7_erasesBlock_74 : decode cX7_erasesBlock 74 = .ok (.iconst 1, 1) := by decide +kernel
theorem dX7_erasesBlock_75 : decode cX7_erasesBlock 75 = .ok (.iadd, 1) := by decide +kernel
theorem dX7_erasesBlock_76 : decode cX7_erasesBlock 76 = .ok (.putfield 117, 3) := by decide +kernel
theorem dX7_erasesBlock_79 : decode cX7_erasesBlock 79 = .ok (.iconst 1, 1) := by decide +kernel
theorem dX7_erasesBlock_80 : decode cX7_erasesBlock 80 = .ok (.ireturn, 1) := by decide +kernel
theorem dX7_lowestFree_0 : decode cX7_lowestFree 0 = .ok (.aload_n 0, 1) := by decide +kernel
theorem dX7_lowestFree_1 : decode cX7_lowestFree 1 = .ok (.getfield 82, 3) := by decide +kernel
theorem dX7_lowestFree_4 : decode cX7_lowestFree 4 = .ok (.aload_n 0, 1) := by decide +kernel
theorem dX7_lowestFree_5 : decode cX7_lowestFree 5 = .ok (.getfield 53, 3) := by decide +kernel
theorem dX7_lowestFree_8 : decode cX7_lowestFree 8 = .ok (.imul, 1) := by decide +kernel
theorem dX7_lowestFree_9 : decode cX7_lowestFree 9 = .ok (.aload_n 0, 1) := by decide +kernel
theorem dX7_lowestFree_10 : decode cX7_lowestFree 10 = .ok (.getfield 82, 3) := by decide +kernel
theorem dX7_lowestFree_13 : decode cX7_lowestFree 13 = .ok (.iadd, 1) := by decide +kernel
theorem dX7_lowestFree_14 : decode cX7_lowestFree 14 = .ok (.aload_n 0, 1) := by decide +kernel
theorem dX7_lowestFree_15 : decode cX7_lowestFree 15 = .ok (.aload_n 0, 1) := by decide +kernel
theorem dX7_lowestFree_16 : decode cX7_lowestFree 16 = .ok (.getfield 53, 3) := by decide +kernel
theorem dX7_lowestFree_19 : decode cX7_lowestFree 19 = .ok (.invokevirtual 285, 3) := by decide +kernel
theorem dX7_lowestFree_22 : decode cX7_lowestFree 22 = .ok (.isub, 1) := by decide +kernel
theorem dX7_lowestFree_23 : decode cX7_lowestFree 23 = .ok (.ireturn, 1) := by decide +kernel
theorem dX7_programsAt_0 : decode cX7_programsAt 0 = .ok (.aload_n 0, 1) := by decide +kernel
theorem dX7_programsAt_1 : decode cX7_programsAt 1 = .ok (.invokevirtual 291, 3) := by decide +kernel
theorem dX7_programsAt_4 : decode cX7_programsAt 4 = .ok (.ifCond .ne 16, 3) := by decide +kernel
theorem dX7_programsAt_7 : decode cX7_programsAt 7 = .ok (.aload_n 0, 1) := by decide +kernel
theorem dX7_programsAt_8 : decode cX7_programsAt 8 = .ok (.getfield 13, 3) := by decide +kernel
theorem dX7_programsAt_11 : decode cX7_programsAt 11 = .ok (.iload_n 1, 1) := by decide +kernel
theorem dX7_programsAt_12 : decode cX7_programsAt 12 = .ok (.iconst 5, 1) := by decide +kernel
theorem dX7_programsAt_13 : decode cX7_programsAt 13 = .ok (.iastore, 1) := by decide +kernel
theorem dX7_programsAt_14 : decode cX7_programsAt 14 = .ok (.aload_n 0, 1) := by decide +kernel
theorem dX7_programsAt_15 : decode cX7_programsAt 15 = .ok (.invokevirtual 294, 3) := by decide +kernel
theorem dX7_programsAt_18 : decode cX7_programsAt 18 = .ok (.iconst 0, 1) := by decide +kernel
theorem dX7_programsAt_19 : decode cX7_programsAt 19 = .ok (.ireturn, 1) := by decide +kernel
theorem dX7_programsAt_20 : decode cX7_programsAt 20 = .ok (.aload_n 0, 1) := by decide +kernel
theorem dX7_programsAt_21 : decode cX7_programsAt 21 = .ok (.aload_n 0, 1) := by decide +kernel
theorem dX7_programsAt_22 : decode cX7_programsAt 22 = .ok (.getfield 111, 3) := by decide +kernel
theorem dX7_programsAt_25 : decode cX7_programsAt 25 = .ok (.iconst 1, 1) := by decide +kernel
theorem dX7_programsAt_26 : decode cX7_programsAt 26 = .ok (.iadd, 1) := by decide +kernel
theorem dX7_programsAt_27 : decode cX7_programsAt 27 = .ok (.putfield 111, 3) := by decide +kernel
theorem dX7_programsAt_30 : decode cX7_programsAt 30 = .ok (.aload_n 0, 1) := by decide +kernel
theorem dX7_programsAt_31 : decode cX7_programsAt 31 = .ok (.aload_n 0, 1) := by decide +kernel
theorem dX7_programsAt_32 : decode cX7_programsAt 32 = .ok (.getfield 114, 3) := by decide +kernel
theorem dX7_programsAt_35 : decode cX7_programsAt 35 = .ok (.iconst 1, 1) := by decide +kernel
theorem dX7_programsAt_36 : decode cX7_programsAt 36 = .ok (.iadd, 1) := by decide +kernel
theorem dX7_programsAt_37 : decode cX7_programsAt 37 = .ok (.putfield 114, 3) := by decide +kernel
theorem dX7_programsAt_40 : decode cX7_programsAt 40 = .ok (.aload_n 0, 1) := by decide +kernel
theorem dX7_programsAt_41 : decode cX7_programsAt 41 = .ok (.getfield 13, 3) := by decide +kernel
theorem dX7_programsAt_44 : decode cX7_programsAt 44 = .ok (.iload_n 1, 1) := by decide +kernel
theorem dX7_programsAt_45 : decode cX7_programsAt 45 = .ok (.iload_n 2, 1) := by decide +kernel
theorem dX7_programsAt_46 : decode cX7_programsAt 46 = .ok (.iastore, 1) := by decide +kernel
theorem dX7_programsAt_47 : decode cX7_programsAt 47 = .ok (.aload_n 0, 1) := by decide +kernel
theorem dX7_programsAt_48 : decode cX7_programsAt 48 = .ok (.getfield 16, 3) := by decide +kernel
theorem dX7_programsAt_51 : decode cX7_programsAt 51 = .ok (.iload_n 1, 1) := by decide +kernel
theorem dX7_programsAt_52 : decode cX7_programsAt 52 = .ok (.iload_n 3, 1) := by decide +kernel
theorem dX7_programsAt_53 : decode cX7_programsAt 53 = .ok (.iastore, 1) := by decide +kernel
theorem dX7_programsAt_54 : decode cX7_programsAt 54 = .ok (.aload_n 0, 1) := by decide +kernel
theorem dX7_programsAt_55 : decode cX7_programsAt 55 = .ok (.getfield 19, 3) := by decide +kernel
theorem dX7_programsAt_58 : decode cX7_programsAt 58 = .ok (.iload_n 1, 1) := by decide +kernel
theorem dX7_programsAt_59 : decode cX7_programsAt 59 = .ok (.iload 4, 2) := by decide +kernel
theorem dX7_programsAt_61 : decode cX7_programsAt 61 = .ok (.iastore, 1) := by decide +kernel
theorem dX7_programsAt_62 : decode cX7_programsAt 62 = .ok (.aload_n 0, 1) := by decide +kernel
theorem dX7_programsAt_63 : decode cX7_programsAt 63 = .ok (.getfield 22, 3) := by decide +kernel
theorem dX7_programsAt_66 : decode cX7_programsAt 66 = .ok (.iload_n 1, 1) := by decide +kernel
theorem dX7_programsAt_67 : decode cX7_programsAt 67 = .ok (.aload_n 0, 1) := by decide +kernel
theorem dX7_programsAt_68 : decode cX7_programsAt 68 = .ok (.getfield 111, 3) := by decide +kernel
theorem dX7_programsAt_71 : decode cX7_programsAt 71 = .ok (.iastore, 1) := by decide +kernel
theorem dX7_programsAt_72 : decode cX7_programsAt 72 = .ok (.aload_n 0, 1) := by decide +kernel
theorem dX7_programsAt_73 : decode cX7_programsAt 73 = .ok (.getfield 25, 3) := by decide +kernel
theorem dX7_programsAt_76 : decode cX7_programsAt 76 = .ok (.iload_n 1, 1) := by decide +kernel
theorem dX7_programsAt_77 : decode cX7_programsAt 77 = .ok (.aload_n 0, 1) := by decide +kernel
theorem dX7_programsAt_78 : decode cX7_programsAt 78 = .ok (.getfield 111, 3) := by decide +kernel
theorem dX7_programsAt_81 : decode cX7_programsAt 81 = .ok (.iastore, 1) := by decide +kernel
theorem dX7_programsAt_82 : decode cX7_programsAt 82 = .ok (.iconst 1, 1) := by decide +kernel
theorem dX7_programsAt_83 : decode cX7_programsAt 83 = .ok (.ireturn, 1) := by decide +kernel
theorem dX7_copiesPage_0 : decode cX7_copiesPage 0 = .ok (.aload_n 0, 1) := by decide +kernel
theorem dX7_copiesPage_1 : decode cX7_copiesPage 1 = .ok (.invokevirtual 297, 3) := by decide +kernel
theorem dX7_copiesPage_4 : decode cX7_copiesPage 4 = .ok (.istore_n 2, 1) := by decide +kernel
theorem dX7_copiesPage_5 : decode cX7_copiesPage 5 = .ok (.aload_n 0, 1) := by decide +kernel
theorem dX7_copiesPage_6 : decode cX7_copiesPage 6 = .ok (.iload_n 2, 1) := by decide +kernel
theorem dX7_copiesPage_7 : decode cX7_copiesPage 7 = .ok (.aload_n 0, 1) := by decide +kernel
theorem dX7_copiesPage_8 : decode cX7_copiesPage 8 = .ok (.getfield 13, 3) := by decide +kernel
theorem dX7_copiesPage_11 : decode cX7_copiesPage 11 = .ok (.iload_n 1, 1) := by decide +kernel
theorem dX7_copiesPage_12 : decode cX7_copiesPage 12 = .ok (.iaload, 1) := by decide +kernel
theorem dX7_copiesPage_13 : decode cX7_copiesPage 13 = .ok (.aload_n 0, 1) := by decide +kernel
theorem dX7_copiesPage_14 : decode cX7_copiesPage 14 = .ok (.getfield 16, 3) := by decide +kernel
theorem dX7_copiesPage_17 : decode cX7_copiesPage 17 = .ok (.iload_n 1, 1) := by decide +kernel
theorem dX7_copiesPage_18 : decode cX7_copiesPage 18 = .ok (.iaload, 1) := by decide +kernel
theorem dX7_copiesPage_19 : decode cX7_copiesPage 19 = .ok (.aload_n 0, 1) := by decide +kernel
theorem dX7_copiesPage_20 : decode cX7_copiesPage 20 = .ok (.getfield 19, 3) := by decide +kernel
theorem dX7_copiesPage_23 : decode cX7_copiesPage 23 = .ok (.iload_n 1, 1) := by decide +kernel
theorem dX7_copiesPage_24 : decode cX7_copiesPage 24 = .ok (.iaload, 1) := by decide +kernel
theorem dX7_copiesPage_25 : decode cX7_copiesPage 25 = .ok (.invokevirtual 300, 3) := by decide +kernel
theorem dX7_copiesPage_28 : decode cX7_copiesPage 28 = .ok (.ifCond .ne 5, 3) := by decide +kernel
theorem dX7_copiesPage_31 : decode cX7_copiesPage 31 = .ok (.iconst 0, 1) := by decide +kernel
theorem dX7_copiesPage_32 : decode cX7_copiesPage 32 = .ok (.ireturn, 1) := by decide +kernel
theorem dX7_copiesPage_33 : decode cX7_copiesPage 33 = .ok (.aload_n 0, 1) := by decide +kernel
theorem dX7_copiesPage_34 : decode cX7_copiesPage 34 = .ok (.getfield 22, 3) := by decide +kernel
theorem dX7_copiesPage_37 : decode cX7_copiesPage 37 = .ok (.iload_n 2, 1) := by decide +kernel
theorem dX7_copiesPage_38 : decode cX7_copiesPage 38 = .ok (.aload_n 0, 1) := by decide +kernel
theorem dX7_copiesPage_39 : decode cX7_copiesPage 39 = .ok (.getfield 22, 3) := by decide +kernel
theorem dX7_copiesPage_42 : decode cX7_copiesPage 42 = .ok (.iload_n 1, 1) := by decide +kernel
theorem dX7_copiesPage_43 : decode cX7_copiesPage 43 = .ok (.iaload, 1) := by decide +kernel
theorem dX7_copiesPage_44 : decode cX7_copiesPage 44 = .ok (.iastore, 1) := by decide +kernel
theorem dX7_copiesPage_45 : decode cX7_copiesPage 45 = .ok (.aload_n 0, 1) := by decide +kernel
theorem dX7_copiesPage_46 : decode cX7_copiesPage 46 = .ok (.getfield 28, 3) := by decide +kernel
theorem dX7_copiesPage_49 : decode cX7_copiesPage 49 = .ok (.iload_n 2, 1) := by decide +kernel
theorem dX7_copiesPage_50 : decode cX7_copiesPage 50 = .ok (.aload_n 0, 1) := by decide +kernel
theorem dX7_copiesPage_51 : decode cX7_copiesPage 51 = .ok (.getfield 28, 3) := by decide +kernel
theorem dX7_copiesPage_54 : decode cX7_copiesPage 54 = .ok (.iload_n 1, 1) := by decide +kernel
theorem dX7_copiesPage_55 : decode cX7_copiesPage 55 = .ok (.iaload, 1) := by decide +kernel
theorem dX7_copiesPage_56 : decode cX7_copiesPage 56 = .ok (.iastore, 1) := by decide +kernel
theorem dX7_copiesPage_57 : decode cX7_copiesPage 57 = .ok (.iconst 0, 1) := by decide +kernel
theorem dX7_copiesPage_58 : decode cX7_copiesPage 58 = .ok (.istore_n 3, 1) := by decide +kernel
theorem dX7_copiesPage_59 : decode cX7_copiesPage 59 = .ok (.iload_n 3, 1) := by decide +kernel
theorem dX7_copiesPage_60 : decode cX7_copiesPage 60 = .ok (.bipush 8, 2) := by decide +kernel
theorem dX7_copiesPage_62 : decode cX7_copiesPage 62 = .ok (.if_icmp .ge 31, 3) := by decide +kernel
theorem dX7_copiesPage_65 : decode cX7_copiesPage 65 = .ok (.aload_n 0, 1) := by decide +kernel
theorem dX7_copiesPage_66 : decode cX7_copiesPage 66 = .ok (.getfield 31, 3) := by decide +kernel
theorem dX7_copiesPage_69 : decode cX7_copiesPage 69 = .ok (.bipush 8, 2) := by decide +kernel
theorem dX7_copiesPage_71 : decode cX7_copiesPage 71 = .ok (.iload_n 2, 1) := by decide +kernel
theorem dX7_copiesPage_72 : decode cX7_copiesPage 72 = .ok (.imul, 1) := by decide +kernel
theorem dX7_copiesPage_73 : decode cX7_copiesPage 73 = .ok (.iload_n 3, 1) := by decide +kernel
theorem dX7_copiesPage_74 : decode cX7_copiesPage 74 = .ok (.iadd, 1) := by decide +kernel
theorem dX7_copiesPage_75 : decode cX7_copiesPage 75 = .ok (.aload_n 0, 1) := by decide +kernel
theorem dX7_copiesPage_76 : decode cX7_copiesPage 76 = .ok (.getfield 31, 3) := by decide +kernel
theorem dX7_copiesPage_79 : decode cX7_copiesPage 79 = .ok (.bipush 8, 2) := by decide +kernel
theorem dX7_copiesPage_81 : decode cX7_copiesPage 81 = .ok (.iload_n 1, 1) := by decide +kernel
theorem dX7_copiesPage_82 : decode cX7_copiesPage 82 = .ok (.imul, 1) := by decide +kernel
theorem dX7_copiesPage_83 : decode cX7_copiesPage 83 = .ok (.iload_n 3, 1) := by decide +kernel
theorem dX7_copiesPage_84 : decode cX7_copiesPage 84 = .ok (.iadd, 1) := by decide +kernel
theorem dX7_copiesPage_85 : decode cX7_copiesPage 85 = .ok (.iaload, 1) := by decide +kernel
theorem dX7_copiesPage_86 : decode cX7_copiesPage 86 = .ok (.iastore, 1) := by decide +kernel
theorem dX7_copiesPage_87 : decode cX7_copiesPage 87 = .ok (.iinc 3 1, 3) := by decide +kernel
theorem dX7_copiesPage_90 : decode cX7_copiesPage 90 = .ok (.goto (-31), 3) := by decide +kernel
theorem dX7_copiesPage_93 : decode cX7_copiesPage 93 = .ok (.aload_n 0, 1) := by decide +kernel
theorem dX7_copiesPage_94 : decode cX7_copiesPage 94 = .ok (.aload_n 0, 1) := by decide +kernel
theorem dX7_copiesPage_95 : decode cX7_copiesPage 95 = .ok (.getfield 120, 3) := by decide +kernel
theorem dX7_copiesPage_98 : decode cX7_copiesPage 98 = .ok (.iconst 1, 1) := by decide +kernel
theorem dX7_copiesPage_99 : decode cX7_copiesPage 99 = .ok (.iadd, 1) := by decide +kernel
theorem dX7_copiesPage_100 : decode cX7_copiesPage 100 = .ok (.putfield 120, 3) := by decide +kernel
theorem dX7_copiesPage_103 : decode cX7_copiesPage 103 = .ok (.iconst 1, 1) := by decide +kernel
theorem dX7_copiesPage_104 : decode cX7_copiesPage 104 = .ok (.ireturn, 1) := by decide +kernel
theorem dX7_collects_0 : decode cX7_collects 0 = .ok (.aload_n 0, 1) := by decide +kernel
theorem dX7_collects_1 : decode cX7_collects 1 = .ok (.getfield 82, 3) := by decide +kernel
theorem dX7_collects_4 : decode cX7_collects 4 = .ok (.iload_n 1, 1) := by decide +kernel
theorem dX7_collects_5 : decode cX7_collects 5 = .ok (.imul, 1) := by decide +kernel
theorem dX7_collects_6 : decode cX7_collects 6 = .ok (.istore_n 2, 1) := by decide +kernel
theorem dX7_collects_7 : decode cX7_collects 7 = .ok (.iload_n 2, 1) := by decide +kernel
theorem dX7_collects_8 : decode cX7_collects 8 = .ok (.aload_n 0, 1) := by decide +kernel
theorem dX7_collects_9 : decode cX7_collects 9 = .ok (.getfield 82, 3) := by decide +kernel
theorem dX7_collects_12 : decode cX7_collects 12 = .ok (.iload_n 1, 1) := by decide +kernel
theorem dX7_collects_13 : decode cX7_collects 13 = .ok (.iconst 1, 1) := by decide +kernel
theorem dX7_collects_14 : decode cX7_collects 14 = .ok (.iadd, 1) := by decide +kernel
theorem dX7_collects_15 : decode cX7_collects 15 = .ok (.imul, 1) := by decide +kernel
theorem dX7_collects_16 : decode cX7_collects 16 = .ok (.if_icmp .ge 27, 3) := by decide +kernel
theorem dX7_collects_19 : decode cX7_collects 19 = .ok (.aload_n 0, 1) := by decide +kernel
theorem dX7_collects_20 : decode cX7_collects 20 = .ok (.iload_n 2, 1) := by decide +kernel
theorem dX7_collects_21 : decode cX7_collects 21 = .ok (.invokevirtual 276, 3) := by decide +kernel
theorem dX7_collects_24 : decode cX7_collects 24 = .ok (.ifCond .eq 13, 3) := by decide +kernel
theorem dX7_collects_27 : decode cX7_collects 27 = .ok (.aload_n 0, 1) := by decide +kernel
theorem dX7_collects_28 : decode cX7_collects 28 = .ok (.iload_n 2, 1) := by decide +kernel
theorem dX7_collects_29 : decode cX7_collects 29 = .ok (.invokevirtual 304, 3) := by decide +kernel
theorem dX7_collects_32 : decode cX7_collects 32 = .ok (.ifCond .ne 5, 3) := by decide +kernel
theorem dX7_collects_35 : decode cX7_collects 35 = .ok (.iconst 0, 1) := by decide +kernel
theorem dX7_collects_36 : decode cX7_collects 36 = .ok (.ireturn, 1) := by decide +kernel
theorem dX7_collects_37 : decode cX7_collects 37 = .ok (.iinc 2 1, 3) := by decide +kernel
theorem dX7_collects_40 : decode cX7_collects 40 = .ok (.goto (-33), 3) := by decide +kernel
theorem dX7_collects_43 : decode cX7_collects 43 = .ok (.aload_n 0, 1) := by decide +kernel
theorem dX7_collects_44 : decode cX7_collects 44 = .ok (.iload_n 1, 1) := by decide +kernel
theorem dX7_collects_45 : decode cX7_collects 45 = .ok (.invokevirtual 307, 3) := by decide +kernel
theorem dX7_collects_48 : decode cX7_collects 48 = .ok (.ireturn, 1) := by decide +kernel
theorem dX7_freeBlock_0 : decode cX7_freeBlock 0 = .ok (.iconst (-1), 1) := by decide +kernel
theorem dX7_freeBlock_1 : decode cX7_freeBlock 1 = .ok (.istore_n 1, 1) := by decide +kernel
theorem dX7_freeBlock_2 : decode cX7_freeBlock 2 = .ok (.iconst 0, 1) := by decide +kernel
theorem dX7_freeBlock_3 : decode cX7_freeBlock 3 = .ok (.istore_n 2, 1) := by decide +kernel
theorem dX7_freeBlock_4 : decode cX7_freeBlock 4 = .ok (.iload_n 2, 1) := by decide +kernel
theorem dX7_freeBlock_5 : decode cX7_freeBlock 5 = .ok (.aload_n 0, 1) := by decide +kernel
theorem dX7_freeBlock_6 : decode cX7_freeBlock 6 = .ok (.getfield 79, 3) := by decide +kernel
theorem dX7_freeBlock_9 : decode cX7_freeBlock 9 = .ok (.if_icmp .ge 39, 3) := by decide +kernel
theorem dX7_freeBlock_12 : decode cX7_freeBlock 12 = .ok (.aload_n 0, 1) := by decide +kernel
theorem dX7_freeBlock_13 : decode cX7_freeBlock 13 = .ok (.iload_n 2, 1) := by decide +kernel
theorem dX7_freeBlock_14 : decode cX7_freeBlock 14 = .ok (.invokevirtual 288, 3) := by decide +kernel
theorem dX7_freeBlock_17 : decode cX7_freeBlock 17 = .ok (.ifCond .eq 25, 3) := by decide +kernel
theorem dX7_freeBlock_20 : decode cX7_freeBlock 20 = .ok (.iload_n 1, 1) := by decide +kernel
theorem dX7_freeBlock_21 : decode cX7_freeBlock 21 = .ok (.iconst (-1), 1) := by decide +kernel
theorem dX7_freeBlock_22 : decode cX7_freeBlock 22 = .ok (.if_icmp .eq 18, 3) := by decide +kernel
theorem dX7_freeBlock_25 : decode cX7_freeBlock 25 = .ok (.aload_n 0, 1) := by decide +kernel
theorem dX7_freeBlock_26 : decode cX7_freeBlock 26 = .ok (.getfield 34, 3) := by decide +kernel
theorem dX7_freeBlock_29 : decode cX7_freeBlock 29 = .ok (.iload_n 2, 1) := by decide +kernel
theorem dX7_freeBlock_30 : decode cX7_freeBlock 30 = .ok (.iaload, 1) := by decide +kernel
theorem dX7_freeBlock_31 : decode cX7_freeBlock 31 = .ok (.aload_n 0, 1) := by decide +kernel
theorem dX7_freeBlock_32 : decode cX7_freeBlock 32 = .ok (.getfield 34, 3) := by decide +kernel
theorem dX7_freeBlock_35 : decode cX7_freeBlock 35 = .ok (.iload_n 1, 1) := by decide +kernel
theorem dX7_freeBlock_36 : decode cX7_freeBlock 36 = .ok (.iaload, 1) := by decide +kernel
theorem dX7_freeBlock_37 : decode cX7_freeBlock 37 = .ok (.if_icmp .ge 5, 3) := by decide +kernel
theorem dX7_freeBlock_40 : decode cX7_freeBlock 40 = .ok (.iload_n 2, 1) := by decide +kernel
theorem dX7_freeBlock_41 : decode cX7_freeBlock 41 = .ok (.istore_n 1, 1) := by decide +kernel
theorem dX7_freeBlock_42 : decode cX7_freeBlock 42 = .ok (.iinc 2 1, 3) := by decide +kernel
theorem dX7_freeBlock_45 : decode cX7_freeBlock 45 = .ok (.goto (-41), 3) := by decide +kernel
theorem dX7_freeBlock_48 : decode cX7_freeBlock 48 = .ok (.iload_n 1, 1) := by decide +kernel
theorem dX7_freeBlock_49 : decode cX7_freeBlock 49 = .ok (.ireturn, 1) := by decide +kernel
theorem dX7_nextVictim_0 : decode cX7_nextVictim 0 = .ok (.iconst (-1), 1) := by decide +kernel
theorem dX7_nextVictim_1 : decode cX7_nextVictim 1 = .ok (.istore_n 1, 1) := by decide +kernel
theorem dX7_nextVictim_2 : decode cX7_nextVictim 2 = .ok (.aload_n 0, 1) := by decide +kernel
theorem dX7_nextVictim_3 : decode cX7_nextVictim 3 = .ok (.aload_n 0, 1) := by decide +kernel
theorem dX7_nextVictim_4 : decode cX7_nextVictim 4 = .ok (.getfield 53, 3) := by decide +kernel
theorem dX7_nextVictim_7 : decode cX7_nextVictim 7 = .ok (.invokevirtual 285, 3) := by decide +kernel
theorem dX7_nextVictim_10 : decode cX7_nextVictim 10 = .ok (.istore_n 2, 1) := by decide +kernel
theorem dX7_nextVictim_11 : decode cX7_nextVictim 11 = .ok (.iconst 0, 1) := by decide +kernel
theorem dX7_nextVictim_12 : decode cX7_nextVictim 12 = .ok (.istore_n 3, 1) := by decide +kernel
theorem dX7_nextVictim_13 : decode cX7_nextVictim 13 = .ok (.iload_n 3, 1) := by decide +kernel
theorem dX7_nextVictim_14 : decode cX7_nextVictim 14 = .ok (.aload_n 0, 1) := by decide +kernel
theorem dX7_nextVictim_15 : decode cX7_nextVictim 15 = .ok (.getfield 79, 3) := by decide +kernel
theorem dX7_nextVictim_18 : decode cX7_nextVictim 18 = .ok (.if_icmp .ge 84, 3) := by decide +kernel
theorem dX7_nextVictim_21 : decode cX7_nextVictim 21 = .ok (.iload_n 3, 1) := by decide +kernel
theorem dX7_nextVictim_22 : decode cX7_nextVictim 22 = .ok (.aload_n 0, 1) := by decide +kernel
theorem dX7_nextVictim_23 : decode cX7_nextVictim 23 = .ok (.getfield 53, 3) := by decide +kernel
theorem dX7_nextVictim_26 : decode cX7_nextVictim 26 = .ok (.if_icmp .eq 70, 3) := by decide +kernel
theorem dX7_nextVictim_29 : decode cX7_nextVictim 29 = .ok (.aload_n 0, 1) := by decide +kernel
theorem dX7_nextVictim_30 : decode cX7_nextVictim 30 = .ok (.iload_n 3, 1) := by decide +kernel
theorem dX7_nextVictim_31 : decode cX7_nextVictim 31 = .ok (.invokevirtual 288, 3) := by decide +kernel
theorem dX7_nextVictim_34 : decode cX7_nextVictim 34 = .ok (.ifCond .eq 6, 3) := by decide +kernel
theorem dX7_nextVictim_37 : decode cX7_nextVictim 37 = .ok (.goto 59, 3) := by decide +kernel
theorem dX7_nextVictim_40 : decode cX7_nextVictim 40 = .ok (.aload_n 0, 1) := by decide +kernel
theorem dX7_nextVictim_41 : decode cX7_nextVictim 41 = .ok (.iload_n 3, 1) := by decide +kernel
theorem dX7_nextVictim_42 : decode cX7_nextVictim 42 = .ok (.invokevirtual 279, 3) := by decide +kernel
theorem dX7_nextVictim_45 : decode cX7_nextVictim 45 = .ok (.istore 4, 2) := by decide +kernel
theorem dX7_nextVictim_47 : decode cX7_nextVictim 47 = .ok (.iload 4, 2) := by decide +kernel
theorem dX7_nextVictim_49 : decode cX7_nextVictim 49 = .ok (.iload_n 2, 1) := by decide +kernel
theorem dX7_nextVictim_50 : decode cX7_nextVictim 50 = .ok (.if_icmp .lt 29, 3) := by decide +kernel
theorem dX7_nextVictim_53 : decode cX7_nextVictim 53 = .ok (.iload_n 1, 1) := by decide +kernel
theorem dX7_nextVictim_54 : decode cX7_nextVictim 54 = .ok (.iconst (-1), 1) := by decide +kernel
theorem dX7_nextVictim_55 : decode cX7_nextVictim 55 = .ok (.if_icmp .eq 28, 3) := by decide +kernel
theorem dX7_nextVictim_58 : decode cX7_nextVictim 58 = .ok (.iload 4, 2) := by decide +kernel
theorem dX7_nextVictim_60 : decode cX7_nextVictim 60 = .ok (.iload_n 2, 1) := by decide +kernel
theorem dX7_nextVictim_61 : decode cX7_nextVictim 61 = .ok (.if_icmp .ne 22, 3) := by decide +kernel
theorem dX7_nextVictim_64 : decode cX7_nextVictim 64 = .ok (.aload_n 0, 1) := by decide +kernel
theorem dX7_nextVictim_65 : decode cX7_nextVictim 65 = .ok (.getfield 34, 3) := by decide +kernel
theorem dX7_nextVictim_68 : decode cX7_nextVictim 68 = .ok (.iload_n 3, 1) := by decide +kernel
theorem dX7_nextVictim_69 : decode cX7_nextVictim 69 = .ok (.iaload, 1) := by decide +kernel
theorem dX7_nextVictim_70 : decode cX7_nextVictim 70 = .ok (.aload_n 0, 1) := by decide +kernel
theorem dX7_nextVictim_71 : decode cX7_nextVictim 71 = .ok (.getfield 34, 3) := by decide +kernel
theorem dX7_nextVictim_74 : decode cX7_nextVictim 74 = .ok (.iload_n 1, 1) := by decide +kernel
theorem dX7_nextVictim_75 : decode cX7_nextVictim 75 = .ok (.iaload, 1) := by decide +kernel
theorem dX7_nextVictim_76 : decode cX7_nextVictim 76 = .ok (.if_icmp .ge 7, 3) := by decide +kernel
theorem dX7_nextVictim_79 : decode cX7_nextVictim 79 = .ok (.iconst 1, 1) := by decide +kernel
theorem dX7_nextVictim_80 : decode cX7_nextVictim 80 = .ok (.goto 4, 3) := by decide +kernel
theorem dX7_nextVictim_83 : decode cX7_nextVictim 83 = .ok (.iconst 0, 1) := by decide +kernel
theorem dX7_nextVictim_84 : decode cX7_nextVictim 84 = .ok (.istore 5, 2) := by decide +kernel
theorem dX7_nextVictim_86 : decode cX7_nextVictim 86 = .ok (.iload 5, 2) := by decide +kernel
theorem dX7_nextVictim_88 : decode cX7_nextVictim 88 = .ok (.ifCond .eq 8, 3) := by decide +kernel
theorem dX7_nextVictim_91 : decode cX7_nextVictim 91 = .ok (.iload_n 3, 1) := by decide +kernel
theorem dX7_nextVictim_92 : decode cX7_nextVictim 92 = .ok (.istore_n 1, 1) := by decide +kernel
theorem dX7_nextVictim_93 : decode cX7_nextVictim 93 = .ok (.iload 4, 2) := by decide +kernel
theorem dX7_nextVictim_95 : decode cX7_nextVictim 95 = .ok (.istore_n 2, 1) := by decide +kernel
theorem dX7_nextVictim_96 : decode cX7_nextVictim 96 = .ok (.iinc 3 1, 3) := by decide +kernel
theorem dX7_nextVictim_99 : decode cX7_nextVictim 99 = .ok (.goto (-86), 3) := by decide +kernel
theorem dX7_nextVictim_102 : decode cX7_nextVictim 102 = .ok (.iload_n 1, 1) := by decide +kernel
