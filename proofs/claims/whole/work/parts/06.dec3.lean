theorem dX7_nextVictim_103 : decode cX7_nextVictim 103 = .ok (.ireturn, 1) := by decide +kernel
theorem dX7_makesRoom_0 : decode cX7_makesRoom 0 = .ok (.aload_n 0, 1) := by decide +kernel
theorem dX7_makesRoom_1 : decode cX7_makesRoom 1 = .ok (.invokevirtual 310, 3) := by decide +kernel
theorem dX7_makesRoom_4 : decode cX7_makesRoom 4 = .ok (.istore_n 1, 1) := by decide +kernel
theorem dX7_makesRoom_5 : decode cX7_makesRoom 5 = .ok (.iload_n 1, 1) := by decide +kernel
theorem dX7_makesRoom_6 : decode cX7_makesRoom 6 = .ok (.iconst (-1), 1) := by decide +kernel
theorem dX7_makesRoom_7 : decode cX7_makesRoom 7 = .ok (.if_icmp .ne 9, 3) := by decide +kernel
theorem dX7_makesRoom_10 : decode cX7_makesRoom 10 = .ok (.aload_n 0, 1) := by decide +kernel
theorem dX7_makesRoom_11 : decode cX7_makesRoom 11 = .ok (.invokevirtual 294, 3) := by decide +kernel
theorem dX7_makesRoom_14 : decode cX7_makesRoom 14 = .ok (.iconst 0, 1) := by decide +kernel
theorem dX7_makesRoom_15 : decode cX7_makesRoom 15 = .ok (.ireturn, 1) := by decide +kernel
theorem dX7_makesRoom_16 : decode cX7_makesRoom 16 = .ok (.aload_n 0, 1) := by decide +kernel
theorem dX7_makesRoom_17 : decode cX7_makesRoom 17 = .ok (.iload_n 1, 1) := by decide +kernel
theorem dX7_makesRoom_18 : decode cX7_makesRoom 18 = .ok (.putfield 53, 3) := by decide +kernel
theorem dX7_makesRoom_21 : decode cX7_makesRoom 21 = .ok (.aload_n 0, 1) := by decide +kernel
theorem dX7_makesRoom_22 : decode cX7_makesRoom 22 = .ok (.invokevirtual 313, 3) := by decide +kernel
theorem dX7_makesRoom_25 : decode cX7_makesRoom 25 = .ok (.iconst 2, 1) := by decide +kernel
theorem dX7_makesRoom_26 : decode cX7_makesRoom 26 = .ok (.if_icmp .ge 28, 3) := by decide +kernel
theorem dX7_makesRoom_29 : decode cX7_makesRoom 29 = .ok (.aload_n 0, 1) := by decide +kernel
theorem dX7_makesRoom_30 : decode cX7_makesRoom 30 = .ok (.invokevirtual 316, 3) := by decide +kernel
theorem dX7_makesRoom_33 : decode cX7_makesRoom 33 = .ok (.istore_n 2, 1) := by decide +kernel
theorem dX7_makesRoom_34 : decode cX7_makesRoom 34 = .ok (.iload_n 2, 1) := by decide +kernel
theorem dX7_makesRoom_35 : decode cX7_makesRoom 35 = .ok (.iconst (-1), 1) := by decide +kernel
theorem dX7_makesRoom_36 : decode cX7_makesRoom 36 = .ok (.if_icmp .ne 5, 3) := by decide +kernel
theorem dX7_makesRoom_39 : decode cX7_makesRoom 39 = .ok (.iconst 1, 1) := by decide +kernel
theorem dX7_makesRoom_40 : decode cX7_makesRoom 40 = .ok (.ireturn, 1) := by decide +kernel
theorem dX7_makesRoom_41 : decode cX7_makesRoom 41 = .ok (.aload_n 0, 1) := by decide +kernel
theorem dX7_makesRoom_42 : decode cX7_makesRoom 42 = .ok (.iload_n 2, 1) := by decide +kernel
theorem dX7_makesRoom_43 : decode cX7_makesRoom 43 = .ok (.invokevirtual 319, 3) := by decide +kernel
theorem dX7_makesRoom_46 : decode cX7_makesRoom 46 = .ok (.ifCond .ne 5, 3) := by decide +kernel
theorem dX7_makesRoom_49 : decode cX7_makesRoom 49 = .ok (.iconst 0, 1) := by decide +kernel
theorem dX7_makesRoom_50 : decode cX7_makesRoom 50 = .ok (.ireturn, 1) := by decide +kernel
theorem dX7_makesRoom_51 : decode cX7_makesRoom 51 = .ok (.goto (-30), 3) := by decide +kernel
theorem dX7_makesRoom_54 : decode cX7_makesRoom 54 = .ok (.iconst 1, 1) := by decide +kernel
theorem dX7_makesRoom_55 : decode cX7_makesRoom 55 = .ok (.ireturn, 1) := by decide +kernel
theorem dX7_programsPage_0 : decode cX7_programsPage 0 = .ok (.aload_n 0, 1) := by decide +kernel
theorem dX7_programsPage_1 : decode cX7_programsPage 1 = .ok (.getfield 53, 3) := by decide +kernel
theorem dX7_programsPage_4 : decode cX7_programsPage 4 = .ok (.iconst (-1), 1) := by decide +kernel
theorem dX7_programsPage_5 : decode cX7_programsPage 5 = .ok (.if_icmp .eq 14, 3) := by decide +kernel
theorem dX7_programsPage_8 : decode cX7_programsPage 8 = .ok (.aload_n 0, 1) := by decide +kernel
theorem dX7_programsPage_9 : decode cX7_programsPage 9 = .ok (.aload_n 0, 1) := by decide +kernel
theorem dX7_programsPage_10 : decode cX7_programsPage 10 = .ok (.getfield 53, 3) := by decide +kernel
theorem dX7_programsPage_13 : decode cX7_programsPage 13 = .ok (.invokevirtual 285, 3) := by decide +kernel
theorem dX7_programsPage_16 : decode cX7_programsPage 16 = .ok (.ifCond .ne 7, 3) := by decide +kernel
theorem dX7_programsPage_19 : decode cX7_programsPage 19 = .ok (.iconst 1, 1) := by decide +kernel
theorem dX7_programsPage_20 : decode cX7_programsPage 20 = .ok (.goto 4, 3) := by decide +kernel
theorem dX7_programsPage_23 : decode cX7_programsPage 23 = .ok (.iconst 0, 1) := by decide +kernel
theorem dX7_programsPage_24 : decode cX7_programsPage 24 = .ok (.istore 4, 2) := by decide +kernel
theorem dX7_programsPage_26 : decode cX7_programsPage 26 = .ok (.iload 4, 2) := by decide +kernel
theorem dX7_programsPage_28 : decode cX7_programsPage 28 = .ok (.ifCond .eq 12, 3) := by decide +kernel
theorem dX7_programsPage_31 : decode cX7_programsPage 31 = .ok (.aload_n 0, 1) := by decide +kernel
theorem dX7_programsPage_32 : decode cX7_programsPage 32 = .ok (.invokevirtual 322, 3) := by decide +kernel
theorem dX7_programsPage_35 : decode cX7_programsPage 35 = .ok (.ifCond .ne 5, 3) := by decide +kernel
theorem dX7_programsPage_38 : decode cX7_programsPage 38 = .ok (.iconst (-1), 1) := by decide +kernel
theorem dX7_programsPage_39 : decode cX7_programsPage 39 = .ok (.ireturn, 1) := by decide +kernel
theorem dX7_programsPage_40 : decode cX7_programsPage 40 = .ok (.aload_n 0, 1) := by decide +kernel
theorem dX7_programsPage_41 : decode cX7_programsPage 41 = .ok (.invokevirtual 297, 3) := by decide +kernel
theorem dX7_programsPage_44 : decode cX7_programsPage 44 = .ok (.istore 5, 2) := by decide +kernel
theorem dX7_programsPage_46 : decode cX7_programsPage 46 = .ok (.aload_n 0, 1) := by decide +kernel
theorem dX7_programsPage_47 : decode cX7_programsPage 47 = .ok (.iload 5, 2) := by decide +kernel
theorem dX7_programsPage_49 : decode cX7_programsPage 49 = .ok (.iload_n 1, 1) := by decide +kernel
theorem dX7_programsPage_50 : decode cX7_programsPage 50 = .ok (.iload_n 2, 1) := by decide +kernel
theorem dX7_programsPage_51 : decode cX7_programsPage 51 = .ok (.iload_n 3, 1) := by decide +kernel
theorem dX7_programsPage_52 : decode cX7_programsPage 52 = .ok (.invokevirtual 300, 3) := by decide +kernel
theorem dX7_programsPage_55 : decode cX7_programsPage 55 = .ok (.ifCond .eq 8, 3) := by decide +kernel
theorem dX7_programsPage_58 : decode cX7_programsPage 58 = .ok (.iload 5, 2) := by decide +kernel
theorem dX7_programsPage_60 : decode cX7_programsPage 60 = .ok (.goto 4, 3) := by decide +kernel
theorem dX7_programsPage_63 : decode cX7_programsPage 63 = .ok (.iconst (-1), 1) := by decide +kernel
theorem dX7_programsPage_64 : decode cX7_programsPage 64 = .ok (.ireturn, 1) := by decide +kernel
theorem dX7_hasRoom_0 : decode cX7_hasRoom 0 = .ok (.aload_n 0, 1) := by decide +kernel
theorem dX7_hasRoom_1 : decode cX7_hasRoom 1 = .ok (.invokevirtual 325, 3) := by decide +kernel
theorem dX7_hasRoom_4 : decode cX7_hasRoom 4 = .ok (.iload_n 1, 1) := by decide +kernel
theorem dX7_hasRoom_5 : decode cX7_hasRoom 5 = .ok (.iadd, 1) := by decide +kernel
theorem dX7_hasRoom_6 : decode cX7_hasRoom 6 = .ok (.aload_n 0, 1) := by decide +kernel
theorem dX7_hasRoom_7 : decode cX7_hasRoom 7 = .ok (.getfield 79, 3) := by decide +kernel
theorem dX7_hasRoom_10 : decode cX7_hasRoom 10 = .ok (.iconst 2, 1) := by decide +kernel
theorem dX7_hasRoom_11 : decode cX7_hasRoom 11 = .ok (.isub, 1) := by decide +kernel
theorem dX7_hasRoom_12 : decode cX7_hasRoom 12 = .ok (.aload_n 0, 1) := by decide +kernel
theorem dX7_hasRoom_13 : decode cX7_hasRoom 13 = .ok (.getfield 82, 3) := by decide +kernel
theorem dX7_hasRoom_16 : decode cX7_hasRoom 16 = .ok (.imul, 1) := by decide +kernel
theorem dX7_hasRoom_17 : decode cX7_hasRoom 17 = .ok (.if_icmp .gt 7, 3) := by decide +kernel
theorem dX7_hasRoom_20 : decode cX7_hasRoom 20 = .ok (.iconst 1, 1) := by decide +kernel
theorem dX7_hasRoom_21 : decode cX7_hasRoom 21 = .ok (.goto 4, 3) := by decide +kernel
theorem dX7_hasRoom_24 : decode cX7_hasRoom 24 = .ok (.iconst 0, 1) := by decide +kernel
theorem dX7_hasRoom_25 : decode cX7_hasRoom 25 = .ok (.ireturn, 1) := by decide +kernel
theorem dX7_programsMap_0 : decode cX7_programsMap 0 = .ok (.aload_n 0, 1) := by decide +kernel
theorem dX7_programsMap_1 : decode cX7_programsMap 1 = .ok (.iconst 3, 1) := by decide +kernel
theorem dX7_programsMap_2 : decode cX7_programsMap 2 = .ok (.iload_n 1, 1) := by decide +kernel
theorem dX7_programsMap_3 : decode cX7_programsMap 3 = .ok (.aload_n 0, 1) := by decide +kernel
theorem dX7_programsMap_4 : decode cX7_programsMap 4 = .ok (.getfield 95, 3) := by decide +kernel
theorem dX7_programsMap_7 : decode cX7_programsMap 7 = .ok (.invokevirtual 328, 3) := by decide +kernel
theorem dX7_programsMap_10 : decode cX7_programsMap 10 = .ok (.istore_n 2, 1) := by decide +kernel
theorem dX7_programsMap_11 : decode cX7_programsMap 11 = .ok (.iload_n 2, 1) := by decide +kernel
theorem dX7_programsMap_12 : decode cX7_programsMap 12 = .ok (.iconst (-1), 1) := by decide +kernel
theorem dX7_programsMap_13 : decode cX7_programsMap 13 = .ok (.if_icmp .ne 5, 3) := by decide +kernel
theorem dX7_programsMap_16 : decode cX7_programsMap 16 = .ok (.iconst 0, 1) := by decide +kernel
theorem dX7_programsMap_17 : decode cX7_programsMap 17 = .ok (.ireturn, 1) := by decide +kernel
theorem dX7_programsMap_18 : decode cX7_programsMap 18 = .ok (.iconst 0, 1) := by decide +kernel
theorem dX7_programsMap_19 : decode cX7_programsMap 19 = .ok (.istore_n 3, 1) := by decide +kernel
theorem dX7_programsMap_20 : decode cX7_programsMap 20 = .ok (.iload_n 3, 1) := by decide +kernel
theorem dX7_programsMap_21 : decode cX7_programsMap 21 = .ok (.bipush 8, 2) := by decide +kernel
theorem dX7_programsMap_23 : decode cX7_programsMap 23 = .ok (.if_icmp .ge 31, 3) := by decide +kernel
theorem dX7_programsMap_26 : decode cX7_programsMap 26 = .ok (.aload_n 0, 1) := by decide +kernel
theorem dX7_programsMap_27 : decode cX7_programsMap 27 = .ok (.getfield 31, 3) := by decide +kernel
theorem dX7_programsMap_30 : decode cX7_programsMap 30 = .ok (.bipush 8, 2) := by decide +kernel
theorem dX7_programsMap_32 : decode cX7_programsMap 32 = .ok (.iload_n 2, 1) := by decide +kernel
theorem dX7_programsMap_33 : decode cX7_programsMap 33 = .ok (.imul, 1) := by decide +kernel
theorem dX7_programsMap_34 : decode cX7_programsMap 34 = .ok (.iload_n 3, 1) := by decide +kernel
theorem dX7_programsMap_35 : decode cX7_programsMap 35 = .ok (.iadd, 1) := by decide +kernel
theorem dX7_programsMap_36 : decode cX7_programsMap 36 = .ok (.aload_n 0, 1) := by decide +kernel
theorem dX7_programsMap_37 : decode cX7_programsMap 37 = .ok (.getfield 37, 3) := by decide +kernel
theorem dX7_programsMap_40 : decode cX7_programsMap 40 = .ok (.bipush 8, 2) := by decide +kernel
theorem dX7_programsMap_42 : decode cX7_programsMap 42 = .ok (.iload_n 1, 1) := by decide +kernel
theorem dX7_programsMap_43 : decode cX7_programsMap 43 = .ok (.imul, 1) := by decide +kernel
theorem dX7_programsMap_44 : decode cX7_programsMap 44 = .ok (.iload_n 3, 1) := by decide +kernel
theorem dX7_programsMap_45 : decode cX7_programsMap 45 = .ok (.iadd, 1) := by decide +kernel
theorem dX7_programsMap_46 : decode cX7_programsMap 46 = .ok (.iaload, 1) := by decide +kernel
theorem dX7_programsMap_47 : decode cX7_programsMap 47 = .ok (.iastore, 1) := by decide +kernel
theorem dX7_programsMap_48 : decode cX7_programsMap 48 = .ok (.iinc 3 1, 3) := by decide +kernel
theorem dX7_programsMap_51 : decode cX7_programsMap 51 = .ok (.goto (-31), 3) := by decide +kernel
theorem dX7_programsMap_54 : decode cX7_programsMap 54 = .ok (.iconst 1, 1) := by decide +kernel
theorem dX7_programsMap_55 : decode cX7_programsMap 55 = .ok (.ireturn, 1) := by decide +kernel
theorem dX7_makesCheckpoint_0 : decode cX7_makesCheckpoint 0 = .ok (.aload_n 0, 1) := by decide +kernel
theorem dX7_makesCheckpoint_1 : decode cX7_makesCheckpoint 1 = .ok (.aload_n 0, 1) := by decide +kernel
theorem dX7_makesCheckpoint_2 : decode cX7_makesCheckpoint 2 = .ok (.getfield 132, 3) := by decide +kernel
theorem dX7_makesCheckpoint_5 : decode cX7_makesCheckpoint 5 = .ok (.iconst 1, 1) := by decide +kernel
theorem dX7_makesCheckpoint_6 : decode cX7_makesCheckpoint 6 = .ok (.iadd, 1) := by decide +kernel
theorem dX7_makesCheckpoint_7 : decode cX7_makesCheckpoint 7 = .ok (.putfield 132, 3) := by decide +kernel
theorem dX7_makesCheckpoint_10 : decode cX7_makesCheckpoint 10 = .ok (.aload_n 0, 1) := by decide +kernel
theorem dX7_makesCheckpoint_11 : decode cX7_makesCheckpoint 11 = .ok (.aload_n 0, 1) := by decide +kernel
theorem dX7_makesCheckpoint_12 : decode cX7_makesCheckpoint 12 = .ok (.getfield 132, 3) := by decide +kernel
theorem dX7_makesCheckpoint_15 : decode cX7_makesCheckpoint 15 = .ok (.putfield 95, 3) := by decide +kernel
theorem dX7_makesCheckpoint_18 : decode cX7_makesCheckpoint 18 = .ok (.iconst 0, 1) := by decide +kernel
theorem dX7_makesCheckpoint_19 : decode cX7_makesCheckpoint 19 = .ok (.istore_n 1, 1) := by decide +kernel
theorem dX7_makesCheckpoint_20 : decode cX7_makesCheckpoint 20 = .ok (.iload_n 1, 1) := by decide +kernel
theorem dX7_makesCheckpoint_21 : decode cX7_makesCheckpoint 21 = .ok (.aload_n 0, 1) := by decide +kernel
theorem dX7_makesCheckpoint_22 : decode cX7_makesCheckpoint 22 = .ok (.invokevirtual 332, 3) := by decide +kernel
theorem dX7_makesCheckpoint_25 : decode cX7_makesCheckpoint 25 = .ok (.if_icmp .ge 19, 3) := by decide +kernel
theorem dX7_makesCheckpoint_28 : decode cX7_makesCheckpoint 28 = .ok (.aload_n 0, 1) := by decide +kernel
theorem dX7_makesCheckpoint_29 : decode cX7_makesCheckpoint 29 = .ok (.iload_n 1, 1) := by decide +kernel
theorem dX7_makesCheckpoint_30 : decode cX7_makesCheckpoint 30 = .ok (.invokevirtual 335, 3) := by decide +kernel
theorem dX7_makesCheckpoint_33 : decode cX7_makesCheckpoint 33 = .ok (.ifCond .ne 5, 3) := by decide +kernel
theorem dX7_makesCheckpoint_36 : decode cX7_makesCheckpoint 36 = .ok (.iconst 0, 1) := by decide +kernel
theorem dX7_makesCheckpoint_37 : decode cX7_makesCheckpoint 37 = .ok (.ireturn, 1) := by decide +kernel
theorem dX7_makesCheckpoint_38 : decode cX7_makesCheckpoint 38 = .ok (.iinc 1 1, 3) := by decide +kernel
theorem dX7_makesCheckpoint_41 : decode cX7_makesCheckpoint 41 = .ok (.goto (-21), 3) := by decide +kernel
theorem dX7_makesCheckpoint_44 : decode cX7_makesCheckpoint 44 = .ok (.aload_n 0, 1) := by decide +kernel
theorem dX7_makesCheckpoint_45 : decode cX7_makesCheckpoint 45 = .ok (.iconst 4, 1) := by decide +kernel
theorem dX7_makesCheckpoint_46 : decode cX7_makesCheckpoint 46 = .ok (.iconst 0, 1) := by decide +kernel
theorem dX7_makesCheckpoint_47 : decode cX7_makesCheckpoint 47 = .ok (.aload_n 0, 1) := by decide +kernel
theorem dX7_makesCheckpoint_48 : decode cX7_makesCheckpoint 48 = .ok (.getfield 95, 3) := by decide +kernel
theorem dX7_makesCheckpoint_51 : decode cX7_makesCheckpoint 51 = .ok (.invokevirtual 328, 3) := by decide +kernel
theorem dX7_makesCheckpoint_54 : decode cX7_makesCheckpoint 54 = .ok (.istore_n 1, 1) := by decide +kernel
theorem dX7_makesCheckpoint_55 : decode cX7_makesCheckpoint 55 = .ok (.iload_n 1, 1) := by decide +kernel
theorem dX7_makesCheckpoint_56 : decode cX7_makesCheckpoint 56 = .ok (.iconst (-1), 1) := by decide +kernel
theorem dX7_makesCheckpoint_57 : decode cX7_makesCheckpoint 57 = .ok (.if_icmp .ne 5, 3) := by decide +kernel
theorem dX7_makesCheckpoint_60 : decode cX7_makesCheckpoint 60 = .ok (.iconst 0, 1) := by decide +kernel
theorem dX7_makesCheckpoint_61 : decode cX7_makesCheckpoint 61 = .ok (.ireturn, 1) := by decide +kernel
theorem dX7_makesCheckpoint_62 : decode cX7_makesCheckpoint 62 = .ok (.aload_n 0, 1) := by decide +kernel
theorem dX7_makesCheckpoint_63 : decode cX7_makesCheckpoint 63 = .ok (.aload_n 0, 1) := by decide +kernel
theorem dX7_makesCheckpoint_64 : decode cX7_makesCheckpoint 64 = .ok (.getfield 95, 3) := by decide +kernel
theorem dX7_makesCheckpoint_67 : decode cX7_makesCheckpoint 67 = .ok (.putfield 89, 3) := by decide +kernel
theorem dX7_makesCheckpoint_70 : decode cX7_makesCheckpoint 70 = .ok (.aload_n 0, 1) := by decide +kernel
theorem dX7_makesCheckpoint_71 : decode cX7_makesCheckpoint 71 = .ok (.iconst 0, 1) := by decide +kernel
theorem dX7_makesCheckpoint_72 : decode cX7_makesCheckpoint 72 = .ok (.putfield 95, 3) := by decide +kernel
theorem dX7_makesCheckpoint_75 : decode cX7_makesCheckpoint 75 = .ok (.aload_n 0, 1) := by decide +kernel
theorem dX7_makesCheckpoint_76 : decode cX7_makesCheckpoint 76 = .ok (.aload_n 0, 1) := by decide +kernel
theorem dX7_makesCheckpoint_77 : decode cX7_makesCheckpoint 77 = .ok (.getfield 22, 3) := by decide +kernel
theorem dX7_makesCheckpoint_80 : decode cX7_makesCheckpoint 80 = .ok (.iload_n 1, 1) := by decide +kernel
theorem dX7_makesCheckpoint_81 : decode cX7_makesCheckpoint 81 = .ok (.iaload, 1) := by decide +kernel
theorem dX7_makesCheckpoint_82 : decode cX7_makesCheckpoint 82 = .ok (.putfield 92, 3) := by decide +kernel
theorem dX7_makesCheckpoint_85 : decode cX7_makesCheckpoint 85 = .ok (.aload_n 0, 1) := by decide +kernel
theorem dX7_makesCheckpoint_86 : decode cX7_makesCheckpoint 86 = .ok (.iconst 0, 1) := by decide +kernel
theorem dX7_makesCheckpoint_87 : decode cX7_makesCheckpoint 87 = .ok (.putfield 98, 3) := by decide +kernel
theorem dX7_makesCheckpoint_90 : decode cX7_makesCheckpoint 90 = .ok (.iconst 1, 1) := by decide +kernel
theorem dX7_makesCheckpoint_91 : decode cX7_makesCheckpoint 91 = .ok (.ireturn, 1) := by decide +kernel
theorem dX7_pagesForCommit_0 : decode cX7_pagesForCommit 0 = .ok (.aload_n 0, 1) := by decide +kernel
theorem dX7_pagesForCommit_1 : decode cX7_pagesForCommit 1 = .ok (.getfield 98, 3) := by decide +kernel
theorem dX7_pagesForCommit_4 : decode cX7_pagesForCommit 4 = .ok (.iconst 1, 1) := by decide +kernel
theorem dX7_pagesForCommit_5 : decode cX7_pagesForCommit 5 = .ok (.iadd, 1) := by decide +kernel
theorem dX7_pagesForCommit_6 : decode cX7_pagesForCommit 6 = .ok (.aload_n 0, 1) := by decide +kernel
theorem dX7_pagesForCommit_7 : decode cX7_pagesForCommit 7 = .ok (.getfield 248, 3) := by decide +kernel
theorem dX7_pagesForCommit_10 : decode cX7_pagesForCommit 10 = .ok (.if_icmp .lt 12, 3) := by decide +kernel
theorem dX7_pagesForCommit_13 : decode cX7_pagesForCommit 13 = .ok (.aload_n 0, 1) := by decide +kernel
theorem dX7_pagesForCommit_14 : decode cX7_pagesForCommit 14 = .ok (.invokevirtual 332, 3) := by decide +kernel
theorem dX7_pagesForCommit_17 : decode cX7_pagesForCommit 17 = .ok (.iconst 2, 1) := by decide +kernel
theorem dX7_pagesForCommit_18 : decode cX7_pagesForCommit 18 = .ok (.iadd, 1) := by decide +kernel
theorem dX7_pagesForCommit_19 : decode cX7_pagesForCommit 19 = .ok (.goto 4, 3) := by decide +kernel
theorem dX7_pagesForCommit_22 : decode cX7_pagesForCommit 22 = .ok (.iconst 1, 1) := by decide +kernel
theorem dX7_pagesForCommit_23 : decode cX7_pagesForCommit 23 = .ok (.ireturn, 1) := by decide +kernel
theorem dX7_countsCommit_0 : decode cX7_countsCommit 0 = .ok (.aload_n 0, 1) := by decide +kernel
theorem dX7_countsCommit_1 : decode cX7_countsCommit 1 = .ok (.aload_n 0, 1) := by decide +kernel
theorem dX7_countsCommit_2 : decode cX7_countsCommit 2 = .ok (.getfield 98, 3) := by decide +kernel
theorem dX7_countsCommit_5 : decode cX7_countsCommit 5 = .ok (.iconst 1, 1) := by decide +kernel
theorem dX7_countsCommit_6 : decode cX7_countsCommit 6 = .ok (.iadd, 1) := by decide +kernel
theorem dX7_countsCommit_7 : decode cX7_countsCommit 7 = .ok (.putfield 98, 3) := by decide +kernel
theorem dX7_countsCommit_10 : decode cX7_countsCommit 10 = .ok (.aload_n 0, 1) := by decide +kernel
theorem dX7_countsCommit_11 : decode cX7_countsCommit 11 = .ok (.getfield 98, 3) := by decide +kernel
theorem dX7_countsCommit_14 : decode cX7_countsCommit 14 = .ok (.aload_n 0, 1) := by decide +kernel
theorem dX7_countsCommit_15 : decode cX7_countsCommit 15 = .ok (.getfield 248, 3) := by decide +kernel
theorem dX7_countsCommit_18 : decode cX7_countsCommit 18 = .ok (.if_icmp .lt 10, 3) := by decide +kernel
theorem dX7_countsCommit_21 : decode cX7_countsCommit 21 = .ok (.aload_n 0, 1) := by decide +kernel
theorem dX7_countsCommit_22 : decode cX7_countsCommit 22 = .ok (.invokevirtual 338, 3) := by decide +kernel
theorem dX7_countsCommit_25 : decode cX7_countsCommit 25 = .ok (.ifCond .eq 7, 3) := by decide +kernel
theorem dX7_countsCommit_28 : decode cX7_countsCommit 28 = .ok (.iconst 1, 1) := by decide +kernel
theorem dX7_countsCommit_29 : decode cX7_countsCommit 29 = .ok (.goto 4, 3) := by decide +kernel
theorem dX7_countsCommit_32 : decode cX7_countsCommit 32 = .ok (.iconst 0, 1) := by decide +kernel
theorem dX7_countsCommit_33 : decode cX7_countsCommit 33 = .ok (.ireturn, 1) := by decide +kernel
theorem dX7_checkpoint_0 : decode cX7_checkpoint 0 = .ok (.aload_n 0, 1) := by decide +kernel
theorem dX7_checkpoint_1 : decode cX7_checkpoint 1 = .ok (.iconst 0, 1) := by decide +kernel
theorem dX7_checkpoint_2 : decode cX7_checkpoint 2 = .ok (.putfield 69, 3) := by decide +kernel
theorem dX7_checkpoint_5 : decode cX7_checkpoint 5 = .ok (.aload_n 0, 1) := by decide +kernel
theorem dX7_checkpoint_6 : decode cX7_checkpoint 6 = .ok (.getfield 104, 3) := by decide +kernel
theorem dX7_checkpoint_9 : decode cX7_checkpoint 9 = .ok (.ifCond .eq 23, 3) := by decide +kernel
theorem dX7_checkpoint_12 : decode cX7_checkpoint 12 = .ok (.aload_n 0, 1) := by decide +kernel
theorem dX7_checkpoint_13 : decode cX7_checkpoint 13 = .ok (.aload_n 0, 1) := by decide +kernel
theorem dX7_checkpoint_14 : decode cX7_checkpoint 14 = .ok (.invokevirtual 332, 3) := by decide +kernel
theorem dX7_checkpoint_17 : decode cX7_checkpoint 17 = .ok (.iconst 1, 1) := by decide +kernel
theorem dX7_checkpoint_18 : decode cX7_checkpoint 18 = .ok (.iadd, 1) := by decide +kernel
theorem dX7_checkpoint_19 : decode cX7_checkpoint 19 = .ok (.invokevirtual 341, 3) := by decide +kernel
theorem dX7_checkpoint_22 : decode cX7_checkpoint 22 = .ok (.ifCond .eq 10, 3) := by decide +kernel
theorem dX7_checkpoint_25 : decode cX7_checkpoint 25 = .ok (.aload_n 0, 1) := by decide +kernel
theorem dX7_checkpoint_26 : decode cX7_checkpoint 26 = .ok (.invokevirtual 338, 3) := by decide +kernel
theorem dX7_checkpoint_29 : decode cX7_checkpoint 29 = .ok (.ifCond .ne 9, 3) := by decide +kernel
theorem dX7_checkpoint_32 : decode cX7_checkpoint 32 = .ok (.aload_n 0, 1) := by decide +kernel
theorem dX7_checkpoint_33 : decode cX7_checkpoint 33 = .ok (.iconst 1, 1) := by decide +kernel
theorem dX7_checkpoint_34 : decode cX7_checkpoint 34 = .ok (.invokevirtual 138, 3) := by decide +kernel
theorem dX7_checkpoint_37 : decode cX7_checkpoint 37 = .ok (.ireturn, 1) := by decide +kernel
theorem dX7_checkpoint_38 : decode cX7_checkpoint 38 = .ok (.aload_n 0, 1) := by decide +kernel
theorem dX7_checkpoint_39 : decode cX7_checkpoint 39 = .ok (.getfield 89, 3) := by decide +kernel
theorem dX7_checkpoint_42 : decode cX7_checkpoint 42 = .ok (.ireturn, 1) := by decide +kernel
theorem dX7_isTransaction_0 : decode cX7_isTransaction 0 = .ok (.iload_n 1, 1) := by decide +kernel
theorem dX7_isTransaction_1 : decode cX7_isTransaction 1 = .ok (.iconst 1, 1) := by decide +kernel
theorem dX7_isTransaction_2 : decode cX7_isTransaction 2 = .ok (.aload_n 0, 1) := by decide +kernel
theorem dX7_isTransaction_3 : decode cX7_isTransaction 3 = .ok (.getfield 129, 3) := by decide +kernel
theorem dX7_isTransaction_6 : decode cX7_isTransaction 6 = .ok (.invokestatic 85, 3) := by decide +kernel
theorem dX7_isTransaction_9 : decode cX7_isTransaction 9 = .ok (.ireturn, 1) := by decide +kernel
theorem dX7_openMany_0 : decode cX7_openMany 0 = .ok (.iconst 0, 1) := by decide +kernel
theorem dX7_openMany_1 : decode cX7_openMany 1 = .ok (.istore_n 1, 1) := by decide +kernel
theorem dX7_openMany_2 : decode cX7_openMany 2 = .ok (.iconst 1, 1) := by decide +kernel
theorem dX7_openMany_3 : decode cX7_openMany 3 = .ok (.istore_n 2, 1) := by decide +kernel
theorem dX7_openMany_4 : decode cX7_openMany 4 = .ok (.iload_n 2, 1) := by decide +kernel
theorem dX7_openMany_5 : decode cX7_openMany 5 = .ok (.aload_n 0, 1) := by decide +kernel
theorem dX7_openMany_6 : decode cX7_openMany 6 = .ok (.getfield 129, 3) := by decide +kernel
theorem dX7_openMany_9 : decode cX7_openMany 9 = .ok (.if_icmp .gt 27, 3) := by decide +kernel
theorem dX7_openMany_12 : decode cX7_openMany 12 = .ok (.aload_n 0, 1) := by decide +kernel
theorem dX7_openMany_13 : decode cX7_openMany 13 = .ok (.getfield 57, 3) := by decide +kernel
theorem dX7_openMany_16 : decode cX7_openMany 16 = .ok (.iload_n 2, 1) := by decide +kernel
theorem dX7_openMany_17 : decode cX7_openMany 17 = .ok (.iaload, 1) := by decide +kernel
theorem dX7_openMany_18 : decode cX7_openMany 18 = .ok (.iconst 1, 1) := by decide +kernel
theorem dX7_openMany_19 : decode cX7_openMany 19 = .ok (.if_icmp .ne 9, 3) := by decide +kernel
theorem dX7_openMany_22 : decode cX7_openMany 22 = .ok (.iload_n 1, 1) := by decide +kernel
theorem dX7_openMany_23 : decode cX7_openMany 23 = .ok (.iconst 1, 1) := by decide +kernel
theorem dX7_openMany_24 : decode cX7_openMany 24 = .ok (.iadd, 1) := by decide +kernel
theorem dX7_openMany_25 : decode cX7_openMany 25 = .ok (.goto 4, 3) := by decide +kernel
theorem dX7_openMany_28 : decode cX7_openMany 28 = .ok (.iload_n 1, 1) := by decide +kernel
theorem dX7_openMany_29 : decode cX7_openMany 29 = .ok (.istore_n 1, 1) := by decide +kernel
theorem dX7_openMany_30 : decode cX7_openMany 30 = .ok (.iinc 2 1, 3) := by decide +kernel
theorem dX7_openMany_33 : decode cX7_openMany 33 = .ok (.goto (-29), 3) := by decide +kernel
theorem dX7_openMany_36 : decode cX7_openMany 36 = .ok (.iload_n 1, 1) := by decide +kernel
theorem dX7_openMany_37 : decode cX7_openMany 37 = .ok (.ireturn, 1) := by decide +kernel
theorem dX7_locksOf_0 : decode cX7_locksOf 0 = .ok (.iconst 0, 1) := by decide +kernel
theorem dX7_locksOf_1 : decode cX7_locksOf 1 = .ok (.istore_n 2, 1) := by decide +kernel
theorem dX7_locksOf_2 : decode cX7_locksOf 2 = .ok (.iconst 0, 1) := by decide +kernel
theorem dX7_locksOf_3 : decode cX7_locksOf 3 = .ok (.istore_n 3, 1) := by decide +kernel
theorem dX7_locksOf_4 : decode cX7_locksOf 4 = .ok (.iload_n 3, 1) := by decide +kernel
theorem dX7_locksOf_5 : decode cX7_locksOf 5 = .ok (.aload_n 0, 1) := by decide +kernel
theorem dX7_locksOf_6 : decode cX7_locksOf 6 = .ok (.getfield 72, 3) := by decide +kernel
theorem dX7_locksOf_9 : decode cX7_locksOf 9 = .ok (.if_icmp .ge 27, 3) := by decide +kernel
theorem dX7_locksOf_12 : decode cX7_locksOf 12 = .ok (.aload_n 0, 1) := by decide +kernel
theorem dX7_locksOf_13 : decode cX7_locksOf 13 = .ok (.getfield 40, 3) := by decide +kernel
theorem dX7_locksOf_16 : decode cX7_locksOf 16 = .ok (.iload_n 3, 1) := by decide +kernel
theorem dX7_locksOf_17 : decode cX7_locksOf 17 = .ok (.iaload, 1) := by decide +kernel
theorem dX7_locksOf_18 : decode cX7_locksOf 18 = .ok (.iload_n 1, 1) := by decide +kernel
theorem dX7_locksOf_19 : decode cX7_locksOf 19 = .ok (.if_icmp .ne 9, 3) := by decide +kernel
theorem dX7_locksOf_22 : decode cX7_locksOf 22 = .ok (.iload_n 2, 1) := by decide +kernel
theorem dX7_locksOf_23 : decode cX7_locksOf 23 = .ok (.iconst 1, 1) := by decide +kernel
theorem dX7_locksOf_24 : decode cX7_locksOf 24 = .ok (.iadd, 1) := by decide +kernel
theorem dX7_locksOf_25 : decode cX7_locksOf 25 = .ok (.goto 4, 3) := by decide +kernel
theorem dX7_locksOf_28 : decode cX7_locksOf 28 = .ok (.iload_n 2, 1) := by decide +kernel
theorem dX7_locksOf_29 : decode cX7_locksOf 29 = .ok (.istore_n 2, 1) := by decide +kernel
theorem dX7_locksOf_30 : decode cX7_locksOf 30 = .ok (.iinc 3 1, 3) := by decide +kernel
theorem dX7_locksOf_33 : decode cX7_locksOf 33 = .ok (.goto (-29), 3) := by decide +kernel
theorem dX7_locksOf_36 : decode cX7_locksOf 36 = .ok (.iload_n 2, 1) := by decide +kernel
theorem dX7_locksOf_37 : decode cX7_locksOf 37 = .ok (.ireturn, 1) := by decide +kernel
theorem dX7_unlocks_0 : decode cX7_unlocks 0 = .ok (.iconst 0, 1) := by decide +kernel
theorem dX7_unlocks_1 : decode cX7_unlocks 1 = .ok (.istore_n 2, 1) := by decide +kernel
theorem dX7_unlocks_2 : decode cX7_unlocks 2 = .ok (.iload_n 2, 1) := by decide +kernel
theorem dX7_unlocks_3 : decode cX7_unlocks 3 = .ok (.aload_n 0, 1) := by decide +kernel
theorem dX7_unlocks_4 : decode cX7_unlocks 4 = .ok (.getfield 72, 3) := by decide +kernel
theorem dX7_unlocks_7 : decode cX7_unlocks 7 = .ok (.if_icmp .ge 33, 3) := by decide +kernel
theorem dX7_unlocks_10 : decode cX7_unlocks 10 = .ok (.aload_n 0, 1) := by decide +kernel
theorem dX7_unlocks_11 : decode cX7_unlocks 11 = .ok (.getfield 40, 3) := by decide +kernel
theorem dX7_unlocks_14 : decode cX7_unlocks 14 = .ok (.iload_n 2, 1) := by decide +kernel
theorem dX7_unlocks_15 : decode cX7_unlocks 15 = .ok (.iaload, 1) := by decide +kernel
theorem dX7_unlocks_16 : decode cX7_unlocks 16 = .ok (.iload_n 1, 1) := by decide +kernel
theorem dX7_unlocks_17 : decode cX7_unlocks 17 = .ok (.if_icmp .ne 17, 3) := by decide +kernel
theorem dX7_unlocks_20 : decode cX7_unlocks 20 = .ok (.aload_n 0, 1) := by decide +kernel
theorem dX7_unlocks_21 : decode cX7_unlocks 21 = .ok (.getfield 40, 3) := by decide +kernel
theorem dX7_unlocks_24 : decode cX7_unlocks 24 = .ok (.iload_n 2, 1) := by decide +kernel
theorem dX7_unlocks_25 : decode cX7_unlocks 25 = .ok (.iconst 0, 1) := by decide +kernel
theorem dX7_unlocks_26 : decode cX7_unlocks 26 = .ok (.iastore, 1) := by decide +kernel
theorem dX7_unlocks_27 : decode cX7_unlocks 27 = .ok (.aload_n 0, 1) := by decide +kernel
theorem dX7_unlocks_28 : decode cX7_unlocks 28 = .ok (.getfield 43, 3) := by decide +kernel
theorem dX7_unlocks_31 : decode cX7_unlocks 31 = .ok (.iload_n 2, 1) := by decide +kernel
theorem dX7_unlocks_32 : decode cX7_unlocks 32 = .ok (.iconst 0, 1) := by decide +kernel
theorem dX7_unlocks_33 : decode cX7_unlocks 33 = .ok (.iastore, 1) := by decide +kernel
theorem dX7_unlocks_34 : decode cX7_unlocks 34 = .ok (.iinc 2 1, 3) := by decide +kernel
theorem dX7_unlocks_37 : decode cX7_unlocks 37 = .ok (.goto (-35), 3) := by decide +kernel
theorem dX7_unlocks_40 : decode cX7_unlocks 40 = .ok (.return_, 1) := by decide +kernel
theorem dX7_begin_0 : decode cX7_begin 0 = .ok (.aload_n 0, 1) := by decide +kernel
theorem dX7_begin_1 : decode cX7_begin 1 = .ok (.iconst 0, 1) := by decide +kernel
theorem dX7_begin_2 : decode cX7_begin 2 = .ok (.putfield 69, 3) := by decide +kernel
theorem dX7_begin_5 : decode cX7_begin 5 = .ok (.aload_n 0, 1) := by decide +kernel
theorem dX7_begin_6 : decode cX7_begin 6 = .ok (.getfield 104, 3) := by decide +kernel
theorem dX7_begin_9 : decode cX7_begin 9 = .ok (.ifCond .eq 22, 3) := by decide +kernel
theorem dX7_begin_12 : decode cX7_begin 12 = .ok (.aload_n 0, 1) := by decide +kernel
theorem dX7_begin_13 : decode cX7_begin 13 = .ok (.invokevirtual 344, 3) := by decide +kernel
theorem dX7_begin_16 : decode cX7_begin 16 = .ok (.bipush 6, 2) := by decide +kernel
theorem dX7_begin_18 : decode cX7_begin 18 = .ok (.if_icmp .eq 13, 3) := by decide +kernel
theorem dX7_begin_21 : decode cX7_begin 21 = .ok (.aload_n 0, 1) := by decide +kernel
theorem dX7_begin_22 : decode cX7_begin 22 = .ok (.getfield 129, 3) := by decide +kernel
theorem dX7_begin_25 : decode cX7_begin 25 = .ok (.sipush 1000, 3) := by decide +kernel
theorem dX7_begin_28 : decode cX7_begin 28 = .ok (.if_icmp .ne 9, 3) := by decide +kernel
theorem dX7_begin_31 : decode cX7_begin 31 = .ok (.aload_n 0, 1) := by decide +kernel
theorem dX7_begin_32 : decode cX7_begin 32 = .ok (.iconst 1, 1) := by decide +kernel
theorem dX7_begin_33 : decode cX7_begin 33 = .ok (.invokevirtual 138, 3) := by decide +kernel
theorem dX7_begin_36 : decode cX7_begin 36 = .ok (.ireturn, 1) := by decide +kernel
theorem dX7_begin_37 : decode cX7_begin 37 = .ok (.aload_n 0, 1) := by decide +kernel
theorem dX7_begin_38 : decode cX7_begin 38 = .ok (.aload_n 0, 1) := by decide +kernel
theorem dX7_begin_39 : decode cX7_begin 39 = .ok (.getfield 129, 3) := by decide +kernel
theorem dX7_begin_42 : decode cX7_begin 42 = .ok (.iconst 1, 1) := by decide +kernel
theorem dX7_begin_43 : decode cX7_begin 43 = .ok (.iadd, 1) := by decide +kernel
theorem dX7_begin_44 : decode cX7_begin 44 = .ok (.putfield 129, 3) := by decide +kernel
theorem dX7_begin_47 : decode cX7_begin 47 = .ok (.aload_n 0, 1) := by decide +kernel
theorem dX7_begin_48 : decode cX7_begin 48 = .ok (.getfield 57, 3) := by decide +kernel
theorem dX7_begin_51 : decode cX7_begin 51 = .ok (.aload_n 0, 1) := by decide +kernel
theorem dX7_begin_52 : decode cX7_begin 52 = .ok (.getfield 129, 3) := by decide +kernel
theorem dX7_begin_55 : decode cX7_begin 55 = .ok (.iconst 1, 1) := by decide +kernel
theorem dX7_begin_56 : decode cX7_begin 56 = .ok (.iastore, 1) := by decide +kernel
theorem dX7_begin_57 : decode cX7_begin 57 = .ok (.aload_n 0, 1) := by decide +kernel
theorem dX7_begin_58 : decode cX7_begin 58 = .ok (.getfield 129, 3) := by decide +kernel
theorem dX7_begin_61 : decode cX7_begin 61 = .ok (.ireturn, 1) := by decide +kernel
theorem dX7_programsData_0 : decode cX7_programsData 0 = .ok (.aload_n 0, 1) := by decide +kernel
theorem dX7_programsData_1 : decode cX7_programsData 1 = .ok (.iconst 1, 1) := by decide +kernel
theorem dX7_programsData_2 : decode cX7_programsData 2 = .ok (.iload_n 2, 1) := by decide +kernel
theorem dX7_programsData_3 : decode cX7_programsData 3 = .ok (.iload_n 1, 1) := by decide +kernel
theorem dX7_programsData_4 : decode cX7_programsData 4 = .ok (.invokevirtual 328, 3) := by decide +kernel
theorem dX7_programsData_7 : decode cX7_programsData 7 = .ok (.istore 4, 2) := by decide +kernel
theorem dX7_programsData_9 : decode cX7_programsData 9 = .ok (.iload 4, 2) := by decide +kernel
theorem dX7_programsData_11 : decode cX7_programsData 11 = .ok (.iconst (-1), 1) := by decide +kernel
theorem dX7_programsData_12 : decode cX7_programsData 12 = .ok (.if_icmp .eq 11, 3) := by decide +kernel
theorem dX7_programsData_15 : decode cX7_programsData 15 = .ok (.aload_n 0, 1) := by decide +kernel
theorem dX7_programsData_16 : decode cX7_programsData 16 = .ok (.getfield 28, 3) := by decide +kernel
theorem dX7_programsData_19 : decode cX7_programsData 19 = .ok (.iload 4, 2) := by decide +kernel
theorem dX7_programsData_21 : decode cX7_programsData 21 = .ok (.iload_n 3, 1) := by decide +kernel
theorem dX7_programsData_22 : decode cX7_programsData 22 = .ok (.iastore, 1) := by decide +kernel
theorem dX7_programsData_23 : decode cX7_programsData 23 = .ok (.iload 4, 2) := by decide +kernel
theorem dX7_programsData_25 : decode cX7_programsData 25 = .ok (.ireturn, 1) := by decide +kernel
theorem dX7_writesOutside_0 : decode cX7_writesOutside 0 = .ok (.aload_n 0, 1) := by decide +kernel
theorem dX7_writesOutside_1 : decode cX7_writesOutside 1 = .ok (.aload_n 0, 1) := by decide +kernel
theorem dX7_writesOutside_2 : decode cX7_writesOutside 2 = .ok (.invokevirtual 347, 3) := by decide +kernel
theorem dX7_writesOutside_5 : decode cX7_writesOutside 5 = .ok (.invokevirtual 341, 3) := by decide +kernel
theorem dX7_writesOutside_8 : decode cX7_writesOutside 8 = .ok (.ifCond .ne 5, 3) := by decide +kernel
theorem dX7_writesOutside_11 : decode cX7_writesOutside 11 = .ok (.iconst 0, 1) := by decide +kernel
theorem dX7_writesOutside_12 : decode cX7_writesOutside 12 = .ok (.ireturn, 1) := by decide +kernel
theorem dX7_writesOutside_13 : decode cX7_writesOutside 13 = .ok (.aload_n 0, 1) := by decide +kernel
theorem dX7_writesOutside_14 : decode cX7_writesOutside 14 = .ok (.iconst 0, 1) := by decide +kernel
theorem dX7_writesOutside_15 : decode cX7_writesOutside 15 = .ok (.iload_n 1, 1) := by decide +kernel
theorem dX7_writesOutside_16 : decode cX7_writesOutside 16 = .ok (.iload_n 2, 1) := by decide +kernel
theorem dX7_writesOutside_17 : decode cX7_writesOutside 17 = .ok (.invokevirtual 350, 3) := by decide +kernel
theorem dX7_writesOutside_20 : decode cX7_writesOutside 20 = .ok (.istore_n 3, 1) := by decide +kernel
theorem dX7_writesOutside_21 : decode cX7_writesOutside 21 = .ok (.iload_n 3, 1) := by decide +kernel
theorem dX7_writesOutside_22 : decode cX7_writesOutside 22 = .ok (.iconst (-1), 1) := by decide +kernel
theorem dX7_writesOutside_23 : decode cX7_writesOutside 23 = .ok (.if_icmp .ne 5, 3) := by decide +kernel
theorem dX7_writesOutside_26 : decode cX7_writesOutside 26 = .ok (.iconst 0, 1) := by decide +kernel
theorem dX7_writesOutside_27 : decode cX7_writesOutside 27 = .ok (.ireturn, 1) := by decide +kernel
theorem dX7_writesOutside_28 : decode cX7_writesOutside 28 = .ok (.aload_n 0, 1) := by decide +kernel
theorem dX7_writesOutside_29 : decode cX7_writesOutside 29 = .ok (.getfield 22, 3) := by decide +kernel
theorem dX7_writesOutside_32 : decode cX7_writesOutside 32 = .ok (.iload_n 3, 1) := by decide +kernel
theorem dX7_writesOutside_33 : decode cX7_writesOutside 33 = .ok (.iaload, 1) := by decide +kernel
theorem dX7_writesOutside_34 : decode cX7_writesOutside 34 = .ok (.istore 4, 2) := by decide +kernel
theorem dX7_writesOutside_36 : decode cX7_writesOutside 36 = .ok (.aload_n 0, 1) := by decide +kernel
theorem dX7_writesOutside_37 : decode cX7_writesOutside 37 = .ok (.getfield 37, 3) := by decide +kernel
theorem dX7_writesOutside_40 : decode cX7_writesOutside 40 = .ok (.iload_n 1, 1) := by decide +kernel
theorem dX7_writesOutside_41 : decode cX7_writesOutside 41 = .ok (.iload 4, 2) := by decide +kernel
theorem dX7_writesOutside_43 : decode cX7_writesOutside 43 = .ok (.iastore, 1) := by decide +kernel
theorem dX7_writesOutside_44 : decode cX7_writesOutside 44 = .ok (.aload_n 0, 1) := by decide +kernel
theorem dX7_writesOutside_45 : decode cX7_writesOutside 45 = .ok (.invokevirtual 353, 3) := by decide +kernel
theorem dX7_writesOutside_48 : decode cX7_writesOutside 48 = .ok (.ifCond .ne 5, 3) := by decide +kernel
theorem dX7_writesOutside_51 : decode cX7_writesOutside 51 = .ok (.iconst 0, 1) := by decide +kernel
theorem dX7_writesOutside_52 : decode cX7_writesOutside 52 = .ok (.ireturn, 1) := by decide +kernel
theorem dX7_writesOutside_53 : decode cX7_writesOutside 53 = .ok (.aload_n 0, 1) := by decide +kernel
theorem dX7_writesOutside_54 : decode cX7_writesOutside 54 = .ok (.aload_n 0, 1) := by decide +kernel
theorem dX7_writesOutside_55 : decode cX7_writesOutside 55 = .ok (.getfield 123, 3) := by decide +kernel
theorem dX7_writesOutside_58 : decode cX7_writesOutside 58 = .ok (.iconst 1, 1) := by decide +kernel
theorem dX7_writesOutside_59 : decode cX7_writesOutside 59 = .ok (.iadd, 1) := by decide +kernel
theorem dX7_writesOutside_60 : decode cX7_writesOutside 60 = .ok (.putfield 123, 3) := by decide +kernel
theorem dX7_writesOutside_63 : decode cX7_writesOutside 63 = .ok (.iload 4, 2) := by decide +kernel
theorem dX7_writesOutside_65 : decode cX7_writesOutside 65 = .ok (.ireturn, 1) := by decide +kernel
theorem dX7_writesIn_0 : decode cX7_writesIn 0 = .ok (.aload_n 0, 1) := by decide +kernel
theorem dX7_writesIn_1 : decode cX7_writesIn 1 = .ok (.iconst 1, 1) := by decide +kernel
theorem dX7_writesIn_2 : decode cX7_writesIn 2 = .ok (.invokevirtual 341, 3) := by decide +kernel
theorem dX7_writesIn_5 : decode cX7_writesIn 5 = .ok (.ifCond .ne 5, 3) := by decide +kernel
theorem dX7_writesIn_8 : decode cX7_writesIn 8 = .ok (.iconst 0, 1) := by decide +kernel
theorem dX7_writesIn_9 : decode cX7_writesIn 9 = .ok (.ireturn, 1) := by decide +kernel
theorem dX7_writesIn_10 : decode cX7_writesIn 10 = .ok (.aload_n 0, 1) := by decide +kernel
theorem dX7_writesIn_11 : decode cX7_writesIn 11 = .ok (.iload_n 1, 1) := by decide +kernel
theorem dX7_writesIn_12 : decode cX7_writesIn 12 = .ok (.iload_n 2, 1) := by decide +kernel
theorem dX7_writesIn_13 : decode cX7_writesIn 13 = .ok (.iload_n 3, 1) := by decide +kernel
theorem dX7_writesIn_14 : decode cX7_writesIn 14 = .ok (.invokevirtual 350, 3) := by decide +kernel
theorem dX7_writesIn_17 : decode cX7_writesIn 17 = .ok (.istore 4, 2) := by decide +kernel
theorem dX7_writesIn_19 : decode cX7_writesIn 19 = .ok (.iload 4, 2) := by decide +kernel
theorem dX7_writesIn_21 : decode cX7_writesIn 21 = .ok (.iconst (-1), 1) := by decide +kernel
theorem dX7_writesIn_22 : decode cX7_writesIn 22 = .ok (.if_icmp .ne 5, 3) := by decide +kernel
theorem dX7_writesIn_25 : decode cX7_writesIn 25 = .ok (.iconst 0, 1) := by decide +kernel
theorem dX7_writesIn_26 : decode cX7_writesIn 26 = .ok (.ireturn, 1) := by decide +kernel
theorem dX7_writesIn_27 : decode cX7_writesIn 27 = .ok (.aload_n 0, 1) := by decide +kernel
theorem dX7_writesIn_28 : decode cX7_writesIn 28 = .ok (.getfield 40, 3) := by decide +kernel
theorem dX7_writesIn_31 : decode cX7_writesIn 31 = .ok (.iload_n 2, 1) := by decide +kernel
theorem dX7_writesIn_32 : decode cX7_writesIn 32 = .ok (.iload_n 1, 1) := by decide +kernel
theorem dX7_writesIn_33 : decode cX7_writesIn 33 = .ok (.iastore, 1) := by decide +kernel
theorem dX7_writesIn_34 : decode cX7_writesIn 34 = .ok (.aload_n 0, 1) := by decide +kernel
theorem dX7_writesIn_35 : decode cX7_writesIn 35 = .ok (.getfield 43, 3) := by decide +kernel
theorem dX7_writesIn_38 : decode cX7_writesIn 38 = .ok (.iload_n 2, 1) := by decide +kernel
theorem dX7_writesIn_39 : decode cX7_writesIn 39 = .ok (.aload_n 0, 1) := by decide +kernel
theorem dX7_writesIn_40 : decode cX7_writesIn 40 = .ok (.getfield 22, 3) := by decide +kernel
theorem dX7_writesIn_43 : decode cX7_writesIn 43 = .ok (.iload 4, 2) := by decide +kernel
theorem dX7_writesIn_45 : decode cX7_writesIn 45 = .ok (.iaload, 1) := by decide +kernel
theorem dX7_writesIn_46 : decode cX7_writesIn 46 = .ok (.iastore, 1) := by decide +kernel
theorem dX7_writesIn_47 : decode cX7_writesIn 47 = .ok (.aload_n 0, 1) := by decide +kernel
theorem dX7_writesIn_48 : decode cX7_writesIn 48 = .ok (.aload_n 0, 1) := by decide +kernel
theorem dX7_writesIn_49 : decode cX7_writesIn 49 = .ok (.getfield 123, 3) := by decide +kernel
theorem dX7_writesIn_52 : decode cX7_writesIn 52 = .ok (.iconst 1, 1) := by decide +kernel
theorem dX7_writesIn_53 : decode cX7_writesIn 53 = .ok (.iadd, 1) := by decide +kernel
theorem dX7_writesIn_54 : decode cX7_writesIn 54 = .ok (.putfield 123, 3) := by decide +kernel
theorem dX7_writesIn_57 : decode cX7_writesIn 57 = .ok (.aload_n 0, 1) := by decide +kernel
theorem dX7_writesIn_58 : decode cX7_writesIn 58 = .ok (.getfield 22, 3) := by decide +kernel
theorem dX7_writesIn_61 : decode cX7_writesIn 61 = .ok (.iload 4, 2) := by decide +kernel
theorem dX7_writesIn_63 : decode cX7_writesIn 63 = .ok (.iaload, 1) := by decide +kernel
theorem dX7_writesIn_64 : decode cX7_writesIn 64 = .ok (.ireturn, 1) := by decide +kernel
theorem dX7_canAct_0 : decode cX7_canAct 0 = .ok (.aload_n 0, 1) := by decide +kernel
theorem dX7_canAct_1 : decode cX7_canAct 1 = .ok (.getfield 104, 3) := by decide +kernel
theorem dX7_canAct_4 : decode cX7_canAct 4 = .ok (.ifCond .eq 21, 3) := by decide +kernel
theorem dX7_canAct_7 : decode cX7_canAct 7 = .ok (.iload_n 1, 1) := by decide +kernel
theorem dX7_canAct_8 : decode cX7_canAct 8 = .ok (.ifCond .eq 13, 3) := by decide +kernel
theorem dX7_canAct_11 : decode cX7_canAct 11 = .ok (.aload_n 0, 1) := by decide +kernel
theorem dX7_canAct_12 : decode cX7_canAct 12 = .ok (.getfield 57, 3) := by decide +kernel
theorem dX7_canAct_15 : decode cX7_canAct 15 = .ok (.iload_n 1, 1) := by decide +kernel
theorem dX7_canAct_16 : decode cX7_canAct 16 = .ok (.iaload, 1) := by decide +kernel
theorem dX7_canAct_17 : decode cX7_canAct 17 = .ok (.iconst 1, 1) := by decide +kernel
theorem dX7_canAct_18 : decode cX7_canAct 18 = .ok (.if_icmp .ne 7, 3) := by decide +kernel
theorem dX7_canAct_21 : decode cX7_canAct 21 = .ok (.iconst 1, 1) := by decide +kernel
theorem dX7_canAct_22 : decode cX7_canAct 22 = .ok (.goto 4, 3) := by decide +kernel
theorem dX7_canAct_25 : decode cX7_canAct 25 = .ok (.iconst 0, 1) := by decide +kernel
theorem dX7_canAct_26 : decode cX7_canAct 26 = .ok (.ireturn, 1) := by decide +kernel
theorem dX7_write_0 : decode cX7_write 0 = .ok (.aload_n 0, 1) := by decide +kernel
theorem dX7_write_1 : decode cX7_write 1 = .ok (.iconst 0, 1) := by decide +kernel
theorem dX7_write_2 : decode cX7_write 2 = .ok (.putfield 69, 3) := by decide +kernel
theorem dX7_write_5 : decode cX7_write 5 = .ok (.iload_n 1, 1) := by decide +kernel
theorem dX7_write_6 : decode cX7_write 6 = .ok (.ifCond .eq 11, 3) := by decide +kernel
theorem dX7_write_9 : decode cX7_write 9 = .ok (.aload_n 0, 1) := by decide +kernel
theorem dX7_write_10 : decode cX7_write 10 = .ok (.iload_n 1, 1) := by decide +kernel
theorem dX7_write_11 : decode cX7_write 11 = .ok (.invokevirtual 356, 3) := by decide +kernel
theorem dX7_write_14 : decode cX7_write 14 = .ok (.ifCond .eq 11, 3) := by decide +kernel
theorem dX7_write_17 : decode cX7_write 17 = .ok (.aload_n 0, 1) := by decide +kernel
theorem dX7_write_18 : decode cX7_write 18 = .ok (.iload_n 2, 1) := by decide +kernel
theorem dX7_write_19 : decode cX7_write 19 = .ok (.invokevirtual 359, 3) := by decide +kernel
theorem dX7_write_22 : decode cX7_write 22 = .ok (.ifCond .ne 9, 3) := by decide +kernel
theorem dX7_write_25 : decode cX7_write 25 = .ok (.aload_n 0, 1) := by decide +kernel
theorem dX7_write_26 : decode cX7_write 26 = .ok (.iconst 1, 1) := by decide +kernel
theorem dX7_write_27 : decode cX7_write 27 = .ok (.invokevirtual 138, 3) := by decide +kernel
theorem dX7_write_30 : decode cX7_write 30 = .ok (.ireturn, 1) := by decide +kernel
theorem dX7_write_31 : decode cX7_write 31 = .ok (.iload_n 3, 1) := by decide +kernel
theorem dX7_write_32 : decode cX7_write 32 = .ok (.iconst (-1), 1) := by decide +kernel
theorem dX7_write_33 : decode cX7_write 33 = .ok (.ldc 230, 2) := by decide +kernel
theorem dX7_write_35 : decode cX7_write 35 = .ok (.invokestatic 85, 3) := by decide +kernel
theorem dX7_write_38 : decode cX7_write 38 = .ok (.ifCond .ne 9, 3) := by decide +kernel
theorem dX7_write_41 : decode cX7_write 41 = .ok (.aload_n 0, 1) := by decide +kernel
theorem dX7_write_42 : decode cX7_write 42 = .ok (.iconst 2, 1) := by decide +kernel
theorem dX7_write_43 : decode cX7_write 43 = .ok (.invokevirtual 138, 3) := by decide +kernel
theorem dX7_write_46 : decode cX7_write 46 = .ok (.ireturn, 1) := by decide +kernel
theorem dX7_write_47 : decode cX7_write 47 = .ok (.aload_n 0, 1) := by decide +kernel
theorem dX7_write_48 : decode cX7_write 48 = .ok (.iload_n 1, 1) := by decide +kernel
theorem dX7_write_49 : decode cX7_write 49 = .ok (.invokevirtual 362, 3) := by decide +kernel
theorem dX7_write_52 : decode cX7_write 52 = .ok (.ifCond .eq 22, 3) := by decide +kernel
theorem dX7_write_55 : decode cX7_write 55 = .ok (.aload_n 0, 1) := by decide +kernel
theorem dX7_write_56 : decode cX7_write 56 = .ok (.getfield 40, 3) := by decide +kernel
theorem dX7_write_59 : decode cX7_write 59 = .ok (.iload_n 2, 1) := by decide +kernel
theorem dX7_write_60 : decode cX7_write 60 = .ok (.iaload, 1) := by decide +kernel
theorem dX7_write_61 : decode cX7_write 61 = .ok (.ifCond .eq 19, 3) := by decide +kernel
theorem dX7_write_64 : decode cX7_write 64 = .ok (.aload_n 0, 1) := by decide +kernel
theorem dX7_write_65 : decode cX7_write 65 = .ok (.getfield 40, 3) := by decide +kernel
theorem dX7_write_68 : decode cX7_write 68 = .ok (.iload_n 2, 1) := by decide +kernel
theorem dX7_write_69 : decode cX7_write 69 = .ok (.iaload, 1) := by decide +kernel
theorem dX7_write_70 : decode cX7_write 70 = .ok (.iload_n 1, 1) := by decide +kernel
theorem dX7_write_71 : decode cX7_write 71 = .ok (.if_icmp .eq 9, 3) := by decide +kernel
theorem dX7_write_74 : decode cX7_write 74 = .ok (.aload_n 0, 1) := by decide +kernel
theorem dX7_write_75 : decode cX7_write 75 = .ok (.iconst 3, 1) := by decide +kernel
theorem dX7_write_76 : decode cX7_write 76 = .ok (.invokevirtual 138, 3) := by decide +kernel
theorem dX7_write_79 : decode cX7_write 79 = .ok (.ireturn, 1) := by decide +kernel
theorem dX7_write_80 : decode cX7_write 80 = .ok (.iload_n 1, 1) := by decide +kernel
theorem dX7_write_81 : decode cX7_write 81 = .ok (.ifCond .ne 12, 3) := by decide +kernel
theorem dX7_write_84 : decode cX7_write 84 = .ok (.aload_n 0, 1) := by decide +kernel
theorem dX7_write_85 : decode cX7_write 85 = .ok (.iload_n 2, 1) := by decide +kernel
theorem dX7_write_86 : decode cX7_write 86 = .ok (.iload_n 3, 1) := by decide +kernel
theorem dX7_write_87 : decode cX7_write 87 = .ok (.invokevirtual 254, 3) := by decide +kernel
theorem dX7_write_90 : decode cX7_write 90 = .ok (.goto 10, 3) := by decide +kernel
theorem dX7_write_93 : decode cX7_write 93 = .ok (.aload_n 0, 1) := by decide +kernel
theorem dX7_write_94 : decode cX7_write 94 = .ok (.iload_n 1, 1) := by decide +kernel
theorem dX7_write_95 : decode cX7_write 95 = .ok (.iload_n 2, 1) := by decide +kernel
theorem dX7_write_96 : decode cX7_write 96 = .ok (.iload_n 3, 1) := by decide +kernel
theorem dX7_write_97 : decode cX7_write 97 = .ok (.invokevirtual 365, 3) := by decide +kernel
theorem dX7_write_100 : decode cX7_write 100 = .ok (.istore 4, 2) := by decide +kernel
theorem dX7_write_102 : decode cX7_write 102 = .ok (.iload 4, 2) := by decide +kernel
theorem dX7_write_104 : decode cX7_write 104 = .ok (.ifCond .ne 11, 3) := by decide +kernel
theorem dX7_write_107 : decode cX7_write 107 = .ok (.aload_n 0, 1) := by decide +kernel
theorem dX7_write_108 : decode cX7_write 108 = .ok (.iconst 3, 1) := by decide +kernel
theorem dX7_write_109 : decode cX7_write 109 = .ok (.invokevirtual 138, 3) := by decide +kernel
theorem dX7_write_112 : decode cX7_write 112 = .ok (.goto 5, 3) := by decide +kernel
theorem dX7_write_115 : decode cX7_write 115 = .ok (.iload 4, 2) := by decide +kernel
theorem dX7_write_117 : decode cX7_write 117 = .ok (.ireturn, 1) := by decide +kernel
theorem dX7_valueOf_0 : decode cX7_valueOf 0 = .ok (.iconst 0, 1) := by decide +kernel
theorem dX7_valueOf_1 : decode cX7_valueOf 1 = .ok (.istore_n 3, 1) := by decide +kernel
theorem dX7_valueOf_2 : decode cX7_valueOf 2 = .ok (.iload_n 3, 1) := by decide +kernel
theorem dX7_valueOf_3 : decode cX7_valueOf 3 = .ok (.aload_n 0, 1) := by decide +kernel
theorem dX7_valueOf_4 : decode cX7_valueOf 4 = .ok (.invokevirtual 264, 3) := by decide +kernel
theorem dX7_valueOf_7 : decode cX7_valueOf 7 = .ok (.if_icmp .ge 50, 3) := by decide +kernel
theorem dX7_valueOf_10 : decode cX7_valueOf 10 = .ok (.iload_n 2, 1) := by decide +kernel
theorem dX7_valueOf_11 : decode cX7_valueOf 11 = .ok (.ifCond .le 46, 3) := by decide +kernel
theorem dX7_valueOf_14 : decode cX7_valueOf 14 = .ok (.aload_n 0, 1) := by decide +kernel
theorem dX7_valueOf_15 : decode cX7_valueOf 15 = .ok (.getfield 13, 3) := by decide +kernel
theorem dX7_valueOf_18 : decode cX7_valueOf 18 = .ok (.iload_n 3, 1) := by decide +kernel
theorem dX7_valueOf_19 : decode cX7_valueOf 19 = .ok (.iaload, 1) := by decide +kernel
theorem dX7_valueOf_20 : decode cX7_valueOf 20 = .ok (.iconst 1, 1) := by decide +kernel
theorem dX7_valueOf_21 : decode cX7_valueOf 21 = .ok (.if_icmp .ne 30, 3) := by decide +kernel
theorem dX7_valueOf_24 : decode cX7_valueOf 24 = .ok (.aload_n 0, 1) := by decide +kernel
theorem dX7_valueOf_25 : decode cX7_valueOf 25 = .ok (.getfield 16, 3) := by decide +kernel
theorem dX7_valueOf_28 : decode cX7_valueOf 28 = .ok (.iload_n 3, 1) := by decide +kernel
theorem dX7_valueOf_29 : decode cX7_valueOf 29 = .ok (.iaload, 1) := by decide +kernel
theorem dX7_valueOf_30 : decode cX7_valueOf 30 = .ok (.iload_n 1, 1) := by decide +kernel
theorem dX7_valueOf_31 : decode cX7_valueOf 31 = .ok (.if_icmp .ne 20, 3) := by decide +kernel
theorem dX7_valueOf_34 : decode cX7_valueOf 34 = .ok (.aload_n 0, 1) := by decide +kernel
theorem dX7_valueOf_35 : decode cX7_valueOf 35 = .ok (.getfield 22, 3) := by decide +kernel
theorem dX7_valueOf_38 : decode cX7_valueOf 38 = .ok (.iload_n 3, 1) := by decide +kernel
theorem dX7_valueOf_39 : decode cX7_valueOf 39 = .ok (.iaload, 1) := by decide +kernel
theorem dX7_valueOf_40 : decode cX7_valueOf 40 = .ok (.iload_n 2, 1) := by decide +kernel
theorem dX7_valueOf_41 : decode cX7_valueOf 41 = .ok (.if_icmp .ne 10, 3) := by decide +kernel
theorem dX7_valueOf_44 : decode cX7_valueOf 44 = .ok (.aload_n 0, 1) := by decide +kernel
theorem dX7_valueOf_45 : decode cX7_valueOf 45 = .ok (.getfield 28, 3) := by decide +kernel
theorem dX7_valueOf_48 : decode cX7_valueOf 48 = .ok (.iload_n 3, 1) := by decide +kernel
theorem dX7_valueOf_49 : decode cX7_valueOf 49 = .ok (.iaload, 1) := by decide +kernel
theorem dX7_valueOf_50 : decode cX7_valueOf 50 = .ok (.ireturn, 1) := by decide +kernel
theorem dX7_valueOf_51 : decode cX7_valueOf 51 = .ok (.iinc 3 1, 3) := by decide +kernel
theorem dX7_valueOf_54 : decode cX7_valueOf 54 = .ok (.goto (-52), 3) := by decide +kernel
theorem dX7_valueOf_57 : decode cX7_valueOf 57 = .ok (.iconst (-1), 1) := by decide +kernel
theorem dX7_valueOf_58 : decode cX7_valueOf 58 = .ok (.ireturn, 1) := by decide +kernel
theorem dX7_read_0 : decode cX7_read 0 = .ok (.aload_n 0, 1) := by decide +kernel
theorem dX7_read_1 : decode cX7_read 1 = .ok (.iconst 0, 1) := by decide +kernel
theorem dX7_read_2 : decode cX7_read 2 = .ok (.putfield 69, 3) := by decide +kernel
theorem dX7_read_5 : decode cX7_read 5 = .ok (.iload_n 1, 1) := by decide +kernel
theorem dX7_read_6 : decode cX7_read 6 = .ok (.ifCond .eq 11, 3) := by decide +kernel
theorem dX7_read_9 : decode cX7_read 9 = .ok (.aload_n 0, 1) := by decide +kernel
theorem dX7_read_10 : decode cX7_read 10 = .ok (.iload_n 1, 1) := by decide +kernel
theorem dX7_read_11 : decode cX7_read 11 = .ok (.invokevirtual 356, 3) := by decide +kernel
theorem dX7_read_14 : decode cX7_read 14 = .ok (.ifCond .eq 11, 3) := by decide +kernel
theorem dX7_read_17 : decode cX7_read 17 = .ok (.aload_n 0, 1) := by decide +kernel
theorem dX7_read_18 : decode cX7_read 18 = .ok (.iload_n 2, 1) := by decide +kernel
theorem dX7_read_19 : decode cX7_read 19 = .ok (.invokevirtual 359, 3) := by decide +kernel
theorem dX7_read_22 : decode cX7_read 22 = .ok (.ifCond .ne 9, 3) := by decide +kernel
theorem dX7_read_25 : decode cX7_read 25 = .ok (.aload_n 0, 1) := by decide +kernel
theorem dX7_read_26 : decode cX7_read 26 = .ok (.iconst 1, 1) := by decide +kernel
theorem dX7_read_27 : decode cX7_read 27 = .ok (.invokevirtual 138, 3) := by decide +kernel
theorem dX7_read_30 : decode cX7_read 30 = .ok (.ireturn, 1) := by decide +kernel
theorem dX7_read_31 : decode cX7_read 31 = .ok (.aload_n 0, 1) := by decide +kernel
theorem dX7_read_32 : decode cX7_read 32 = .ok (.iload_n 1, 1) := by decide +kernel
theorem dX7_read_33 : decode cX7_read 33 = .ok (.invokevirtual 362, 3) := by decide +kernel
theorem dX7_read_36 : decode cX7_read 36 = .ok (.ifCond .ne 9, 3) := by decide +kernel
theorem dX7_read_39 : decode cX7_read 39 = .ok (.aload_n 0, 1) := by decide +kernel
theorem dX7_read_40 : decode cX7_read 40 = .ok (.iconst 2, 1) := by decide +kernel
theorem dX7_read_41 : decode cX7_read 41 = .ok (.invokevirtual 138, 3) := by decide +kernel
theorem dX7_read_44 : decode cX7_read 44 = .ok (.ireturn, 1) := by decide +kernel
theorem dX7_read_45 : decode cX7_read 45 = .ok (.iload_n 1, 1) := by decide +kernel
theorem dX7_read_46 : decode cX7_read 46 = .ok (.ifCond .eq 17, 3) := by decide +kernel
theorem dX7_read_49 : decode cX7_read 49 = .ok (.aload_n 0, 1) := by decide +kernel
theorem dX7_read_50 : decode cX7_read 50 = .ok (.getfield 40, 3) := by decide +kernel
theorem dX7_read_53 : decode cX7_read 53 = .ok (.iload_n 2, 1) := by decide +kernel
theorem dX7_read_54 : decode cX7_read 54 = .ok (.iaload, 1) := by decide +kernel
theorem dX7_read_55 : decode cX7_read 55 = .ok (.iload_n 1, 1) := by decide +kernel
theorem dX7_read_56 : decode cX7_read 56 = .ok (.if_icmp .ne 7, 3) := by decide +kernel
theorem dX7_read_59 : decode cX7_read 59 = .ok (.iconst 1, 1) := by decide +kernel
theorem dX7_read_60 : decode cX7_read 60 = .ok (.goto 4, 3) := by decide +kernel
theorem dX7_read_63 : decode cX7_read 63 = .ok (.iconst 0, 1) := by decide +kernel
theorem dX7_read_64 : decode cX7_read 64 = .ok (.istore_n 3, 1) := by decide +kernel
theorem dX7_read_65 : decode cX7_read 65 = .ok (.aload_n 0, 1) := by decide +kernel
theorem dX7_read_66 : decode cX7_read 66 = .ok (.iload_n 2, 1) := by decide +kernel
theorem dX7_read_67 : decode cX7_read 67 = .ok (.iload_n 3, 1) := by decide +kernel
theorem dX7_read_68 : decode cX7_read 68 = .ok (.ifCond .eq 12, 3) := by decide +kernel
theorem dX7_read_71 : decode cX7_read 71 = .ok (.aload_n 0, 1) := by decide +kernel
theorem dX7_read_72 : decode cX7_read 72 = .ok (.getfield 43, 3) := by decide +kernel
theorem dX7_read_75 : decode cX7_read 75 = .ok (.iload_n 2, 1) := by decide +kernel
theorem dX7_read_76 : decode cX7_read 76 = .ok (.iaload, 1) := by decide +kernel
theorem dX7_read_77 : decode cX7_read 77 = .ok (.goto 9, 3) := by decide +kernel
theorem dX7_read_80 : decode cX7_read 80 = .ok (.aload_n 0, 1) := by decide +kernel
theorem dX7_read_81 : decode cX7_read 81 = .ok (.getfield 37, 3) := by decide +kernel
theorem dX7_read_84 : decode cX7_read 84 = .ok (.iload_n 2, 1) := by decide +kernel
theorem dX7_read_85 : decode cX7_read 85 = .ok (.iaload, 1) := by decide +kernel
theorem dX7_read_86 : decode cX7_read 86 = .ok (.invokevirtual 368, 3) := by decide +kernel
theorem dX7_read_89 : decode cX7_read 89 = .ok (.ireturn, 1) := by decide +kernel
theorem dX7_commits0_0 : decode cX7_commits0 0 = .ok (.aload_n 0, 1) := by decide +kernel
theorem dX7_commits0_1 : decode cX7_commits0 1 = .ok (.aload_n 0, 1) := by decide +kernel
theorem dX7_commits0_2 : decode cX7_commits0 2 = .ok (.invokevirtual 347, 3) := by decide +kernel
theorem dX7_commits0_5 : decode cX7_commits0 5 = .ok (.invokevirtual 341, 3) := by decide +kernel
theorem dX7_commits0_8 : decode cX7_commits0 8 = .ok (.ifCond .eq 14, 3) := by decide +kernel
theorem dX7_commits0_11 : decode cX7_commits0 11 = .ok (.aload_n 0, 1) := by decide +kernel
theorem dX7_commits0_12 : decode cX7_commits0 12 = .ok (.iconst 2, 1) := by decide +kernel
theorem dX7_commits0_13 : decode cX7_commits0 13 = .ok (.iload_n 2, 1) := by decide +kernel
theorem dX7_commits0_14 : decode cX7_commits0 14 = .ok (.iload_n 1, 1) := by decide +kernel
theorem dX7_commits0_15 : decode cX7_commits0 15 = .ok (.invokevirtual 328, 3) := by decide +kernel
theorem dX7_commits0_18 : decode cX7_commits0 18 = .ok (.iconst (-1), 1) := by decide +kernel
theorem dX7_commits0_19 : decode cX7_commits0 19 = .ok (.if_icmp .ne 5, 3) := by decide +kernel
theorem dX7_commits0_22 : decode cX7_commits0 22 = .ok (.iconst 0, 1) := by decide +kernel
theorem dX7_commits0_23 : decode cX7_commits0 23 = .ok (.ireturn, 1) := by decide +kernel
theorem dX7_commits0_24 : decode cX7_commits0 24 = .ok (.iconst 0, 1) := by decide +kernel
theorem dX7_commits0_25 : decode cX7_commits0 25 = .ok (.istore_n 3, 1) := by decide +kernel
theorem dX7_commits0_26 : decode cX7_commits0 26 = .ok (.iload_n 3, 1) := by decide +kernel
theorem dX7_commits0_27 : decode cX7_commits0 27 = .ok (.aload_n 0, 1) := by decide +kernel
theorem dX7_commits0_28 : decode cX7_commits0 28 = .ok (.getfield 72, 3) := by decide +kernel
theorem dX7_commits0_31 : decode cX7_commits0 31 = .ok (.if_icmp .ge 40, 3) := by decide +kernel
theorem dX7_commits0_34 : decode cX7_commits0 34 = .ok (.aload_n 0, 1) := by decide +kernel
theorem dX7_commits0_35 : decode cX7_commits0 35 = .ok (.getfield 37, 3) := by decide +kernel
theorem dX7_commits0_38 : decode cX7_commits0 38 = .ok (.iload_n 3, 1) := by decide +kernel
theorem dX7_commits0_39 : decode cX7_commits0 39 = .ok (.aload_n 0, 1) := by decide +kernel
theorem dX7_commits0_40 : decode cX7_commits0 40 = .ok (.getfield 40, 3) := by decide +kernel
theorem dX7_commits0_43 : decode cX7_commits0 43 = .ok (.iload_n 3, 1) := by decide +kernel
theorem dX7_commits0_44 : decode cX7_commits0 44 = .ok (.iaload, 1) := by decide +kernel
theorem dX7_commits0_45 : decode cX7_commits0 45 = .ok (.iload_n 1, 1) := by decide +kernel
theorem dX7_commits0_46 : decode cX7_commits0 46 = .ok (.if_icmp .ne 12, 3) := by decide +kernel
theorem dX7_commits0_49 : decode cX7_commits0 49 = .ok (.aload_n 0, 1) := by decide +kernel
theorem dX7_commits0_50 : decode cX7_commits0 50 = .ok (.getfield 43, 3) := by decide +kernel
theorem dX7_commits0_53 : decode cX7_commits0 53 = .ok (.iload_n 3, 1) := by decide +kernel
theorem dX7_commits0_54 : decode cX7_commits0 54 = .ok (.iaload, 1) := by decide +kernel
theorem dX7_commits0_55 : decode cX7_commits0 55 = .ok (.goto 9, 3) := by decide +kernel
theorem dX7_commits0_58 : decode cX7_commits0 58 = .ok (.aload_n 0, 1) := by decide +kernel
theorem dX7_commits0_59 : decode cX7_commits0 59 = .ok (.getfield 37, 3) := by decide +kernel
theorem dX7_commits0_62 : decode cX7_commits0 62 = .ok (.iload_n 3, 1) := by decide +kernel
theorem dX7_commits0_63 : decode cX7_commits0 63 = .ok (.iaload, 1) := by decide +kernel
theorem dX7_commits0_64 : decode cX7_commits0 64 = .ok (.iastore, 1) := by decide +kernel
theorem dX7_commits0_65 : decode cX7_commits0 65 = .ok (.iinc 3 1, 3) := by decide +kernel
theorem dX7_commits0_68 : decode cX7_commits0 68 = .ok (.goto (-42), 3) := by decide +kernel
theorem dX7_commits0_71 : decode cX7_commits0 71 = .ok (.aload_n 0, 1) := by decide +kernel
theorem dX7_commits0_72 : decode cX7_commits0 72 = .ok (.iload_n 1, 1) := by decide +kernel
theorem dX7_commits0_73 : decode cX7_commits0 73 = .ok (.invokevirtual 371, 3) := by decide +kernel
theorem dX7_commits0_76 : decode cX7_commits0 76 = .ok (.aload_n 0, 1) := by decide +kernel
theorem dX7_commits0_77 : decode cX7_commits0 77 = .ok (.getfield 57, 3) := by decide +kernel
theorem dX7_commits0_80 : decode cX7_commits0 80 = .ok (.iload_n 1, 1) := by decide +kernel
theorem dX7_commits0_81 : decode cX7_commits0 81 = .ok (.iconst 2, 1) := by decide +kernel
theorem dX7_commits0_82 : decode cX7_commits0 82 = .ok (.iastore, 1) := by decide +kernel
theorem dX7_commits0_83 : decode cX7_commits0 83 = .ok (.aload_n 0, 1) := by decide +kernel
theorem dX7_commits0_84 : decode cX7_commits0 84 = .ok (.invokevirtual 353, 3) := by decide +kernel
theorem dX7_commits0_87 : decode cX7_commits0 87 = .ok (.ireturn, 1) := by decide +kernel
theorem dX7_commit_0 : decode cX7_commit 0 = .ok (.aload_n 0, 1) := by decide +kernel
theorem dX7_commit_1 : decode cX7_commit 1 = .ok (.iconst 0, 1) := by decide +kernel
theorem dX7_commit_2 : decode cX7_commit 2 = .ok (.putfield 69, 3) := by decide +kernel
theorem dX7_commit_5 : decode cX7_commit 5 = .ok (.aload_n 0, 1) := by decide +kernel
theorem dX7_commit_6 : decode cX7_commit 6 = .ok (.iload_n 1, 1) := by decide +kernel
theorem dX7_commit_7 : decode cX7_commit 7 = .ok (.invokevirtual 356, 3) := by decide +kernel
theorem dX7_commit_10 : decode cX7_commit 10 = .ok (.ifCond .ne 9, 3) := by decide +kernel
theorem dX7_commit_13 : decode cX7_commit 13 = .ok (.aload_n 0, 1) := by decide +kernel
theorem dX7_commit_14 : decode cX7_commit 14 = .ok (.iconst 1, 1) := by decide +kernel
theorem dX7_commit_15 : decode cX7_commit 15 = .ok (.invokevirtual 138, 3) := by decide +kernel
theorem dX7_commit_18 : decode cX7_commit 18 = .ok (.ireturn, 1) := by decide +kernel
theorem dX7_commit_19 : decode cX7_commit 19 = .ok (.aload_n 0, 1) := by decide +kernel
theorem dX7_commit_20 : decode cX7_commit 20 = .ok (.iload_n 1, 1) := by decide +kernel
theorem dX7_commit_21 : decode cX7_commit 21 = .ok (.invokevirtual 362, 3) := by decide +kernel
theorem dX7_commit_24 : decode cX7_commit 24 = .ok (.ifCond .ne 9, 3) := by decide +kernel
theorem dX7_commit_27 : decode cX7_commit 27 = .ok (.aload_n 0, 1) := by decide +kernel
theorem dX7_commit_28 : decode cX7_commit 28 = .ok (.iconst 2, 1) := by decide +kernel
theorem dX7_commit_29 : decode cX7_commit 29 = .ok (.invokevirtual 138, 3) := by decide +kernel
theorem dX7_commit_32 : decode cX7_commit 32 = .ok (.ireturn, 1) := by decide +kernel
theorem dX7_commit_33 : decode cX7_commit 33 = .ok (.aload_n 0, 1) := by decide +kernel
theorem dX7_commit_34 : decode cX7_commit 34 = .ok (.iload_n 1, 1) := by decide +kernel
theorem dX7_commit_35 : decode cX7_commit 35 = .ok (.invokevirtual 374, 3) := by decide +kernel
theorem dX7_commit_38 : decode cX7_commit 38 = .ok (.istore_n 2, 1) := by decide +kernel
theorem dX7_commit_39 : decode cX7_commit 39 = .ok (.iload_n 2, 1) := by decide +kernel
theorem dX7_commit_40 : decode cX7_commit 40 = .ok (.ifCond .ne 12, 3) := by decide +kernel
theorem dX7_commit_43 : decode cX7_commit 43 = .ok (.aload_n 0, 1) := by decide +kernel
theorem dX7_commit_44 : decode cX7_commit 44 = .ok (.getfield 57, 3) := by decide +kernel
theorem dX7_commit_47 : decode cX7_commit 47 = .ok (.iload_n 1, 1) := by decide +kernel
theorem dX7_commit_48 : decode cX7_commit 48 = .ok (.iconst 2, 1) := by decide +kernel
theorem dX7_commit_49 : decode cX7_commit 49 = .ok (.iastore, 1) := by decide +kernel
theorem dX7_commit_50 : decode cX7_commit 50 = .ok (.iconst 0, 1) := by decide +kernel
theorem dX7_commit_51 : decode cX7_commit 51 = .ok (.ireturn, 1) := by decide +kernel
theorem dX7_commit_52 : decode cX7_commit 52 = .ok (.aload_n 0, 1) := by decide +kernel
theorem dX7_commit_53 : decode cX7_commit 53 = .ok (.iload_n 1, 1) := by decide +kernel
theorem dX7_commit_54 : decode cX7_commit 54 = .ok (.iload_n 2, 1) := by decide +kernel
theorem dX7_commit_55 : decode cX7_commit 55 = .ok (.invokevirtual 377, 3) := by decide +kernel
theorem dX7_commit_58 : decode cX7_commit 58 = .ok (.ifCond .eq 7, 3) := by decide +kernel
theorem dX7_commit_61 : decode cX7_commit 61 = .ok (.iload_n 2, 1) := by decide +kernel
theorem dX7_commit_62 : decode cX7_commit 62 = .ok (.goto 8, 3) := by decide +kernel
theorem dX7_commit_65 : decode cX7_commit 65 = .ok (.aload_n 0, 1) := by decide +kernel
theorem dX7_commit_66 : decode cX7_commit 66 = .ok (.iconst 2, 1) := by decide +kernel
theorem dX7_commit_67 : decode cX7_commit 67 = .ok (.invokevirtual 138, 3) := by decide +kernel
theorem dX7_commit_70 : decode cX7_commit 70 = .ok (.ireturn, 1) := by decide +kernel
theorem dX7_abort_0 : decode cX7_abort 0 = .ok (.aload_n 0, 1) := by decide +kernel
theorem dX7_abort_1 : decode cX7_abort 1 = .ok (.iconst 0, 1) := by decide +kernel
theorem dX7_abort_2 : decode cX7_abort 2 = .ok (.putfield 69, 3) := by decide +kernel
theorem dX7_abort_5 : decode cX7_abort 5 = .ok (.aload_n 0, 1) := by decide +kernel
theorem dX7_abort_6 : decode cX7_abort 6 = .ok (.iload_n 1, 1) := by decide +kernel
theorem dX7_abort_7 : decode cX7_abort 7 = .ok (.invokevirtual 356, 3) := by decide +kernel
theorem dX7_abort_10 : decode cX7_abort 10 = .ok (.ifCond .ne 9, 3) := by decide +kernel
theorem dX7_abort_13 : decode cX7_abort 13 = .ok (.aload_n 0, 1) := by decide +kernel
theorem dX7_abort_14 : decode cX7_abort 14 = .ok (.iconst 1, 1) := by decide +kernel
theorem dX7_abort_15 : decode cX7_abort 15 = .ok (.invokevirtual 138, 3) := by decide +kernel
theorem dX7_abort_18 : decode cX7_abort 18 = .ok (.ireturn, 1) := by decide +kernel
theorem dX7_abort_19 : decode cX7_abort 19 = .ok (.aload_n 0, 1) := by decide +kernel
theorem dX7_abort_20 : decode cX7_abort 20 = .ok (.iload_n 1, 1) := by decide +kernel
theorem dX7_abort_21 : decode cX7_abort 21 = .ok (.invokevirtual 362, 3) := by decide +kernel
theorem dX7_abort_24 : decode cX7_abort 24 = .ok (.ifCond .ne 9, 3) := by decide +kernel
theorem dX7_abort_27 : decode cX7_abort 27 = .ok (.aload_n 0, 1) := by decide +kernel
theorem dX7_abort_28 : decode cX7_abort 28 = .ok (.iconst 2, 1) := by decide +kernel
theorem dX7_abort_29 : decode cX7_abort 29 = .ok (.invokevirtual 138, 3) := by decide +kernel
theorem dX7_abort_32 : decode cX7_abort 32 = .ok (.ireturn, 1) := by decide +kernel
theorem dX7_abort_33 : decode cX7_abort 33 = .ok (.aload_n 0, 1) := by decide +kernel
theorem dX7_abort_34 : decode cX7_abort 34 = .ok (.iload_n 1, 1) := by decide +kernel
theorem dX7_abort_35 : decode cX7_abort 35 = .ok (.invokevirtual 374, 3) := by decide +kernel
theorem dX7_abort_38 : decode cX7_abort 38 = .ok (.istore_n 2, 1) := by decide +kernel
theorem dX7_abort_39 : decode cX7_abort 39 = .ok (.aload_n 0, 1) := by decide +kernel
theorem dX7_abort_40 : decode cX7_abort 40 = .ok (.iload_n 1, 1) := by decide +kernel
theorem dX7_abort_41 : decode cX7_abort 41 = .ok (.invokevirtual 371, 3) := by decide +kernel
theorem dX7_abort_44 : decode cX7_abort 44 = .ok (.aload_n 0, 1) := by decide +kernel
theorem dX7_abort_45 : decode cX7_abort 45 = .ok (.getfield 57, 3) := by decide +kernel
theorem dX7_abort_48 : decode cX7_abort 48 = .ok (.iload_n 1, 1) := by decide +kernel
theorem dX7_abort_49 : decode cX7_abort 49 = .ok (.iconst 3, 1) := by decide +kernel
theorem dX7_abort_50 : decode cX7_abort 50 = .ok (.iastore, 1) := by decide +kernel
theorem dX7_abort_51 : decode cX7_abort 51 = .ok (.iload_n 2, 1) := by decide +kernel
theorem dX7_abort_52 : decode cX7_abort 52 = .ok (.ireturn, 1) := by decide +kernel
theorem dX7_isOpenReader_0 : decode cX7_isOpenReader 0 = .ok (.iload_n 1, 1) := by decide +kernel
theorem dX7_isOpenReader_1 : decode cX7_isOpenReader 1 = .ok (.iconst 0, 1) := by decide +kernel
theorem dX7_isOpenReader_2 : decode cX7_isOpenReader 2 = .ok (.iconst 3, 1) := by decide +kernel
theorem dX7_isOpenReader_3 : decode cX7_isOpenReader 3 = .ok (.invokestatic 85, 3) := by decide +kernel
theorem dX7_isOpenReader_6 : decode cX7_isOpenReader 6 = .ok (.ifCond .eq 16, 3) := by decide +kernel
theorem dX7_isOpenReader_9 : decode cX7_isOpenReader 9 = .ok (.aload_n 0, 1) := by decide +kernel
theorem dX7_isOpenReader_10 : decode cX7_isOpenReader 10 = .ok (.getfield 49, 3) := by decide +kernel
theorem dX7_isOpenReader_13 : decode cX7_isOpenReader 13 = .ok (.iload_n 1, 1) := by decide +kernel
theorem dX7_isOpenReader_14 : decode cX7_isOpenReader 14 = .ok (.baload, 1) := by decide +kernel
theorem dX7_isOpenReader_15 : decode cX7_isOpenReader 15 = .ok (.ifCond .eq 7, 3) := by decide +kernel
theorem dX7_isOpenReader_18 : decode cX7_isOpenReader 18 = .ok (.iconst 1, 1) := by decide +kernel
theorem dX7_isOpenReader_19 : decode cX7_isOpenReader 19 = .ok (.goto 4, 3) := by decide +kernel
theorem dX7_isOpenReader_22 : decode cX7_isOpenReader 22 = .ok (.iconst 0, 1) := by decide +kernel
theorem dX7_isOpenReader_23 : decode cX7_isOpenReader 23 = .ok (.ireturn, 1) := by decide +kernel
theorem dX7_readerMany_0 : decode cX7_readerMany 0 = .ok (.iconst 0, 1) := by decide +kernel
theorem dX7_readerMany_1 : decode cX7_readerMany 1 = .ok (.istore_n 1, 1) := by decide +kernel
theorem dX7_readerMany_2 : decode cX7_readerMany 2 = .ok (.iconst 0, 1) := by decide +kernel
theorem dX7_readerMany_3 : decode cX7_readerMany 3 = .ok (.istore_n 2, 1) := by decide +kernel
theorem dX7_readerMany_4 : decode cX7_readerMany 4 = .ok (.iload_n 2, 1) := by decide +kernel
theorem dX7_readerMany_5 : decode cX7_readerMany 5 = .ok (.iconst 4, 1) := by decide +kernel
theorem dX7_readerMany_6 : decode cX7_readerMany 6 = .ok (.if_icmp .ge 26, 3) := by decide +kernel
theorem dX7_readerMany_9 : decode cX7_readerMany 9 = .ok (.aload_n 0, 1) := by decide +kernel
theorem dX7_readerMany_10 : decode cX7_readerMany 10 = .ok (.getfield 49, 3) := by decide +kernel
theorem dX7_readerMany_13 : decode cX7_readerMany 13 = .ok (.iload_n 2, 1) := by decide +kernel
theorem dX7_readerMany_14 : decode cX7_readerMany 14 = .ok (.baload, 1) := by decide +kernel
theorem dX7_readerMany_15 : decode cX7_readerMany 15 = .ok (.ifCond .eq 9, 3) := by decide +kernel
theorem dX7_readerMany_18 : decode cX7_readerMany 18 = .ok (.iload_n 1, 1) := by decide +kernel
theorem dX7_readerMany_19 : decode cX7_readerMany 19 = .ok (.iconst 1, 1) := by decide +kernel
theorem dX7_readerMany_20 : decode cX7_readerMany 20 = .ok (.iadd, 1) := by decide +kernel
theorem dX7_readerMany_21 : decode cX7_readerMany 21 = .ok (.goto 4, 3) := by decide +kernel
theorem dX7_readerMany_24 : decode cX7_readerMany 24 = .ok (.iload_n 1, 1) := by decide +kernel
theorem dX7_readerMany_25 : decode cX7_readerMany 25 = .ok (.istore_n 1, 1) := by decide +kernel
theorem dX7_readerMany_26 : decode cX7_readerMany 26 = .ok (.iinc 2 1, 3) := by decide +kernel
theorem dX7_readerMany_29 : decode cX7_readerMany 29 = .ok (.goto (-25), 3) := by decide +kernel
theorem dX7_readerMany_32 : decode cX7_readerMany 32 = .ok (.iload_n 1, 1) := by decide +kernel
theorem dX7_readerMany_33 : decode cX7_readerMany 33 = .ok (.ireturn, 1) := by decide +kernel
theorem dX7_openReader_0 : decode cX7_openReader 0 = .ok (.aload_n 0, 1) := by decide +kernel
theorem dX7_openReader_1 : decode cX7_openReader 1 = .ok (.iconst 0, 1) := by decide +kernel
theorem dX7_openReader_2 : decode cX7_openReader 2 = .ok (.putfield 69, 3) := by decide +kernel
theorem dX7_openReader_5 : decode cX7_openReader 5 = .ok (.aload_n 0, 1) := by decide +kernel
theorem dX7_openReader_6 : decode cX7_openReader 6 = .ok (.getfield 104, 3) := by decide +kernel
theorem dX7_openReader_9 : decode cX7_openReader 9 = .ok (.ifCond .eq 11, 3) := by decide +kernel
theorem dX7_openReader_12 : decode cX7_openReader 12 = .ok (.aload_n 0, 1) := by decide +kernel
theorem dX7_openReader_13 : decode cX7_openReader 13 = .ok (.invokevirtual 380, 3) := by decide +kernel
theorem dX7_openReader_16 : decode cX7_openReader 16 = .ok (.iconst 4, 1) := by decide +kernel
theorem dX7_openReader_17 : decode cX7_openReader 17 = .ok (.if_icmp .ne 9, 3) := by decide +kernel
theorem dX7_openReader_20 : decode cX7_openReader 20 = .ok (.aload_n 0, 1) := by decide +kernel
theorem dX7_openReader_21 : decode cX7_openReader 21 = .ok (.iconst 1, 1) := by decide +kernel
theorem dX7_openReader_22 : decode cX7_openReader 22 = .ok (.invokevirtual 138, 3) := by decide +kernel
theorem dX7_openReader_25 : decode cX7_openReader 25 = .ok (.ireturn, 1) := by decide +kernel
theorem dX7_openReader_26 : decode cX7_openReader 26 = .ok (.iconst 0, 1) := by decide +kernel
theorem dX7_openReader_27 : decode cX7_openReader 27 = .ok (.istore_n 1, 1) := by decide +kernel
theorem dX7_openReader_28 : decode cX7_openReader 28 = .ok (.aload_n 0, 1) := by decide +kernel
theorem dX7_openReader_29 : decode cX7_openReader 29 = .ok (.getfield 49, 3) := by decide +kernel
theorem dX7_openReader_32 : decode cX7_openReader 32 = .ok (.iload_n 1, 1) := by decide +kernel
theorem dX7_openReader_33 : decode cX7_openReader 33 = .ok (.baload, 1) := by decide +kernel
theorem dX7_openReader_34 : decode cX7_openReader 34 = .ok (.ifCond .eq 10, 3) := by decide +kernel
theorem dX7_openReader_37 : decode cX7_openReader 37 = .ok (.iload_n 1, 1) := by decide +kernel
theorem dX7_openReader_38 : decode cX7_openReader 38 = .ok (.iconst 1, 1) := by decide +kernel
theorem dX7_openReader_39 : decode cX7_openReader 39 = .ok (.iadd, 1) := by decide +kernel
theorem dX7_openReader_40 : decode cX7_openReader 40 = .ok (.istore_n 1, 1) := by decide +kernel
theorem dX7_openReader_41 : decode cX7_openReader 41 = .ok (.goto (-13), 3) := by decide +kernel
theorem dX7_openReader_44 : decode cX7_openReader 44 = .ok (.aload_n 0, 1) := by decide +kernel
theorem dX7_openReader_45 : decode cX7_openReader 45 = .ok (.getfield 49, 3) := by decide +kernel
theorem dX7_openReader_48 : decode cX7_openReader 48 = .ok (.iload_n 1, 1) := by decide +kernel
theorem dX7_openReader_49 : decode cX7_openReader 49 = .ok (.iconst 1, 1) := by decide +kernel
theorem dX7_openReader_50 : decode cX7_openReader 50 = .ok (.bastore, 1) := by decide +kernel
theorem dX7_openReader_51 : decode cX7_openReader 51 = .ok (.iconst 0, 1) := by decide +kernel
theorem dX7_openReader_52 : decode cX7_openReader 52 = .ok (.istore_n 2, 1) := by decide +kernel
theorem dX7_openReader_53 : decode cX7_openReader 53 = .ok (.iload_n 2, 1) := by decide +kernel
theorem dX7_openReader_54 : decode cX7_openReader 54 = .ok (.bipush 64, 2) := by decide +kernel
theorem dX7_openReader_56 : decode cX7_openReader 56 = .ok (.if_icmp .ge 26, 3) := by decide +kernel
theorem dX7_openReader_59 : decode cX7_openReader 59 = .ok (.aload_n 0, 1) := by decide +kernel
theorem dX7_openReader_60 : decode cX7_openReader 60 = .ok (.getfield 46, 3) := by decide +kernel
theorem dX7_openReader_63 : decode cX7_openReader 63 = .ok (.bipush 64, 2) := by decide +kernel
theorem dX7_openReader_65 : decode cX7_openReader 65 = .ok (.iload_n 1, 1) := by decide +kernel
theorem dX7_openReader_66 : decode cX7_openReader 66 = .ok (.imul, 1) := by decide +kernel
theorem dX7_openReader_67 : decode cX7_openReader 67 = .ok (.iload_n 2, 1) := by decide +kernel
theorem dX7_openReader_68 : decode cX7_openReader 68 = .ok (.iadd, 1) := by decide +kernel
theorem dX7_openReader_69 : decode cX7_openReader 69 = .ok (.aload_n 0, 1) := by decide +kernel
theorem dX7_openReader_70 : decode cX7_openReader 70 = .ok (.getfield 37, 3) := by decide +kernel
theorem dX7_openReader_73 : decode cX7_openReader 73 = .ok (.iload_n 2, 1) := by decide +kernel
theorem dX7_openReader_74 : decode cX7_openReader 74 = .ok (.iaload, 1) := by decide +kernel
theorem dX7_openReader_75 : decode cX7_openReader 75 = .ok (.iastore, 1) := by decide +kernel
theorem dX7_openReader_76 : decode cX7_openReader 76 = .ok (.iinc 2 1, 3) := by decide +kernel
theorem dX7_openReader_79 : decode cX7_openReader 79 = .ok (.goto (-26), 3) := by decide +kernel
theorem dX7_openReader_82 : decode cX7_openReader 82 = .ok (.iload_n 1, 1) := by decide +kernel
theorem dX7_openReader_83 : decode cX7_openReader 83 = .ok (.ireturn, 1) := by decide +kernel
theorem dX7_readBy_0 : decode cX7_readBy 0 = .ok (.aload_n 0, 1) := by decide +kernel
theorem dX7_readBy_1 : decode cX7_readBy 1 = .ok (.iconst 0, 1) := by decide +kernel
theorem dX7_readBy_2 : decode cX7_readBy 2 = .ok (.putfield 69, 3) := by decide +kernel
theorem dX7_readBy_5 : decode cX7_readBy 5 = .ok (.aload_n 0, 1) := by decide +kernel
theorem dX7_readBy_6 : decode cX7_readBy 6 = .ok (.iload_n 1, 1) := by decide +kernel
theorem dX7_readBy_7 : decode cX7_readBy 7 = .ok (.invokevirtual 383, 3) := by decide +kernel
theorem dX7_readBy_10 : decode cX7_readBy 10 = .ok (.ifCond .eq 11, 3) := by decide +kernel
theorem dX7_readBy_13 : decode cX7_readBy 13 = .ok (.aload_n 0, 1) := by decide +kernel
theorem dX7_readBy_14 : decode cX7_readBy 14 = .ok (.iload_n 2, 1) := by decide +kernel
theorem dX7_readBy_15 : decode cX7_readBy 15 = .ok (.invokevirtual 359, 3) := by decide +kernel
theorem dX7_readBy_18 : decode cX7_readBy 18 = .ok (.ifCond .ne 9, 3) := by decide +kernel
theorem dX7_readBy_21 : decode cX7_readBy 21 = .ok (.aload_n 0, 1) := by decide +kernel
theorem dX7_readBy_22 : decode cX7_readBy 22 = .ok (.iconst 1, 1) := by decide +kernel
theorem dX7_readBy_23 : decode cX7_readBy 23 = .ok (.invokevirtual 138, 3) := by decide +kernel
theorem dX7_readBy_26 : decode cX7_readBy 26 = .ok (.ireturn, 1) := by decide +kernel
theorem dX7_readBy_27 : decode cX7_readBy 27 = .ok (.aload_n 0, 1) := by decide +kernel
theorem dX7_readBy_28 : decode cX7_readBy 28 = .ok (.iload_n 2, 1) := by decide +kernel
theorem dX7_readBy_29 : decode cX7_readBy 29 = .ok (.aload_n 0, 1) := by decide +kernel
theorem dX7_readBy_30 : decode cX7_readBy 30 = .ok (.getfield 46, 3) := by decide +kernel
theorem dX7_readBy_33 : decode cX7_readBy 33 = .ok (.bipush 64, 2) := by decide +kernel
theorem dX7_readBy_35 : decode cX7_readBy 35 = .ok (.iload_n 1, 1) := by decide +kernel
theorem dX7_readBy_36 : decode cX7_readBy 36 = .ok (.imul, 1) := by decide +kernel
theorem dX7_readBy_37 : decode cX7_readBy 37 = .ok (.iload_n 2, 1) := by decide +kernel
theorem dX7_readBy_38 : decode cX7_readBy 38 = .ok (.iadd, 1) := by decide +kernel
theorem dX7_readBy_39 : decode cX7_readBy 39 = .ok (.iaload, 1) := by decide +kernel
theorem dX7_readBy_40 : decode cX7_readBy 40 = .ok (.invokevirtual 368, 3) := by decide +kernel
theorem dX7_readBy_43 : decode cX7_readBy 43 = .ok (.ireturn, 1) := by decide +kernel
theorem dX7_closeReader_0 : decode cX7_closeReader 0 = .ok (.aload_n 0, 1) := by decide +kernel
theorem dX7_closeReader_1 : decode cX7_closeReader 1 = .ok (.iconst 0, 1) := by decide +kernel
theorem dX7_closeReader_2 : decode cX7_closeReader 2 = .ok (.putfield 69, 3) := by decide +kernel
theorem dX7_closeReader_5 : decode cX7_closeReader 5 = .ok (.aload_n 0, 1) := by decide +kernel
theorem dX7_closeReader_6 : decode cX7_closeReader 6 = .ok (.iload_n 1, 1) := by decide +kernel
theorem dX7_closeReader_7 : decode cX7_closeReader 7 = .ok (.invokevirtual 383, 3) := by decide +kernel
theorem dX7_closeReader_10 : decode cX7_closeReader 10 = .ok (.ifCond .ne 9, 3) := by decide +kernel
theorem dX7_closeReader_13 : decode cX7_closeReader 13 = .ok (.aload_n 0, 1) := by decide +kernel
theorem dX7_closeReader_14 : decode cX7_closeReader 14 = .ok (.iconst 1, 1) := by decide +kernel
theorem dX7_closeReader_15 : decode cX7_closeReader 15 = .ok (.invokevirtual 138, 3) := by decide +kernel
theorem dX7_closeReader_18 : decode cX7_closeReader 18 = .ok (.ireturn, 1) := by decide +kernel
theorem dX7_closeReader_19 : decode cX7_closeReader 19 = .ok (.aload_n 0, 1) := by decide +kernel
theorem dX7_closeReader_20 : decode cX7_closeReader 20 = .ok (.getfield 49, 3) := by decide +kernel
theorem dX7_closeReader_23 : decode cX7_closeReader 23 = .ok (.iload_n 1, 1) := by decide +kernel
theorem dX7_closeReader_24 : decode cX7_closeReader 24 = .ok (.iconst 0, 1) := by decide +kernel
theorem dX7_closeReader_25 : decode cX7_closeReader 25 = .ok (.bastore, 1) := by decide +kernel
theorem dX7_closeReader_26 : decode cX7_closeReader 26 = .ok (.aload_n 0, 1) := by decide +kernel
theorem dX7_closeReader_27 : decode cX7_closeReader 27 = .ok (.invokevirtual 380, 3) := by decide +kernel
theorem dX7_closeReader_30 : decode cX7_closeReader 30 = .ok (.ireturn, 1) := by decide +kernel
theorem dX7_isOn_0 : decode cX7_isOn 0 = .ok (.aload_n 0, 1) := by decide +kernel
theorem dX7_isOn_1 : decode cX7_isOn 1 = .ok (.iconst 0, 1) := by decide +kernel
theorem dX7_isOn_2 : decode cX7_isOn 2 = .ok (.putfield 69, 3) := by decide +kernel
theorem dX7_isOn_5 : decode cX7_isOn 5 = .ok (.aload_n 0, 1) := by decide +kernel
theorem dX7_isOn_6 : decode cX7_isOn 6 = .ok (.getfield 104, 3) := by decide +kernel
theorem dX7_isOn_9 : decode cX7_isOn 9 = .ok (.ireturn, 1) := by decide +kernel
theorem dX7_arm_0 : decode cX7_arm 0 = .ok (.aload_n 0, 1) := by decide +kernel
theorem dX7_arm_1 : decode cX7_arm 1 = .ok (.iconst 0, 1) := by decide +kernel
theorem dX7_arm_2 : decode cX7_arm 2 = .ok (.putfield 69, 3) := by decide +kernel
theorem dX7_arm_5 : decode cX7_arm 5 = .ok (.iload_n 1, 1) := by decide +kernel
theorem dX7_arm_6 : decode cX7_arm 6 = .ok (.iconst 0, 1) := by decide +kernel
theorem dX7_arm_7 : decode cX7_arm 7 = .ok (.sipush 1000, 3) := by decide +kernel
theorem dX7_arm_10 : decode cX7_arm 10 = .ok (.invokestatic 85, 3) := by decide +kernel
theorem dX7_arm_13 : decode cX7_arm 13 = .ok (.ifCond .ne 9, 3) := by decide +kernel
theorem dX7_arm_16 : decode cX7_arm 16 = .ok (.aload_n 0, 1) := by decide +kernel
theorem dX7_arm_17 : decode cX7_arm 17 = .ok (.iconst 1, 1) := by decide +kernel
theorem dX7_arm_18 : decode cX7_arm 18 = .ok (.invokevirtual 138, 3) := by decide +kernel
theorem dX7_arm_21 : decode cX7_arm 21 = .ok (.ireturn, 1) := by decide +kernel
theorem dX7_arm_22 : decode cX7_arm 22 = .ok (.aload_n 0, 1) := by decide +kernel
theorem dX7_arm_23 : decode cX7_arm 23 = .ok (.getfield 126, 3) := by decide +kernel
theorem dX7_arm_26 : decode cX7_arm 26 = .ok (.istore_n 2, 1) := by decide +kernel
theorem dX7_arm_27 : decode cX7_arm 27 = .ok (.aload_n 0, 1) := by decide +kernel
theorem dX7_arm_28 : decode cX7_arm 28 = .ok (.aload_n 0, 1) := by decide +kernel
theorem dX7_arm_29 : decode cX7_arm 29 = .ok (.getfield 79, 3) := by decide +kernel
theorem dX7_arm_32 : decode cX7_arm 32 = .ok (.ifCond .ne 7, 3) := by decide +kernel
theorem dX7_arm_35 : decode cX7_arm 35 = .ok (.iconst 0, 1) := by decide +kernel
theorem dX7_arm_36 : decode cX7_arm 36 = .ok (.goto 4, 3) := by decide +kernel
theorem dX7_arm_39 : decode cX7_arm 39 = .ok (.iload_n 1, 1) := by decide +kernel
theorem dX7_arm_40 : decode cX7_arm 40 = .ok (.putfield 126, 3) := by decide +kernel
theorem dX7_arm_43 : decode cX7_arm 43 = .ok (.iload_n 2, 1) := by decide +kernel
theorem dX7_arm_44 : decode cX7_arm 44 = .ok (.ireturn, 1) := by decide +kernel
theorem dX7_powerOff_0 : decode cX7_powerOff 0 = .ok (.aload_n 0, 1) := by decide +kernel
theorem dX7_powerOff_1 : decode cX7_powerOff 1 = .ok (.iconst 0, 1) := by decide +kernel
theorem dX7_powerOff_2 : decode cX7_powerOff 2 = .ok (.putfield 69, 3) := by decide +kernel
theorem dX7_powerOff_5 : decode cX7_powerOff 5 = .ok (.aload_n 0, 1) := by decide +kernel
theorem dX7_powerOff_6 : decode cX7_powerOff 6 = .ok (.getfield 104, 3) := by decide +kernel
theorem dX7_powerOff_9 : decode cX7_powerOff 9 = .ok (.ifCond .ne 9, 3) := by decide +kernel
theorem dX7_powerOff_12 : decode cX7_powerOff 12 = .ok (.aload_n 0, 1) := by decide +kernel
theorem dX7_powerOff_13 : decode cX7_powerOff 13 = .ok (.iconst 1, 1) := by decide +kernel
theorem dX7_powerOff_14 : decode cX7_powerOff 14 = .ok (.invokevirtual 138, 3) := by decide +kernel
theorem dX7_powerOff_17 : decode cX7_powerOff 17 = .ok (.ireturn, 1) := by decide +kernel
theorem dX7_powerOff_18 : decode cX7_powerOff 18 = .ok (.aload_n 0, 1) := by decide +kernel
theorem dX7_powerOff_19 : decode cX7_powerOff 19 = .ok (.invokevirtual 294, 3) := by decide +kernel
theorem dX7_powerOff_22 : decode cX7_powerOff 22 = .ok (.aload_n 0, 1) := by decide +kernel
theorem dX7_powerOff_23 : decode cX7_powerOff 23 = .ok (.invokevirtual 344, 3) := by decide +kernel
theorem dX7_powerOff_26 : decode cX7_powerOff 26 = .ok (.ireturn, 1) := by decide +kernel
theorem dX7_latestEnd_0 : decode cX7_latestEnd 0 = .ok (.iconst (-1), 1) := by decide +kernel
theorem dX7_latestEnd_1 : decode cX7_latestEnd 1 = .ok (.istore_n 1, 1) := by decide +kernel
theorem dX7_latestEnd_2 : decode cX7_latestEnd 2 = .ok (.iconst 0, 1) := by decide +kernel
theorem dX7_latestEnd_3 : decode cX7_latestEnd 3 = .ok (.istore_n 2, 1) := by decide +kernel
theorem dX7_latestEnd_4 : decode cX7_latestEnd 4 = .ok (.iload_n 2, 1) := by decide +kernel
theorem dX7_latestEnd_5 : decode cX7_latestEnd 5 = .ok (.aload_n 0, 1) := by decide +kernel
theorem dX7_latestEnd_6 : decode cX7_latestEnd 6 = .ok (.invokevirtual 264, 3) := by decide +kernel
theorem dX7_latestEnd_9 : decode cX7_latestEnd 9 = .ok (.if_icmp .ge 41, 3) := by decide +kernel
theorem dX7_latestEnd_12 : decode cX7_latestEnd 12 = .ok (.aload_n 0, 1) := by decide +kernel
theorem dX7_latestEnd_13 : decode cX7_latestEnd 13 = .ok (.getfield 13, 3) := by decide +kernel
theorem dX7_latestEnd_16 : decode cX7_latestEnd 16 = .ok (.iload_n 2, 1) := by decide +kernel
theorem dX7_latestEnd_17 : decode cX7_latestEnd 17 = .ok (.iaload, 1) := by decide +kernel
theorem dX7_latestEnd_18 : decode cX7_latestEnd 18 = .ok (.iconst 4, 1) := by decide +kernel
theorem dX7_latestEnd_19 : decode cX7_latestEnd 19 = .ok (.if_icmp .ne 25, 3) := by decide +kernel
theorem dX7_latestEnd_22 : decode cX7_latestEnd 22 = .ok (.iload_n 1, 1) := by decide +kernel
theorem dX7_latestEnd_23 : decode cX7_latestEnd 23 = .ok (.iconst (-1), 1) := by decide +kernel
theorem dX7_latestEnd_24 : decode cX7_latestEnd 24 = .ok (.if_icmp .eq 18, 3) := by decide +kernel
theorem dX7_latestEnd_27 : decode cX7_latestEnd 27 = .ok (.aload_n 0, 1) := by decide +kernel
theorem dX7_latestEnd_28 : decode cX7_latestEnd 28 = .ok (.getfield 22, 3) := by decide +kernel
theorem dX7_latestEnd_31 : decode cX7_latestEnd 31 = .ok (.iload_n 2, 1) := by decide +kernel
theorem dX7_latestEnd_32 : decode cX7_latestEnd 32 = .ok (.iaload, 1) := by decide +kernel
theorem dX7_latestEnd_33 : decode cX7_latestEnd 33 = .ok (.aload_n 0, 1) := by decide +kernel
theorem dX7_latestEnd_34 : decode cX7_latestEnd 34 = .ok (.getfield 22, 3) := by decide +kernel
theorem dX7_latestEnd_37 : decode cX7_latestEnd 37 = .ok (.iload_n 1, 1) := by decide +kernel
theorem dX7_latestEnd_38 : decode cX7_latestEnd 38 = .ok (.iaload, 1) := by decide +kernel
theorem dX7_latestEnd_39 : decode cX7_latestEnd 39 = .ok (.if_icmp .le 5, 3) := by decide +kernel
theorem dX7_latestEnd_42 : decode cX7_latestEnd 42 = .ok (.iload_n 2, 1) := by decide +kernel
theorem dX7_latestEnd_43 : decode cX7_latestEnd 43 = .ok (.istore_n 1, 1) := by decide +kernel
theorem dX7_latestEnd_44 : decode cX7_latestEnd 44 = .ok (.iinc 2 1, 3) := by decide +kernel
theorem dX7_latestEnd_47 : decode cX7_latestEnd 47 = .ok (.goto (-43), 3) := by decide +kernel
theorem dX7_latestEnd_50 : decode cX7_latestEnd 50 = .ok (.iload_n 1, 1) := by decide +kernel
theorem dX7_latestEnd_51 : decode cX7_latestEnd 51 = .ok (.ireturn, 1) := by decide +kernel
theorem dX7_readsMap_0 : decode cX7_readsMap 0 = .ok (.iconst 0, 1) := by decide +kernel
theorem dX7_readsMap_1 : decode cX7_readsMap 1 = .ok (.istore_n 2, 1) := by decide +kernel
theorem dX7_readsMap_2 : decode cX7_readsMap 2 = .ok (.iload_n 2, 1) := by decide +kernel
theorem dX7_readsMap_3 : decode cX7_readsMap 3 = .ok (.bipush 8, 2) := by decide +kernel
theorem dX7_readsMap_5 : decode cX7_readsMap 5 = .ok (.if_icmp .ge 36, 3) := by decide +kernel
theorem dX7_readsMap_8 : decode cX7_readsMap 8 = .ok (.aload_n 0, 1) := by decide +kernel
theorem dX7_readsMap_9 : decode cX7_readsMap 9 = .ok (.getfield 37, 3) := by decide +kernel
theorem dX7_readsMap_12 : decode cX7_readsMap 12 = .ok (.bipush 8, 2) := by decide +kernel
theorem dX7_readsMap_14 : decode cX7_readsMap 14 = .ok (.aload_n 0, 1) := by decide +kernel
theorem dX7_readsMap_15 : decode cX7_readsMap 15 = .ok (.getfield 16, 3) := by decide +kernel
theorem dX7_readsMap_18 : decode cX7_readsMap 18 = .ok (.iload_n 1, 1) := by decide +kernel
theorem dX7_readsMap_19 : decode cX7_readsMap 19 = .ok (.iaload, 1) := by decide +kernel
theorem dX7_readsMap_20 : decode cX7_readsMap 20 = .ok (.imul, 1) := by decide +kernel
theorem dX7_readsMap_21 : decode cX7_readsMap 21 = .ok (.iload_n 2, 1) := by decide +kernel
theorem dX7_readsMap_22 : decode cX7_readsMap 22 = .ok (.iadd, 1) := by decide +kernel
theorem dX7_readsMap_23 : decode cX7_readsMap 23 = .ok (.aload_n 0, 1) := by decide +kernel
theorem dX7_readsMap_24 : decode cX7_readsMap 24 = .ok (.getfield 31, 3) := by decide +kernel
theorem dX7_readsMap_27 : decode cX7_readsMap 27 = .ok (.bipush 8, 2) := by decide +kernel
theorem dX7_readsMap_29 : decode cX7_readsMap 29 = .ok (.iload_n 1, 1) := by decide +kernel
theorem dX7_readsMap_30 : decode cX7_readsMap 30 = .ok (.imul, 1) := by decide +kernel
theorem dX7_readsMap_31 : decode cX7_readsMap 31 = .ok (.iload_n 2, 1) := by decide +kernel
theorem dX7_readsMap_32 : decode cX7_readsMap 32 = .ok (.iadd, 1) := by decide +kernel
theorem dX7_readsMap_33 : decode cX7_readsMap 33 = .ok (.iaload, 1) := by decide +kernel
theorem dX7_readsMap_34 : decode cX7_readsMap 34 = .ok (.iastore, 1) := by decide +kernel
theorem dX7_readsMap_35 : decode cX7_readsMap 35 = .ok (.iinc 2 1, 3) := by decide +kernel
theorem dX7_readsMap_38 : decode cX7_readsMap 38 = .ok (.goto (-36), 3) := by decide +kernel
theorem dX7_readsMap_41 : decode cX7_readsMap 41 = .ok (.return_, 1) := by decide +kernel
theorem dX7_readsCheckpoint_0 : decode cX7_readsCheckpoint 0 = .ok (.aload_n 0, 1) := by decide +kernel
theorem dX7_readsCheckpoint_1 : decode cX7_readsCheckpoint 1 = .ok (.invokevirtual 386, 3) := by decide +kernel
theorem dX7_readsCheckpoint_4 : decode cX7_readsCheckpoint 4 = .ok (.istore_n 1, 1) := by decide +kernel
theorem dX7_readsCheckpoint_5 : decode cX7_readsCheckpoint 5 = .ok (.iload_n 1, 1) := by decide +kernel
theorem dX7_readsCheckpoint_6 : decode cX7_readsCheckpoint 6 = .ok (.iconst (-1), 1) := by decide +kernel
theorem dX7_readsCheckpoint_7 : decode cX7_readsCheckpoint 7 = .ok (.if_icmp .ne 4, 3) := by decide +kernel
theorem dX7_readsCheckpoint_10 : decode cX7_readsCheckpoint 10 = .ok (.return_, 1) := by decide +kernel
theorem dX7_readsCheckpoint_11 : decode cX7_readsCheckpoint 11 = .ok (.aload_n 0, 1) := by decide +kernel
theorem dX7_readsCheckpoint_12 : decode cX7_readsCheckpoint 12 = .ok (.aload_n 0, 1) := by decide +kernel
theorem dX7_readsCheckpoint_13 : decode cX7_readsCheckpoint 13 = .ok (.getfield 19, 3) := by decide +kernel
theorem dX7_readsCheckpoint_16 : decode cX7_readsCheckpoint 16 = .ok (.iload_n 1, 1) := by decide +kernel
theorem dX7_readsCheckpoint_17 : decode cX7_readsCheckpoint 17 = .ok (.iaload, 1) := by decide +kernel
theorem dX7_readsCheckpoint_18 : decode cX7_readsCheckpoint 18 = .ok (.putfield 89, 3) := by decide +kernel
theorem dX7_readsCheckpoint_21 : decode cX7_readsCheckpoint 21 = .ok (.aload_n 0, 1) := by decide +kernel
theorem dX7_readsCheckpoint_22 : decode cX7_readsCheckpoint 22 = .ok (.aload_n 0, 1) := by decide +kernel
theorem dX7_readsCheckpoint_23 : decode cX7_readsCheckpoint 23 = .ok (.getfield 22, 3) := by decide +kernel
theorem dX7_readsCheckpoint_26 : decode cX7_readsCheckpoint 26 = .ok (.iload_n 1, 1) := by decide +kernel
theorem dX7_readsCheckpoint_27 : decode cX7_readsCheckpoint 27 = .ok (.iaload, 1) := by decide +kernel
theorem dX7_readsCheckpoint_28 : decode cX7_readsCheckpoint 28 = .ok (.putfield 92, 3) := by decide +kernel
theorem dX7_readsCheckpoint_31 : decode cX7_readsCheckpoint 31 = .ok (.iconst 0, 1) := by decide +kernel
theorem dX7_readsCheckpoint_32 : decode cX7_readsCheckpoint 32 = .ok (.istore_n 2, 1) := by decide +kernel
theorem dX7_readsCheckpoint_33 : decode cX7_readsCheckpoint 33 = .ok (.iload_n 2, 1) := by decide +kernel
theorem dX7_readsCheckpoint_34 : decode cX7_readsCheckpoint 34 = .ok (.aload_n 0, 1) := by decide +kernel
theorem dX7_readsCheckpoint_35 : decode cX7_readsCheckpoint 35 = .ok (.invokevirtual 264, 3) := by decide +kernel
theorem dX7_readsCheckpoint_38 : decode cX7_readsCheckpoint 38 = .ok (.if_icmp .ge 37, 3) := by decide +kernel
theorem dX7_readsCheckpoint_41 : decode cX7_readsCheckpoint 41 = .ok (.aload_n 0, 1) := by decide +kernel
theorem dX7_readsCheckpoint_42 : decode cX7_readsCheckpoint 42 = .ok (.getfield 13, 3) := by decide +kernel
theorem dX7_readsCheckpoint_45 : decode cX7_readsCheckpoint 45 = .ok (.iload_n 2, 1) := by decide +kernel
theorem dX7_readsCheckpoint_46 : decode cX7_readsCheckpoint 46 = .ok (.iaload, 1) := by decide +kernel
theorem dX7_readsCheckpoint_47 : decode cX7_readsCheckpoint 47 = .ok (.iconst 3, 1) := by decide +kernel
theorem dX7_readsCheckpoint_48 : decode cX7_readsCheckpoint 48 = .ok (.if_icmp .ne 21, 3) := by decide +kernel
theorem dX7_readsCheckpoint_51 : decode cX7_readsCheckpoint 51 = .ok (.aload_n 0, 1) := by decide +kernel
theorem dX7_readsCheckpoint_52 : decode cX7_readsCheckpoint 52 = .ok (.getfield 19, 3) := by decide +kernel
theorem dX7_readsCheckpoint_55 : decode cX7_readsCheckpoint 55 = .ok (.iload_n 2, 1) := by decide +kernel
theorem dX7_readsCheckpoint_56 : decode cX7_readsCheckpoint 56 = .ok (.iaload, 1) := by decide +kernel
theorem dX7_readsCheckpoint_57 : decode cX7_readsCheckpoint 57 = .ok (.aload_n 0, 1) := by decide +kernel
theorem dX7_readsCheckpoint_58 : decode cX7_readsCheckpoint 58 = .ok (.getfield 89, 3) := by decide +kernel
theorem dX7_readsCheckpoint_61 : decode cX7_readsCheckpoint 61 = .ok (.if_icmp .ne 8, 3) := by decide +kernel
theorem dX7_readsCheckpoint_64 : decode cX7_readsCheckpoint 64 = .ok (.aload_n 0, 1) := by decide +kernel
theorem dX7_readsCheckpoint_65 : decode cX7_readsCheckpoint 65 = .ok (.iload_n 2, 1) := by decide +kernel
theorem dX7_readsCheckpoint_66 : decode cX7_readsCheckpoint 66 = .ok (.invokevirtual 389, 3) := by decide +kernel
theorem dX7_readsCheckpoint_69 : decode cX7_readsCheckpoint 69 = .ok (.iinc 2 1, 3) := by decide +kernel
theorem dX7_readsCheckpoint_72 : decode cX7_readsCheckpoint 72 = .ok (.goto (-39), 3) := by decide +kernel
theorem dX7_readsCheckpoint_75 : decode cX7_readsCheckpoint 75 = .ok (.return_, 1) := by decide +kernel
theorem dX7_isApplied_0 : decode cX7_isApplied 0 = .ok (.aload_n 0, 1) := by decide +kernel
theorem dX7_isApplied_1 : decode cX7_isApplied 1 = .ok (.getfield 13, 3) := by decide +kernel
theorem dX7_isApplied_4 : decode cX7_isApplied 4 = .ok (.iload_n 1, 1) := by decide +kernel
theorem dX7_isApplied_5 : decode cX7_isApplied 5 = .ok (.iaload, 1) := by decide +kernel
theorem dX7_isApplied_6 : decode cX7_isApplied 6 = .ok (.iconst 2, 1) := by decide +kernel
theorem dX7_isApplied_7 : decode cX7_isApplied 7 = .ok (.if_icmp .eq 22, 3) := by decide +kernel
theorem dX7_isApplied_10 : decode cX7_isApplied 10 = .ok (.aload_n 0, 1) := by decide +kernel
theorem dX7_isApplied_11 : decode cX7_isApplied 11 = .ok (.getfield 13, 3) := by decide +kernel
theorem dX7_isApplied_14 : decode cX7_isApplied 14 = .ok (.iload_n 1, 1) := by decide +kernel
theorem dX7_isApplied_15 : decode cX7_isApplied 15 = .ok (.iaload, 1) := by decide +kernel
theorem dX7_isApplied_16 : decode cX7_isApplied 16 = .ok (.iconst 1, 1) := by decide +kernel
theorem dX7_isApplied_17 : decode cX7_isApplied 17 = .ok (.if_icmp .ne 16, 3) := by decide +kernel
theorem dX7_isApplied_20 : decode cX7_isApplied 20 = .ok (.aload_n 0, 1) := by decide +kernel
theorem dX7_isApplied_21 : decode cX7_isApplied 21 = .ok (.getfield 19, 3) := by decide +kernel
theorem dX7_isApplied_24 : decode cX7_isApplied 24 = .ok (.iload_n 1, 1) := by decide +kernel
theorem dX7_isApplied_25 : decode cX7_isApplied 25 = .ok (.iaload, 1) := by decide +kernel
theorem dX7_isApplied_26 : decode cX7_isApplied 26 = .ok (.ifCond .ne 7, 3) := by decide +kernel
theorem dX7_isApplied_29 : decode cX7_isApplied 29 = .ok (.iconst 1, 1) := by decide +kernel
theorem dX7_isApplied_30 : decode cX7_isApplied 30 = .ok (.goto 4, 3) := by decide +kernel
theorem dX7_isApplied_33 : decode cX7_isApplied 33 = .ok (.iconst 0, 1) := by decide +kernel
theorem dX7_isApplied_34 : decode cX7_isApplied 34 = .ok (.ireturn, 1) := by decide +kernel
theorem dX7_nextApplied_0 : decode cX7_nextApplied 0 = .ok (.iconst (-1), 1) := by decide +kernel
theorem dX7_nextApplied_1 : decode cX7_nextApplied 1 = .ok (.istore_n 2, 1) := by decide +kernel
theorem dX7_nextApplied_2 : decode cX7_nextApplied 2 = .ok (.iconst 0, 1) := by decide +kernel
theorem dX7_nextApplied_3 : decode cX7_nextApplied 3 = .ok (.istore_n 3, 1) := by decide +kernel
theorem dX7_nextApplied_4 : decode cX7_nextApplied 4 = .ok (.iload_n 3, 1) := by decide +kernel
theorem dX7_nextApplied_5 : decode cX7_nextApplied 5 = .ok (.aload_n 0, 1) := by decide +kernel
theorem dX7_nextApplied_6 : decode cX7_nextApplied 6 = .ok (.invokevirtual 264, 3) := by decide +kernel
theorem dX7_nextApplied_9 : decode cX7_nextApplied 9 = .ok (.if_icmp .ge 49, 3) := by decide +kernel
theorem dX7_nextApplied_12 : decode cX7_nextApplied 12 = .ok (.aload_n 0, 1) := by decide +kernel
theorem dX7_nextApplied_13 : decode cX7_nextApplied 13 = .ok (.iload_n 3, 1) := by decide +kernel
theorem dX7_nextApplied_14 : decode cX7_nextApplied 14 = .ok (.invokevirtual 392, 3) := by decide +kernel
theorem dX7_nextApplied_17 : decode cX7_nextApplied 17 = .ok (.ifCond .eq 35, 3) := by decide +kernel
theorem dX7_nextApplied_20 : decode cX7_nextApplied 20 = .ok (.aload_n 0, 1) := by decide +kernel
theorem dX7_nextApplied_21 : decode cX7_nextApplied 21 = .ok (.getfield 22, 3) := by decide +kernel
theorem dX7_nextApplied_24 : decode cX7_nextApplied 24 = .ok (.iload_n 3, 1) := by decide +kernel
theorem dX7_nextApplied_25 : decode cX7_nextApplied 25 = .ok (.iaload, 1) := by decide +kernel
theorem dX7_nextApplied_26 : decode cX7_nextApplied 26 = .ok (.iload_n 1, 1) := by decide +kernel
theorem dX7_nextApplied_27 : decode cX7_nextApplied 27 = .ok (.if_icmp .le 25, 3) := by decide +kernel
theorem dX7_nextApplied_30 : decode cX7_nextApplied 30 = .ok (.iload_n 2, 1) := by decide +kernel
theorem dX7_nextApplied_31 : decode cX7_nextApplied 31 = .ok (.iconst (-1), 1) := by decide +kernel
theorem dX7_nextApplied_32 : decode cX7_nextApplied 32 = .ok (.if_icmp .eq 18, 3) := by decide +kernel
theorem dX7_nextApplied_35 : decode cX7_nextApplied 35 = .ok (.aload_n 0, 1) := by decide +kernel
theorem dX7_nextApplied_36 : decode cX7_nextApplied 36 = .ok (.getfield 22, 3) := by decide +kernel
theorem dX7_nextApplied_39 : decode cX7_nextApplied 39 = .ok (.iload_n 3, 1) := by decide +kernel
theorem dX7_nextApplied_40 : decode cX7_nextApplied 40 = .ok (.iaload, 1) := by decide +kernel
theorem dX7_nextApplied_41 : decode cX7_nextApplied 41 = .ok (.aload_n 0, 1) := by decide +kernel
theorem dX7_nextApplied_42 : decode cX7_nextApplied 42 = .ok (.getfield 22, 3) := by decide +kernel
theorem dX7_nextApplied_45 : decode cX7_nextApplied 45 = .ok (.iload_n 2, 1) := by decide +kernel
theorem dX7_nextApplied_46 : decode cX7_nextApplied 46 = .ok (.iaload, 1) := by decide +kernel
theorem dX7_nextApplied_47 : decode cX7_nextApplied 47 = .ok (.if_icmp .ge 5, 3) := by decide +kernel
theorem dX7_nextApplied_50 : decode cX7_nextApplied 50 = .ok (.iload_n 3, 1) := by decide +kernel
theorem dX7_nextApplied_51 : decode cX7_nextApplied 51 = .ok (.istore_n 2, 1) := by decide +kernel
theorem dX7_nextApplied_52 : decode cX7_nextApplied 52 = .ok (.iinc 3 1, 3) := by decide +kernel
theorem dX7_nextApplied_55 : decode cX7_nextApplied 55 = .ok (.goto (-51), 3) := by decide +kernel
theorem dX7_nextApplied_58 : decode cX7_nextApplied 58 = .ok (.iload_n 2, 1) := by decide +kernel
theorem dX7_nextApplied_59 : decode cX7_nextApplied 59 = .ok (.ireturn, 1) := by decide +kernel
theorem dX7_appliesCommit_0 : decode cX7_appliesCommit 0 = .ok (.iconst 0, 1) := by decide +kernel
theorem dX7_appliesCommit_1 : decode cX7_appliesCommit 1 = .ok (.istore_n 2, 1) := by decide +kernel
theorem dX7_appliesCommit_2 : decode cX7_appliesCommit 2 = .ok (.iload_n 2, 1) := by decide +kernel
theorem dX7_appliesCommit_3 : decode cX7_appliesCommit 3 = .ok (.aload_n 0, 1) := by decide +kernel
theorem dX7_appliesCommit_4 : decode cX7_appliesCommit 4 = .ok (.getfield 72, 3) := by decide +kernel
theorem dX7_appliesCommit_7 : decode cX7_appliesCommit 7 = .ok (.if_icmp .ge 16, 3) := by decide +kernel
theorem dX7_appliesCommit_10 : decode cX7_appliesCommit 10 = .ok (.aload_n 0, 1) := by decide +kernel
theorem dX7_appliesCommit_11 : decode cX7_appliesCommit 11 = .ok (.getfield 66, 3) := by decide +kernel
theorem dX7_appliesCommit_14 : decode cX7_appliesCommit 14 = .ok (.iload_n 2, 1) := by decide +kernel
theorem dX7_appliesCommit_15 : decode cX7_appliesCommit 15 = .ok (.iconst 0, 1) := by decide +kernel
theorem dX7_appliesCommit_16 : decode cX7_appliesCommit 16 = .ok (.iastore, 1) := by decide +kernel
theorem dX7_appliesCommit_17 : decode cX7_appliesCommit 17 = .ok (.iinc 2 1, 3) := by decide +kernel
theorem dX7_appliesCommit_20 : decode cX7_appliesCommit 20 = .ok (.goto (-18), 3) := by decide +kernel
theorem dX7_appliesCommit_23 : decode cX7_appliesCommit 23 = .ok (.iconst 0, 1) := by decide +kernel
theorem dX7_appliesCommit_24 : decode cX7_appliesCommit 24 = .ok (.istore_n 2, 1) := by decide +kernel
theorem dX7_appliesCommit_25 : decode cX7_appliesCommit 25 = .ok (.iload_n 2, 1) := by decide +kernel
theorem dX7_appliesCommit_26 : decode cX7_appliesCommit 26 = .ok (.aload_n 0, 1) := by decide +kernel
theorem dX7_appliesCommit_27 : decode cX7_appliesCommit 27 = .ok (.invokevirtual 264, 3) := by decide +kernel
theorem dX7_appliesCommit_30 : decode cX7_appliesCommit 30 = .ok (.if_icmp .ge 66, 3) := by decide +kernel
theorem dX7_appliesCommit_33 : decode cX7_appliesCommit 33 = .ok (.aload_n 0, 1) := by decide +kernel
theorem dX7_appliesCommit_34 : decode cX7_appliesCommit 34 = .ok (.getfield 13, 3) := by decide +kernel
theorem dX7_appliesCommit_37 : decode cX7_appliesCommit 37 = .ok (.iload_n 2, 1) := by decide +kernel
theorem dX7_appliesCommit_38 : decode cX7_appliesCommit 38 = .ok (.iaload, 1) := by decide +kernel
theorem dX7_appliesCommit_39 : decode cX7_appliesCommit 39 = .ok (.iconst 1, 1) := by decide +kernel
theorem dX7_appliesCommit_40 : decode cX7_appliesCommit 40 = .ok (.if_icmp .ne 50, 3) := by decide +kernel
theorem dX7_appliesCommit_43 : decode cX7_appliesCommit 43 = .ok (.aload_n 0, 1) := by decide +kernel
theorem dX7_appliesCommit_44 : decode cX7_appliesCommit 44 = .ok (.getfield 19, 3) := by decide +kernel
theorem dX7_appliesCommit_47 : decode cX7_appliesCommit 47 = .ok (.iload_n 2, 1) := by decide +kernel
theorem dX7_appliesCommit_48 : decode cX7_appliesCommit 48 = .ok (.iaload, 1) := by decide +kernel
theorem dX7_appliesCommit_49 : decode cX7_appliesCommit 49 = .ok (.iload_n 1, 1) := by decide +kernel
theorem dX7_appliesCommit_50 : decode cX7_appliesCommit 50 = .ok (.if_icmp .ne 40, 3) := by decide +kernel
theorem dX7_appliesCommit_53 : decode cX7_appliesCommit 53 = .ok (.aload_n 0, 1) := by decide +kernel
theorem dX7_appliesCommit_54 : decode cX7_appliesCommit 54 = .ok (.getfield 22, 3) := by decide +kernel
theorem dX7_appliesCommit_57 : decode cX7_appliesCommit 57 = .ok (.iload_n 2, 1) := by decide +kernel
theorem dX7_appliesCommit_58 : decode cX7_appliesCommit 58 = .ok (.iaload, 1) := by decide +kernel
theorem dX7_appliesCommit_59 : decode cX7_appliesCommit 59 = .ok (.aload_n 0, 1) := by decide +kernel
theorem dX7_appliesCommit_60 : decode cX7_appliesCommit 60 = .ok (.getfield 66, 3) := by decide +kernel
theorem dX7_appliesCommit_63 : decode cX7_appliesCommit 63 = .ok (.aload_n 0, 1) := by decide +kernel
theorem dX7_appliesCommit_64 : decode cX7_appliesCommit 64 = .ok (.getfield 16, 3) := by decide +kernel
theorem dX7_appliesCommit_67 : decode cX7_appliesCommit 67 = .ok (.iload_n 2, 1) := by decide +kernel
theorem dX7_appliesCommit_68 : decode cX7_appliesCommit 68 = .ok (.iaload, 1) := by decide +kernel
theorem dX7_appliesCommit_69 : decode cX7_appliesCommit 69 = .ok (.iaload, 1) := by decide +kernel
theorem dX7_appliesCommit_70 : decode cX7_appliesCommit 70 = .ok (.if_icmp .le 20, 3) := by decide +kernel
theorem dX7_appliesCommit_73 : decode cX7_appliesCommit 73 = .ok (.aload_n 0, 1) := by decide +kernel
theorem dX7_appliesCommit_74 : decode cX7_appliesCommit 74 = .ok (.getfield 66, 3) := by decide +kernel
theorem dX7_appliesCommit_77 : decode cX7_appliesCommit 77 = .ok (.aload_n 0, 1) := by decide +kernel
theorem dX7_appliesCommit_78 : decode cX7_appliesCommit 78 = .ok (.getfield 16, 3) := by decide +kernel
theorem dX7_appliesCommit_81 : decode cX7_appliesCommit 81 = .ok (.iload_n 2, 1) := by decide +kernel
theorem dX7_appliesCommit_82 : decode cX7_appliesCommit 82 = .ok (.iaload, 1) := by decide +kernel
theorem dX7_appliesCommit_83 : decode cX7_appliesCommit 83 = .ok (.aload_n 0, 1) := by decide +kernel
theorem dX7_appliesCommit_84 : decode cX7_appliesCommit 84 = .ok (.getfield 22, 3) := by decide +kernel
theorem dX7_appliesCommit_87 : decode cX7_appliesCommit 87 = .ok (.iload_n 2, 1) := by decide +kernel
theorem dX7_appliesCommit_88 : decode cX7_appliesCommit 88 = .ok (.iaload, 1) := by decide +kernel
theorem dX7_appliesCommit_89 : decode cX7_appliesCommit 89 = .ok (.iastore, 1) := by decide +kernel
theorem dX7_appliesCommit_90 : decode cX7_appliesCommit 90 = .ok (.iinc 2 1, 3) := by decide +kernel
theorem dX7_appliesCommit_93 : decode cX7_appliesCommit 93 = .ok (.goto (-68), 3) := by decide +kernel
theorem dX7_appliesCommit_96 : decode cX7_appliesCommit 96 = .ok (.iconst 0, 1) := by decide +kernel
theorem dX7_appliesCommit_97 : decode cX7_appliesCommit 97 = .ok (.istore_n 2, 1) := by decide +kernel
theorem dX7_appliesCommit_98 : decode cX7_appliesCommit 98 = .ok (.iload_n 2, 1) := by decide +kernel
theorem dX7_appliesCommit_99 : decode cX7_appliesCommit 99 = .ok (.aload_n 0, 1) := by decide +kernel
theorem dX7_appliesCommit_100 : decode cX7_appliesCommit 100 = .ok (.getfield 72, 3) := by decide +kernel
theorem dX7_appliesCommit_103 : decode cX7_appliesCommit 103 = .ok (.if_icmp .ge 39, 3) := by decide +kernel
theorem dX7_appliesCommit_106 : decode cX7_appliesCommit 106 = .ok (.aload_n 0, 1) := by decide +kernel
theorem dX7_appliesCommit_107 : decode cX7_appliesCommit 107 = .ok (.getfield 37, 3) := by decide +kernel
theorem dX7_appliesCommit_110 : decode cX7_appliesCommit 110 = .ok (.iload_n 2, 1) := by decide +kernel
theorem dX7_appliesCommit_111 : decode cX7_appliesCommit 111 = .ok (.aload_n 0, 1) := by decide +kernel
theorem dX7_appliesCommit_112 : decode cX7_appliesCommit 112 = .ok (.getfield 66, 3) := by decide +kernel
theorem dX7_appliesCommit_115 : decode cX7_appliesCommit 115 = .ok (.iload_n 2, 1) := by decide +kernel
theorem dX7_appliesCommit_116 : decode cX7_appliesCommit 116 = .ok (.iaload, 1) := by decide +kernel
theorem dX7_appliesCommit_117 : decode cX7_appliesCommit 117 = .ok (.ifCond .le 12, 3) := by decide +kernel
theorem dX7_appliesCommit_120 : decode cX7_appliesCommit 120 = .ok (.aload_n 0, 1) := by decide +kernel
theorem dX7_appliesCommit_121 : decode cX7_appliesCommit 121 = .ok (.getfield 66, 3) := by decide +kernel
theorem dX7_appliesCommit_124 : decode cX7_appliesCommit 124 = .ok (.iload_n 2, 1) := by decide +kernel
theorem dX7_appliesCommit_125 : decode cX7_appliesCommit 125 = .ok (.iaload, 1) := by decide +kernel
theorem dX7_appliesCommit_126 : decode cX7_appliesCommit 126 = .ok (.goto 9, 3) := by decide +kernel
theorem dX7_appliesCommit_129 : decode cX7_appliesCommit 129 = .ok (.aload_n 0, 1) := by decide +kernel
theorem dX7_appliesCommit_130 : decode cX7_appliesCommit 130 = .ok (.getfield 37, 3) := by decide +kernel
theorem dX7_appliesCommit_133 : decode cX7_appliesCommit 133 = .ok (.iload_n 2, 1) := by decide +kernel
theorem dX7_appliesCommit_134 : decode cX7_appliesCommit 134 = .ok (.iaload, 1) := by decide +kernel
theorem dX7_appliesCommit_135 : decode cX7_appliesCommit 135 = .ok (.iastore, 1) := by decide +kernel
theorem dX7_appliesCommit_136 : decode cX7_appliesCommit 136 = .ok (.iinc 2 1, 3) := by decide +kernel
theorem dX7_appliesCommit_139 : decode cX7_appliesCommit 139 = .ok (.goto (-41), 3) := by decide +kernel
theorem dX7_appliesCommit_142 : decode cX7_appliesCommit 142 = .ok (.return_, 1) := by decide +kernel
theorem dX7_appliesAll_0 : decode cX7_appliesAll 0 = .ok (.aload_n 0, 1) := by decide +kernel
theorem dX7_appliesAll_1 : decode cX7_appliesAll 1 = .ok (.aload_n 0, 1) := by decide +kernel
theorem dX7_appliesAll_2 : decode cX7_appliesAll 2 = .ok (.getfield 92, 3) := by decide +kernel
theorem dX7_appliesAll_5 : decode cX7_appliesAll 5 = .ok (.invokevirtual 395, 3) := by decide +kernel
theorem dX7_appliesAll_8 : decode cX7_appliesAll 8 = .ok (.istore_n 1, 1) := by decide +kernel
theorem dX7_appliesAll_9 : decode cX7_appliesAll 9 = .ok (.iload_n 1, 1) := by decide +kernel
theorem dX7_appliesAll_10 : decode cX7_appliesAll 10 = .ok (.iconst (-1), 1) := by decide +kernel
theorem dX7_appliesAll_11 : decode cX7_appliesAll 11 = .ok (.if_icmp .eq 67, 3) := by decide +kernel
theorem dX7_appliesAll_14 : decode cX7_appliesAll 14 = .ok (.aload_n 0, 1) := by decide +kernel
theorem dX7_appliesAll_15 : decode cX7_appliesAll 15 = .ok (.getfield 13, 3) := by decide +kernel
theorem dX7_appliesAll_18 : decode cX7_appliesAll 18 = .ok (.iload_n 1, 1) := by decide +kernel
theorem dX7_appliesAll_19 : decode cX7_appliesAll 19 = .ok (.iaload, 1) := by decide +kernel
theorem dX7_appliesAll_20 : decode cX7_appliesAll 20 = .ok (.iconst 2, 1) := by decide +kernel
theorem dX7_appliesAll_21 : decode cX7_appliesAll 21 = .ok (.if_icmp .ne 16, 3) := by decide +kernel
theorem dX7_appliesAll_24 : decode cX7_appliesAll 24 = .ok (.aload_n 0, 1) := by decide +kernel
theorem dX7_appliesAll_25 : decode cX7_appliesAll 25 = .ok (.aload_n 0, 1) := by decide +kernel
theorem dX7_appliesAll_26 : decode cX7_appliesAll 26 = .ok (.getfield 19, 3) := by decide +kernel
theorem dX7_appliesAll_29 : decode cX7_appliesAll 29 = .ok (.iload_n 1, 1) := by decide +kernel
theorem dX7_appliesAll_30 : decode cX7_appliesAll 30 = .ok (.iaload, 1) := by decide +kernel
theorem dX7_appliesAll_31 : decode cX7_appliesAll 31 = .ok (.invokevirtual 398, 3) := by decide +kernel
theorem dX7_appliesAll_34 : decode cX7_appliesAll 34 = .ok (.goto 20, 3) := by decide +kernel
theorem dX7_appliesAll_37 : decode cX7_appliesAll 37 = .ok (.aload_n 0, 1) := by decide +kernel
theorem dX7_appliesAll_38 : decode cX7_appliesAll 38 = .ok (.getfield 37, 3) := by decide +kernel
theorem dX7_appliesAll_41 : decode cX7_appliesAll 41 = .ok (.aload_n 0, 1) := by decide +kernel
theorem dX7_appliesAll_42 : decode cX7_appliesAll 42 = .ok (.getfield 16, 3) := by decide +kernel
theorem dX7_appliesAll_45 : decode cX7_appliesAll 45 = .ok (.iload_n 1, 1) := by decide +kernel
theorem dX7_appliesAll_46 : decode cX7_appliesAll 46 = .ok (.iaload, 1) := by decide +kernel
theorem dX7_appliesAll_47 : decode cX7_appliesAll 47 = .ok (.aload_n 0, 1) := by decide +kernel
theorem dX7_appliesAll_48 : decode cX7_appliesAll 48 = .ok (.getfield 22, 3) := by decide +kernel
theorem dX7_appliesAll_51 : decode cX7_appliesAll 51 = .ok (.iload_n 1, 1) := by decide +kernel
theorem dX7_appliesAll_52 : decode cX7_appliesAll 52 = .ok (.iaload, 1) := by decide +kernel
theorem dX7_appliesAll_53 : decode cX7_appliesAll 53 = .ok (.iastore, 1) := by decide +kernel
theorem dX7_appliesAll_54 : decode cX7_appliesAll 54 = .ok (.aload_n 0, 1) := by decide +kernel
theorem dX7_appliesAll_55 : decode cX7_appliesAll 55 = .ok (.aload_n 0, 1) := by decide +kernel
theorem dX7_appliesAll_56 : decode cX7_appliesAll 56 = .ok (.getfield 98, 3) := by decide +kernel
theorem dX7_appliesAll_59 : decode cX7_appliesAll 59 = .ok (.iconst 1, 1) := by decide +kernel
theorem dX7_appliesAll_60 : decode cX7_appliesAll 60 = .ok (.iadd, 1) := by decide +kernel
theorem dX7_appliesAll_61 : decode cX7_appliesAll 61 = .ok (.putfield 98, 3) := by decide +kernel
theorem dX7_appliesAll_64 : decode cX7_appliesAll 64 = .ok (.aload_n 0, 1) := by decide +kernel
theorem dX7_appliesAll_65 : decode cX7_appliesAll 65 = .ok (.aload_n 0, 1) := by decide +kernel
theorem dX7_appliesAll_66 : decode cX7_appliesAll 66 = .ok (.getfield 22, 3) := by decide +kernel
theorem dX7_appliesAll_69 : decode cX7_appliesAll 69 = .ok (.iload_n 1, 1) := by decide +kernel
theorem dX7_appliesAll_70 : decode cX7_appliesAll 70 = .ok (.iaload, 1) := by decide +kernel
theorem dX7_appliesAll_71 : decode cX7_appliesAll 71 = .ok (.invokevirtual 395, 3) := by decide +kernel
theorem dX7_appliesAll_74 : decode cX7_appliesAll 74 = .ok (.istore_n 1, 1) := by decide +kernel
theorem dX7_appliesAll_75 : decode cX7_appliesAll 75 = .ok (.goto (-66), 3) := by decide +kernel
theorem dX7_appliesAll_78 : decode cX7_appliesAll 78 = .ok (.return_, 1) := by decide +kernel
theorem dX7_erasesUseless_0 : decode cX7_erasesUseless 0 = .ok (.iconst 0, 1) := by decide +kernel
theorem dX7_erasesUseless_1 : decode cX7_erasesUseless 1 = .ok (.istore_n 1, 1) := by decide +kernel
theorem dX7_erasesUseless_2 : decode cX7_erasesUseless 2 = .ok (.iload_n 1, 1) := by decide +kernel
theorem dX7_erasesUseless_3 : decode cX7_erasesUseless 3 = .ok (.aload_n 0, 1) := by decide +kernel
theorem dX7_erasesUseless_4 : decode cX7_erasesUseless 4 = .ok (.getfield 79, 3) := by decide +kernel
theorem dX7_erasesUseless_7 : decode cX7_erasesUseless 7 = .ok (.if_icmp .ge 39, 3) := by decide +kernel
theorem dX7_erasesUseless_10 : decode cX7_erasesUseless 10 = .ok (.aload_n 0, 1) := by decide +kernel
theorem dX7_erasesUseless_11 : decode cX7_erasesUseless 11 = .ok (.iload_n 1, 1) := by decide +kernel
theorem dX7_erasesUseless_12 : decode cX7_erasesUseless 12 = .ok (.invokevirtual 285, 3) := by decide +kernel
theorem dX7_erasesUseless_15 : decode cX7_erasesUseless 15 = .ok (.aload_n 0, 1) := by decide +kernel
theorem dX7_erasesUseless_16 : decode cX7_erasesUseless 16 = .ok (.getfield 82, 3) := by decide +kernel
theorem dX7_erasesUseless_19 : decode cX7_erasesUseless 19 = .ok (.if_icmp .ge 21, 3) := by decide +kernel
theorem dX7_erasesUseless_22 : decode cX7_erasesUseless 22 = .ok (.aload_n 0, 1) := by decide +kernel
theorem dX7_erasesUseless_23 : decode cX7_erasesUseless 23 = .ok (.iload_n 1, 1) := by decide +kernel
theorem dX7_erasesUseless_24 : decode cX7_erasesUseless 24 = .ok (.invokevirtual 279, 3) := by decide +kernel
theorem dX7_erasesUseless_27 : decode cX7_erasesUseless 27 = .ok (.ifCond .ne 13, 3) := by decide +kernel
theorem dX7_erasesUseless_30 : decode cX7_erasesUseless 30 = .ok (.aload_n 0, 1) := by decide +kernel
theorem dX7_erasesUseless_31 : decode cX7_erasesUseless 31 = .ok (.iload_n 1, 1) := by decide +kernel
theorem dX7_erasesUseless_32 : decode cX7_erasesUseless 32 = .ok (.invokevirtual 307, 3) := by decide +kernel
theorem dX7_erasesUseless_35 : decode cX7_erasesUseless 35 = .ok (.ifCond .ne 5, 3) := by decide +kernel
theorem dX7_erasesUseless_38 : decode cX7_erasesUseless 38 = .ok (.iconst 0, 1) := by decide +kernel
theorem dX7_erasesUseless_39 : decode cX7_erasesUseless 39 = .ok (.ireturn, 1) := by decide +kernel
theorem dX7_erasesUseless_40 : decode cX7_erasesUseless 40 = .ok (.iinc 1 1, 3) := by decide +kernel
theorem dX7_erasesUseless_43 : decode cX7_erasesUseless 43 = .ok (.goto (-41), 3) := by decide +kernel
theorem dX7_erasesUseless_46 : decode cX7_erasesUseless 46 = .ok (.iconst 1, 1) := by decide +kernel
theorem dX7_erasesUseless_47 : decode cX7_erasesUseless 47 = .ok (.ireturn, 1) := by decide +kernel
theorem dX7_findsActive_0 : decode cX7_findsActive 0 = .ok (.iconst (-1), 1) := by decide +kernel
theorem dX7_findsActive_1 : decode cX7_findsActive 1 = .ok (.istore_n 1, 1) := by decide +kernel
theorem dX7_findsActive_2 : decode cX7_findsActive 2 = .ok (.iconst 0, 1) := by decide +kernel
theorem dX7_findsActive_3 : decode cX7_findsActive 3 = .ok (.istore_n 2, 1) := by decide +kernel
theorem dX7_findsActive_4 : decode cX7_findsActive 4 = .ok (.iload_n 2, 1) := by decide +kernel
theorem dX7_findsActive_5 : decode cX7_findsActive 5 = .ok (.aload_n 0, 1) := by decide +kernel
theorem dX7_findsActive_6 : decode cX7_findsActive 6 = .ok (.invokevirtual 264, 3) := by decide +kernel
theorem dX7_findsActive_9 : decode cX7_findsActive 9 = .ok (.if_icmp .ge 39, 3) := by decide +kernel
theorem dX7_findsActive_12 : decode cX7_findsActive 12 = .ok (.aload_n 0, 1) := by decide +kernel
theorem dX7_findsActive_13 : decode cX7_findsActive 13 = .ok (.iload_n 2, 1) := by decide +kernel
theorem dX7_findsActive_14 : decode cX7_findsActive 14 = .ok (.invokevirtual 401, 3) := by decide +kernel
theorem dX7_findsActive_17 : decode cX7_findsActive 17 = .ok (.ifCond .eq 25, 3) := by decide +kernel
theorem dX7_findsActive_20 : decode cX7_findsActive 20 = .ok (.iload_n 1, 1) := by decide +kernel
theorem dX7_findsActive_21 : decode cX7_findsActive 21 = .ok (.iconst (-1), 1) := by decide +kernel
theorem dX7_findsActive_22 : decode cX7_findsActive 22 = .ok (.if_icmp .eq 18, 3) := by decide +kernel
theorem dX7_findsActive_25 : decode cX7_findsActive 25 = .ok (.aload_n 0, 1) := by decide +kernel
theorem dX7_findsActive_26 : decode cX7_findsActive 26 = .ok (.getfield 25, 3) := by decide +kernel
theorem dX7_findsActive_29 : decode cX7_findsActive 29 = .ok (.iload_n 2, 1) := by decide +kernel
theorem dX7_findsActive_30 : decode cX7_findsActive 30 = .ok (.iaload, 1) := by decide +kernel
theorem dX7_findsActive_31 : decode cX7_findsActive 31 = .ok (.aload_n 0, 1) := by decide +kernel
theorem dX7_findsActive_32 : decode cX7_findsActive 32 = .ok (.getfield 25, 3) := by decide +kernel
theorem dX7_findsActive_35 : decode cX7_findsActive 35 = .ok (.iload_n 1, 1) := by decide +kernel
theorem dX7_findsActive_36 : decode cX7_findsActive 36 = .ok (.iaload, 1) := by decide +kernel
theorem dX7_findsActive_37 : decode cX7_findsActive 37 = .ok (.if_icmp .le 5, 3) := by decide +kernel
theorem dX7_findsActive_40 : decode cX7_findsActive 40 = .ok (.iload_n 2, 1) := by decide +kernel
theorem dX7_findsActive_41 : decode cX7_findsActive 41 = .ok (.istore_n 1, 1) := by decide +kernel
theorem dX7_findsActive_42 : decode cX7_findsActive 42 = .ok (.iinc 2 1, 3) := by decide +kernel
theorem dX7_findsActive_45 : decode cX7_findsActive 45 = .ok (.goto (-41), 3) := by decide +kernel
theorem dX7_findsActive_48 : decode cX7_findsActive 48 = .ok (.aload_n 0, 1) := by decide +kernel
theorem dX7_findsActive_49 : decode cX7_findsActive 49 = .ok (.iload_n 1, 1) := by decide +kernel
theorem dX7_findsActive_50 : decode cX7_findsActive 50 = .ok (.iconst (-1), 1) := by decide +kernel
theorem dX7_findsActive_51 : decode cX7_findsActive 51 = .ok (.if_icmp .eq 25, 3) := by decide +kernel
theorem dX7_findsActive_54 : decode cX7_findsActive 54 = .ok (.aload_n 0, 1) := by decide +kernel
theorem dX7_findsActive_55 : decode cX7_findsActive 55 = .ok (.iload_n 1, 1) := by decide +kernel
theorem dX7_findsActive_56 : decode cX7_findsActive 56 = .ok (.aload_n 0, 1) := by decide +kernel
theorem dX7_findsActive_57 : decode cX7_findsActive 57 = .ok (.getfield 82, 3) := by decide +kernel
theorem dX7_findsActive_60 : decode cX7_findsActive 60 = .ok (.idiv, 1) := by decide +kernel
theorem dX7_findsActive_61 : decode cX7_findsActive 61 = .ok (.invokevirtual 285, 3) := by decide +kernel
theorem dX7_findsActive_64 : decode cX7_findsActive 64 = .ok (.ifCond .le 12, 3) := by decide +kernel
theorem dX7_findsActive_67 : decode cX7_findsActive 67 = .ok (.iload_n 1, 1) := by decide +kernel
theorem dX7_findsActive_68 : decode cX7_findsActive 68 = .ok (.aload_n 0, 1) := by decide +kernel
theorem dX7_findsActive_69 : decode cX7_findsActive 69 = .ok (.getfield 82, 3) := by decide +kernel
theorem dX7_findsActive_72 : decode cX7_findsActive 72 = .ok (.idiv, 1) := by decide +kernel
theorem dX7_findsActive_73 : decode cX7_findsActive 73 = .ok (.goto 4, 3) := by decide +kernel
theorem dX7_findsActive_76 : decode cX7_findsActive 76 = .ok (.iconst (-1), 1) := by decide +kernel
theorem dX7_findsActive_77 : decode cX7_findsActive 77 = .ok (.putfield 53, 3) := by decide +kernel
theorem dX7_findsActive_80 : decode cX7_findsActive 80 = .ok (.return_, 1) := by decide +kernel
theorem dX7_recover_0 : decode cX7_recover 0 = .ok (.aload_n 0, 1) := by decide +kernel
theorem dX7_recover_1 : decode cX7_recover 1 = .ok (.iconst 0, 1) := by decide +kernel
theorem dX7_recover_2 : decode cX7_recover 2 = .ok (.putfield 69, 3) := by decide +kernel
theorem dX7_recover_5 : decode cX7_recover 5 = .ok (.aload_n 0, 1) := by decide +kernel
theorem dX7_recover_6 : decode cX7_recover 6 = .ok (.getfield 104, 3) := by decide +kernel
theorem dX7_recover_9 : decode cX7_recover 9 = .ok (.ifCond .ne 10, 3) := by decide +kernel
theorem dX7_recover_12 : decode cX7_recover 12 = .ok (.aload_n 0, 1) := by decide +kernel
theorem dX7_recover_13 : decode cX7_recover 13 = .ok (.getfield 79, 3) := by decide +kernel
theorem dX7_recover_16 : decode cX7_recover 16 = .ok (.ifCond .ne 9, 3) := by decide +kernel
theorem dX7_recover_19 : decode cX7_recover 19 = .ok (.aload_n 0, 1) := by decide +kernel
theorem dX7_recover_20 : decode cX7_recover 20 = .ok (.iconst 1, 1) := by decide +kernel
theorem dX7_recover_21 : decode cX7_recover 21 = .ok (.invokevirtual 138, 3) := by decide +kernel
theorem dX7_recover_24 : decode cX7_recover 24 = .ok (.ireturn, 1) := by decide +kernel
theorem dX7_recover_25 : decode cX7_recover 25 = .ok (.aload_n 0, 1) := by decide +kernel
theorem dX7_recover_26 : decode cX7_recover 26 = .ok (.invokevirtual 101, 3) := by decide +kernel
theorem dX7_recover_29 : decode cX7_recover 29 = .ok (.aload_n 0, 1) := by decide +kernel
theorem dX7_recover_30 : decode cX7_recover 30 = .ok (.invokevirtual 404, 3) := by decide +kernel
theorem dX7_recover_33 : decode cX7_recover 33 = .ok (.aload_n 0, 1) := by decide +kernel
theorem dX7_recover_34 : decode cX7_recover 34 = .ok (.invokevirtual 407, 3) := by decide +kernel
theorem dX7_recover_37 : decode cX7_recover 37 = .ok (.iconst 1, 1) := by decide +kernel
theorem dX7_recover_38 : decode cX7_recover 38 = .ok (.istore_n 1, 1) := by decide +kernel
theorem dX7_recover_39 : decode cX7_recover 39 = .ok (.iload_n 1, 1) := by decide +kernel
theorem dX7_recover_40 : decode cX7_recover 40 = .ok (.aload_n 0, 1) := by decide +kernel
theorem dX7_recover_41 : decode cX7_recover 41 = .ok (.getfield 129, 3) := by decide +kernel
theorem dX7_recover_44 : decode cX7_recover 44 = .ok (.if_icmp .gt 35, 3) := by decide +kernel
theorem dX7_recover_47 : decode cX7_recover 47 = .ok (.aload_n 0, 1) := by decide +kernel
theorem dX7_recover_48 : decode cX7_recover 48 = .ok (.getfield 57, 3) := by decide +kernel
theorem dX7_recover_51 : decode cX7_recover 51 = .ok (.iload_n 1, 1) := by decide +kernel
theorem dX7_recover_52 : decode cX7_recover 52 = .ok (.aload_n 0, 1) := by decide +kernel
theorem dX7_recover_53 : decode cX7_recover 53 = .ok (.getfield 57, 3) := by decide +kernel
theorem dX7_recover_56 : decode cX7_recover 56 = .ok (.iload_n 1, 1) := by decide +kernel
theorem dX7_recover_57 : decode cX7_recover 57 = .ok (.iaload, 1) := by decide +kernel
theorem dX7_recover_58 : decode cX7_recover 58 = .ok (.iconst 1, 1) := by decide +kernel
theorem dX7_recover_59 : decode cX7_recover 59 = .ok (.if_icmp .ne 7, 3) := by decide +kernel
theorem dX7_recover_62 : decode cX7_recover 62 = .ok (.iconst 4, 1) := by decide +kernel
theorem dX7_recover_63 : decode cX7_recover 63 = .ok (.goto 9, 3) := by decide +kernel
theorem dX7_recover_66 : decode cX7_recover 66 = .ok (.aload_n 0, 1) := by decide +kernel
theorem dX7_recover_67 : decode cX7_recover 67 = .ok (.getfield 57, 3) := by decide +kernel
theorem dX7_recover_70 : decode cX7_recover 70 = .ok (.iload_n 1, 1) := by decide +kernel
theorem dX7_recover_71 : decode cX7_recover 71 = .ok (.iaload, 1) := by decide +kernel
theorem dX7_recover_72 : decode cX7_recover 72 = .ok (.iastore, 1) := by decide +kernel
theorem dX7_recover_73 : decode cX7_recover 73 = .ok (.iinc 1 1, 3) := by decide +kernel
theorem dX7_recover_76 : decode cX7_recover 76 = .ok (.goto (-37), 3) := by decide +kernel
theorem dX7_recover_79 : decode cX7_recover 79 = .ok (.aload_n 0, 1) := by decide +kernel
theorem dX7_recover_80 : decode cX7_recover 80 = .ok (.iconst 1, 1) := by decide +kernel
theorem dX7_recover_81 : decode cX7_recover 81 = .ok (.putfield 104, 3) := by decide +kernel
theorem dX7_recover_84 : decode cX7_recover 84 = .ok (.aload_n 0, 1) := by decide +kernel
theorem dX7_recover_85 : decode cX7_recover 85 = .ok (.invokevirtual 410, 3) := by decide +kernel
theorem dX7_recover_88 : decode cX7_recover 88 = .ok (.ifCond .ne 9, 3) := by decide +kernel
theorem dX7_recover_91 : decode cX7_recover 91 = .ok (.aload_n 0, 1) := by decide +kernel
theorem dX7_recover_92 : decode cX7_recover 92 = .ok (.iconst 1, 1) := by decide +kernel
theorem dX7_recover_93 : decode cX7_recover 93 = .ok (.invokevirtual 138, 3) := by decide +kernel
theorem dX7_recover_96 : decode cX7_recover 96 = .ok (.ireturn, 1) := by decide +kernel
theorem dX7_recover_97 : decode cX7_recover 97 = .ok (.aload_n 0, 1) := by decide +kernel
theorem dX7_recover_98 : decode cX7_recover 98 = .ok (.invokevirtual 413, 3) := by decide +kernel
theorem dX7_recover_101 : decode cX7_recover 101 = .ok (.iconst 0, 1) := by decide +kernel
theorem dX7_recover_102 : decode cX7_recover 102 = .ok (.istore_n 1, 1) := by decide +kernel
theorem dX7_recover_103 : decode cX7_recover 103 = .ok (.iconst 0, 1) := by decide +kernel
theorem dX7_recover_104 : decode cX7_recover 104 = .ok (.istore_n 2, 1) := by decide +kernel
theorem dX7_recover_105 : decode cX7_recover 105 = .ok (.iload_n 2, 1) := by decide +kernel
theorem dX7_recover_106 : decode cX7_recover 106 = .ok (.aload_n 0, 1) := by decide +kernel
theorem dX7_recover_107 : decode cX7_recover 107 = .ok (.getfield 72, 3) := by decide +kernel
theorem dX7_recover_110 : decode cX7_recover 110 = .ok (.if_icmp .ge 26, 3) := by decide +kernel
theorem dX7_recover_113 : decode cX7_recover 113 = .ok (.aload_n 0, 1) := by decide +kernel
theorem dX7_recover_114 : decode cX7_recover 114 = .ok (.getfield 37, 3) := by decide +kernel
theorem dX7_recover_117 : decode cX7_recover 117 = .ok (.iload_n 2, 1) := by decide +kernel
theorem dX7_recover_118 : decode cX7_recover 118 = .ok (.iaload, 1) := by decide +kernel
theorem dX7_recover_119 : decode cX7_recover 119 = .ok (.ifCond .eq 9, 3) := by decide +kernel
theorem dX7_recover_122 : decode cX7_recover 122 = .ok (.iload_n 1, 1) := by decide +kernel
theorem dX7_recover_123 : decode cX7_recover 123 = .ok (.iconst 1, 1) := by decide +kernel
theorem dX7_recover_124 : decode cX7_recover 124 = .ok (.iadd, 1) := by decide +kernel
theorem dX7_recover_125 : decode cX7_recover 125 = .ok (.goto 4, 3) := by decide +kernel
theorem dX7_recover_128 : decode cX7_recover 128 = .ok (.iload_n 1, 1) := by decide +kernel
theorem dX7_recover_129 : decode cX7_recover 129 = .ok (.istore_n 1, 1) := by decide +kernel
theorem dX7_recover_130 : decode cX7_recover 130 = .ok (.iinc 2 1, 3) := by decide +kernel
theorem dX7_recover_133 : decode cX7_recover 133 = .ok (.goto (-28), 3) := by decide +kernel
theorem dX7_recover_136 : decode cX7_recover 136 = .ok (.iload_n 1, 1) := by decide +kernel
theorem dX7_recover_137 : decode cX7_recover 137 = .ok (.ireturn, 1) := by decide +kernel
theorem dX7_logicalPages_0 : decode cX7_logicalPages 0 = .ok (.aload_n 0, 1) := by decide +kernel
theorem dX7_logicalPages_1 : decode cX7_logicalPages 1 = .ok (.aload_n 0, 1) := by decide +kernel
theorem dX7_logicalPages_2 : decode cX7_logicalPages 2 = .ok (.getfield 72, 3) := by decide +kernel
theorem dX7_logicalPages_5 : decode cX7_logicalPages 5 = .ok (.invokevirtual 148, 3) := by decide +kernel
theorem dX7_logicalPages_8 : decode cX7_logicalPages 8 = .ok (.ireturn, 1) := by decide +kernel
theorem dX7_blocks_0 : decode cX7_blocks 0 = .ok (.aload_n 0, 1) := by decide +kernel
theorem dX7_blocks_1 : decode cX7_blocks 1 = .ok (.aload_n 0, 1) := by decide +kernel
theorem dX7_blocks_2 : decode cX7_blocks 2 = .ok (.getfield 79, 3) := by decide +kernel
theorem dX7_blocks_5 : decode cX7_blocks 5 = .ok (.invokevirtual 148, 3) := by decide +kernel
theorem dX7_blocks_8 : decode cX7_blocks 8 = .ok (.ireturn, 1) := by decide +kernel
theorem dX7_pagesPerBlock_0 : decode cX7_pagesPerBlock 0 = .ok (.aload_n 0, 1) := by decide +kernel
theorem dX7_pagesPerBlock_1 : decode cX7_pagesPerBlock 1 = .ok (.aload_n 0, 1) := by decide +kernel
theorem dX7_pagesPerBlock_2 : decode cX7_pagesPerBlock 2 = .ok (.getfield 82, 3) := by decide +kernel
theorem dX7_pagesPerBlock_5 : decode cX7_pagesPerBlock 5 = .ok (.invokevirtual 148, 3) := by decide +kernel
theorem dX7_pagesPerBlock_8 : decode cX7_pagesPerBlock 8 = .ok (.ireturn, 1) := by decide +kernel
theorem dX7_version_0 : decode cX7_version 0 = .ok (.aload_n 0, 1) := by decide +kernel
theorem dX7_version_1 : decode cX7_version 1 = .ok (.iconst 0, 1) := by decide +kernel
theorem dX7_version_2 : decode cX7_version 2 = .ok (.putfield 69, 3) := by decide +kernel
theorem dX7_version_5 : decode cX7_version 5 = .ok (.aload_n 0, 1) := by decide +kernel
theorem dX7_version_6 : decode cX7_version 6 = .ok (.iload_n 1, 1) := by decide +kernel
theorem dX7_version_7 : decode cX7_version 7 = .ok (.invokevirtual 359, 3) := by decide +kernel
theorem dX7_version_10 : decode cX7_version 10 = .ok (.ifCond .ne 9, 3) := by decide +kernel
theorem dX7_version_13 : decode cX7_version 13 = .ok (.aload_n 0, 1) := by decide +kernel
theorem dX7_version_14 : decode cX7_version 14 = .ok (.iconst 1, 1) := by decide +kernel
theorem dX7_version_15 : decode cX7_version 15 = .ok (.invokevirtual 138, 3) := by decide +kernel
theorem dX7_version_18 : decode cX7_version 18 = .ok (.ireturn, 1) := by decide +kernel
theorem dX7_version_19 : decode cX7_version 19 = .ok (.aload_n 0, 1) := by decide +kernel
theorem dX7_version_20 : decode cX7_version 20 = .ok (.getfield 104, 3) := by decide +kernel
theorem dX7_version_23 : decode cX7_version 23 = .ok (.ifCond .eq 12, 3) := by decide +kernel
theorem dX7_version_26 : decode cX7_version 26 = .ok (.aload_n 0, 1) := by decide +kernel
theorem dX7_version_27 : decode cX7_version 27 = .ok (.getfield 37, 3) := by decide +kernel
theorem dX7_version_30 : decode cX7_version 30 = .ok (.iload_n 1, 1) := by decide +kernel
theorem dX7_version_31 : decode cX7_version 31 = .ok (.iaload, 1) := by decide +kernel
theorem dX7_version_32 : decode cX7_version 32 = .ok (.goto 4, 3) := by decide +kernel
theorem dX7_version_35 : decode cX7_version 35 = .ok (.iconst (-1), 1) := by decide +kernel
theorem dX7_version_36 : decode cX7_version 36 = .ok (.ireturn, 1) := by decide +kernel
theorem dX7_place_0 : decode cX7_place 0 = .ok (.aload_n 0, 1) := by decide +kernel
theorem dX7_place_1 : decode cX7_place 1 = .ok (.iconst 0, 1) := by decide +kernel
theorem dX7_place_2 : decode cX7_place 2 = .ok (.putfield 69, 3) := by decide +kernel
theorem dX7_place_5 : decode cX7_place 5 = .ok (.aload_n 0, 1) := by decide +kernel
theorem dX7_place_6 : decode cX7_place 6 = .ok (.iload_n 1, 1) := by decide +kernel
theorem dX7_place_7 : decode cX7_place 7 = .ok (.invokevirtual 359, 3) := by decide +kernel
theorem dX7_place_10 : decode cX7_place 10 = .ok (.ifCond .ne 9, 3) := by decide +kernel
theorem dX7_place_13 : decode cX7_place 13 = .ok (.aload_n 0, 1) := by decide +kernel
theorem dX7_place_14 : decode cX7_place 14 = .ok (.iconst 1, 1) := by decide +kernel
theorem dX7_place_15 : decode cX7_place 15 = .ok (.invokevirtual 138, 3) := by decide +kernel
theorem dX7_place_18 : decode cX7_place 18 = .ok (.ireturn, 1) := by decide +kernel
theorem dX7_place_19 : decode cX7_place 19 = .ok (.iconst 0, 1) := by decide +kernel
theorem dX7_place_20 : decode cX7_place 20 = .ok (.istore_n 2, 1) := by decide +kernel
theorem dX7_place_21 : decode cX7_place 21 = .ok (.iload_n 2, 1) := by decide +kernel
theorem dX7_place_22 : decode cX7_place 22 = .ok (.aload_n 0, 1) := by decide +kernel
theorem dX7_place_23 : decode cX7_place 23 = .ok (.invokevirtual 264, 3) := by decide +kernel
theorem dX7_place_26 : decode cX7_place 26 = .ok (.if_icmp .ge 70, 3) := by decide +kernel
theorem dX7_place_29 : decode cX7_place 29 = .ok (.aload_n 0, 1) := by decide +kernel
theorem dX7_place_30 : decode cX7_place 30 = .ok (.getfield 104, 3) := by decide +kernel
theorem dX7_place_33 : decode cX7_place 33 = .ok (.ifCond .eq 63, 3) := by decide +kernel
theorem dX7_place_36 : decode cX7_place 36 = .ok (.aload_n 0, 1) := by decide +kernel
theorem dX7_place_37 : decode cX7_place 37 = .ok (.getfield 37, 3) := by decide +kernel
theorem dX7_place_40 : decode cX7_place 40 = .ok (.iload_n 1, 1) := by decide +kernel
theorem dX7_place_41 : decode cX7_place 41 = .ok (.iaload, 1) := by decide +kernel
theorem dX7_place_42 : decode cX7_place 42 = .ok (.ifCond .le 54, 3) := by decide +kernel
theorem dX7_place_45 : decode cX7_place 45 = .ok (.aload_n 0, 1) := by decide +kernel
theorem dX7_place_46 : decode cX7_place 46 = .ok (.getfield 13, 3) := by decide +kernel
theorem dX7_place_49 : decode cX7_place 49 = .ok (.iload_n 2, 1) := by decide +kernel
theorem dX7_place_50 : decode cX7_place 50 = .ok (.iaload, 1) := by decide +kernel
theorem dX7_place_51 : decode cX7_place 51 = .ok (.iconst 1, 1) := by decide +kernel
theorem dX7_place_52 : decode cX7_place 52 = .ok (.if_icmp .ne 38, 3) := by decide +kernel
theorem dX7_place_55 : decode cX7_place 55 = .ok (.aload_n 0, 1) := by decide +kernel
theorem dX7_place_56 : decode cX7_place 56 = .ok (.getfield 16, 3) := by decide +kernel
theorem dX7_place_59 : decode cX7_place 59 = .ok (.iload_n 2, 1) := by decide +kernel
theorem dX7_place_60 : decode cX7_place 60 = .ok (.iaload, 1) := by decide +kernel
theorem dX7_place_61 : decode cX7_place 61 = .ok (.iload_n 1, 1) := by decide +kernel
theorem dX7_place_62 : decode cX7_place 62 = .ok (.if_icmp .ne 28, 3) := by decide +kernel
theorem dX7_place_65 : decode cX7_place 65 = .ok (.aload_n 0, 1) := by decide +kernel
theorem dX7_place_66 : decode cX7_place 66 = .ok (.getfield 22, 3) := by decide +kernel
theorem dX7_place_69 : decode cX7_place 69 = .ok (.iload_n 2, 1) := by decide +kernel
theorem dX7_place_70 : decode cX7_place 70 = .ok (.iaload, 1) := by decide +kernel
theorem dX7_place_71 : decode cX7_place 71 = .ok (.aload_n 0, 1) := by decide +kernel
theorem dX7_place_72 : decode cX7_place 72 = .ok (.getfield 37, 3) := by decide +kernel
theorem dX7_place_75 : decode cX7_place 75 = .ok (.iload_n 1, 1) := by decide +kernel
theorem dX7_place_76 : decode cX7_place 76 = .ok (.iaload, 1) := by decide +kernel
theorem dX7_place_77 : decode cX7_place 77 = .ok (.if_icmp .ne 13, 3) := by decide +kernel
theorem dX7_place_80 : decode cX7_place 80 = .ok (.aload_n 0, 1) := by decide +kernel
theorem dX7_place_81 : decode cX7_place 81 = .ok (.iload_n 2, 1) := by decide +kernel
theorem dX7_place_82 : decode cX7_place 82 = .ok (.invokevirtual 273, 3) := by decide +kernel
theorem dX7_place_85 : decode cX7_place 85 = .ok (.ifCond .eq 5, 3) := by decide +kernel
theorem dX7_place_88 : decode cX7_place 88 = .ok (.iload_n 2, 1) := by decide +kernel
theorem dX7_place_89 : decode cX7_place 89 = .ok (.ireturn, 1) := by decide +kernel
theorem dX7_place_90 : decode cX7_place 90 = .ok (.iinc 2 1, 3) := by decide +kernel
theorem dX7_place_93 : decode cX7_place 93 = .ok (.goto (-72), 3) := by decide +kernel
theorem dX7_place_96 : decode cX7_place 96 = .ok (.iconst (-1), 1) := by decide +kernel
theorem dX7_place_97 : decode cX7_place 97 = .ok (.ireturn, 1) := by decide +kernel
theorem dX7_lockedBy_0 : decode cX7_lockedBy 0 = .ok (.aload_n 0, 1) := by decide +kernel
theorem dX7_lockedBy_1 : decode cX7_lockedBy 1 = .ok (.iconst 0, 1) := by decide +kernel
theorem dX7_lockedBy_2 : decode cX7_lockedBy 2 = .ok (.putfield 69, 3) := by decide +kernel
theorem dX7_lockedBy_5 : decode cX7_lockedBy 5 = .ok (.aload_n 0, 1) := by decide +kernel
theorem dX7_lockedBy_6 : decode cX7_lockedBy 6 = .ok (.iload_n 1, 1) := by decide +kernel
theorem dX7_lockedBy_7 : decode cX7_lockedBy 7 = .ok (.invokevirtual 359, 3) := by decide +kernel
theorem dX7_lockedBy_10 : decode cX7_lockedBy 10 = .ok (.ifCond .eq 12, 3) := by decide +kernel
theorem dX7_lockedBy_13 : decode cX7_lockedBy 13 = .ok (.aload_n 0, 1) := by decide +kernel
theorem dX7_lockedBy_14 : decode cX7_lockedBy 14 = .ok (.getfield 40, 3) := by decide +kernel
theorem dX7_lockedBy_17 : decode cX7_lockedBy 17 = .ok (.iload_n 1, 1) := by decide +kernel
theorem dX7_lockedBy_18 : decode cX7_lockedBy 18 = .ok (.iaload, 1) := by decide +kernel
theorem dX7_lockedBy_19 : decode cX7_lockedBy 19 = .ok (.goto 8, 3) := by decide +kernel
theorem dX7_lockedBy_22 : decode cX7_lockedBy 22 = .ok (.aload_n 0, 1) := by decide +kernel
theorem dX7_lockedBy_23 : decode cX7_lockedBy 23 = .ok (.iconst 1, 1) := by decide +kernel
theorem dX7_lockedBy_24 : decode cX7_lockedBy 24 = .ok (.invokevirtual 138, 3) := by decide +kernel
theorem dX7_lockedBy_27 : decode cX7_lockedBy 27 = .ok (.ireturn, 1) := by decide +kernel
theorem dX7_transactions_0 : decode cX7_transactions 0 = .ok (.aload_n 0, 1) := by decide +kernel
theorem dX7_transactions_1 : decode cX7_transactions 1 = .ok (.aload_n 0, 1) := by decide +kernel
theorem dX7_transactions_2 : decode cX7_transactions 2 = .ok (.getfield 129, 3) := by decide +kernel
theorem dX7_transactions_5 : decode cX7_transactions 5 = .ok (.invokevirtual 148, 3) := by decide +kernel
theorem dX7_transactions_8 : decode cX7_transactions 8 = .ok (.ireturn, 1) := by decide +kernel
theorem dX7_state_0 : decode cX7_state 0 = .ok (.aload_n 0, 1) := by decide +kernel
theorem dX7_state_1 : decode cX7_state 1 = .ok (.iconst 0, 1) := by decide +kernel
theorem dX7_state_2 : decode cX7_state 2 = .ok (.putfield 69, 3) := by decide +kernel
theorem dX7_state_5 : decode cX7_state 5 = .ok (.aload_n 0, 1) := by decide +kernel
theorem dX7_state_6 : decode cX7_state 6 = .ok (.iload_n 1, 1) := by decide +kernel
theorem dX7_state_7 : decode cX7_state 7 = .ok (.invokevirtual 356, 3) := by decide +kernel
theorem dX7_state_10 : decode cX7_state 10 = .ok (.ifCond .eq 12, 3) := by decide +kernel
theorem dX7_state_13 : decode cX7_state 13 = .ok (.aload_n 0, 1) := by decide +kernel
theorem dX7_state_14 : decode cX7_state 14 = .ok (.getfield 57, 3) := by decide +kernel
theorem dX7_state_17 : decode cX7_state 17 = .ok (.iload_n 1, 1) := by decide +kernel
theorem dX7_state_18 : decode cX7_state 18 = .ok (.iaload, 1) := by decide +kernel
theorem dX7_state_19 : decode cX7_state 19 = .ok (.goto 8, 3) := by decide +kernel
theorem dX7_state_22 : decode cX7_state 22 = .ok (.aload_n 0, 1) := by decide +kernel
theorem dX7_state_23 : decode cX7_state 23 = .ok (.iconst 1, 1) := by decide +kernel
theorem dX7_state_24 : decode cX7_state 24 = .ok (.invokevirtual 138, 3) := by decide +kernel
theorem dX7_state_27 : decode cX7_state 27 = .ok (.ireturn, 1) := by decide +kernel
theorem dX7_locks_0 : decode cX7_locks 0 = .ok (.aload_n 0, 1) := by decide +kernel
theorem dX7_locks_1 : decode cX7_locks 1 = .ok (.iconst 0, 1) := by decide +kernel
theorem dX7_locks_2 : decode cX7_locks 2 = .ok (.putfield 69, 3) := by decide +kernel
theorem dX7_locks_5 : decode cX7_locks 5 = .ok (.aload_n 0, 1) := by decide +kernel
theorem dX7_locks_6 : decode cX7_locks 6 = .ok (.iload_n 1, 1) := by decide +kernel
theorem dX7_locks_7 : decode cX7_locks 7 = .ok (.invokevirtual 356, 3) := by decide +kernel
theorem dX7_locks_10 : decode cX7_locks 10 = .ok (.ifCond .eq 11, 3) := by decide +kernel
theorem dX7_locks_13 : decode cX7_locks 13 = .ok (.aload_n 0, 1) := by decide +kernel
theorem dX7_locks_14 : decode cX7_locks 14 = .ok (.iload_n 1, 1) := by decide +kernel
theorem dX7_locks_15 : decode cX7_locks 15 = .ok (.invokevirtual 374, 3) := by decide +kernel
theorem dX7_locks_18 : decode cX7_locks 18 = .ok (.goto 8, 3) := by decide +kernel
theorem dX7_locks_21 : decode cX7_locks 21 = .ok (.aload_n 0, 1) := by decide +kernel
theorem dX7_locks_22 : decode cX7_locks 22 = .ok (.iconst 1, 1) := by decide +kernel
theorem dX7_locks_23 : decode cX7_locks 23 = .ok (.invokevirtual 138, 3) := by decide +kernel
theorem dX7_locks_26 : decode cX7_locks 26 = .ok (.ireturn, 1) := by decide +kernel
theorem dX7_readers_0 : decode cX7_readers 0 = .ok (.aload_n 0, 1) := by decide +kernel
theorem dX7_readers_1 : decode cX7_readers 1 = .ok (.iconst 0, 1) := by decide +kernel
theorem dX7_readers_2 : decode cX7_readers 2 = .ok (.putfield 69, 3) := by decide +kernel
theorem dX7_readers_5 : decode cX7_readers 5 = .ok (.iconst 0, 1) := by decide +kernel
theorem dX7_readers_6 : decode cX7_readers 6 = .ok (.istore_n 1, 1) := by decide +kernel
theorem dX7_readers_7 : decode cX7_readers 7 = .ok (.iconst 0, 1) := by decide +kernel
theorem dX7_readers_8 : decode cX7_readers 8 = .ok (.istore_n 2, 1) := by decide +kernel
theorem dX7_readers_9 : decode cX7_readers 9 = .ok (.iload_n 2, 1) := by decide +kernel
theorem dX7_readers_10 : decode cX7_readers 10 = .ok (.iconst 4, 1) := by decide +kernel
theorem dX7_readers_11 : decode cX7_readers 11 = .ok (.if_icmp .ge 28, 3) := by decide +kernel
theorem dX7_readers_14 : decode cX7_readers 14 = .ok (.aload_n 0, 1) := by decide +kernel
theorem dX7_readers_15 : decode cX7_readers 15 = .ok (.getfield 49, 3) := by decide +kernel
theorem dX7_readers_18 : decode cX7_readers 18 = .ok (.iload_n 2, 1) := by decide +kernel
theorem dX7_readers_19 : decode cX7_readers 19 = .ok (.baload, 1) := by decide +kernel
theorem dX7_readers_20 : decode cX7_readers 20 = .ok (.ifCond .eq 11, 3) := by decide +kernel
theorem dX7_readers_23 : decode cX7_readers 23 = .ok (.iload_n 1, 1) := by decide +kernel
theorem dX7_readers_24 : decode cX7_readers 24 = .ok (.iconst 1, 1) := by decide +kernel
theorem dX7_readers_25 : decode cX7_readers 25 = .ok (.iload_n 2, 1) := by decide +kernel
theorem dX7_readers_26 : decode cX7_readers 26 = .ok (.ishl, 1) := by decide +kernel
theorem dX7_readers_27 : decode cX7_readers 27 = .ok (.ior, 1) := by decide +kernel
theorem dX7_readers_28 : decode cX7_readers 28 = .ok (.goto 4, 3) := by decide +kernel
theorem dX7_readers_31 : decode cX7_readers 31 = .ok (.iload_n 1, 1) := by decide +kernel
theorem dX7_readers_32 : decode cX7_readers 32 = .ok (.istore_n 1, 1) := by decide +kernel
theorem dX7_readers_33 : decode cX7_readers 33 = .ok (.iinc 2 1, 3) := by decide +kernel
theorem dX7_readers_36 : decode cX7_readers 36 = .ok (.goto (-27), 3) := by decide +kernel
theorem dX7_readers_39 : decode cX7_readers 39 = .ok (.iload_n 1, 1) := by decide +kernel
theorem dX7_readers_40 : decode cX7_readers 40 = .ok (.ireturn, 1) := by decide +kernel
theorem dX7_activeBlock_0 : decode cX7_activeBlock 0 = .ok (.aload_n 0, 1) := by decide +kernel
theorem dX7_activeBlock_1 : decode cX7_activeBlock 1 = .ok (.aload_n 0, 1) := by decide +kernel
theorem dX7_activeBlock_2 : decode cX7_activeBlock 2 = .ok (.getfield 53, 3) := by decide +kernel
theorem dX7_activeBlock_5 : decode cX7_activeBlock 5 = .ok (.invokevirtual 148, 3) := by decide +kernel
theorem dX7_activeBlock_8 : decode cX7_activeBlock 8 = .ok (.ireturn, 1) := by decide +kernel
theorem dX7_freeBlocks_0 : decode cX7_freeBlocks 0 = .ok (.aload_n 0, 1) := by decide +kernel
theorem dX7_freeBlocks_1 : decode cX7_freeBlocks 1 = .ok (.aload_n 0, 1) := by decide +kernel
theorem dX7_freeBlocks_2 : decode cX7_freeBlocks 2 = .ok (.invokevirtual 313, 3) := by decide +kernel
theorem dX7_freeBlocks_5 : decode cX7_freeBlocks 5 = .ok (.invokevirtual 148, 3) := by decide +kernel
theorem dX7_freeBlocks_8 : decode cX7_freeBlocks 8 = .ok (.ireturn, 1) := by decide +kernel
theorem dX7_validPages_0 : decode cX7_validPages 0 = .ok (.aload_n 0, 1) := by decide +kernel
theorem dX7_validPages_1 : decode cX7_validPages 1 = .ok (.aload_n 0, 1) := by decide +kernel
theorem dX7_validPages_2 : decode cX7_validPages 2 = .ok (.invokevirtual 325, 3) := by decide +kernel
theorem dX7_validPages_5 : decode cX7_validPages 5 = .ok (.invokevirtual 148, 3) := by decide +kernel
theorem dX7_validPages_8 : decode cX7_validPages 8 = .ok (.ireturn, 1) := by decide +kernel
theorem dX7_block_0 : decode cX7_block 0 = .ok (.aload_n 0, 1) := by decide +kernel
theorem dX7_block_1 : decode cX7_block 1 = .ok (.iconst 0, 1) := by decide +kernel
theorem dX7_block_2 : decode cX7_block 2 = .ok (.putfield 69, 3) := by decide +kernel
theorem dX7_block_5 : decode cX7_block 5 = .ok (.aload_n 0, 1) := by decide +kernel
theorem dX7_block_6 : decode cX7_block 6 = .ok (.iload_n 1, 1) := by decide +kernel
theorem dX7_block_7 : decode cX7_block 7 = .ok (.invokevirtual 416, 3) := by decide +kernel
theorem dX7_block_10 : decode cX7_block 10 = .ok (.ifCond .ne 9, 3) := by decide +kernel
theorem dX7_block_13 : decode cX7_block 13 = .ok (.aload_n 0, 1) := by decide +kernel
theorem dX7_block_14 : decode cX7_block 14 = .ok (.iconst 1, 1) := by decide +kernel
theorem dX7_block_15 : decode cX7_block 15 = .ok (.invokevirtual 138, 3) := by decide +kernel
theorem dX7_block_18 : decode cX7_block 18 = .ok (.ireturn, 1) := by decide +kernel
theorem dX7_block_19 : decode cX7_block 19 = .ok (.iload_n 2, 1) := by decide +kernel
theorem dX7_block_20 : decode cX7_block 20 = .ok (.tableswitch 63 0 3 #[32, 39, 50, 56], 32) := by decide +kernel
theorem dX7_block_52 : decode cX7_block 52 = .ok (.aload_n 0, 1) := by decide +kernel
theorem dX7_block_53 : decode cX7_block 53 = .ok (.getfield 34, 3) := by decide +kernel
theorem dX7_block_56 : decode cX7_block 56 = .ok (.iload_n 1, 1) := by decide +kernel
theorem dX7_block_57 : decode cX7_block 57 = .ok (.iaload, 1) := by decide +kernel
theorem dX7_block_58 : decode cX7_block 58 = .ok (.ireturn, 1) := by decide +kernel
theorem dX7_block_59 : decode cX7_block 59 = .ok (.aload_n 0, 1) := by decide +kernel
theorem dX7_block_60 : decode cX7_block 60 = .ok (.getfield 82, 3) := by decide +kernel
theorem dX7_block_63 : decode cX7_block 63 = .ok (.aload_n 0, 1) := by decide +kernel
theorem dX7_block_64 : decode cX7_block 64 = .ok (.iload_n 1, 1) := by decide +kernel
theorem dX7_block_65 : decode cX7_block 65 = .ok (.invokevirtual 285, 3) := by decide +kernel
theorem dX7_block_68 : decode cX7_block 68 = .ok (.isub, 1) := by decide +kernel
theorem dX7_block_69 : decode cX7_block 69 = .ok (.ireturn, 1) := by decide +kernel
theorem dX7_block_70 : decode cX7_block 70 = .ok (.aload_n 0, 1) := by decide +kernel
theorem dX7_block_71 : decode cX7_block 71 = .ok (.iload_n 1, 1) := by decide +kernel
theorem dX7_block_72 : decode cX7_block 72 = .ok (.invokevirtual 279, 3) := by decide +kernel
theorem dX7_block_75 : decode cX7_block 75 = .ok (.ireturn, 1) := by decide +kernel
theorem dX7_block_76 : decode cX7_block 76 = .ok (.aload_n 0, 1) := by decide +kernel
theorem dX7_block_77 : decode cX7_block 77 = .ok (.iload_n 1, 1) := by decide +kernel
theorem dX7_block_78 : decode cX7_block 78 = .ok (.iconst 5, 1) := by decide +kernel
theorem dX7_block_79 : decode cX7_block 79 = .ok (.invokevirtual 282, 3) := by decide +kernel
theorem dX7_block_82 : decode cX7_block 82 = .ok (.ireturn, 1) := by decide +kernel
theorem dX7_block_83 : decode cX7_block 83 = .ok (.aload_n 0, 1) := by decide +kernel
theorem dX7_block_84 : decode cX7_block 84 = .ok (.iconst 2, 1) := by decide +kernel
theorem dX7_block_85 : decode cX7_block 85 = .ok (.invokevirtual 138, 3) := by decide +kernel
theorem dX7_block_88 : decode cX7_block 88 = .ok (.ireturn, 1) := by decide +kernel
theorem dX7_flashPage_0 : decode cX7_flashPage 0 = .ok (.aload_n 0, 1) := by decide +kernel
theorem dX7_flashPage_1 : decode cX7_flashPage 1 = .ok (.iconst 0, 1) := by decide +kernel
theorem dX7_flashPage_2 : decode cX7_flashPage 2 = .ok (.putfield 69, 3) := by decide +kernel
theorem dX7_flashPage_5 : decode cX7_flashPage 5 = .ok (.iload_n 1, 1) := by decide +kernel
theorem dX7_flashPage_6 : decode cX7_flashPage 6 = .ok (.iconst 0, 1) := by decide +kernel
theorem dX7_flashPage_7 : decode cX7_flashPage 7 = .ok (.aload_n 0, 1) := by decide +kernel
theorem dX7_flashPage_8 : decode cX7_flashPage 8 = .ok (.invokevirtual 264, 3) := by decide +kernel
theorem dX7_flashPage_11 : decode cX7_flashPage 11 = .ok (.iconst 1, 1) := by decide +kernel
theorem dX7_flashPage_12 : decode cX7_flashPage 12 = .ok (.isub, 1) := by decide +kernel
theorem dX7_flashPage_13 : decode cX7_flashPage 13 = .ok (.invokestatic 85, 3) := by decide +kernel
theorem dX7_flashPage_16 : decode cX7_flashPage 16 = .ok (.ifCond .ne 9, 3) := by decide +kernel
theorem dX7_flashPage_19 : decode cX7_flashPage 19 = .ok (.aload_n 0, 1) := by decide +kernel
theorem dX7_flashPage_20 : decode cX7_flashPage 20 = .ok (.iconst 1, 1) := by decide +kernel
theorem dX7_flashPage_21 : decode cX7_flashPage 21 = .ok (.invokevirtual 138, 3) := by decide +kernel
theorem dX7_flashPage_24 : decode cX7_flashPage 24 = .ok (.ireturn, 1) := by decide +kernel
theorem dX7_flashPage_25 : decode cX7_flashPage 25 = .ok (.iload_n 2, 1) := by decide +kernel
theorem dX7_flashPage_26 : decode cX7_flashPage 26 = .ok (.iconst 0, 1) := by decide +kernel
theorem dX7_flashPage_27 : decode cX7_flashPage 27 = .ok (.iconst 5, 1) := by decide +kernel
theorem dX7_flashPage_28 : decode cX7_flashPage 28 = .ok (.invokestatic 85, 3) := by decide +kernel
theorem dX7_flashPage_31 : decode cX7_flashPage 31 = .ok (.ifCond .ne 9, 3) := by decide +kernel
theorem dX7_flashPage_34 : decode cX7_flashPage 34 = .ok (.aload_n 0, 1) := by decide +kernel
theorem dX7_flashPage_35 : decode cX7_flashPage 35 = .ok (.iconst 2, 1) := by decide +kernel
theorem dX7_flashPage_36 : decode cX7_flashPage 36 = .ok (.invokevirtual 138, 3) := by decide +kernel
theorem dX7_flashPage_39 : decode cX7_flashPage 39 = .ok (.ireturn, 1) := by decide +kernel
theorem dX7_flashPage_40 : decode cX7_flashPage 40 = .ok (.iload_n 2, 1) := by decide +kernel
theorem dX7_flashPage_41 : decode cX7_flashPage 41 = .ok (.ifCond .ne 10, 3) := by decide +kernel
theorem dX7_flashPage_44 : decode cX7_flashPage 44 = .ok (.aload_n 0, 1) := by decide +kernel
theorem dX7_flashPage_45 : decode cX7_flashPage 45 = .ok (.getfield 13, 3) := by decide +kernel
theorem dX7_flashPage_48 : decode cX7_flashPage 48 = .ok (.iload_n 1, 1) := by decide +kernel
theorem dX7_flashPage_49 : decode cX7_flashPage 49 = .ok (.iaload, 1) := by decide +kernel
theorem dX7_flashPage_50 : decode cX7_flashPage 50 = .ok (.ireturn, 1) := by decide +kernel
theorem dX7_flashPage_51 : decode cX7_flashPage 51 = .ok (.iload_n 2, 1) := by decide +kernel
theorem dX7_flashPage_52 : decode cX7_flashPage 52 = .ok (.iconst 5, 1) := by decide +kernel
theorem dX7_flashPage_53 : decode cX7_flashPage 53 = .ok (.if_icmp .ne 25, 3) := by decide +kernel
theorem dX7_flashPage_56 : decode cX7_flashPage 56 = .ok (.aload_n 0, 1) := by decide +kernel
theorem dX7_flashPage_57 : decode cX7_flashPage 57 = .ok (.getfield 13, 3) := by decide +kernel
theorem dX7_flashPage_60 : decode cX7_flashPage 60 = .ok (.iload_n 1, 1) := by decide +kernel
theorem dX7_flashPage_61 : decode cX7_flashPage 61 = .ok (.iaload, 1) := by decide +kernel
theorem dX7_flashPage_62 : decode cX7_flashPage 62 = .ok (.iconst 1, 1) := by decide +kernel
theorem dX7_flashPage_63 : decode cX7_flashPage 63 = .ok (.if_icmp .ne 12, 3) := by decide +kernel
theorem dX7_flashPage_66 : decode cX7_flashPage 66 = .ok (.aload_n 0, 1) := by decide +kernel
theorem dX7_flashPage_67 : decode cX7_flashPage 67 = .ok (.getfield 28, 3) := by decide +kernel
theorem dX7_flashPage_70 : decode cX7_flashPage 70 = .ok (.iload_n 1, 1) := by decide +kernel
theorem dX7_flashPage_71 : decode cX7_flashPage 71 = .ok (.iaload, 1) := by decide +kernel
theorem dX7_flashPage_72 : decode cX7_flashPage 72 = .ok (.goto 5, 3) := by decide +kernel
theorem dX7_flashPage_75 : decode cX7_flashPage 75 = .ok (.bipush (-2), 2) := by decide +kernel
theorem dX7_flashPage_77 : decode cX7_flashPage 77 = .ok (.ireturn, 1) := by decide +kernel
theorem dX7_flashPage_78 : decode cX7_flashPage 78 = .ok (.aload_n 0, 1) := by decide +kernel
theorem dX7_flashPage_79 : decode cX7_flashPage 79 = .ok (.iload_n 1, 1) := by decide +kernel
theorem dX7_flashPage_80 : decode cX7_flashPage 80 = .ok (.invokevirtual 401, 3) := by decide +kernel
theorem dX7_flashPage_83 : decode cX7_flashPage 83 = .ok (.ifCond .ne 5, 3) := by decide +kernel
theorem dX7_flashPage_86 : decode cX7_flashPage 86 = .ok (.iconst (-1), 1) := by decide +kernel
theorem dX7_flashPage_87 : decode cX7_flashPage 87 = .ok (.ireturn, 1) := by decide +kernel
theorem dX7_flashPage_88 : decode cX7_flashPage 88 = .ok (.iload_n 2, 1) := by decide +kernel
theorem dX7_flashPage_89 : decode cX7_flashPage 89 = .ok (.iconst 1, 1) := by decide +kernel
theorem dX7_flashPage_90 : decode cX7_flashPage 90 = .ok (.if_icmp .ne 12, 3) := by decide +kernel
theorem dX7_flashPage_93 : decode cX7_flashPage 93 = .ok (.aload_n 0, 1) := by decide +kernel
theorem dX7_flashPage_94 : decode cX7_flashPage 94 = .ok (.getfield 16, 3) := by decide +kernel
theorem dX7_flashPage_97 : decode cX7_flashPage 97 = .ok (.iload_n 1, 1) := by decide +kernel
theorem dX7_flashPage_98 : decode cX7_flashPage 98 = .ok (.iaload, 1) := by decide +kernel
theorem dX7_flashPage_99 : decode cX7_flashPage 99 = .ok (.goto 37, 3) := by decide +kernel
theorem dX7_flashPage_102 : decode cX7_flashPage 102 = .ok (.iload_n 2, 1) := by decide +kernel
theorem dX7_flashPage_103 : decode cX7_flashPage 103 = .ok (.iconst 2, 1) := by decide +kernel
theorem dX7_flashPage_104 : decode cX7_flashPage 104 = .ok (.if_icmp .ne 12, 3) := by decide +kernel
theorem dX7_flashPage_107 : decode cX7_flashPage 107 = .ok (.aload_n 0, 1) := by decide +kernel
theorem dX7_flashPage_108 : decode cX7_flashPage 108 = .ok (.getfield 19, 3) := by decide +kernel
theorem dX7_flashPage_111 : decode cX7_flashPage 111 = .ok (.iload_n 1, 1) := by decide +kernel
theorem dX7_flashPage_112 : decode cX7_flashPage 112 = .ok (.iaload, 1) := by decide +kernel
theorem dX7_flashPage_113 : decode cX7_flashPage 113 = .ok (.goto 23, 3) := by decide +kernel
theorem dX7_flashPage_116 : decode cX7_flashPage 116 = .ok (.iload_n 2, 1) := by decide +kernel
theorem dX7_flashPage_117 : decode cX7_flashPage 117 = .ok (.iconst 3, 1) := by decide +kernel
theorem dX7_flashPage_118 : decode cX7_flashPage 118 = .ok (.if_icmp .ne 12, 3) := by decide +kernel
theorem dX7_flashPage_121 : decode cX7_flashPage 121 = .ok (.aload_n 0, 1) := by decide +kernel
theorem dX7_flashPage_122 : decode cX7_flashPage 122 = .ok (.getfield 22, 3) := by decide +kernel
theorem dX7_flashPage_125 : decode cX7_flashPage 125 = .ok (.iload_n 1, 1) := by decide +kernel
theorem dX7_flashPage_126 : decode cX7_flashPage 126 = .ok (.iaload, 1) := by decide +kernel
theorem dX7_flashPage_127 : decode cX7_flashPage 127 = .ok (.goto 9, 3) := by decide +kernel
theorem dX7_flashPage_130 : decode cX7_flashPage 130 = .ok (.aload_n 0, 1) := by decide +kernel
theorem dX7_flashPage_131 : decode cX7_flashPage 131 = .ok (.getfield 25, 3) := by decide +kernel
theorem dX7_flashPage_134 : decode cX7_flashPage 134 = .ok (.iload_n 1, 1) := by decide +kernel
theorem dX7_flashPage_135 : decode cX7_flashPage 135 = .ok (.iaload, 1) := by decide +kernel
theorem dX7_flashPage_136 : decode cX7_flashPage 136 = .ok (.ireturn, 1) := by decide +kernel
theorem dX7_isValid_0 : decode cX7_isValid 0 = .ok (.aload_n 0, 1) := by decide +kernel
theorem dX7_isValid_1 : decode cX7_isValid 1 = .ok (.iload_n 1, 1) := by decide +kernel
theorem dX7_isValid_2 : decode cX7_isValid 2 = .ok (.iconst 0, 1) := by decide +kernel
theorem dX7_isValid_3 : decode cX7_isValid 3 = .ok (.aload_n 0, 1) := by decide +kernel
theorem dX7_isValid_4 : decode cX7_isValid 4 = .ok (.invokevirtual 264, 3) := by decide +kernel
theorem dX7_isValid_7 : decode cX7_isValid 7 = .ok (.iconst 1, 1) := by decide +kernel
theorem dX7_isValid_8 : decode cX7_isValid 8 = .ok (.isub, 1) := by decide +kernel
theorem dX7_isValid_9 : decode cX7_isValid 9 = .ok (.invokestatic 85, 3) := by decide +kernel
theorem dX7_isValid_12 : decode cX7_isValid 12 = .ok (.ifCond .eq 7, 3) := by decide +kernel
theorem dX7_isValid_15 : decode cX7_isValid 15 = .ok (.iconst 0, 1) := by decide +kernel
theorem dX7_isValid_16 : decode cX7_isValid 16 = .ok (.goto 4, 3) := by decide +kernel
theorem dX7_isValid_19 : decode cX7_isValid 19 = .ok (.iconst 1, 1) := by decide +kernel
theorem dX7_isValid_20 : decode cX7_isValid 20 = .ok (.putfield 69, 3) := by decide +kernel
theorem dX7_isValid_23 : decode cX7_isValid 23 = .ok (.aload_n 0, 1) := by decide +kernel
theorem dX7_isValid_24 : decode cX7_isValid 24 = .ok (.getfield 69, 3) := by decide +kernel
theorem dX7_isValid_27 : decode cX7_isValid 27 = .ok (.ifCond .ne 15, 3) := by decide +kernel
theorem dX7_isValid_30 : decode cX7_isValid 30 = .ok (.aload_n 0, 1) := by decide +kernel
theorem dX7_isValid_31 : decode cX7_isValid 31 = .ok (.iload_n 1, 1) := by decide +kernel
theorem dX7_isValid_32 : decode cX7_isValid 32 = .ok (.invokevirtual 276, 3) := by decide +kernel
theorem dX7_isValid_35 : decode cX7_isValid 35 = .ok (.ifCond .eq 7, 3) := by decide +kernel
theorem dX7_isValid_38 : decode cX7_isValid 38 = .ok (.iconst 1, 1) := by decide +kernel
theorem dX7_isValid_39 : decode cX7_isValid 39 = .ok (.goto 4, 3) := by decide +kernel
theorem dX7_isValid_42 : decode cX7_isValid 42 = .ok (.iconst 0, 1) := by decide +kernel
theorem dX7_isValid_43 : decode cX7_isValid 43 = .ok (.ireturn, 1) := by decide +kernel
theorem dX7_programs_0 : decode cX7_programs 0 = .ok (.aload_n 0, 1) := by decide +kernel
theorem dX7_programs_1 : decode cX7_programs 1 = .ok (.aload_n 0, 1) := by decide +kernel
theorem dX7_programs_2 : decode cX7_programs 2 = .ok (.getfield 114, 3) := by decide +kernel
theorem dX7_programs_5 : decode cX7_programs 5 = .ok (.invokevirtual 148, 3) := by decide +kernel
theorem dX7_programs_8 : decode cX7_programs 8 = .ok (.ireturn, 1) := by decide +kernel
theorem dX7_erases_0 : decode cX7_erases 0 = .ok (.aload_n 0, 1) := by decide +kernel
theorem dX7_erases_1 : decode cX7_erases 1 = .ok (.aload_n 0, 1) := by decide +kernel
theorem dX7_erases_2 : decode cX7_erases 2 = .ok (.getfield 117, 3) := by decide +kernel
theorem dX7_erases_5 : decode cX7_erases 5 = .ok (.invokevirtual 148, 3) := by decide +kernel
theorem dX7_erases_8 : decode cX7_erases 8 = .ok (.ireturn, 1) := by decide +kernel
theorem dX7_copies_0 : decode cX7_copies 0 = .ok (.aload_n 0, 1) := by decide +kernel
theorem dX7_copies_1 : decode cX7_copies 1 = .ok (.aload_n 0, 1) := by decide +kernel
