theorem dX9_init_0 : decode cX9_init 0 = .ok (.aload_n 0, 1) := by decide +kernel
theorem dX9_init_1 : decode cX9_init 1 = .ok (.invokespecial 1, 3) := by decide +kernel
theorem dX9_init_4 : decode cX9_init 4 = .ok (.aload_n 0, 1) := by decide +kernel
theorem dX9_init_5 : decode cX9_init 5 = .ok (.sipush 1683, 3) := by decide +kernel
theorem dX9_init_8 : decode cX9_init 8 = .ok (.newarray .int, 2) := by decide +kernel
theorem dX9_init_10 : decode cX9_init 10 = .ok (.putfield 7, 3) := by decide +kernel
theorem dX9_init_13 : decode cX9_init 13 = .ok (.aload_n 0, 1) := by decide +kernel
theorem dX9_init_14 : decode cX9_init 14 = .ok (.sipush 1683, 3) := by decide +kernel
theorem dX9_init_17 : decode cX9_init 17 = .ok (.newarray .int, 2) := by decide +kernel
theorem dX9_init_19 : decode cX9_init 19 = .ok (.putfield 13, 3) := by decide +kernel
theorem dX9_init_22 : decode cX9_init 22 = .ok (.aload_n 0, 1) := by decide +kernel
theorem dX9_init_23 : decode cX9_init 23 = .ok (.sipush 6732, 3) := by decide +kernel
theorem dX9_init_26 : decode cX9_init 26 = .ok (.newarray .int, 2) := by decide +kernel
theorem dX9_init_28 : decode cX9_init 28 = .ok (.putfield 16, 3) := by decide +kernel
theorem dX9_init_31 : decode cX9_init 31 = .ok (.aload_n 0, 1) := by decide +kernel
theorem dX9_init_32 : decode cX9_init 32 = .ok (.sipush 1683, 3) := by decide +kernel
theorem dX9_init_35 : decode cX9_init 35 = .ok (.newarray .int, 2) := by decide +kernel
theorem dX9_init_37 : decode cX9_init 37 = .ok (.putfield 19, 3) := by decide +kernel
theorem dX9_init_40 : decode cX9_init 40 = .ok (.aload_n 0, 1) := by decide +kernel
theorem dX9_init_41 : decode cX9_init 41 = .ok (.bipush 40, 2) := by decide +kernel
theorem dX9_init_43 : decode cX9_init 43 = .ok (.newarray .int, 2) := by decide +kernel
theorem dX9_init_45 : decode cX9_init 45 = .ok (.putfield 22, 3) := by decide +kernel
theorem dX9_init_48 : decode cX9_init 48 = .ok (.aload_n 0, 1) := by decide +kernel
theorem dX9_init_49 : decode cX9_init 49 = .ok (.bipush 29, 2) := by decide +kernel
theorem dX9_init_51 : decode cX9_init 51 = .ok (.newarray .int, 2) := by decide +kernel
theorem dX9_init_53 : decode cX9_init 53 = .ok (.putfield 25, 3) := by decide +kernel
theorem dX9_init_56 : decode cX9_init 56 = .ok (.aload_n 0, 1) := by decide +kernel
theorem dX9_init_57 : decode cX9_init 57 = .ok (.getfield 7, 3) := by decide +kernel
theorem dX9_init_60 : decode cX9_init 60 = .ok (.iconst 4, 1) := by decide +kernel
theorem dX9_init_61 : decode cX9_init 61 = .ok (.iconst 3, 1) := by decide +kernel
theorem dX9_init_62 : decode cX9_init 62 = .ok (.iastore, 1) := by decide +kernel
theorem dX9_init_63 : decode cX9_init 63 = .ok (.return_, 1) := by decide +kernel
theorem dX9_in_0 : decode cX9_in 0 = .ok (.iload_n 0, 1) := by decide +kernel
theorem dX9_in_1 : decode cX9_in 1 = .ok (.iload_n 1, 1) := by decide +kernel
theorem dX9_in_2 : decode cX9_in 2 = .ok (.if_icmp .lt 12, 3) := by decide +kernel
theorem dX9_in_5 : decode cX9_in 5 = .ok (.iload_n 0, 1) := by decide +kernel
theorem dX9_in_6 : decode cX9_in 6 = .ok (.iload_n 2, 1) := by decide +kernel
theorem dX9_in_7 : decode cX9_in 7 = .ok (.if_icmp .gt 7, 3) := by decide +kernel
theorem dX9_in_10 : decode cX9_in 10 = .ok (.iconst 1, 1) := by decide +kernel
theorem dX9_in_11 : decode cX9_in 11 = .ok (.goto 4, 3) := by decide +kernel
theorem dX9_in_14 : decode cX9_in 14 = .ok (.iconst 0, 1) := by decide +kernel
theorem dX9_in_15 : decode cX9_in 15 = .ok (.ireturn, 1) := by decide +kernel
theorem dX9_record_0 : decode cX9_record 0 = .ok (.aload_n 0, 1) := by decide +kernel
theorem dX9_record_1 : decode cX9_record 1 = .ok (.getfield 28, 3) := by decide +kernel
theorem dX9_record_4 : decode cX9_record 4 = .ok (.iconst 4, 1) := by decide +kernel
theorem dX9_record_5 : decode cX9_record 5 = .ok (.if_icmp .ne 44, 3) := by decide +kernel
theorem dX9_record_8 : decode cX9_record 8 = .ok (.iconst 0, 1) := by decide +kernel
theorem dX9_record_9 : decode cX9_record 9 = .ok (.istore_n 1, 1) := by decide +kernel
theorem dX9_record_10 : decode cX9_record 10 = .ok (.iload_n 1, 1) := by decide +kernel
theorem dX9_record_11 : decode cX9_record 11 = .ok (.sipush 5049, 3) := by decide +kernel
theorem dX9_record_14 : decode cX9_record 14 = .ok (.if_icmp .ge 25, 3) := by decide +kernel
theorem dX9_record_17 : decode cX9_record 17 = .ok (.aload_n 0, 1) := by decide +kernel
theorem dX9_record_18 : decode cX9_record 18 = .ok (.getfield 16, 3) := by decide +kernel
theorem dX9_record_21 : decode cX9_record 21 = .ok (.iload_n 1, 1) := by decide +kernel
theorem dX9_record_22 : decode cX9_record 22 = .ok (.aload_n 0, 1) := by decide +kernel
theorem dX9_record_23 : decode cX9_record 23 = .ok (.getfield 16, 3) := by decide +kernel
theorem dX9_record_26 : decode cX9_record 26 = .ok (.iload_n 1, 1) := by decide +kernel
theorem dX9_record_27 : decode cX9_record 27 = .ok (.sipush 1683, 3) := by decide +kernel
theorem dX9_record_30 : decode cX9_record 30 = .ok (.iadd, 1) := by decide +kernel
theorem dX9_record_31 : decode cX9_record 31 = .ok (.iaload, 1) := by decide +kernel
theorem dX9_record_32 : decode cX9_record 32 = .ok (.iastore, 1) := by decide +kernel
theorem dX9_record_33 : decode cX9_record 33 = .ok (.iinc 1 1, 3) := by decide +kernel
theorem dX9_record_36 : decode cX9_record 36 = .ok (.goto (-26), 3) := by decide +kernel
theorem dX9_record_39 : decode cX9_record 39 = .ok (.aload_n 0, 1) := by decide +kernel
theorem dX9_record_40 : decode cX9_record 40 = .ok (.dup, 1) := by decide +kernel
theorem dX9_record_41 : decode cX9_record 41 = .ok (.getfield 28, 3) := by decide +kernel
theorem dX9_record_44 : decode cX9_record 44 = .ok (.iconst 1, 1) := by decide +kernel
theorem dX9_record_45 : decode cX9_record 45 = .ok (.isub, 1) := by decide +kernel
theorem dX9_record_46 : decode cX9_record 46 = .ok (.putfield 28, 3) := by decide +kernel
theorem dX9_record_49 : decode cX9_record 49 = .ok (.iconst 0, 1) := by decide +kernel
theorem dX9_record_50 : decode cX9_record 50 = .ok (.istore_n 1, 1) := by decide +kernel
theorem dX9_record_51 : decode cX9_record 51 = .ok (.iload_n 1, 1) := by decide +kernel
theorem dX9_record_52 : decode cX9_record 52 = .ok (.sipush 1683, 3) := by decide +kernel
theorem dX9_record_55 : decode cX9_record 55 = .ok (.if_icmp .ge 30, 3) := by decide +kernel
theorem dX9_record_58 : decode cX9_record 58 = .ok (.aload_n 0, 1) := by decide +kernel
theorem dX9_record_59 : decode cX9_record 59 = .ok (.getfield 16, 3) := by decide +kernel
theorem dX9_record_62 : decode cX9_record 62 = .ok (.sipush 1683, 3) := by decide +kernel
theorem dX9_record_65 : decode cX9_record 65 = .ok (.aload_n 0, 1) := by decide +kernel
theorem dX9_record_66 : decode cX9_record 66 = .ok (.getfield 28, 3) := by decide +kernel
theorem dX9_record_69 : decode cX9_record 69 = .ok (.imul, 1) := by decide +kernel
theorem dX9_record_70 : decode cX9_record 70 = .ok (.iload_n 1, 1) := by decide +kernel
theorem dX9_record_71 : decode cX9_record 71 = .ok (.iadd, 1) := by decide +kernel
theorem dX9_record_72 : decode cX9_record 72 = .ok (.aload_n 0, 1) := by decide +kernel
theorem dX9_record_73 : decode cX9_record 73 = .ok (.getfield 7, 3) := by decide +kernel
theorem dX9_record_76 : decode cX9_record 76 = .ok (.iload_n 1, 1) := by decide +kernel
theorem dX9_record_77 : decode cX9_record 77 = .ok (.iaload, 1) := by decide +kernel
theorem dX9_record_78 : decode cX9_record 78 = .ok (.iastore, 1) := by decide +kernel
theorem dX9_record_79 : decode cX9_record 79 = .ok (.iinc 1 1, 3) := by decide +kernel
theorem dX9_record_82 : decode cX9_record 82 = .ok (.goto (-31), 3) := by decide +kernel
theorem dX9_record_85 : decode cX9_record 85 = .ok (.aload_n 0, 1) := by decide +kernel
theorem dX9_record_86 : decode cX9_record 86 = .ok (.dup, 1) := by decide +kernel
theorem dX9_record_87 : decode cX9_record 87 = .ok (.getfield 28, 3) := by decide +kernel
theorem dX9_record_90 : decode cX9_record 90 = .ok (.iconst 1, 1) := by decide +kernel
theorem dX9_record_91 : decode cX9_record 91 = .ok (.iadd, 1) := by decide +kernel
theorem dX9_record_92 : decode cX9_record 92 = .ok (.putfield 28, 3) := by decide +kernel
theorem dX9_record_95 : decode cX9_record 95 = .ok (.return_, 1) := by decide +kernel
theorem dX9_isClient_0 : decode cX9_isClient 0 = .ok (.iload_n 1, 1) := by decide +kernel
theorem dX9_isClient_1 : decode cX9_isClient 1 = .ok (.iconst 0, 1) := by decide +kernel
theorem dX9_isClient_2 : decode cX9_isClient 2 = .ok (.aload_n 0, 1) := by decide +kernel
theorem dX9_isClient_3 : decode cX9_isClient 3 = .ok (.getfield 7, 3) := by decide +kernel
theorem dX9_isClient_6 : decode cX9_isClient 6 = .ok (.iconst 1, 1) := by decide +kernel
theorem dX9_isClient_7 : decode cX9_isClient 7 = .ok (.iaload, 1) := by decide +kernel
theorem dX9_isClient_8 : decode cX9_isClient 8 = .ok (.iconst 1, 1) := by decide +kernel
theorem dX9_isClient_9 : decode cX9_isClient 9 = .ok (.isub, 1) := by decide +kernel
theorem dX9_isClient_10 : decode cX9_isClient 10 = .ok (.invokestatic 32, 3) := by decide +kernel
theorem dX9_isClient_13 : decode cX9_isClient 13 = .ok (.ireturn, 1) := by decide +kernel
theorem dX9_isStory_0 : decode cX9_isStory 0 = .ok (.iload_n 1, 1) := by decide +kernel
theorem dX9_isStory_1 : decode cX9_isStory 1 = .ok (.iconst 0, 1) := by decide +kernel
theorem dX9_isStory_2 : decode cX9_isStory 2 = .ok (.aload_n 0, 1) := by decide +kernel
theorem dX9_isStory_3 : decode cX9_isStory 3 = .ok (.getfield 7, 3) := by decide +kernel
theorem dX9_isStory_6 : decode cX9_isStory 6 = .ok (.iconst 2, 1) := by decide +kernel
theorem dX9_isStory_7 : decode cX9_isStory 7 = .ok (.iaload, 1) := by decide +kernel
theorem dX9_isStory_8 : decode cX9_isStory 8 = .ok (.iconst 1, 1) := by decide +kernel
theorem dX9_isStory_9 : decode cX9_isStory 9 = .ok (.isub, 1) := by decide +kernel
theorem dX9_isStory_10 : decode cX9_isStory 10 = .ok (.invokestatic 32, 3) := by decide +kernel
theorem dX9_isStory_13 : decode cX9_isStory 13 = .ok (.ireturn, 1) := by decide +kernel
theorem dX9_clientAt_0 : decode cX9_clientAt 0 = .ok (.bipush 7, 2) := by decide +kernel
theorem dX9_clientAt_2 : decode cX9_clientAt 2 = .ok (.bipush 10, 2) := by decide +kernel
theorem dX9_clientAt_4 : decode cX9_clientAt 4 = .ok (.iload_n 0, 1) := by decide +kernel
theorem dX9_clientAt_5 : decode cX9_clientAt 5 = .ok (.imul, 1) := by decide +kernel
theorem dX9_clientAt_6 : decode cX9_clientAt 6 = .ok (.iadd, 1) := by decide +kernel
theorem dX9_clientAt_7 : decode cX9_clientAt 7 = .ok (.iload_n 1, 1) := by decide +kernel
theorem dX9_clientAt_8 : decode cX9_clientAt 8 = .ok (.iadd, 1) := by decide +kernel
theorem dX9_clientAt_9 : decode cX9_clientAt 9 = .ok (.ireturn, 1) := by decide +kernel
theorem dX9_storyAt_0 : decode cX9_storyAt 0 = .ok (.bipush 107, 2) := by decide +kernel
theorem dX9_storyAt_2 : decode cX9_storyAt 2 = .ok (.bipush 29, 2) := by decide +kernel
theorem dX9_storyAt_4 : decode cX9_storyAt 4 = .ok (.iload_n 0, 1) := by decide +kernel
theorem dX9_storyAt_5 : decode cX9_storyAt 5 = .ok (.imul, 1) := by decide +kernel
theorem dX9_storyAt_6 : decode cX9_storyAt 6 = .ok (.iadd, 1) := by decide +kernel
theorem dX9_storyAt_7 : decode cX9_storyAt 7 = .ok (.iload_n 1, 1) := by decide +kernel
theorem dX9_storyAt_8 : decode cX9_storyAt 8 = .ok (.iadd, 1) := by decide +kernel
theorem dX9_storyAt_9 : decode cX9_storyAt 9 = .ok (.ireturn, 1) := by decide +kernel
theorem dX9_atCopy_0 : decode cX9_atCopy 0 = .ok (.sipush 687, 3) := by decide +kernel
theorem dX9_atCopy_3 : decode cX9_atCopy 3 = .ok (.bipush 6, 2) := by decide +kernel
theorem dX9_atCopy_5 : decode cX9_atCopy 5 = .ok (.iload_n 0, 1) := by decide +kernel
theorem dX9_atCopy_6 : decode cX9_atCopy 6 = .ok (.imul, 1) := by decide +kernel
theorem dX9_atCopy_7 : decode cX9_atCopy 7 = .ok (.iadd, 1) := by decide +kernel
theorem dX9_atCopy_8 : decode cX9_atCopy 8 = .ok (.iload_n 1, 1) := by decide +kernel
theorem dX9_atCopy_9 : decode cX9_atCopy 9 = .ok (.iadd, 1) := by decide +kernel
theorem dX9_atCopy_10 : decode cX9_atCopy 10 = .ok (.ireturn, 1) := by decide +kernel
theorem dX9_ofClient_0 : decode cX9_ofClient 0 = .ok (.aload_n 0, 1) := by decide +kernel
theorem dX9_ofClient_1 : decode cX9_ofClient 1 = .ok (.getfield 7, 3) := by decide +kernel
theorem dX9_ofClient_4 : decode cX9_ofClient 4 = .ok (.iload_n 1, 1) := by decide +kernel
theorem dX9_ofClient_5 : decode cX9_ofClient 5 = .ok (.iload_n 2, 1) := by decide +kernel
theorem dX9_ofClient_6 : decode cX9_ofClient 6 = .ok (.invokestatic 36, 3) := by decide +kernel
theorem dX9_ofClient_9 : decode cX9_ofClient 9 = .ok (.iaload, 1) := by decide +kernel
theorem dX9_ofClient_10 : decode cX9_ofClient 10 = .ok (.ireturn, 1) := by decide +kernel
theorem dX9_ofStory_0 : decode cX9_ofStory 0 = .ok (.aload_n 0, 1) := by decide +kernel
theorem dX9_ofStory_1 : decode cX9_ofStory 1 = .ok (.getfield 7, 3) := by decide +kernel
theorem dX9_ofStory_4 : decode cX9_ofStory 4 = .ok (.iload_n 1, 1) := by decide +kernel
theorem dX9_ofStory_5 : decode cX9_ofStory 5 = .ok (.iload_n 2, 1) := by decide +kernel
theorem dX9_ofStory_6 : decode cX9_ofStory 6 = .ok (.invokestatic 40, 3) := by decide +kernel
theorem dX9_ofStory_9 : decode cX9_ofStory 9 = .ok (.iaload, 1) := by decide +kernel
theorem dX9_ofStory_10 : decode cX9_ofStory 10 = .ok (.ireturn, 1) := by decide +kernel
theorem dX9_ofCopy_0 : decode cX9_ofCopy 0 = .ok (.aload_n 0, 1) := by decide +kernel
theorem dX9_ofCopy_1 : decode cX9_ofCopy 1 = .ok (.getfield 7, 3) := by decide +kernel
theorem dX9_ofCopy_4 : decode cX9_ofCopy 4 = .ok (.iload_n 1, 1) := by decide +kernel
theorem dX9_ofCopy_5 : decode cX9_ofCopy 5 = .ok (.iload_n 2, 1) := by decide +kernel
theorem dX9_ofCopy_6 : decode cX9_ofCopy 6 = .ok (.invokestatic 43, 3) := by decide +kernel
theorem dX9_ofCopy_9 : decode cX9_ofCopy 9 = .ok (.iaload, 1) := by decide +kernel
theorem dX9_ofCopy_10 : decode cX9_ofCopy 10 = .ok (.ireturn, 1) := by decide +kernel
theorem dX9_log_0 : decode cX9_log 0 = .ok (.bipush 35, 2) := by decide +kernel
theorem dX9_log_2 : decode cX9_log 2 = .ok (.istore 4, 2) := by decide +kernel
theorem dX9_log_4 : decode cX9_log 4 = .ok (.iload 4, 2) := by decide +kernel
theorem dX9_log_6 : decode cX9_log 6 = .ok (.iconst 2, 1) := by decide +kernel
theorem dX9_log_7 : decode cX9_log 7 = .ok (.if_icmp .le 33, 3) := by decide +kernel
theorem dX9_log_10 : decode cX9_log 10 = .ok (.aload_n 0, 1) := by decide +kernel
theorem dX9_log_11 : decode cX9_log 11 = .ok (.getfield 7, 3) := by decide +kernel
theorem dX9_log_14 : decode cX9_log 14 = .ok (.sipush 1647, 3) := by decide +kernel
theorem dX9_log_17 : decode cX9_log 17 = .ok (.iload 4, 2) := by decide +kernel
theorem dX9_log_19 : decode cX9_log 19 = .ok (.iadd, 1) := by decide +kernel
theorem dX9_log_20 : decode cX9_log 20 = .ok (.aload_n 0, 1) := by decide +kernel
theorem dX9_log_21 : decode cX9_log 21 = .ok (.getfield 7, 3) := by decide +kernel
theorem dX9_log_24 : decode cX9_log 24 = .ok (.sipush 1647, 3) := by decide +kernel
theorem dX9_log_27 : decode cX9_log 27 = .ok (.iload 4, 2) := by decide +kernel
theorem dX9_log_29 : decode cX9_log 29 = .ok (.iadd, 1) := by decide +kernel
theorem dX9_log_30 : decode cX9_log 30 = .ok (.iconst 3, 1) := by decide +kernel
theorem dX9_log_31 : decode cX9_log 31 = .ok (.isub, 1) := by decide +kernel
theorem dX9_log_32 : decode cX9_log 32 = .ok (.iaload, 1) := by decide +kernel
theorem dX9_log_33 : decode cX9_log 33 = .ok (.iastore, 1) := by decide +kernel
theorem dX9_log_34 : decode cX9_log 34 = .ok (.iinc 4 (-1), 3) := by decide +kernel
theorem dX9_log_37 : decode cX9_log 37 = .ok (.goto (-33), 3) := by decide +kernel
theorem dX9_log_40 : decode cX9_log 40 = .ok (.aload_n 0, 1) := by decide +kernel
theorem dX9_log_41 : decode cX9_log 41 = .ok (.getfield 7, 3) := by decide +kernel
theorem dX9_log_44 : decode cX9_log 44 = .ok (.sipush 1647, 3) := by decide +kernel
theorem dX9_log_47 : decode cX9_log 47 = .ok (.iload_n 1, 1) := by decide +kernel
theorem dX9_log_48 : decode cX9_log 48 = .ok (.iastore, 1) := by decide +kernel
theorem dX9_log_49 : decode cX9_log 49 = .ok (.aload_n 0, 1) := by decide +kernel
theorem dX9_log_50 : decode cX9_log 50 = .ok (.getfield 7, 3) := by decide +kernel
theorem dX9_log_53 : decode cX9_log 53 = .ok (.sipush 1648, 3) := by decide +kernel
theorem dX9_log_56 : decode cX9_log 56 = .ok (.bipush 10, 2) := by decide +kernel
theorem dX9_log_58 : decode cX9_log 58 = .ok (.iload_n 2, 1) := by decide +kernel
theorem dX9_log_59 : decode cX9_log 59 = .ok (.imul, 1) := by decide +kernel
theorem dX9_log_60 : decode cX9_log 60 = .ok (.iload_n 3, 1) := by decide +kernel
theorem dX9_log_61 : decode cX9_log 61 = .ok (.ifCond .ge 8, 3) := by decide +kernel
theorem dX9_log_64 : decode cX9_log 64 = .ok (.bipush 9, 2) := by decide +kernel
theorem dX9_log_66 : decode cX9_log 66 = .ok (.goto 4, 3) := by decide +kernel
theorem dX9_log_69 : decode cX9_log 69 = .ok (.iload_n 3, 1) := by decide +kernel
theorem dX9_log_70 : decode cX9_log 70 = .ok (.iadd, 1) := by decide +kernel
theorem dX9_log_71 : decode cX9_log 71 = .ok (.iastore, 1) := by decide +kernel
theorem dX9_log_72 : decode cX9_log 72 = .ok (.aload_n 0, 1) := by decide +kernel
theorem dX9_log_73 : decode cX9_log 73 = .ok (.getfield 7, 3) := by decide +kernel
theorem dX9_log_76 : decode cX9_log 76 = .ok (.sipush 1649, 3) := by decide +kernel
theorem dX9_log_79 : decode cX9_log 79 = .ok (.aload_n 0, 1) := by decide +kernel
theorem dX9_log_80 : decode cX9_log 80 = .ok (.getfield 7, 3) := by decide +kernel
theorem dX9_log_83 : decode cX9_log 83 = .ok (.iconst 0, 1) := by decide +kernel
theorem dX9_log_84 : decode cX9_log 84 = .ok (.iaload, 1) := by decide +kernel
theorem dX9_log_85 : decode cX9_log 85 = .ok (.iastore, 1) := by decide +kernel
theorem dX9_log_86 : decode cX9_log 86 = .ok (.aload_n 0, 1) := by decide +kernel
theorem dX9_log_87 : decode cX9_log 87 = .ok (.getfield 7, 3) := by decide +kernel
theorem dX9_log_90 : decode cX9_log 90 = .ok (.bipush 6, 2) := by decide +kernel
theorem dX9_log_92 : decode cX9_log 92 = .ok (.dup2, 1) := by decide +kernel
theorem dX9_log_93 : decode cX9_log 93 = .ok (.iaload, 1) := by decide +kernel
theorem dX9_log_94 : decode cX9_log 94 = .ok (.aload_n 0, 1) := by decide +kernel
theorem dX9_log_95 : decode cX9_log 95 = .ok (.getfield 7, 3) := by decide +kernel
theorem dX9_log_98 : decode cX9_log 98 = .ok (.bipush 6, 2) := by decide +kernel
theorem dX9_log_100 : decode cX9_log 100 = .ok (.iaload, 1) := by decide +kernel
theorem dX9_log_101 : decode cX9_log 101 = .ok (.bipush 12, 2) := by decide +kernel
theorem dX9_log_103 : decode cX9_log 103 = .ok (.if_icmp .ge 7, 3) := by decide +kernel
theorem dX9_log_106 : decode cX9_log 106 = .ok (.iconst 1, 1) := by decide +kernel
theorem dX9_log_107 : decode cX9_log 107 = .ok (.goto 4, 3) := by decide +kernel
theorem dX9_log_110 : decode cX9_log 110 = .ok (.iconst 0, 1) := by decide +kernel
theorem dX9_log_111 : decode cX9_log 111 = .ok (.iadd, 1) := by decide +kernel
theorem dX9_log_112 : decode cX9_log 112 = .ok (.iastore, 1) := by decide +kernel
theorem dX9_log_113 : decode cX9_log 113 = .ok (.return_, 1) := by decide +kernel
theorem dX9_wants_0 : decode cX9_wants 0 = .ok (.aload_n 0, 1) := by decide +kernel
theorem dX9_wants_1 : decode cX9_wants 1 = .ok (.iload_n 1, 1) := by decide +kernel
theorem dX9_wants_2 : decode cX9_wants 2 = .ok (.iconst 0, 1) := by decide +kernel
theorem dX9_wants_3 : decode cX9_wants 3 = .ok (.invokevirtual 46, 3) := by decide +kernel
theorem dX9_wants_6 : decode cX9_wants 6 = .ok (.aload_n 0, 1) := by decide +kernel
theorem dX9_wants_7 : decode cX9_wants 7 = .ok (.iload_n 2, 1) := by decide +kernel
theorem dX9_wants_8 : decode cX9_wants 8 = .ok (.iconst 0, 1) := by decide +kernel
theorem dX9_wants_9 : decode cX9_wants 9 = .ok (.invokevirtual 49, 3) := by decide +kernel
theorem dX9_wants_12 : decode cX9_wants 12 = .ok (.ishr, 1) := by decide +kernel
theorem dX9_wants_13 : decode cX9_wants 13 = .ok (.iconst 1, 1) := by decide +kernel
theorem dX9_wants_14 : decode cX9_wants 14 = .ok (.iand, 1) := by decide +kernel
theorem dX9_wants_15 : decode cX9_wants 15 = .ok (.iconst 1, 1) := by decide +kernel
theorem dX9_wants_16 : decode cX9_wants 16 = .ok (.if_icmp .ne 7, 3) := by decide +kernel
theorem dX9_wants_19 : decode cX9_wants 19 = .ok (.iconst 1, 1) := by decide +kernel
theorem dX9_wants_20 : decode cX9_wants 20 = .ok (.goto 4, 3) := by decide +kernel
theorem dX9_wants_23 : decode cX9_wants 23 = .ok (.iconst 0, 1) := by decide +kernel
theorem dX9_wants_24 : decode cX9_wants 24 = .ok (.ireturn, 1) := by decide +kernel
theorem dX9_publish_0 : decode cX9_publish 0 = .ok (.aload_n 0, 1) := by decide +kernel
theorem dX9_publish_1 : decode cX9_publish 1 = .ok (.getfield 7, 3) := by decide +kernel
theorem dX9_publish_4 : decode cX9_publish 4 = .ok (.iload_n 1, 1) := by decide +kernel
theorem dX9_publish_5 : decode cX9_publish 5 = .ok (.bipush 6, 2) := by decide +kernel
theorem dX9_publish_7 : decode cX9_publish 7 = .ok (.invokestatic 40, 3) := by decide +kernel
theorem dX9_publish_10 : decode cX9_publish 10 = .ok (.iconst 2, 1) := by decide +kernel
theorem dX9_publish_11 : decode cX9_publish 11 = .ok (.iastore, 1) := by decide +kernel
theorem dX9_publish_12 : decode cX9_publish 12 = .ok (.aload_n 0, 1) := by decide +kernel
theorem dX9_publish_13 : decode cX9_publish 13 = .ok (.getfield 7, 3) := by decide +kernel
theorem dX9_publish_16 : decode cX9_publish 16 = .ok (.iload_n 1, 1) := by decide +kernel
theorem dX9_publish_17 : decode cX9_publish 17 = .ok (.bipush 8, 2) := by decide +kernel
theorem dX9_publish_19 : decode cX9_publish 19 = .ok (.invokestatic 40, 3) := by decide +kernel
theorem dX9_publish_22 : decode cX9_publish 22 = .ok (.aload_n 0, 1) := by decide +kernel
theorem dX9_publish_23 : decode cX9_publish 23 = .ok (.getfield 7, 3) := by decide +kernel
theorem dX9_publish_26 : decode cX9_publish 26 = .ok (.iconst 0, 1) := by decide +kernel
theorem dX9_publish_27 : decode cX9_publish 27 = .ok (.iaload, 1) := by decide +kernel
theorem dX9_publish_28 : decode cX9_publish 28 = .ok (.iastore, 1) := by decide +kernel
theorem dX9_publish_29 : decode cX9_publish 29 = .ok (.aload_n 0, 1) := by decide +kernel
theorem dX9_publish_30 : decode cX9_publish 30 = .ok (.iconst 0, 1) := by decide +kernel
theorem dX9_publish_31 : decode cX9_publish 31 = .ok (.iload_n 1, 1) := by decide +kernel
theorem dX9_publish_32 : decode cX9_publish 32 = .ok (.bipush (-5), 2) := by decide +kernel
theorem dX9_publish_34 : decode cX9_publish 34 = .ok (.invokevirtual 52, 3) := by decide +kernel
theorem dX9_publish_37 : decode cX9_publish 37 = .ok (.iconst 0, 1) := by decide +kernel
theorem dX9_publish_38 : decode cX9_publish 38 = .ok (.istore_n 2, 1) := by decide +kernel
theorem dX9_publish_39 : decode cX9_publish 39 = .ok (.iload_n 2, 1) := by decide +kernel
theorem dX9_publish_40 : decode cX9_publish 40 = .ok (.aload_n 0, 1) := by decide +kernel
theorem dX9_publish_41 : decode cX9_publish 41 = .ok (.getfield 7, 3) := by decide +kernel
theorem dX9_publish_44 : decode cX9_publish 44 = .ok (.iconst 1, 1) := by decide +kernel
theorem dX9_publish_45 : decode cX9_publish 45 = .ok (.iaload, 1) := by decide +kernel
theorem dX9_publish_46 : decode cX9_publish 46 = .ok (.if_icmp .ge 115, 3) := by decide +kernel
theorem dX9_publish_49 : decode cX9_publish 49 = .ok (.aload_n 0, 1) := by decide +kernel
theorem dX9_publish_50 : decode cX9_publish 50 = .ok (.iload_n 2, 1) := by decide +kernel
theorem dX9_publish_51 : decode cX9_publish 51 = .ok (.iload_n 1, 1) := by decide +kernel
theorem dX9_publish_52 : decode cX9_publish 52 = .ok (.invokevirtual 56, 3) := by decide +kernel
theorem dX9_publish_55 : decode cX9_publish 55 = .ok (.ifCond .eq 100, 3) := by decide +kernel
theorem dX9_publish_58 : decode cX9_publish 58 = .ok (.aload_n 0, 1) := by decide +kernel
theorem dX9_publish_59 : decode cX9_publish 59 = .ok (.getfield 7, 3) := by decide +kernel
theorem dX9_publish_62 : decode cX9_publish 62 = .ok (.iconst 3, 1) := by decide +kernel
theorem dX9_publish_63 : decode cX9_publish 63 = .ok (.iaload, 1) := by decide +kernel
theorem dX9_publish_64 : decode cX9_publish 64 = .ok (.istore_n 3, 1) := by decide +kernel
theorem dX9_publish_65 : decode cX9_publish 65 = .ok (.aload_n 0, 1) := by decide +kernel
theorem dX9_publish_66 : decode cX9_publish 66 = .ok (.getfield 7, 3) := by decide +kernel
theorem dX9_publish_69 : decode cX9_publish 69 = .ok (.iload_n 3, 1) := by decide +kernel
theorem dX9_publish_70 : decode cX9_publish 70 = .ok (.iconst 0, 1) := by decide +kernel
theorem dX9_publish_71 : decode cX9_publish 71 = .ok (.invokestatic 43, 3) := by decide +kernel
theorem dX9_publish_74 : decode cX9_publish 74 = .ok (.iload_n 1, 1) := by decide +kernel
theorem dX9_publish_75 : decode cX9_publish 75 = .ok (.iastore, 1) := by decide +kernel
theorem dX9_publish_76 : decode cX9_publish 76 = .ok (.aload_n 0, 1) := by decide +kernel
theorem dX9_publish_77 : decode cX9_publish 77 = .ok (.getfield 7, 3) := by decide +kernel
theorem dX9_publish_80 : decode cX9_publish 80 = .ok (.iload_n 3, 1) := by decide +kernel
theorem dX9_publish_81 : decode cX9_publish 81 = .ok (.iconst 1, 1) := by decide +kernel
theorem dX9_publish_82 : decode cX9_publish 82 = .ok (.invokestatic 43, 3) := by decide +kernel
theorem dX9_publish_85 : decode cX9_publish 85 = .ok (.iload_n 2, 1) := by decide +kernel
theorem dX9_publish_86 : decode cX9_publish 86 = .ok (.iastore, 1) := by decide +kernel
theorem dX9_publish_87 : decode cX9_publish 87 = .ok (.aload_n 0, 1) := by decide +kernel
theorem dX9_publish_88 : decode cX9_publish 88 = .ok (.getfield 7, 3) := by decide +kernel
theorem dX9_publish_91 : decode cX9_publish 91 = .ok (.iload_n 3, 1) := by decide +kernel
theorem dX9_publish_92 : decode cX9_publish 92 = .ok (.iconst 2, 1) := by decide +kernel
theorem dX9_publish_93 : decode cX9_publish 93 = .ok (.invokestatic 43, 3) := by decide +kernel
theorem dX9_publish_96 : decode cX9_publish 96 = .ok (.iconst 0, 1) := by decide +kernel
theorem dX9_publish_97 : decode cX9_publish 97 = .ok (.iastore, 1) := by decide +kernel
theorem dX9_publish_98 : decode cX9_publish 98 = .ok (.aload_n 0, 1) := by decide +kernel
theorem dX9_publish_99 : decode cX9_publish 99 = .ok (.getfield 7, 3) := by decide +kernel
theorem dX9_publish_102 : decode cX9_publish 102 = .ok (.iload_n 3, 1) := by decide +kernel
theorem dX9_publish_103 : decode cX9_publish 103 = .ok (.iconst 3, 1) := by decide +kernel
theorem dX9_publish_104 : decode cX9_publish 104 = .ok (.invokestatic 43, 3) := by decide +kernel
theorem dX9_publish_107 : decode cX9_publish 107 = .ok (.aload_n 0, 1) := by decide +kernel
theorem dX9_publish_108 : decode cX9_publish 108 = .ok (.getfield 7, 3) := by decide +kernel
theorem dX9_publish_111 : decode cX9_publish 111 = .ok (.iconst 0, 1) := by decide +kernel
theorem dX9_publish_112 : decode cX9_publish 112 = .ok (.iaload, 1) := by decide +kernel
theorem dX9_publish_113 : decode cX9_publish 113 = .ok (.aload_n 0, 1) := by decide +kernel
theorem dX9_publish_114 : decode cX9_publish 114 = .ok (.iload_n 2, 1) := by decide +kernel
theorem dX9_publish_115 : decode cX9_publish 115 = .ok (.iconst 1, 1) := by decide +kernel
theorem dX9_publish_116 : decode cX9_publish 116 = .ok (.invokevirtual 46, 3) := by decide +kernel
theorem dX9_publish_119 : decode cX9_publish 119 = .ok (.iadd, 1) := by decide +kernel
theorem dX9_publish_120 : decode cX9_publish 120 = .ok (.iastore, 1) := by decide +kernel
theorem dX9_publish_121 : decode cX9_publish 121 = .ok (.aload_n 0, 1) := by decide +kernel
theorem dX9_publish_122 : decode cX9_publish 122 = .ok (.getfield 7, 3) := by decide +kernel
theorem dX9_publish_125 : decode cX9_publish 125 = .ok (.iload_n 3, 1) := by decide +kernel
theorem dX9_publish_126 : decode cX9_publish 126 = .ok (.iconst 4, 1) := by decide +kernel
theorem dX9_publish_127 : decode cX9_publish 127 = .ok (.invokestatic 43, 3) := by decide +kernel
theorem dX9_publish_130 : decode cX9_publish 130 = .ok (.bipush (-5), 2) := by decide +kernel
theorem dX9_publish_132 : decode cX9_publish 132 = .ok (.iastore, 1) := by decide +kernel
theorem dX9_publish_133 : decode cX9_publish 133 = .ok (.aload_n 0, 1) := by decide +kernel
theorem dX9_publish_134 : decode cX9_publish 134 = .ok (.getfield 7, 3) := by decide +kernel
theorem dX9_publish_137 : decode cX9_publish 137 = .ok (.iload_n 3, 1) := by decide +kernel
theorem dX9_publish_138 : decode cX9_publish 138 = .ok (.iconst 5, 1) := by decide +kernel
theorem dX9_publish_139 : decode cX9_publish 139 = .ok (.invokestatic 43, 3) := by decide +kernel
theorem dX9_publish_142 : decode cX9_publish 142 = .ok (.bipush (-5), 2) := by decide +kernel
theorem dX9_publish_144 : decode cX9_publish 144 = .ok (.iastore, 1) := by decide +kernel
theorem dX9_publish_145 : decode cX9_publish 145 = .ok (.aload_n 0, 1) := by decide +kernel
theorem dX9_publish_146 : decode cX9_publish 146 = .ok (.getfield 7, 3) := by decide +kernel
theorem dX9_publish_149 : decode cX9_publish 149 = .ok (.iconst 3, 1) := by decide +kernel
theorem dX9_publish_150 : decode cX9_publish 150 = .ok (.dup2, 1) := by decide +kernel
theorem dX9_publish_151 : decode cX9_publish 151 = .ok (.iaload, 1) := by decide +kernel
theorem dX9_publish_152 : decode cX9_publish 152 = .ok (.iconst 1, 1) := by decide +kernel
theorem dX9_publish_153 : decode cX9_publish 153 = .ok (.iadd, 1) := by decide +kernel
theorem dX9_publish_154 : decode cX9_publish 154 = .ok (.iastore, 1) := by decide +kernel
theorem dX9_publish_155 : decode cX9_publish 155 = .ok (.iinc 2 1, 3) := by decide +kernel
theorem dX9_publish_158 : decode cX9_publish 158 = .ok (.goto (-119), 3) := by decide +kernel
theorem dX9_publish_161 : decode cX9_publish 161 = .ok (.return_, 1) := by decide +kernel
theorem dX9_share_0 : decode cX9_share 0 = .ok (.bipush 87, 2) := by decide +kernel
theorem dX9_share_2 : decode cX9_share 2 = .ok (.iconst 2, 1) := by decide +kernel
theorem dX9_share_3 : decode cX9_share 3 = .ok (.iload_n 1, 1) := by decide +kernel
theorem dX9_share_4 : decode cX9_share 4 = .ok (.imul, 1) := by decide +kernel
theorem dX9_share_5 : decode cX9_share 5 = .ok (.iadd, 1) := by decide +kernel
theorem dX9_share_6 : decode cX9_share 6 = .ok (.istore_n 3, 1) := by decide +kernel
theorem dX9_share_7 : decode cX9_share 7 = .ok (.iload_n 2, 1) := by decide +kernel
theorem dX9_share_8 : decode cX9_share 8 = .ok (.ldc 60, 2) := by decide +kernel
theorem dX9_share_10 : decode cX9_share 10 = .ok (.aload_n 0, 1) := by decide +kernel
theorem dX9_share_11 : decode cX9_share 11 = .ok (.getfield 7, 3) := by decide +kernel
theorem dX9_share_14 : decode cX9_share 14 = .ok (.iload_n 3, 1) := by decide +kernel
theorem dX9_share_15 : decode cX9_share 15 = .ok (.iaload, 1) := by decide +kernel
theorem dX9_share_16 : decode cX9_share 16 = .ok (.isub, 1) := by decide +kernel
theorem dX9_share_17 : decode cX9_share 17 = .ok (.if_icmp .le 18, 3) := by decide +kernel
theorem dX9_share_20 : decode cX9_share 20 = .ok (.aload_n 0, 1) := by decide +kernel
theorem dX9_share_21 : decode cX9_share 21 = .ok (.getfield 7, 3) := by decide +kernel
theorem dX9_share_24 : decode cX9_share 24 = .ok (.iload_n 3, 1) := by decide +kernel
theorem dX9_share_25 : decode cX9_share 25 = .ok (.iconst 1, 1) := by decide +kernel
theorem dX9_share_26 : decode cX9_share 26 = .ok (.iadd, 1) := by decide +kernel
theorem dX9_share_27 : decode cX9_share 27 = .ok (.dup2, 1) := by decide +kernel
theorem dX9_share_28 : decode cX9_share 28 = .ok (.iaload, 1) := by decide +kernel
theorem dX9_share_29 : decode cX9_share 29 = .ok (.iconst 1, 1) := by decide +kernel
theorem dX9_share_30 : decode cX9_share 30 = .ok (.iadd, 1) := by decide +kernel
theorem dX9_share_31 : decode cX9_share 31 = .ok (.iastore, 1) := by decide +kernel
theorem dX9_share_32 : decode cX9_share 32 = .ok (.goto 13, 3) := by decide +kernel
theorem dX9_share_35 : decode cX9_share 35 = .ok (.aload_n 0, 1) := by decide +kernel
theorem dX9_share_36 : decode cX9_share 36 = .ok (.getfield 7, 3) := by decide +kernel
theorem dX9_share_39 : decode cX9_share 39 = .ok (.iload_n 3, 1) := by decide +kernel
theorem dX9_share_40 : decode cX9_share 40 = .ok (.dup2, 1) := by decide +kernel
theorem dX9_share_41 : decode cX9_share 41 = .ok (.iaload, 1) := by decide +kernel
theorem dX9_share_42 : decode cX9_share 42 = .ok (.iload_n 2, 1) := by decide +kernel
theorem dX9_share_43 : decode cX9_share 43 = .ok (.iadd, 1) := by decide +kernel
theorem dX9_share_44 : decode cX9_share 44 = .ok (.iastore, 1) := by decide +kernel
theorem dX9_share_45 : decode cX9_share 45 = .ok (.return_, 1) := by decide +kernel
theorem dX9_bill_0 : decode cX9_bill 0 = .ok (.aload_n 0, 1) := by decide +kernel
theorem dX9_bill_1 : decode cX9_bill 1 = .ok (.iload_n 2, 1) := by decide +kernel
theorem dX9_bill_2 : decode cX9_bill 2 = .ok (.iconst 4, 1) := by decide +kernel
theorem dX9_bill_3 : decode cX9_bill 3 = .ok (.invokevirtual 46, 3) := by decide +kernel
theorem dX9_bill_6 : decode cX9_bill 6 = .ok (.istore_n 3, 1) := by decide +kernel
theorem dX9_bill_7 : decode cX9_bill 7 = .ok (.iload_n 3, 1) := by decide +kernel
theorem dX9_bill_8 : decode cX9_bill 8 = .ok (.ldc 60, 2) := by decide +kernel
theorem dX9_bill_10 : decode cX9_bill 10 = .ok (.aload_n 0, 1) := by decide +kernel
theorem dX9_bill_11 : decode cX9_bill 11 = .ok (.iload_n 2, 1) := by decide +kernel
theorem dX9_bill_12 : decode cX9_bill 12 = .ok (.bipush 6, 2) := by decide +kernel
theorem dX9_bill_14 : decode cX9_bill 14 = .ok (.invokevirtual 46, 3) := by decide +kernel
theorem dX9_bill_17 : decode cX9_bill 17 = .ok (.isub, 1) := by decide +kernel
theorem dX9_bill_18 : decode cX9_bill 18 = .ok (.if_icmp .le 19, 3) := by decide +kernel
theorem dX9_bill_21 : decode cX9_bill 21 = .ok (.aload_n 0, 1) := by decide +kernel
theorem dX9_bill_22 : decode cX9_bill 22 = .ok (.getfield 7, 3) := by decide +kernel
theorem dX9_bill_25 : decode cX9_bill 25 = .ok (.iload_n 2, 1) := by decide +kernel
theorem dX9_bill_26 : decode cX9_bill 26 = .ok (.bipush 9, 2) := by decide +kernel
theorem dX9_bill_28 : decode cX9_bill 28 = .ok (.invokestatic 36, 3) := by decide +kernel
theorem dX9_bill_31 : decode cX9_bill 31 = .ok (.dup2, 1) := by decide +kernel
theorem dX9_bill_32 : decode cX9_bill 32 = .ok (.iaload, 1) := by decide +kernel
theorem dX9_bill_33 : decode cX9_bill 33 = .ok (.iconst 1, 1) := by decide +kernel
theorem dX9_bill_34 : decode cX9_bill 34 = .ok (.iadd, 1) := by decide +kernel
theorem dX9_bill_35 : decode cX9_bill 35 = .ok (.iastore, 1) := by decide +kernel
theorem dX9_bill_36 : decode cX9_bill 36 = .ok (.return_, 1) := by decide +kernel
theorem dX9_bill_37 : decode cX9_bill 37 = .ok (.aload_n 0, 1) := by decide +kernel
theorem dX9_bill_38 : decode cX9_bill 38 = .ok (.getfield 7, 3) := by decide +kernel
theorem dX9_bill_41 : decode cX9_bill 41 = .ok (.iload_n 2, 1) := by decide +kernel
theorem dX9_bill_42 : decode cX9_bill 42 = .ok (.bipush 6, 2) := by decide +kernel
theorem dX9_bill_44 : decode cX9_bill 44 = .ok (.invokestatic 36, 3) := by decide +kernel
theorem dX9_bill_47 : decode cX9_bill 47 = .ok (.dup2, 1) := by decide +kernel
theorem dX9_bill_48 : decode cX9_bill 48 = .ok (.iaload, 1) := by decide +kernel
theorem dX9_bill_49 : decode cX9_bill 49 = .ok (.iload_n 3, 1) := by decide +kernel
theorem dX9_bill_50 : decode cX9_bill 50 = .ok (.iadd, 1) := by decide +kernel
theorem dX9_bill_51 : decode cX9_bill 51 = .ok (.iastore, 1) := by decide +kernel
theorem dX9_bill_52 : decode cX9_bill 52 = .ok (.aload_n 0, 1) := by decide +kernel
theorem dX9_bill_53 : decode cX9_bill 53 = .ok (.iload_n 1, 1) := by decide +kernel
theorem dX9_bill_54 : decode cX9_bill 54 = .ok (.iconst 1, 1) := by decide +kernel
theorem dX9_bill_55 : decode cX9_bill 55 = .ok (.invokevirtual 49, 3) := by decide +kernel
theorem dX9_bill_58 : decode cX9_bill 58 = .ok (.istore 4, 2) := by decide +kernel
theorem dX9_bill_60 : decode cX9_bill 60 = .ok (.iconst 0, 1) := by decide +kernel
theorem dX9_bill_61 : decode cX9_bill 61 = .ok (.istore 5, 2) := by decide +kernel
theorem dX9_bill_63 : decode cX9_bill 63 = .ok (.iload 5, 2) := by decide +kernel
theorem dX9_bill_65 : decode cX9_bill 65 = .ok (.iload 4, 2) := by decide +kernel
theorem dX9_bill_67 : decode cX9_bill 67 = .ok (.if_icmp .ge 40, 3) := by decide +kernel
theorem dX9_bill_70 : decode cX9_bill 70 = .ok (.aload_n 0, 1) := by decide +kernel
theorem dX9_bill_71 : decode cX9_bill 71 = .ok (.aload_n 0, 1) := by decide +kernel
theorem dX9_bill_72 : decode cX9_bill 72 = .ok (.iload_n 1, 1) := by decide +kernel
theorem dX9_bill_73 : decode cX9_bill 73 = .ok (.iconst 2, 1) := by decide +kernel
theorem dX9_bill_74 : decode cX9_bill 74 = .ok (.iload 5, 2) := by decide +kernel
theorem dX9_bill_76 : decode cX9_bill 76 = .ok (.iadd, 1) := by decide +kernel
theorem dX9_bill_77 : decode cX9_bill 77 = .ok (.invokevirtual 49, 3) := by decide +kernel
theorem dX9_bill_80 : decode cX9_bill 80 = .ok (.iload_n 3, 1) := by decide +kernel
theorem dX9_bill_81 : decode cX9_bill 81 = .ok (.iload 4, 2) := by decide +kernel
theorem dX9_bill_83 : decode cX9_bill 83 = .ok (.idiv, 1) := by decide +kernel
theorem dX9_bill_84 : decode cX9_bill 84 = .ok (.iload 5, 2) := by decide +kernel
theorem dX9_bill_86 : decode cX9_bill 86 = .ok (.ifCond .ne 10, 3) := by decide +kernel
theorem dX9_bill_89 : decode cX9_bill 89 = .ok (.iload_n 3, 1) := by decide +kernel
theorem dX9_bill_90 : decode cX9_bill 90 = .ok (.iload 4, 2) := by decide +kernel
theorem dX9_bill_92 : decode cX9_bill 92 = .ok (.irem, 1) := by decide +kernel
theorem dX9_bill_93 : decode cX9_bill 93 = .ok (.goto 4, 3) := by decide +kernel
theorem dX9_bill_96 : decode cX9_bill 96 = .ok (.iconst 0, 1) := by decide +kernel
theorem dX9_bill_97 : decode cX9_bill 97 = .ok (.iadd, 1) := by decide +kernel
theorem dX9_bill_98 : decode cX9_bill 98 = .ok (.invokevirtual 61, 3) := by decide +kernel
theorem dX9_bill_101 : decode cX9_bill 101 = .ok (.iinc 5 1, 3) := by decide +kernel
theorem dX9_bill_104 : decode cX9_bill 104 = .ok (.goto (-41), 3) := by decide +kernel
theorem dX9_bill_107 : decode cX9_bill 107 = .ok (.return_, 1) := by decide +kernel
theorem dX9_useEnds_0 : decode cX9_useEnds 0 = .ok (.aload_n 0, 1) := by decide +kernel
theorem dX9_useEnds_1 : decode cX9_useEnds 1 = .ok (.iload_n 1, 1) := by decide +kernel
theorem dX9_useEnds_2 : decode cX9_useEnds 2 = .ok (.iconst 4, 1) := by decide +kernel
theorem dX9_useEnds_3 : decode cX9_useEnds 3 = .ok (.invokevirtual 65, 3) := by decide +kernel
theorem dX9_useEnds_6 : decode cX9_useEnds 6 = .ok (.aload_n 0, 1) := by decide +kernel
theorem dX9_useEnds_7 : decode cX9_useEnds 7 = .ok (.getfield 7, 3) := by decide +kernel
theorem dX9_useEnds_10 : decode cX9_useEnds 10 = .ok (.iconst 4, 1) := by decide +kernel
theorem dX9_useEnds_11 : decode cX9_useEnds 11 = .ok (.iaload, 1) := by decide +kernel
theorem dX9_useEnds_12 : decode cX9_useEnds 12 = .ok (.bipush 24, 2) := by decide +kernel
theorem dX9_useEnds_14 : decode cX9_useEnds 14 = .ok (.imul, 1) := by decide +kernel
theorem dX9_useEnds_15 : decode cX9_useEnds 15 = .ok (.iadd, 1) := by decide +kernel
theorem dX9_useEnds_16 : decode cX9_useEnds 16 = .ok (.ireturn, 1) := by decide +kernel
theorem dX9_killDue_0 : decode cX9_killDue 0 = .ok (.aload_n 0, 1) := by decide +kernel
theorem dX9_killDue_1 : decode cX9_killDue 1 = .ok (.aload_n 0, 1) := by decide +kernel
theorem dX9_killDue_2 : decode cX9_killDue 2 = .ok (.iload_n 1, 1) := by decide +kernel
theorem dX9_killDue_3 : decode cX9_killDue 3 = .ok (.iconst 0, 1) := by decide +kernel
theorem dX9_killDue_4 : decode cX9_killDue 4 = .ok (.invokevirtual 65, 3) := by decide +kernel
theorem dX9_killDue_7 : decode cX9_killDue 7 = .ok (.bipush 9, 2) := by decide +kernel
theorem dX9_killDue_9 : decode cX9_killDue 9 = .ok (.invokevirtual 49, 3) := by decide +kernel
theorem dX9_killDue_12 : decode cX9_killDue 12 = .ok (.aload_n 0, 1) := by decide +kernel
theorem dX9_killDue_13 : decode cX9_killDue 13 = .ok (.aload_n 0, 1) := by decide +kernel
theorem dX9_killDue_14 : decode cX9_killDue 14 = .ok (.iload_n 1, 1) := by decide +kernel
theorem dX9_killDue_15 : decode cX9_killDue 15 = .ok (.iconst 1, 1) := by decide +kernel
theorem dX9_killDue_16 : decode cX9_killDue 16 = .ok (.invokevirtual 65, 3) := by decide +kernel
theorem dX9_killDue_19 : decode cX9_killDue 19 = .ok (.iconst 2, 1) := by decide +kernel
theorem dX9_killDue_20 : decode cX9_killDue 20 = .ok (.invokevirtual 46, 3) := by decide +kernel
theorem dX9_killDue_23 : decode cX9_killDue 23 = .ok (.iconst 2, 1) := by decide +kernel
theorem dX9_killDue_24 : decode cX9_killDue 24 = .ok (.idiv, 1) := by decide +kernel
theorem dX9_killDue_25 : decode cX9_killDue 25 = .ok (.iadd, 1) := by decide +kernel
theorem dX9_killDue_26 : decode cX9_killDue 26 = .ok (.ireturn, 1) := by decide +kernel
theorem dX9_correctionDue_0 : decode cX9_correctionDue 0 = .ok (.aload_n 0, 1) := by decide +kernel
theorem dX9_correctionDue_1 : decode cX9_correctionDue 1 = .ok (.aload_n 0, 1) := by decide +kernel
theorem dX9_correctionDue_2 : decode cX9_correctionDue 2 = .ok (.iload_n 1, 1) := by decide +kernel
theorem dX9_correctionDue_3 : decode cX9_correctionDue 3 = .ok (.iconst 0, 1) := by decide +kernel
theorem dX9_correctionDue_4 : decode cX9_correctionDue 4 = .ok (.invokevirtual 65, 3) := by decide +kernel
theorem dX9_correctionDue_7 : decode cX9_correctionDue 7 = .ok (.bipush 10, 2) := by decide +kernel
theorem dX9_correctionDue_9 : decode cX9_correctionDue 9 = .ok (.iload_n 2, 1) := by decide +kernel
theorem dX9_correctionDue_10 : decode cX9_correctionDue 10 = .ok (.iadd, 1) := by decide +kernel
theorem dX9_correctionDue_11 : decode cX9_correctionDue 11 = .ok (.invokevirtual 49, 3) := by decide +kernel
theorem dX9_correctionDue_14 : decode cX9_correctionDue 14 = .ok (.aload_n 0, 1) := by decide +kernel
theorem dX9_correctionDue_15 : decode cX9_correctionDue 15 = .ok (.aload_n 0, 1) := by decide +kernel
theorem dX9_correctionDue_16 : decode cX9_correctionDue 16 = .ok (.iload_n 1, 1) := by decide +kernel
theorem dX9_correctionDue_17 : decode cX9_correctionDue 17 = .ok (.iconst 1, 1) := by decide +kernel
theorem dX9_correctionDue_18 : decode cX9_correctionDue 18 = .ok (.invokevirtual 65, 3) := by decide +kernel
theorem dX9_correctionDue_21 : decode cX9_correctionDue 21 = .ok (.iconst 2, 1) := by decide +kernel
theorem dX9_correctionDue_22 : decode cX9_correctionDue 22 = .ok (.invokevirtual 46, 3) := by decide +kernel
theorem dX9_correctionDue_25 : decode cX9_correctionDue 25 = .ok (.iadd, 1) := by decide +kernel
theorem dX9_correctionDue_26 : decode cX9_correctionDue 26 = .ok (.ireturn, 1) := by decide +kernel
theorem dX9_goOn_0 : decode cX9_goOn 0 = .ok (.aload_n 0, 1) := by decide +kernel
theorem dX9_goOn_1 : decode cX9_goOn 1 = .ok (.iload_n 1, 1) := by decide +kernel
theorem dX9_goOn_2 : decode cX9_goOn 2 = .ok (.iconst 0, 1) := by decide +kernel
theorem dX9_goOn_3 : decode cX9_goOn 3 = .ok (.invokevirtual 65, 3) := by decide +kernel
theorem dX9_goOn_6 : decode cX9_goOn 6 = .ok (.istore_n 2, 1) := by decide +kernel
theorem dX9_goOn_7 : decode cX9_goOn 7 = .ok (.aload_n 0, 1) := by decide +kernel
theorem dX9_goOn_8 : decode cX9_goOn 8 = .ok (.iload_n 1, 1) := by decide +kernel
theorem dX9_goOn_9 : decode cX9_goOn 9 = .ok (.iconst 1, 1) := by decide +kernel
theorem dX9_goOn_10 : decode cX9_goOn 10 = .ok (.invokevirtual 65, 3) := by decide +kernel
theorem dX9_goOn_13 : decode cX9_goOn 13 = .ok (.istore_n 3, 1) := by decide +kernel
theorem dX9_goOn_14 : decode cX9_goOn 14 = .ok (.aload_n 0, 1) := by decide +kernel
theorem dX9_goOn_15 : decode cX9_goOn 15 = .ok (.iload_n 2, 1) := by decide +kernel
theorem dX9_goOn_16 : decode cX9_goOn 16 = .ok (.bipush 6, 2) := by decide +kernel
theorem dX9_goOn_18 : decode cX9_goOn 18 = .ok (.invokevirtual 49, 3) := by decide +kernel
theorem dX9_goOn_21 : decode cX9_goOn 21 = .ok (.iconst 3, 1) := by decide +kernel
theorem dX9_goOn_22 : decode cX9_goOn 22 = .ok (.if_icmp .ne 7, 3) := by decide +kernel
theorem dX9_goOn_25 : decode cX9_goOn 25 = .ok (.iconst 1, 1) := by decide +kernel
theorem dX9_goOn_26 : decode cX9_goOn 26 = .ok (.goto 4, 3) := by decide +kernel
theorem dX9_goOn_29 : decode cX9_goOn 29 = .ok (.iconst 0, 1) := by decide +kernel
theorem dX9_goOn_30 : decode cX9_goOn 30 = .ok (.istore 4, 2) := by decide +kernel
theorem dX9_goOn_32 : decode cX9_goOn 32 = .ok (.iconst 0, 1) := by decide +kernel
theorem dX9_goOn_33 : decode cX9_goOn 33 = .ok (.istore 5, 2) := by decide +kernel
theorem dX9_goOn_35 : decode cX9_goOn 35 = .ok (.aload_n 0, 1) := by decide +kernel
theorem dX9_goOn_36 : decode cX9_goOn 36 = .ok (.iload_n 1, 1) := by decide +kernel
theorem dX9_goOn_37 : decode cX9_goOn 37 = .ok (.iconst 2, 1) := by decide +kernel
theorem dX9_goOn_38 : decode cX9_goOn 38 = .ok (.invokevirtual 65, 3) := by decide +kernel
theorem dX9_goOn_41 : decode cX9_goOn 41 = .ok (.ifCond .ne 19, 3) := by decide +kernel
theorem dX9_goOn_44 : decode cX9_goOn 44 = .ok (.iload 4, 2) := by decide +kernel
theorem dX9_goOn_46 : decode cX9_goOn 46 = .ok (.ifCond .eq 14, 3) := by decide +kernel
theorem dX9_goOn_49 : decode cX9_goOn 49 = .ok (.aload_n 0, 1) := by decide +kernel
theorem dX9_goOn_50 : decode cX9_goOn 50 = .ok (.getfield 7, 3) := by decide +kernel
theorem dX9_goOn_53 : decode cX9_goOn 53 = .ok (.iload_n 1, 1) := by decide +kernel
theorem dX9_goOn_54 : decode cX9_goOn 54 = .ok (.iconst 2, 1) := by decide +kernel
theorem dX9_goOn_55 : decode cX9_goOn 55 = .ok (.invokestatic 43, 3) := by decide +kernel
theorem dX9_goOn_58 : decode cX9_goOn 58 = .ok (.iconst 4, 1) := by decide +kernel
theorem dX9_goOn_59 : decode cX9_goOn 59 = .ok (.iastore, 1) := by decide +kernel
theorem dX9_goOn_60 : decode cX9_goOn 60 = .ok (.aload_n 0, 1) := by decide +kernel
theorem dX9_goOn_61 : decode cX9_goOn 61 = .ok (.iload_n 1, 1) := by decide +kernel
theorem dX9_goOn_62 : decode cX9_goOn 62 = .ok (.iconst 2, 1) := by decide +kernel
theorem dX9_goOn_63 : decode cX9_goOn 63 = .ok (.invokevirtual 65, 3) := by decide +kernel
theorem dX9_goOn_66 : decode cX9_goOn 66 = .ok (.ifCond .ne 134, 3) := by decide +kernel
theorem dX9_goOn_69 : decode cX9_goOn 69 = .ok (.aload_n 0, 1) := by decide +kernel
theorem dX9_goOn_70 : decode cX9_goOn 70 = .ok (.getfield 7, 3) := by decide +kernel
theorem dX9_goOn_73 : decode cX9_goOn 73 = .ok (.iconst 0, 1) := by decide +kernel
theorem dX9_goOn_74 : decode cX9_goOn 74 = .ok (.iaload, 1) := by decide +kernel
theorem dX9_goOn_75 : decode cX9_goOn 75 = .ok (.aload_n 0, 1) := by decide +kernel
theorem dX9_goOn_76 : decode cX9_goOn 76 = .ok (.iload_n 1, 1) := by decide +kernel
theorem dX9_goOn_77 : decode cX9_goOn 77 = .ok (.iconst 3, 1) := by decide +kernel
theorem dX9_goOn_78 : decode cX9_goOn 78 = .ok (.invokevirtual 65, 3) := by decide +kernel
theorem dX9_goOn_81 : decode cX9_goOn 81 = .ok (.if_icmp .lt 119, 3) := by decide +kernel
theorem dX9_goOn_84 : decode cX9_goOn 84 = .ok (.aload_n 0, 1) := by decide +kernel
theorem dX9_goOn_85 : decode cX9_goOn 85 = .ok (.iload_n 3, 1) := by decide +kernel
theorem dX9_goOn_86 : decode cX9_goOn 86 = .ok (.iconst 5, 1) := by decide +kernel
theorem dX9_goOn_87 : decode cX9_goOn 87 = .ok (.invokevirtual 46, 3) := by decide +kernel
theorem dX9_goOn_90 : decode cX9_goOn 90 = .ok (.iconst 1, 1) := by decide +kernel
theorem dX9_goOn_91 : decode cX9_goOn 91 = .ok (.if_icmp .ne 109, 3) := by decide +kernel
theorem dX9_goOn_94 : decode cX9_goOn 94 = .ok (.aload_n 0, 1) := by decide +kernel
theorem dX9_goOn_95 : decode cX9_goOn 95 = .ok (.iload_n 3, 1) := by decide +kernel
theorem dX9_goOn_96 : decode cX9_goOn 96 = .ok (.bipush 7, 2) := by decide +kernel
theorem dX9_goOn_98 : decode cX9_goOn 98 = .ok (.invokevirtual 46, 3) := by decide +kernel
theorem dX9_goOn_101 : decode cX9_goOn 101 = .ok (.aload_n 0, 1) := by decide +kernel
theorem dX9_goOn_102 : decode cX9_goOn 102 = .ok (.iload_n 3, 1) := by decide +kernel
theorem dX9_goOn_103 : decode cX9_goOn 103 = .ok (.iconst 3, 1) := by decide +kernel
theorem dX9_goOn_104 : decode cX9_goOn 104 = .ok (.invokevirtual 46, 3) := by decide +kernel
theorem dX9_goOn_107 : decode cX9_goOn 107 = .ok (.if_icmp .ge 93, 3) := by decide +kernel
theorem dX9_goOn_110 : decode cX9_goOn 110 = .ok (.aload_n 0, 1) := by decide +kernel
theorem dX9_goOn_111 : decode cX9_goOn 111 = .ok (.getfield 7, 3) := by decide +kernel
theorem dX9_goOn_114 : decode cX9_goOn 114 = .ok (.iload_n 1, 1) := by decide +kernel
theorem dX9_goOn_115 : decode cX9_goOn 115 = .ok (.iconst 2, 1) := by decide +kernel
theorem dX9_goOn_116 : decode cX9_goOn 116 = .ok (.invokestatic 43, 3) := by decide +kernel
theorem dX9_goOn_119 : decode cX9_goOn 119 = .ok (.iconst 1, 1) := by decide +kernel
theorem dX9_goOn_120 : decode cX9_goOn 120 = .ok (.iastore, 1) := by decide +kernel
theorem dX9_goOn_121 : decode cX9_goOn 121 = .ok (.aload_n 0, 1) := by decide +kernel
theorem dX9_goOn_122 : decode cX9_goOn 122 = .ok (.getfield 7, 3) := by decide +kernel
theorem dX9_goOn_125 : decode cX9_goOn 125 = .ok (.iload_n 1, 1) := by decide +kernel
theorem dX9_goOn_126 : decode cX9_goOn 126 = .ok (.iconst 4, 1) := by decide +kernel
theorem dX9_goOn_127 : decode cX9_goOn 127 = .ok (.invokestatic 43, 3) := by decide +kernel
theorem dX9_goOn_130 : decode cX9_goOn 130 = .ok (.aload_n 0, 1) := by decide +kernel
theorem dX9_goOn_131 : decode cX9_goOn 131 = .ok (.getfield 7, 3) := by decide +kernel
theorem dX9_goOn_134 : decode cX9_goOn 134 = .ok (.iconst 0, 1) := by decide +kernel
theorem dX9_goOn_135 : decode cX9_goOn 135 = .ok (.iaload, 1) := by decide +kernel
theorem dX9_goOn_136 : decode cX9_goOn 136 = .ok (.iastore, 1) := by decide +kernel
theorem dX9_goOn_137 : decode cX9_goOn 137 = .ok (.aload_n 0, 1) := by decide +kernel
theorem dX9_goOn_138 : decode cX9_goOn 138 = .ok (.getfield 7, 3) := by decide +kernel
theorem dX9_goOn_141 : decode cX9_goOn 141 = .ok (.iload_n 1, 1) := by decide +kernel
theorem dX9_goOn_142 : decode cX9_goOn 142 = .ok (.iconst 5, 1) := by decide +kernel
theorem dX9_goOn_143 : decode cX9_goOn 143 = .ok (.invokestatic 43, 3) := by decide +kernel
theorem dX9_goOn_146 : decode cX9_goOn 146 = .ok (.aload_n 0, 1) := by decide +kernel
theorem dX9_goOn_147 : decode cX9_goOn 147 = .ok (.iload_n 2, 1) := by decide +kernel
theorem dX9_goOn_148 : decode cX9_goOn 148 = .ok (.bipush 7, 2) := by decide +kernel
theorem dX9_goOn_150 : decode cX9_goOn 150 = .ok (.invokevirtual 49, 3) := by decide +kernel
theorem dX9_goOn_153 : decode cX9_goOn 153 = .ok (.iastore, 1) := by decide +kernel
theorem dX9_goOn_154 : decode cX9_goOn 154 = .ok (.aload_n 0, 1) := by decide +kernel
theorem dX9_goOn_155 : decode cX9_goOn 155 = .ok (.getfield 7, 3) := by decide +kernel
theorem dX9_goOn_158 : decode cX9_goOn 158 = .ok (.iload_n 3, 1) := by decide +kernel
theorem dX9_goOn_159 : decode cX9_goOn 159 = .ok (.bipush 7, 2) := by decide +kernel
theorem dX9_goOn_161 : decode cX9_goOn 161 = .ok (.invokestatic 36, 3) := by decide +kernel
theorem dX9_goOn_164 : decode cX9_goOn 164 = .ok (.dup2, 1) := by decide +kernel
theorem dX9_goOn_165 : decode cX9_goOn 165 = .ok (.iaload, 1) := by decide +kernel
theorem dX9_goOn_166 : decode cX9_goOn 166 = .ok (.iconst 1, 1) := by decide +kernel
theorem dX9_goOn_167 : decode cX9_goOn 167 = .ok (.iadd, 1) := by decide +kernel
theorem dX9_goOn_168 : decode cX9_goOn 168 = .ok (.iastore, 1) := by decide +kernel
theorem dX9_goOn_169 : decode cX9_goOn 169 = .ok (.aload_n 0, 1) := by decide +kernel
theorem dX9_goOn_170 : decode cX9_goOn 170 = .ok (.getfield 7, 3) := by decide +kernel
theorem dX9_goOn_173 : decode cX9_goOn 173 = .ok (.iload_n 3, 1) := by decide +kernel
theorem dX9_goOn_174 : decode cX9_goOn 174 = .ok (.bipush 8, 2) := by decide +kernel
theorem dX9_goOn_176 : decode cX9_goOn 176 = .ok (.invokestatic 36, 3) := by decide +kernel
theorem dX9_goOn_179 : decode cX9_goOn 179 = .ok (.dup2, 1) := by decide +kernel
theorem dX9_goOn_180 : decode cX9_goOn 180 = .ok (.iaload, 1) := by decide +kernel
theorem dX9_goOn_181 : decode cX9_goOn 181 = .ok (.iconst 1, 1) := by decide +kernel
theorem dX9_goOn_182 : decode cX9_goOn 182 = .ok (.iadd, 1) := by decide +kernel
theorem dX9_goOn_183 : decode cX9_goOn 183 = .ok (.iastore, 1) := by decide +kernel
theorem dX9_goOn_184 : decode cX9_goOn 184 = .ok (.aload_n 0, 1) := by decide +kernel
theorem dX9_goOn_185 : decode cX9_goOn 185 = .ok (.iload_n 2, 1) := by decide +kernel
theorem dX9_goOn_186 : decode cX9_goOn 186 = .ok (.iload_n 3, 1) := by decide +kernel
theorem dX9_goOn_187 : decode cX9_goOn 187 = .ok (.invokevirtual 68, 3) := by decide +kernel
theorem dX9_goOn_190 : decode cX9_goOn 190 = .ok (.aload_n 0, 1) := by decide +kernel
theorem dX9_goOn_191 : decode cX9_goOn 191 = .ok (.iconst 1, 1) := by decide +kernel
theorem dX9_goOn_192 : decode cX9_goOn 192 = .ok (.iload_n 2, 1) := by decide +kernel
theorem dX9_goOn_193 : decode cX9_goOn 193 = .ok (.iload_n 3, 1) := by decide +kernel
theorem dX9_goOn_194 : decode cX9_goOn 194 = .ok (.invokevirtual 52, 3) := by decide +kernel
theorem dX9_goOn_197 : decode cX9_goOn 197 = .ok (.iconst 1, 1) := by decide +kernel
theorem dX9_goOn_198 : decode cX9_goOn 198 = .ok (.istore 5, 2) := by decide +kernel
theorem dX9_goOn_200 : decode cX9_goOn 200 = .ok (.aload_n 0, 1) := by decide +kernel
theorem dX9_goOn_201 : decode cX9_goOn 201 = .ok (.iload_n 1, 1) := by decide +kernel
theorem dX9_goOn_202 : decode cX9_goOn 202 = .ok (.iconst 2, 1) := by decide +kernel
theorem dX9_goOn_203 : decode cX9_goOn 203 = .ok (.invokevirtual 65, 3) := by decide +kernel
theorem dX9_goOn_206 : decode cX9_goOn 206 = .ok (.iconst 1, 1) := by decide +kernel
theorem dX9_goOn_207 : decode cX9_goOn 207 = .ok (.if_icmp .ne 35, 3) := by decide +kernel
theorem dX9_goOn_210 : decode cX9_goOn 210 = .ok (.aload_n 0, 1) := by decide +kernel
theorem dX9_goOn_211 : decode cX9_goOn 211 = .ok (.getfield 7, 3) := by decide +kernel
theorem dX9_goOn_214 : decode cX9_goOn 214 = .ok (.iconst 0, 1) := by decide +kernel
theorem dX9_goOn_215 : decode cX9_goOn 215 = .ok (.iaload, 1) := by decide +kernel
theorem dX9_goOn_216 : decode cX9_goOn 216 = .ok (.aload_n 0, 1) := by decide +kernel
theorem dX9_goOn_217 : decode cX9_goOn 217 = .ok (.iload_n 1, 1) := by decide +kernel
theorem dX9_goOn_218 : decode cX9_goOn 218 = .ok (.invokevirtual 71, 3) := by decide +kernel
theorem dX9_goOn_221 : decode cX9_goOn 221 = .ok (.if_icmp .lt 21, 3) := by decide +kernel
theorem dX9_goOn_224 : decode cX9_goOn 224 = .ok (.aload_n 0, 1) := by decide +kernel
theorem dX9_goOn_225 : decode cX9_goOn 225 = .ok (.getfield 7, 3) := by decide +kernel
theorem dX9_goOn_228 : decode cX9_goOn 228 = .ok (.iload_n 1, 1) := by decide +kernel
theorem dX9_goOn_229 : decode cX9_goOn 229 = .ok (.iconst 2, 1) := by decide +kernel
theorem dX9_goOn_230 : decode cX9_goOn 230 = .ok (.invokestatic 43, 3) := by decide +kernel
theorem dX9_goOn_233 : decode cX9_goOn 233 = .ok (.iconst 3, 1) := by decide +kernel
theorem dX9_goOn_234 : decode cX9_goOn 234 = .ok (.iastore, 1) := by decide +kernel
theorem dX9_goOn_235 : decode cX9_goOn 235 = .ok (.aload_n 0, 1) := by decide +kernel
theorem dX9_goOn_236 : decode cX9_goOn 236 = .ok (.iconst 4, 1) := by decide +kernel
theorem dX9_goOn_237 : decode cX9_goOn 237 = .ok (.iload_n 2, 1) := by decide +kernel
theorem dX9_goOn_238 : decode cX9_goOn 238 = .ok (.iload_n 3, 1) := by decide +kernel
theorem dX9_goOn_239 : decode cX9_goOn 239 = .ok (.invokevirtual 52, 3) := by decide +kernel
theorem dX9_goOn_242 : decode cX9_goOn 242 = .ok (.aload_n 0, 1) := by decide +kernel
theorem dX9_goOn_243 : decode cX9_goOn 243 = .ok (.iload_n 1, 1) := by decide +kernel
theorem dX9_goOn_244 : decode cX9_goOn 244 = .ok (.iconst 2, 1) := by decide +kernel
theorem dX9_goOn_245 : decode cX9_goOn 245 = .ok (.invokevirtual 65, 3) := by decide +kernel
theorem dX9_goOn_248 : decode cX9_goOn 248 = .ok (.iconst 1, 1) := by decide +kernel
theorem dX9_goOn_249 : decode cX9_goOn 249 = .ok (.if_icmp .ne 12, 3) := by decide +kernel
theorem dX9_goOn_252 : decode cX9_goOn 252 = .ok (.aload_n 0, 1) := by decide +kernel
theorem dX9_goOn_253 : decode cX9_goOn 253 = .ok (.iload_n 3, 1) := by decide +kernel
theorem dX9_goOn_254 : decode cX9_goOn 254 = .ok (.iconst 5, 1) := by decide +kernel
theorem dX9_goOn_255 : decode cX9_goOn 255 = .ok (.invokevirtual 46, 3) := by decide +kernel
theorem dX9_goOn_258 : decode cX9_goOn 258 = .ok (.ifCond .ne 6, 3) := by decide +kernel
theorem dX9_goOn_261 : decode cX9_goOn 261 = .ok (.iload 5, 2) := by decide +kernel
theorem dX9_goOn_263 : decode cX9_goOn 263 = .ok (.ireturn, 1) := by decide +kernel
theorem dX9_goOn_264 : decode cX9_goOn 264 = .ok (.iload 4, 2) := by decide +kernel
theorem dX9_goOn_266 : decode cX9_goOn 266 = .ok (.ifCond .eq 38, 3) := by decide +kernel
theorem dX9_goOn_269 : decode cX9_goOn 269 = .ok (.aload_n 0, 1) := by decide +kernel
theorem dX9_goOn_270 : decode cX9_goOn 270 = .ok (.getfield 7, 3) := by decide +kernel
theorem dX9_goOn_273 : decode cX9_goOn 273 = .ok (.iconst 0, 1) := by decide +kernel
theorem dX9_goOn_274 : decode cX9_goOn 274 = .ok (.iaload, 1) := by decide +kernel
theorem dX9_goOn_275 : decode cX9_goOn 275 = .ok (.aload_n 0, 1) := by decide +kernel
theorem dX9_goOn_276 : decode cX9_goOn 276 = .ok (.iload_n 1, 1) := by decide +kernel
theorem dX9_goOn_277 : decode cX9_goOn 277 = .ok (.invokevirtual 75, 3) := by decide +kernel
theorem dX9_goOn_280 : decode cX9_goOn 280 = .ok (.if_icmp .lt 24, 3) := by decide +kernel
theorem dX9_goOn_283 : decode cX9_goOn 283 = .ok (.aload_n 0, 1) := by decide +kernel
theorem dX9_goOn_284 : decode cX9_goOn 284 = .ok (.getfield 7, 3) := by decide +kernel
theorem dX9_goOn_287 : decode cX9_goOn 287 = .ok (.iload_n 1, 1) := by decide +kernel
theorem dX9_goOn_288 : decode cX9_goOn 288 = .ok (.iconst 2, 1) := by decide +kernel
theorem dX9_goOn_289 : decode cX9_goOn 289 = .ok (.invokestatic 43, 3) := by decide +kernel
theorem dX9_goOn_292 : decode cX9_goOn 292 = .ok (.iconst 2, 1) := by decide +kernel
theorem dX9_goOn_293 : decode cX9_goOn 293 = .ok (.iastore, 1) := by decide +kernel
theorem dX9_goOn_294 : decode cX9_goOn 294 = .ok (.aload_n 0, 1) := by decide +kernel
theorem dX9_goOn_295 : decode cX9_goOn 295 = .ok (.iconst 3, 1) := by decide +kernel
theorem dX9_goOn_296 : decode cX9_goOn 296 = .ok (.iload_n 2, 1) := by decide +kernel
theorem dX9_goOn_297 : decode cX9_goOn 297 = .ok (.iload_n 3, 1) := by decide +kernel
theorem dX9_goOn_298 : decode cX9_goOn 298 = .ok (.invokevirtual 52, 3) := by decide +kernel
theorem dX9_goOn_301 : decode cX9_goOn 301 = .ok (.iload 5, 2) := by decide +kernel
theorem dX9_goOn_303 : decode cX9_goOn 303 = .ok (.ireturn, 1) := by decide +kernel
theorem dX9_goOn_304 : decode cX9_goOn 304 = .ok (.aload_n 0, 1) := by decide +kernel
theorem dX9_goOn_305 : decode cX9_goOn 305 = .ok (.iload_n 1, 1) := by decide +kernel
theorem dX9_goOn_306 : decode cX9_goOn 306 = .ok (.iconst 5, 1) := by decide +kernel
theorem dX9_goOn_307 : decode cX9_goOn 307 = .ok (.invokevirtual 65, 3) := by decide +kernel
theorem dX9_goOn_310 : decode cX9_goOn 310 = .ok (.aload_n 0, 1) := by decide +kernel
theorem dX9_goOn_311 : decode cX9_goOn 311 = .ok (.iload_n 2, 1) := by decide +kernel
theorem dX9_goOn_312 : decode cX9_goOn 312 = .ok (.bipush 7, 2) := by decide +kernel
theorem dX9_goOn_314 : decode cX9_goOn 314 = .ok (.invokevirtual 49, 3) := by decide +kernel
theorem dX9_goOn_317 : decode cX9_goOn 317 = .ok (.if_icmp .ge 57, 3) := by decide +kernel
theorem dX9_goOn_320 : decode cX9_goOn 320 = .ok (.aload_n 0, 1) := by decide +kernel
theorem dX9_goOn_321 : decode cX9_goOn 321 = .ok (.getfield 7, 3) := by decide +kernel
theorem dX9_goOn_324 : decode cX9_goOn 324 = .ok (.iconst 0, 1) := by decide +kernel
theorem dX9_goOn_325 : decode cX9_goOn 325 = .ok (.iaload, 1) := by decide +kernel
theorem dX9_goOn_326 : decode cX9_goOn 326 = .ok (.aload_n 0, 1) := by decide +kernel
theorem dX9_goOn_327 : decode cX9_goOn 327 = .ok (.iload_n 1, 1) := by decide +kernel
theorem dX9_goOn_328 : decode cX9_goOn 328 = .ok (.aload_n 0, 1) := by decide +kernel
theorem dX9_goOn_329 : decode cX9_goOn 329 = .ok (.iload_n 1, 1) := by decide +kernel
theorem dX9_goOn_330 : decode cX9_goOn 330 = .ok (.iconst 5, 1) := by decide +kernel
theorem dX9_goOn_331 : decode cX9_goOn 331 = .ok (.invokevirtual 65, 3) := by decide +kernel
theorem dX9_goOn_334 : decode cX9_goOn 334 = .ok (.invokevirtual 78, 3) := by decide +kernel
theorem dX9_goOn_337 : decode cX9_goOn 337 = .ok (.if_icmp .lt 37, 3) := by decide +kernel
theorem dX9_goOn_340 : decode cX9_goOn 340 = .ok (.aload_n 0, 1) := by decide +kernel
theorem dX9_goOn_341 : decode cX9_goOn 341 = .ok (.getfield 7, 3) := by decide +kernel
theorem dX9_goOn_344 : decode cX9_goOn 344 = .ok (.iload_n 1, 1) := by decide +kernel
theorem dX9_goOn_345 : decode cX9_goOn 345 = .ok (.iconst 5, 1) := by decide +kernel
theorem dX9_goOn_346 : decode cX9_goOn 346 = .ok (.invokestatic 43, 3) := by decide +kernel
theorem dX9_goOn_349 : decode cX9_goOn 349 = .ok (.dup2, 1) := by decide +kernel
theorem dX9_goOn_350 : decode cX9_goOn 350 = .ok (.iaload, 1) := by decide +kernel
theorem dX9_goOn_351 : decode cX9_goOn 351 = .ok (.iconst 1, 1) := by decide +kernel
theorem dX9_goOn_352 : decode cX9_goOn 352 = .ok (.iadd, 1) := by decide +kernel
theorem dX9_goOn_353 : decode cX9_goOn 353 = .ok (.iastore, 1) := by decide +kernel
theorem dX9_goOn_354 : decode cX9_goOn 354 = .ok (.aload_n 0, 1) := by decide +kernel
theorem dX9_goOn_355 : decode cX9_goOn 355 = .ok (.getfield 7, 3) := by decide +kernel
theorem dX9_goOn_358 : decode cX9_goOn 358 = .ok (.iconst 5, 1) := by decide +kernel
theorem dX9_goOn_359 : decode cX9_goOn 359 = .ok (.dup2, 1) := by decide +kernel
theorem dX9_goOn_360 : decode cX9_goOn 360 = .ok (.iaload, 1) := by decide +kernel
theorem dX9_goOn_361 : decode cX9_goOn 361 = .ok (.iconst 1, 1) := by decide +kernel
theorem dX9_goOn_362 : decode cX9_goOn 362 = .ok (.iadd, 1) := by decide +kernel
theorem dX9_goOn_363 : decode cX9_goOn 363 = .ok (.iastore, 1) := by decide +kernel
theorem dX9_goOn_364 : decode cX9_goOn 364 = .ok (.aload_n 0, 1) := by decide +kernel
theorem dX9_goOn_365 : decode cX9_goOn 365 = .ok (.iconst 2, 1) := by decide +kernel
theorem dX9_goOn_366 : decode cX9_goOn 366 = .ok (.iload_n 2, 1) := by decide +kernel
theorem dX9_goOn_367 : decode cX9_goOn 367 = .ok (.iload_n 3, 1) := by decide +kernel
theorem dX9_goOn_368 : decode cX9_goOn 368 = .ok (.invokevirtual 52, 3) := by decide +kernel
theorem dX9_goOn_371 : decode cX9_goOn 371 = .ok (.goto (-67), 3) := by decide +kernel
theorem dX9_goOn_374 : decode cX9_goOn 374 = .ok (.iload 5, 2) := by decide +kernel
theorem dX9_goOn_376 : decode cX9_goOn 376 = .ok (.ireturn, 1) := by decide +kernel
theorem dX9_oneHour_0 : decode cX9_oneHour 0 = .ok (.aload_n 0, 1) := by decide +kernel
theorem dX9_oneHour_1 : decode cX9_oneHour 1 = .ok (.getfield 7, 3) := by decide +kernel
theorem dX9_oneHour_4 : decode cX9_oneHour 4 = .ok (.iconst 0, 1) := by decide +kernel
theorem dX9_oneHour_5 : decode cX9_oneHour 5 = .ok (.dup2, 1) := by decide +kernel
theorem dX9_oneHour_6 : decode cX9_oneHour 6 = .ok (.iaload, 1) := by decide +kernel
theorem dX9_oneHour_7 : decode cX9_oneHour 7 = .ok (.iconst 1, 1) := by decide +kernel
theorem dX9_oneHour_8 : decode cX9_oneHour 8 = .ok (.iadd, 1) := by decide +kernel
theorem dX9_oneHour_9 : decode cX9_oneHour 9 = .ok (.iastore, 1) := by decide +kernel
theorem dX9_oneHour_10 : decode cX9_oneHour 10 = .ok (.iconst 0, 1) := by decide +kernel
theorem dX9_oneHour_11 : decode cX9_oneHour 11 = .ok (.istore_n 1, 1) := by decide +kernel
theorem dX9_oneHour_12 : decode cX9_oneHour 12 = .ok (.iload_n 1, 1) := by decide +kernel
theorem dX9_oneHour_13 : decode cX9_oneHour 13 = .ok (.aload_n 0, 1) := by decide +kernel
theorem dX9_oneHour_14 : decode cX9_oneHour 14 = .ok (.getfield 7, 3) := by decide +kernel
theorem dX9_oneHour_17 : decode cX9_oneHour 17 = .ok (.iconst 1, 1) := by decide +kernel
theorem dX9_oneHour_18 : decode cX9_oneHour 18 = .ok (.iaload, 1) := by decide +kernel
theorem dX9_oneHour_19 : decode cX9_oneHour 19 = .ok (.if_icmp .ge 33, 3) := by decide +kernel
theorem dX9_oneHour_22 : decode cX9_oneHour 22 = .ok (.aload_n 0, 1) := by decide +kernel
theorem dX9_oneHour_23 : decode cX9_oneHour 23 = .ok (.getfield 7, 3) := by decide +kernel
theorem dX9_oneHour_26 : decode cX9_oneHour 26 = .ok (.iconst 0, 1) := by decide +kernel
theorem dX9_oneHour_27 : decode cX9_oneHour 27 = .ok (.iaload, 1) := by decide +kernel
theorem dX9_oneHour_28 : decode cX9_oneHour 28 = .ok (.bipush 24, 2) := by decide +kernel
theorem dX9_oneHour_30 : decode cX9_oneHour 30 = .ok (.irem, 1) := by decide +kernel
theorem dX9_oneHour_31 : decode cX9_oneHour 31 = .ok (.ifCond .ne 21, 3) := by decide +kernel
theorem dX9_oneHour_34 : decode cX9_oneHour 34 = .ok (.aload_n 0, 1) := by decide +kernel
theorem dX9_oneHour_35 : decode cX9_oneHour 35 = .ok (.getfield 7, 3) := by decide +kernel
theorem dX9_oneHour_38 : decode cX9_oneHour 38 = .ok (.iload_n 1, 1) := by decide +kernel
theorem dX9_oneHour_39 : decode cX9_oneHour 39 = .ok (.bipush 7, 2) := by decide +kernel
theorem dX9_oneHour_41 : decode cX9_oneHour 41 = .ok (.invokestatic 36, 3) := by decide +kernel
theorem dX9_oneHour_44 : decode cX9_oneHour 44 = .ok (.iconst 0, 1) := by decide +kernel
theorem dX9_oneHour_45 : decode cX9_oneHour 45 = .ok (.iastore, 1) := by decide +kernel
theorem dX9_oneHour_46 : decode cX9_oneHour 46 = .ok (.iinc 1 1, 3) := by decide +kernel
theorem dX9_oneHour_49 : decode cX9_oneHour 49 = .ok (.goto (-37), 3) := by decide +kernel
theorem dX9_oneHour_52 : decode cX9_oneHour 52 = .ok (.iconst 0, 1) := by decide +kernel
theorem dX9_oneHour_53 : decode cX9_oneHour 53 = .ok (.istore_n 1, 1) := by decide +kernel
theorem dX9_oneHour_54 : decode cX9_oneHour 54 = .ok (.iload_n 1, 1) := by decide +kernel
theorem dX9_oneHour_55 : decode cX9_oneHour 55 = .ok (.aload_n 0, 1) := by decide +kernel
theorem dX9_oneHour_56 : decode cX9_oneHour 56 = .ok (.getfield 7, 3) := by decide +kernel
theorem dX9_oneHour_59 : decode cX9_oneHour 59 = .ok (.iconst 2, 1) := by decide +kernel
theorem dX9_oneHour_60 : decode cX9_oneHour 60 = .ok (.iaload, 1) := by decide +kernel
theorem dX9_oneHour_61 : decode cX9_oneHour 61 = .ok (.if_icmp .ge 40, 3) := by decide +kernel
theorem dX9_oneHour_64 : decode cX9_oneHour 64 = .ok (.aload_n 0, 1) := by decide +kernel
theorem dX9_oneHour_65 : decode cX9_oneHour 65 = .ok (.iload_n 1, 1) := by decide +kernel
theorem dX9_oneHour_66 : decode cX9_oneHour 66 = .ok (.bipush 6, 2) := by decide +kernel
theorem dX9_oneHour_68 : decode cX9_oneHour 68 = .ok (.invokevirtual 49, 3) := by decide +kernel
theorem dX9_oneHour_71 : decode cX9_oneHour 71 = .ok (.iconst 1, 1) := by decide +kernel
theorem dX9_oneHour_72 : decode cX9_oneHour 72 = .ok (.if_icmp .ne 23, 3) := by decide +kernel
theorem dX9_oneHour_75 : decode cX9_oneHour 75 = .ok (.aload_n 0, 1) := by decide +kernel
theorem dX9_oneHour_76 : decode cX9_oneHour 76 = .ok (.iload_n 1, 1) := by decide +kernel
theorem dX9_oneHour_77 : decode cX9_oneHour 77 = .ok (.iconst 5, 1) := by decide +kernel
theorem dX9_oneHour_78 : decode cX9_oneHour 78 = .ok (.invokevirtual 49, 3) := by decide +kernel
theorem dX9_oneHour_81 : decode cX9_oneHour 81 = .ok (.aload_n 0, 1) := by decide +kernel
theorem dX9_oneHour_82 : decode cX9_oneHour 82 = .ok (.getfield 7, 3) := by decide +kernel
theorem dX9_oneHour_85 : decode cX9_oneHour 85 = .ok (.iconst 0, 1) := by decide +kernel
theorem dX9_oneHour_86 : decode cX9_oneHour 86 = .ok (.iaload, 1) := by decide +kernel
theorem dX9_oneHour_87 : decode cX9_oneHour 87 = .ok (.if_icmp .gt 8, 3) := by decide +kernel
theorem dX9_oneHour_90 : decode cX9_oneHour 90 = .ok (.aload_n 0, 1) := by decide +kernel
theorem dX9_oneHour_91 : decode cX9_oneHour 91 = .ok (.iload_n 1, 1) := by decide +kernel
theorem dX9_oneHour_92 : decode cX9_oneHour 92 = .ok (.invokevirtual 81, 3) := by decide +kernel
theorem dX9_oneHour_95 : decode cX9_oneHour 95 = .ok (.iinc 1 1, 3) := by decide +kernel
theorem dX9_oneHour_98 : decode cX9_oneHour 98 = .ok (.goto (-44), 3) := by decide +kernel
theorem dX9_oneHour_101 : decode cX9_oneHour 101 = .ok (.iconst 0, 1) := by decide +kernel
theorem dX9_oneHour_102 : decode cX9_oneHour 102 = .ok (.istore_n 1, 1) := by decide +kernel
theorem dX9_oneHour_103 : decode cX9_oneHour 103 = .ok (.iconst 0, 1) := by decide +kernel
theorem dX9_oneHour_104 : decode cX9_oneHour 104 = .ok (.istore_n 2, 1) := by decide +kernel
theorem dX9_oneHour_105 : decode cX9_oneHour 105 = .ok (.iload_n 2, 1) := by decide +kernel
theorem dX9_oneHour_106 : decode cX9_oneHour 106 = .ok (.aload_n 0, 1) := by decide +kernel
theorem dX9_oneHour_107 : decode cX9_oneHour 107 = .ok (.getfield 7, 3) := by decide +kernel
theorem dX9_oneHour_110 : decode cX9_oneHour 110 = .ok (.iconst 3, 1) := by decide +kernel
theorem dX9_oneHour_111 : decode cX9_oneHour 111 = .ok (.iaload, 1) := by decide +kernel
theorem dX9_oneHour_112 : decode cX9_oneHour 112 = .ok (.if_icmp .ge 17, 3) := by decide +kernel
theorem dX9_oneHour_115 : decode cX9_oneHour 115 = .ok (.iload_n 1, 1) := by decide +kernel
theorem dX9_oneHour_116 : decode cX9_oneHour 116 = .ok (.aload_n 0, 1) := by decide +kernel
theorem dX9_oneHour_117 : decode cX9_oneHour 117 = .ok (.iload_n 2, 1) := by decide +kernel
theorem dX9_oneHour_118 : decode cX9_oneHour 118 = .ok (.invokevirtual 85, 3) := by decide +kernel
theorem dX9_oneHour_121 : decode cX9_oneHour 121 = .ok (.iadd, 1) := by decide +kernel
theorem dX9_oneHour_122 : decode cX9_oneHour 122 = .ok (.istore_n 1, 1) := by decide +kernel
theorem dX9_oneHour_123 : decode cX9_oneHour 123 = .ok (.iinc 2 1, 3) := by decide +kernel
theorem dX9_oneHour_126 : decode cX9_oneHour 126 = .ok (.goto (-21), 3) := by decide +kernel
theorem dX9_oneHour_129 : decode cX9_oneHour 129 = .ok (.iload_n 1, 1) := by decide +kernel
theorem dX9_oneHour_130 : decode cX9_oneHour 130 = .ok (.ireturn, 1) := by decide +kernel
theorem dX9_addClient_0 : decode cX9_addClient 0 = .ok (.iload_n 1, 1) := by decide +kernel
theorem dX9_addClient_1 : decode cX9_addClient 1 = .ok (.iconst 1, 1) := by decide +kernel
theorem dX9_addClient_2 : decode cX9_addClient 2 = .ok (.sipush 255, 3) := by decide +kernel
theorem dX9_addClient_5 : decode cX9_addClient 5 = .ok (.invokestatic 32, 3) := by decide +kernel
theorem dX9_addClient_8 : decode cX9_addClient 8 = .ok (.ifCond .eq 45, 3) := by decide +kernel
theorem dX9_addClient_11 : decode cX9_addClient 11 = .ok (.iload_n 2, 1) := by decide +kernel
theorem dX9_addClient_12 : decode cX9_addClient 12 = .ok (.iconst 0, 1) := by decide +kernel
theorem dX9_addClient_13 : decode cX9_addClient 13 = .ok (.bipush 48, 2) := by decide +kernel
theorem dX9_addClient_15 : decode cX9_addClient 15 = .ok (.invokestatic 32, 3) := by decide +kernel
theorem dX9_addClient_18 : decode cX9_addClient 18 = .ok (.ifCond .eq 35, 3) := by decide +kernel
theorem dX9_addClient_21 : decode cX9_addClient 21 = .ok (.iload_n 3, 1) := by decide +kernel
theorem dX9_addClient_22 : decode cX9_addClient 22 = .ok (.iconst 0, 1) := by decide +kernel
theorem dX9_addClient_23 : decode cX9_addClient 23 = .ok (.bipush 24, 2) := by decide +kernel
theorem dX9_addClient_25 : decode cX9_addClient 25 = .ok (.invokestatic 32, 3) := by decide +kernel
theorem dX9_addClient_28 : decode cX9_addClient 28 = .ok (.ifCond .eq 25, 3) := by decide +kernel
theorem dX9_addClient_31 : decode cX9_addClient 31 = .ok (.iload 4, 2) := by decide +kernel
theorem dX9_addClient_33 : decode cX9_addClient 33 = .ok (.iconst 1, 1) := by decide +kernel
theorem dX9_addClient_34 : decode cX9_addClient 34 = .ok (.bipush 9, 2) := by decide +kernel
theorem dX9_addClient_36 : decode cX9_addClient 36 = .ok (.invokestatic 32, 3) := by decide +kernel
theorem dX9_addClient_39 : decode cX9_addClient 39 = .ok (.ifCond .eq 14, 3) := by decide +kernel
theorem dX9_addClient_42 : decode cX9_addClient 42 = .ok (.iload 5, 2) := by decide +kernel
theorem dX9_addClient_44 : decode cX9_addClient 44 = .ok (.iconst 0, 1) := by decide +kernel
theorem dX9_addClient_45 : decode cX9_addClient 45 = .ok (.ldc 88, 2) := by decide +kernel
theorem dX9_addClient_47 : decode cX9_addClient 47 = .ok (.invokestatic 32, 3) := by decide +kernel
theorem dX9_addClient_50 : decode cX9_addClient 50 = .ok (.ifCond .ne 6, 3) := by decide +kernel
theorem dX9_addClient_53 : decode cX9_addClient 53 = .ok (.bipush (-2), 2) := by decide +kernel
theorem dX9_addClient_55 : decode cX9_addClient 55 = .ok (.ireturn, 1) := by decide +kernel
theorem dX9_addClient_56 : decode cX9_addClient 56 = .ok (.aload_n 0, 1) := by decide +kernel
theorem dX9_addClient_57 : decode cX9_addClient 57 = .ok (.getfield 7, 3) := by decide +kernel
theorem dX9_addClient_60 : decode cX9_addClient 60 = .ok (.iconst 1, 1) := by decide +kernel
theorem dX9_addClient_61 : decode cX9_addClient 61 = .ok (.iaload, 1) := by decide +kernel
theorem dX9_addClient_62 : decode cX9_addClient 62 = .ok (.bipush 8, 2) := by decide +kernel
theorem dX9_addClient_64 : decode cX9_addClient 64 = .ok (.if_icmp .ne 6, 3) := by decide +kernel
theorem dX9_addClient_67 : decode cX9_addClient 67 = .ok (.bipush (-3), 2) := by decide +kernel
theorem dX9_addClient_69 : decode cX9_addClient 69 = .ok (.ireturn, 1) := by decide +kernel
theorem dX9_addClient_70 : decode cX9_addClient 70 = .ok (.aload_n 0, 1) := by decide +kernel
theorem dX9_addClient_71 : decode cX9_addClient 71 = .ok (.invokevirtual 89, 3) := by decide +kernel
theorem dX9_addClient_74 : decode cX9_addClient 74 = .ok (.aload_n 0, 1) := by decide +kernel
theorem dX9_addClient_75 : decode cX9_addClient 75 = .ok (.getfield 7, 3) := by decide +kernel
theorem dX9_addClient_78 : decode cX9_addClient 78 = .ok (.iconst 1, 1) := by decide +kernel
theorem dX9_addClient_79 : decode cX9_addClient 79 = .ok (.iaload, 1) := by decide +kernel
theorem dX9_addClient_80 : decode cX9_addClient 80 = .ok (.istore 6, 2) := by decide +kernel
theorem dX9_addClient_82 : decode cX9_addClient 82 = .ok (.aload_n 0, 1) := by decide +kernel
theorem dX9_addClient_83 : decode cX9_addClient 83 = .ok (.getfield 7, 3) := by decide +kernel
theorem dX9_addClient_86 : decode cX9_addClient 86 = .ok (.iload 6, 2) := by decide +kernel
theorem dX9_addClient_88 : decode cX9_addClient 88 = .ok (.iconst 0, 1) := by decide +kernel
theorem dX9_addClient_89 : decode cX9_addClient 89 = .ok (.invokestatic 36, 3) := by decide +kernel
theorem dX9_addClient_92 : decode cX9_addClient 92 = .ok (.iload_n 1, 1) := by decide +kernel
theorem dX9_addClient_93 : decode cX9_addClient 93 = .ok (.iastore, 1) := by decide +kernel
theorem dX9_addClient_94 : decode cX9_addClient 94 = .ok (.aload_n 0, 1) := by decide +kernel
theorem dX9_addClient_95 : decode cX9_addClient 95 = .ok (.getfield 7, 3) := by decide +kernel
theorem dX9_addClient_98 : decode cX9_addClient 98 = .ok (.iload 6, 2) := by decide +kernel
theorem dX9_addClient_100 : decode cX9_addClient 100 = .ok (.iconst 1, 1) := by decide +kernel
theorem dX9_addClient_101 : decode cX9_addClient 101 = .ok (.invokestatic 36, 3) := by decide +kernel
theorem dX9_addClient_104 : decode cX9_addClient 104 = .ok (.iload_n 2, 1) := by decide +kernel
theorem dX9_addClient_105 : decode cX9_addClient 105 = .ok (.iastore, 1) := by decide +kernel
theorem dX9_addClient_106 : decode cX9_addClient 106 = .ok (.aload_n 0, 1) := by decide +kernel
theorem dX9_addClient_107 : decode cX9_addClient 107 = .ok (.getfield 7, 3) := by decide +kernel
theorem dX9_addClient_110 : decode cX9_addClient 110 = .ok (.iload 6, 2) := by decide +kernel
theorem dX9_addClient_112 : decode cX9_addClient 112 = .ok (.iconst 2, 1) := by decide +kernel
theorem dX9_addClient_113 : decode cX9_addClient 113 = .ok (.invokestatic 36, 3) := by decide +kernel
theorem dX9_addClient_116 : decode cX9_addClient 116 = .ok (.iload_n 3, 1) := by decide +kernel
theorem dX9_addClient_117 : decode cX9_addClient 117 = .ok (.iastore, 1) := by decide +kernel
theorem dX9_addClient_118 : decode cX9_addClient 118 = .ok (.aload_n 0, 1) := by decide +kernel
theorem dX9_addClient_119 : decode cX9_addClient 119 = .ok (.getfield 7, 3) := by decide +kernel
theorem dX9_addClient_122 : decode cX9_addClient 122 = .ok (.iload 6, 2) := by decide +kernel
theorem dX9_addClient_124 : decode cX9_addClient 124 = .ok (.iconst 3, 1) := by decide +kernel
theorem dX9_addClient_125 : decode cX9_addClient 125 = .ok (.invokestatic 36, 3) := by decide +kernel
theorem dX9_addClient_128 : decode cX9_addClient 128 = .ok (.iload 4, 2) := by decide +kernel
theorem dX9_addClient_130 : decode cX9_addClient 130 = .ok (.iastore, 1) := by decide +kernel
theorem dX9_addClient_131 : decode cX9_addClient 131 = .ok (.aload_n 0, 1) := by decide +kernel
theorem dX9_addClient_132 : decode cX9_addClient 132 = .ok (.getfield 7, 3) := by decide +kernel
theorem dX9_addClient_135 : decode cX9_addClient 135 = .ok (.iload 6, 2) := by decide +kernel
theorem dX9_addClient_137 : decode cX9_addClient 137 = .ok (.iconst 4, 1) := by decide +kernel
theorem dX9_addClient_138 : decode cX9_addClient 138 = .ok (.invokestatic 36, 3) := by decide +kernel
theorem dX9_addClient_141 : decode cX9_addClient 141 = .ok (.iload 5, 2) := by decide +kernel
theorem dX9_addClient_143 : decode cX9_addClient 143 = .ok (.iastore, 1) := by decide +kernel
theorem dX9_addClient_144 : decode cX9_addClient 144 = .ok (.aload_n 0, 1) := by decide +kernel
theorem dX9_addClient_145 : decode cX9_addClient 145 = .ok (.getfield 7, 3) := by decide +kernel
theorem dX9_addClient_148 : decode cX9_addClient 148 = .ok (.iload 6, 2) := by decide +kernel
theorem dX9_addClient_150 : decode cX9_addClient 150 = .ok (.iconst 5, 1) := by decide +kernel
theorem dX9_addClient_151 : decode cX9_addClient 151 = .ok (.invokestatic 36, 3) := by decide +kernel
theorem dX9_addClient_154 : decode cX9_addClient 154 = .ok (.iconst 1, 1) := by decide +kernel
theorem dX9_addClient_155 : decode cX9_addClient 155 = .ok (.iastore, 1) := by decide +kernel
theorem dX9_addClient_156 : decode cX9_addClient 156 = .ok (.aload_n 0, 1) := by decide +kernel
theorem dX9_addClient_157 : decode cX9_addClient 157 = .ok (.getfield 7, 3) := by decide +kernel
theorem dX9_addClient_160 : decode cX9_addClient 160 = .ok (.iconst 1, 1) := by decide +kernel
theorem dX9_addClient_161 : decode cX9_addClient 161 = .ok (.dup2, 1) := by decide +kernel
theorem dX9_addClient_162 : decode cX9_addClient 162 = .ok (.iaload, 1) := by decide +kernel
theorem dX9_addClient_163 : decode cX9_addClient 163 = .ok (.iconst 1, 1) := by decide +kernel
theorem dX9_addClient_164 : decode cX9_addClient 164 = .ok (.iadd, 1) := by decide +kernel
theorem dX9_addClient_165 : decode cX9_addClient 165 = .ok (.iastore, 1) := by decide +kernel
theorem dX9_addClient_166 : decode cX9_addClient 166 = .ok (.iload 6, 2) := by decide +kernel
theorem dX9_addClient_168 : decode cX9_addClient 168 = .ok (.ireturn, 1) := by decide +kernel
theorem dX9_becomes_0 : decode cX9_becomes 0 = .ok (.aload_n 0, 1) := by decide +kernel
theorem dX9_becomes_1 : decode cX9_becomes 1 = .ok (.getfield 7, 3) := by decide +kernel
theorem dX9_becomes_4 : decode cX9_becomes 4 = .ok (.iload_n 1, 1) := by decide +kernel
theorem dX9_becomes_5 : decode cX9_becomes 5 = .ok (.iaload, 1) := by decide +kernel
theorem dX9_becomes_6 : decode cX9_becomes 6 = .ok (.iload_n 2, 1) := by decide +kernel
theorem dX9_becomes_7 : decode cX9_becomes 7 = .ok (.if_icmp .ne 6, 3) := by decide +kernel
theorem dX9_becomes_10 : decode cX9_becomes 10 = .ok (.bipush (-5), 2) := by decide +kernel
theorem dX9_becomes_12 : decode cX9_becomes 12 = .ok (.ireturn, 1) := by decide +kernel
theorem dX9_becomes_13 : decode cX9_becomes 13 = .ok (.aload_n 0, 1) := by decide +kernel
theorem dX9_becomes_14 : decode cX9_becomes 14 = .ok (.invokevirtual 89, 3) := by decide +kernel
theorem dX9_becomes_17 : decode cX9_becomes 17 = .ok (.aload_n 0, 1) := by decide +kernel
theorem dX9_becomes_18 : decode cX9_becomes 18 = .ok (.getfield 7, 3) := by decide +kernel
theorem dX9_becomes_21 : decode cX9_becomes 21 = .ok (.iload_n 1, 1) := by decide +kernel
theorem dX9_becomes_22 : decode cX9_becomes 22 = .ok (.iaload, 1) := by decide +kernel
theorem dX9_becomes_23 : decode cX9_becomes 23 = .ok (.istore_n 3, 1) := by decide +kernel
theorem dX9_becomes_24 : decode cX9_becomes 24 = .ok (.aload_n 0, 1) := by decide +kernel
theorem dX9_becomes_25 : decode cX9_becomes 25 = .ok (.getfield 7, 3) := by decide +kernel
theorem dX9_becomes_28 : decode cX9_becomes 28 = .ok (.iload_n 1, 1) := by decide +kernel
theorem dX9_becomes_29 : decode cX9_becomes 29 = .ok (.iload_n 2, 1) := by decide +kernel
theorem dX9_becomes_30 : decode cX9_becomes 30 = .ok (.iastore, 1) := by decide +kernel
theorem dX9_becomes_31 : decode cX9_becomes 31 = .ok (.iload_n 3, 1) := by decide +kernel
theorem dX9_becomes_32 : decode cX9_becomes 32 = .ok (.ireturn, 1) := by decide +kernel
theorem dX9_setTopics_0 : decode cX9_setTopics 0 = .ok (.aload_n 0, 1) := by decide +kernel
theorem dX9_setTopics_1 : decode cX9_setTopics 1 = .ok (.iload_n 1, 1) := by decide +kernel
theorem dX9_setTopics_2 : decode cX9_setTopics 2 = .ok (.invokevirtual 92, 3) := by decide +kernel
theorem dX9_setTopics_5 : decode cX9_setTopics 5 = .ok (.ifCond .ne 5, 3) := by decide +kernel
theorem dX9_setTopics_8 : decode cX9_setTopics 8 = .ok (.iconst (-1), 1) := by decide +kernel
theorem dX9_setTopics_9 : decode cX9_setTopics 9 = .ok (.ireturn, 1) := by decide +kernel
theorem dX9_setTopics_10 : decode cX9_setTopics 10 = .ok (.iload_n 2, 1) := by decide +kernel
theorem dX9_setTopics_11 : decode cX9_setTopics 11 = .ok (.iconst 1, 1) := by decide +kernel
theorem dX9_setTopics_12 : decode cX9_setTopics 12 = .ok (.sipush 255, 3) := by decide +kernel
theorem dX9_setTopics_15 : decode cX9_setTopics 15 = .ok (.invokestatic 32, 3) := by decide +kernel
theorem dX9_setTopics_18 : decode cX9_setTopics 18 = .ok (.ifCond .eq 16, 3) := by decide +kernel
theorem dX9_setTopics_21 : decode cX9_setTopics 21 = .ok (.aload_n 0, 1) := by decide +kernel
theorem dX9_setTopics_22 : decode cX9_setTopics 22 = .ok (.iload_n 1, 1) := by decide +kernel
theorem dX9_setTopics_23 : decode cX9_setTopics 23 = .ok (.iconst 0, 1) := by decide +kernel
theorem dX9_setTopics_24 : decode cX9_setTopics 24 = .ok (.invokestatic 36, 3) := by decide +kernel
theorem dX9_setTopics_27 : decode cX9_setTopics 27 = .ok (.iload_n 2, 1) := by decide +kernel
theorem dX9_setTopics_28 : decode cX9_setTopics 28 = .ok (.invokevirtual 96, 3) := by decide +kernel
theorem dX9_setTopics_31 : decode cX9_setTopics 31 = .ok (.goto 5, 3) := by decide +kernel
theorem dX9_setTopics_34 : decode cX9_setTopics 34 = .ok (.bipush (-2), 2) := by decide +kernel
theorem dX9_setTopics_36 : decode cX9_setTopics 36 = .ok (.ireturn, 1) := by decide +kernel
theorem dX9_setUp_0 : decode cX9_setUp 0 = .ok (.aload_n 0, 1) := by decide +kernel
theorem dX9_setUp_1 : decode cX9_setUp 1 = .ok (.iload_n 1, 1) := by decide +kernel
theorem dX9_setUp_2 : decode cX9_setUp 2 = .ok (.invokevirtual 92, 3) := by decide +kernel
theorem dX9_setUp_5 : decode cX9_setUp 5 = .ok (.ifCond .ne 5, 3) := by decide +kernel
theorem dX9_setUp_8 : decode cX9_setUp 8 = .ok (.iconst (-1), 1) := by decide +kernel
theorem dX9_setUp_9 : decode cX9_setUp 9 = .ok (.ireturn, 1) := by decide +kernel
theorem dX9_setUp_10 : decode cX9_setUp 10 = .ok (.aload_n 0, 1) := by decide +kernel
theorem dX9_setUp_11 : decode cX9_setUp 11 = .ok (.iload_n 1, 1) := by decide +kernel
theorem dX9_setUp_12 : decode cX9_setUp 12 = .ok (.iconst 5, 1) := by decide +kernel
theorem dX9_setUp_13 : decode cX9_setUp 13 = .ok (.invokestatic 36, 3) := by decide +kernel
theorem dX9_setUp_16 : decode cX9_setUp 16 = .ok (.iload_n 2, 1) := by decide +kernel
theorem dX9_setUp_17 : decode cX9_setUp 17 = .ok (.ifCond .eq 7, 3) := by decide +kernel
theorem dX9_setUp_20 : decode cX9_setUp 20 = .ok (.iconst 1, 1) := by decide +kernel
theorem dX9_setUp_21 : decode cX9_setUp 21 = .ok (.goto 4, 3) := by decide +kernel
theorem dX9_setUp_24 : decode cX9_setUp 24 = .ok (.iconst 0, 1) := by decide +kernel
theorem dX9_setUp_25 : decode cX9_setUp 25 = .ok (.invokevirtual 96, 3) := by decide +kernel
theorem dX9_setUp_28 : decode cX9_setUp 28 = .ok (.ifCond .ge 6, 3) := by decide +kernel
theorem dX9_setUp_31 : decode cX9_setUp 31 = .ok (.bipush (-5), 2) := by decide +kernel
theorem dX9_setUp_33 : decode cX9_setUp 33 = .ok (.ireturn, 1) := by decide +kernel
theorem dX9_setUp_34 : decode cX9_setUp 34 = .ok (.iconst 0, 1) := by decide +kernel
theorem dX9_setUp_35 : decode cX9_setUp 35 = .ok (.istore_n 3, 1) := by decide +kernel
theorem dX9_setUp_36 : decode cX9_setUp 36 = .ok (.iconst 0, 1) := by decide +kernel
theorem dX9_setUp_37 : decode cX9_setUp 37 = .ok (.istore 4, 2) := by decide +kernel
theorem dX9_setUp_39 : decode cX9_setUp 39 = .ok (.iload 4, 2) := by decide +kernel
theorem dX9_setUp_41 : decode cX9_setUp 41 = .ok (.aload_n 0, 1) := by decide +kernel
theorem dX9_setUp_42 : decode cX9_setUp 42 = .ok (.getfield 7, 3) := by decide +kernel
theorem dX9_setUp_45 : decode cX9_setUp 45 = .ok (.iconst 3, 1) := by decide +kernel
theorem dX9_setUp_46 : decode cX9_setUp 46 = .ok (.iaload, 1) := by decide +kernel
theorem dX9_setUp_47 : decode cX9_setUp 47 = .ok (.if_icmp .ge 39, 3) := by decide +kernel
theorem dX9_setUp_50 : decode cX9_setUp 50 = .ok (.iload_n 3, 1) := by decide +kernel
theorem dX9_setUp_51 : decode cX9_setUp 51 = .ok (.aload_n 0, 1) := by decide +kernel
theorem dX9_setUp_52 : decode cX9_setUp 52 = .ok (.iload 4, 2) := by decide +kernel
theorem dX9_setUp_54 : decode cX9_setUp 54 = .ok (.iconst 1, 1) := by decide +kernel
theorem dX9_setUp_55 : decode cX9_setUp 55 = .ok (.invokevirtual 65, 3) := by decide +kernel
theorem dX9_setUp_58 : decode cX9_setUp 58 = .ok (.iload_n 1, 1) := by decide +kernel
theorem dX9_setUp_59 : decode cX9_setUp 59 = .ok (.if_icmp .ne 18, 3) := by decide +kernel
theorem dX9_setUp_62 : decode cX9_setUp 62 = .ok (.aload_n 0, 1) := by decide +kernel
theorem dX9_setUp_63 : decode cX9_setUp 63 = .ok (.iload 4, 2) := by decide +kernel
theorem dX9_setUp_65 : decode cX9_setUp 65 = .ok (.iconst 2, 1) := by decide +kernel
theorem dX9_setUp_66 : decode cX9_setUp 66 = .ok (.invokevirtual 65, 3) := by decide +kernel
theorem dX9_setUp_69 : decode cX9_setUp 69 = .ok (.iconst 1, 1) := by decide +kernel
theorem dX9_setUp_70 : decode cX9_setUp 70 = .ok (.if_icmp .gt 7, 3) := by decide +kernel
theorem dX9_setUp_73 : decode cX9_setUp 73 = .ok (.iconst 1, 1) := by decide +kernel
theorem dX9_setUp_74 : decode cX9_setUp 74 = .ok (.goto 4, 3) := by decide +kernel
theorem dX9_setUp_77 : decode cX9_setUp 77 = .ok (.iconst 0, 1) := by decide +kernel
theorem dX9_setUp_78 : decode cX9_setUp 78 = .ok (.iadd, 1) := by decide +kernel
theorem dX9_setUp_79 : decode cX9_setUp 79 = .ok (.istore_n 3, 1) := by decide +kernel
theorem dX9_setUp_80 : decode cX9_setUp 80 = .ok (.iinc 4 1, 3) := by decide +kernel
theorem dX9_setUp_83 : decode cX9_setUp 83 = .ok (.goto (-44), 3) := by decide +kernel
theorem dX9_setUp_86 : decode cX9_setUp 86 = .ok (.iload_n 3, 1) := by decide +kernel
theorem dX9_setUp_87 : decode cX9_setUp 87 = .ok (.ireturn, 1) := by decide +kernel
theorem dX9_setUse_0 : decode cX9_setUse 0 = .ok (.iload_n 1, 1) := by decide +kernel
theorem dX9_setUse_1 : decode cX9_setUse 1 = .ok (.iconst 1, 1) := by decide +kernel
theorem dX9_setUse_2 : decode cX9_setUse 2 = .ok (.bipush 9, 2) := by decide +kernel
theorem dX9_setUse_4 : decode cX9_setUse 4 = .ok (.invokestatic 32, 3) := by decide +kernel
theorem dX9_setUse_7 : decode cX9_setUse 7 = .ok (.ifCond .eq 12, 3) := by decide +kernel
theorem dX9_setUse_10 : decode cX9_setUse 10 = .ok (.aload_n 0, 1) := by decide +kernel
theorem dX9_setUse_11 : decode cX9_setUse 11 = .ok (.iconst 4, 1) := by decide +kernel
theorem dX9_setUse_12 : decode cX9_setUse 12 = .ok (.iload_n 1, 1) := by decide +kernel
theorem dX9_setUse_13 : decode cX9_setUse 13 = .ok (.invokevirtual 96, 3) := by decide +kernel
theorem dX9_setUse_16 : decode cX9_setUse 16 = .ok (.goto 5, 3) := by decide +kernel
theorem dX9_setUse_19 : decode cX9_setUse 19 = .ok (.bipush (-2), 2) := by decide +kernel
theorem dX9_setUse_21 : decode cX9_setUse 21 = .ok (.ireturn, 1) := by decide +kernel
theorem dX9_pay_0 : decode cX9_pay 0 = .ok (.aload_n 0, 1) := by decide +kernel
theorem dX9_pay_1 : decode cX9_pay 1 = .ok (.iload_n 1, 1) := by decide +kernel
theorem dX9_pay_2 : decode cX9_pay 2 = .ok (.invokevirtual 92, 3) := by decide +kernel
theorem dX9_pay_5 : decode cX9_pay 5 = .ok (.ifCond .ne 5, 3) := by decide +kernel
theorem dX9_pay_8 : decode cX9_pay 8 = .ok (.iconst (-1), 1) := by decide +kernel
theorem dX9_pay_9 : decode cX9_pay 9 = .ok (.ireturn, 1) := by decide +kernel
theorem dX9_pay_10 : decode cX9_pay 10 = .ok (.iload_n 2, 1) := by decide +kernel
theorem dX9_pay_11 : decode cX9_pay 11 = .ok (.iconst 1, 1) := by decide +kernel
theorem dX9_pay_12 : decode cX9_pay 12 = .ok (.ldc 88, 2) := by decide +kernel
theorem dX9_pay_14 : decode cX9_pay 14 = .ok (.invokestatic 32, 3) := by decide +kernel
theorem dX9_pay_17 : decode cX9_pay 17 = .ok (.ifCond .ne 6, 3) := by decide +kernel
theorem dX9_pay_20 : decode cX9_pay 20 = .ok (.bipush (-2), 2) := by decide +kernel
theorem dX9_pay_22 : decode cX9_pay 22 = .ok (.ireturn, 1) := by decide +kernel
theorem dX9_pay_23 : decode cX9_pay 23 = .ok (.aload_n 0, 1) := by decide +kernel
theorem dX9_pay_24 : decode cX9_pay 24 = .ok (.iload_n 1, 1) := by decide +kernel
theorem dX9_pay_25 : decode cX9_pay 25 = .ok (.bipush 6, 2) := by decide +kernel
theorem dX9_pay_27 : decode cX9_pay 27 = .ok (.invokevirtual 46, 3) := by decide +kernel
theorem dX9_pay_30 : decode cX9_pay 30 = .ok (.iload_n 2, 1) := by decide +kernel
theorem dX9_pay_31 : decode cX9_pay 31 = .ok (.if_icmp .ge 6, 3) := by decide +kernel
theorem dX9_pay_34 : decode cX9_pay 34 = .ok (.bipush (-4), 2) := by decide +kernel
theorem dX9_pay_36 : decode cX9_pay 36 = .ok (.ireturn, 1) := by decide +kernel
theorem dX9_pay_37 : decode cX9_pay 37 = .ok (.aload_n 0, 1) := by decide +kernel
theorem dX9_pay_38 : decode cX9_pay 38 = .ok (.invokevirtual 89, 3) := by decide +kernel
theorem dX9_pay_41 : decode cX9_pay 41 = .ok (.aload_n 0, 1) := by decide +kernel
theorem dX9_pay_42 : decode cX9_pay 42 = .ok (.getfield 7, 3) := by decide +kernel
theorem dX9_pay_45 : decode cX9_pay 45 = .ok (.iload_n 1, 1) := by decide +kernel
theorem dX9_pay_46 : decode cX9_pay 46 = .ok (.bipush 6, 2) := by decide +kernel
theorem dX9_pay_48 : decode cX9_pay 48 = .ok (.invokestatic 36, 3) := by decide +kernel
theorem dX9_pay_51 : decode cX9_pay 51 = .ok (.dup2, 1) := by decide +kernel
theorem dX9_pay_52 : decode cX9_pay 52 = .ok (.iaload, 1) := by decide +kernel
theorem dX9_pay_53 : decode cX9_pay 53 = .ok (.iload_n 2, 1) := by decide +kernel
theorem dX9_pay_54 : decode cX9_pay 54 = .ok (.isub, 1) := by decide +kernel
theorem dX9_pay_55 : decode cX9_pay 55 = .ok (.iastore, 1) := by decide +kernel
theorem dX9_pay_56 : decode cX9_pay 56 = .ok (.aload_n 0, 1) := by decide +kernel
theorem dX9_pay_57 : decode cX9_pay 57 = .ok (.iload_n 1, 1) := by decide +kernel
theorem dX9_pay_58 : decode cX9_pay 58 = .ok (.bipush 6, 2) := by decide +kernel
theorem dX9_pay_60 : decode cX9_pay 60 = .ok (.invokevirtual 46, 3) := by decide +kernel
theorem dX9_pay_63 : decode cX9_pay 63 = .ok (.ireturn, 1) := by decide +kernel
theorem dX9_type_0 : decode cX9_type 0 = .ok (.aload_n 0, 1) := by decide +kernel
theorem dX9_type_1 : decode cX9_type 1 = .ok (.getfield 99, 3) := by decide +kernel
theorem dX9_type_4 : decode cX9_type 4 = .ok (.bipush 40, 2) := by decide +kernel
theorem dX9_type_6 : decode cX9_type 6 = .ok (.if_icmp .ne 6, 3) := by decide +kernel
theorem dX9_type_9 : decode cX9_type 9 = .ok (.bipush (-3), 2) := by decide +kernel
theorem dX9_type_11 : decode cX9_type 11 = .ok (.ireturn, 1) := by decide +kernel
theorem dX9_type_12 : decode cX9_type 12 = .ok (.aload_n 0, 1) := by decide +kernel
theorem dX9_type_13 : decode cX9_type 13 = .ok (.getfield 22, 3) := by decide +kernel
theorem dX9_type_16 : decode cX9_type 16 = .ok (.aload_n 0, 1) := by decide +kernel
theorem dX9_type_17 : decode cX9_type 17 = .ok (.getfield 99, 3) := by decide +kernel
theorem dX9_type_20 : decode cX9_type 20 = .ok (.iload_n 1, 1) := by decide +kernel
theorem dX9_type_21 : decode cX9_type 21 = .ok (.iastore, 1) := by decide +kernel
theorem dX9_type_22 : decode cX9_type 22 = .ok (.aload_n 0, 1) := by decide +kernel
theorem dX9_type_23 : decode cX9_type 23 = .ok (.dup, 1) := by decide +kernel
theorem dX9_type_24 : decode cX9_type 24 = .ok (.getfield 99, 3) := by decide +kernel
theorem dX9_type_27 : decode cX9_type 27 = .ok (.iconst 1, 1) := by decide +kernel
theorem dX9_type_28 : decode cX9_type 28 = .ok (.iadd, 1) := by decide +kernel
theorem dX9_type_29 : decode cX9_type 29 = .ok (.putfield 99, 3) := by decide +kernel
theorem dX9_type_32 : decode cX9_type 32 = .ok (.aload_n 0, 1) := by decide +kernel
theorem dX9_type_33 : decode cX9_type 33 = .ok (.getfield 99, 3) := by decide +kernel
theorem dX9_type_36 : decode cX9_type 36 = .ok (.ireturn, 1) := by decide +kernel
theorem dX9_clearText_0 : decode cX9_clearText 0 = .ok (.aload_n 0, 1) := by decide +kernel
theorem dX9_clearText_1 : decode cX9_clearText 1 = .ok (.getfield 99, 3) := by decide +kernel
theorem dX9_clearText_4 : decode cX9_clearText 4 = .ok (.istore_n 1, 1) := by decide +kernel
theorem dX9_clearText_5 : decode cX9_clearText 5 = .ok (.aload_n 0, 1) := by decide +kernel
theorem dX9_clearText_6 : decode cX9_clearText 6 = .ok (.iconst 0, 1) := by decide +kernel
theorem dX9_clearText_7 : decode cX9_clearText 7 = .ok (.putfield 99, 3) := by decide +kernel
theorem dX9_clearText_10 : decode cX9_clearText 10 = .ok (.iload_n 1, 1) := by decide +kernel
theorem dX9_clearText_11 : decode cX9_clearText 11 = .ok (.ireturn, 1) := by decide +kernel
theorem dX9_sign_0 : decode cX9_sign 0 = .ok (.aload_n 0, 1) := by decide +kernel
theorem dX9_sign_1 : decode cX9_sign 1 = .ok (.getfield 102, 3) := by decide +kernel
theorem dX9_sign_4 : decode cX9_sign 4 = .ok (.aload_n 0, 1) := by decide +kernel
theorem dX9_sign_5 : decode cX9_sign 5 = .ok (.getfield 99, 3) := by decide +kernel
theorem dX9_sign_8 : decode cX9_sign 8 = .ok (.if_icmp .ge 20, 3) := by decide +kernel
theorem dX9_sign_11 : decode cX9_sign 11 = .ok (.aload_n 0, 1) := by decide +kernel
theorem dX9_sign_12 : decode cX9_sign 12 = .ok (.getfield 22, 3) := by decide +kernel
theorem dX9_sign_15 : decode cX9_sign 15 = .ok (.aload_n 0, 1) := by decide +kernel
theorem dX9_sign_16 : decode cX9_sign 16 = .ok (.getfield 102, 3) := by decide +kernel
theorem dX9_sign_19 : decode cX9_sign 19 = .ok (.iaload, 1) := by decide +kernel
theorem dX9_sign_20 : decode cX9_sign 20 = .ok (.iload_n 1, 1) := by decide +kernel
theorem dX9_sign_21 : decode cX9_sign 21 = .ok (.if_icmp .ne 7, 3) := by decide +kernel
theorem dX9_sign_24 : decode cX9_sign 24 = .ok (.iconst 1, 1) := by decide +kernel
theorem dX9_sign_25 : decode cX9_sign 25 = .ok (.goto 4, 3) := by decide +kernel
theorem dX9_sign_28 : decode cX9_sign 28 = .ok (.iconst 0, 1) := by decide +kernel
theorem dX9_sign_29 : decode cX9_sign 29 = .ok (.istore_n 2, 1) := by decide +kernel
theorem dX9_sign_30 : decode cX9_sign 30 = .ok (.aload_n 0, 1) := by decide +kernel
theorem dX9_sign_31 : decode cX9_sign 31 = .ok (.dup, 1) := by decide +kernel
theorem dX9_sign_32 : decode cX9_sign 32 = .ok (.getfield 102, 3) := by decide +kernel
theorem dX9_sign_35 : decode cX9_sign 35 = .ok (.iload_n 2, 1) := by decide +kernel
theorem dX9_sign_36 : decode cX9_sign 36 = .ok (.ifCond .eq 7, 3) := by decide +kernel
theorem dX9_sign_39 : decode cX9_sign 39 = .ok (.iconst 1, 1) := by decide +kernel
theorem dX9_sign_40 : decode cX9_sign 40 = .ok (.goto 4, 3) := by decide +kernel
theorem dX9_sign_43 : decode cX9_sign 43 = .ok (.iconst 0, 1) := by decide +kernel
theorem dX9_sign_44 : decode cX9_sign 44 = .ok (.iadd, 1) := by decide +kernel
theorem dX9_sign_45 : decode cX9_sign 45 = .ok (.putfield 102, 3) := by decide +kernel
theorem dX9_sign_48 : decode cX9_sign 48 = .ok (.iload_n 2, 1) := by decide +kernel
theorem dX9_sign_49 : decode cX9_sign 49 = .ok (.ireturn, 1) := by decide +kernel
theorem dX9_digitTo_0 : decode cX9_digitTo 0 = .ok (.aload_n 0, 1) := by decide +kernel
theorem dX9_digitTo_1 : decode cX9_digitTo 1 = .ok (.aload_n 0, 1) := by decide +kernel
theorem dX9_digitTo_2 : decode cX9_digitTo 2 = .ok (.getfield 102, 3) := by decide +kernel
theorem dX9_digitTo_5 : decode cX9_digitTo 5 = .ok (.aload_n 0, 1) := by decide +kernel
theorem dX9_digitTo_6 : decode cX9_digitTo 6 = .ok (.getfield 99, 3) := by decide +kernel
theorem dX9_digitTo_9 : decode cX9_digitTo 9 = .ok (.if_icmp .ge 18, 3) := by decide +kernel
theorem dX9_digitTo_12 : decode cX9_digitTo 12 = .ok (.aload_n 0, 1) := by decide +kernel
theorem dX9_digitTo_13 : decode cX9_digitTo 13 = .ok (.getfield 22, 3) := by decide +kernel
theorem dX9_digitTo_16 : decode cX9_digitTo 16 = .ok (.aload_n 0, 1) := by decide +kernel
theorem dX9_digitTo_17 : decode cX9_digitTo 17 = .ok (.getfield 102, 3) := by decide +kernel
theorem dX9_digitTo_20 : decode cX9_digitTo 20 = .ok (.iaload, 1) := by decide +kernel
theorem dX9_digitTo_21 : decode cX9_digitTo 21 = .ok (.bipush 48, 2) := by decide +kernel
theorem dX9_digitTo_23 : decode cX9_digitTo 23 = .ok (.isub, 1) := by decide +kernel
theorem dX9_digitTo_24 : decode cX9_digitTo 24 = .ok (.goto 4, 3) := by decide +kernel
theorem dX9_digitTo_27 : decode cX9_digitTo 27 = .ok (.iconst (-1), 1) := by decide +kernel
theorem dX9_digitTo_28 : decode cX9_digitTo 28 = .ok (.putfield 105, 3) := by decide +kernel
theorem dX9_digitTo_31 : decode cX9_digitTo 31 = .ok (.aload_n 0, 1) := by decide +kernel
theorem dX9_digitTo_32 : decode cX9_digitTo 32 = .ok (.getfield 105, 3) := by decide +kernel
theorem dX9_digitTo_35 : decode cX9_digitTo 35 = .ok (.iconst 0, 1) := by decide +kernel
theorem dX9_digitTo_36 : decode cX9_digitTo 36 = .ok (.iload_n 1, 1) := by decide +kernel
theorem dX9_digitTo_37 : decode cX9_digitTo 37 = .ok (.invokestatic 32, 3) := by decide +kernel
theorem dX9_digitTo_40 : decode cX9_digitTo 40 = .ok (.istore_n 2, 1) := by decide +kernel
theorem dX9_digitTo_41 : decode cX9_digitTo 41 = .ok (.aload_n 0, 1) := by decide +kernel
theorem dX9_digitTo_42 : decode cX9_digitTo 42 = .ok (.dup, 1) := by decide +kernel
theorem dX9_digitTo_43 : decode cX9_digitTo 43 = .ok (.getfield 102, 3) := by decide +kernel
theorem dX9_digitTo_46 : decode cX9_digitTo 46 = .ok (.iload_n 2, 1) := by decide +kernel
theorem dX9_digitTo_47 : decode cX9_digitTo 47 = .ok (.ifCond .eq 7, 3) := by decide +kernel
theorem dX9_digitTo_50 : decode cX9_digitTo 50 = .ok (.iconst 1, 1) := by decide +kernel
theorem dX9_digitTo_51 : decode cX9_digitTo 51 = .ok (.goto 4, 3) := by decide +kernel
theorem dX9_digitTo_54 : decode cX9_digitTo 54 = .ok (.iconst 0, 1) := by decide +kernel
theorem dX9_digitTo_55 : decode cX9_digitTo 55 = .ok (.iadd, 1) := by decide +kernel
theorem dX9_digitTo_56 : decode cX9_digitTo 56 = .ok (.putfield 102, 3) := by decide +kernel
theorem dX9_digitTo_59 : decode cX9_digitTo 59 = .ok (.iload_n 2, 1) := by decide +kernel
theorem dX9_digitTo_60 : decode cX9_digitTo 60 = .ok (.ireturn, 1) := by decide +kernel
theorem dX9_readPersons_0 : decode cX9_readPersons 0 = .ok (.aload_n 0, 1) := by decide +kernel
theorem dX9_readPersons_1 : decode cX9_readPersons 1 = .ok (.getfield 25, 3) := by decide +kernel
theorem dX9_readPersons_4 : decode cX9_readPersons 4 = .ok (.iconst 1, 1) := by decide +kernel
theorem dX9_readPersons_5 : decode cX9_readPersons 5 = .ok (.iconst 0, 1) := by decide +kernel
theorem dX9_readPersons_6 : decode cX9_readPersons 6 = .ok (.iastore, 1) := by decide +kernel
theorem dX9_readPersons_7 : decode cX9_readPersons 7 = .ok (.iconst 1, 1) := by decide +kernel
theorem dX9_readPersons_8 : decode cX9_readPersons 8 = .ok (.istore_n 1, 1) := by decide +kernel
theorem dX9_readPersons_9 : decode cX9_readPersons 9 = .ok (.iload_n 1, 1) := by decide +kernel
theorem dX9_readPersons_10 : decode cX9_readPersons 10 = .ok (.ifCond .eq 127, 3) := by decide +kernel
theorem dX9_readPersons_13 : decode cX9_readPersons 13 = .ok (.aload_n 0, 1) := by decide +kernel
theorem dX9_readPersons_14 : decode cX9_readPersons 14 = .ok (.getfield 102, 3) := by decide +kernel
theorem dX9_readPersons_17 : decode cX9_readPersons 17 = .ok (.istore_n 2, 1) := by decide +kernel
theorem dX9_readPersons_18 : decode cX9_readPersons 18 = .ok (.aload_n 0, 1) := by decide +kernel
theorem dX9_readPersons_19 : decode cX9_readPersons 19 = .ok (.bipush 9, 2) := by decide +kernel
theorem dX9_readPersons_21 : decode cX9_readPersons 21 = .ok (.invokevirtual 108, 3) := by decide +kernel
theorem dX9_readPersons_24 : decode cX9_readPersons 24 = .ok (.istore_n 3, 1) := by decide +kernel
theorem dX9_readPersons_25 : decode cX9_readPersons 25 = .ok (.iconst 0, 1) := by decide +kernel
theorem dX9_readPersons_26 : decode cX9_readPersons 26 = .ok (.istore 4, 2) := by decide +kernel
theorem dX9_readPersons_28 : decode cX9_readPersons 28 = .ok (.iload 4, 2) := by decide +kernel
theorem dX9_readPersons_30 : decode cX9_readPersons 30 = .ok (.aload_n 0, 1) := by decide +kernel
theorem dX9_readPersons_31 : decode cX9_readPersons 31 = .ok (.getfield 25, 3) := by decide +kernel
theorem dX9_readPersons_34 : decode cX9_readPersons 34 = .ok (.iconst 1, 1) := by decide +kernel
theorem dX9_readPersons_35 : decode cX9_readPersons 35 = .ok (.iaload, 1) := by decide +kernel
theorem dX9_readPersons_36 : decode cX9_readPersons 36 = .ok (.if_icmp .ge 35, 3) := by decide +kernel
theorem dX9_readPersons_39 : decode cX9_readPersons 39 = .ok (.iload_n 3, 1) := by decide +kernel
theorem dX9_readPersons_40 : decode cX9_readPersons 40 = .ok (.ifCond .eq 23, 3) := by decide +kernel
theorem dX9_readPersons_43 : decode cX9_readPersons 43 = .ok (.aload_n 0, 1) := by decide +kernel
theorem dX9_readPersons_44 : decode cX9_readPersons 44 = .ok (.getfield 25, 3) := by decide +kernel
theorem dX9_readPersons_47 : decode cX9_readPersons 47 = .ok (.iconst 2, 1) := by decide +kernel
theorem dX9_readPersons_48 : decode cX9_readPersons 48 = .ok (.iload 4, 2) := by decide +kernel
theorem dX9_readPersons_50 : decode cX9_readPersons 50 = .ok (.iadd, 1) := by decide +kernel
theorem dX9_readPersons_51 : decode cX9_readPersons 51 = .ok (.iaload, 1) := by decide +kernel
theorem dX9_readPersons_52 : decode cX9_readPersons 52 = .ok (.aload_n 0, 1) := by decide +kernel
theorem dX9_readPersons_53 : decode cX9_readPersons 53 = .ok (.getfield 105, 3) := by decide +kernel
theorem dX9_readPersons_56 : decode cX9_readPersons 56 = .ok (.if_icmp .eq 7, 3) := by decide +kernel
theorem dX9_readPersons_59 : decode cX9_readPersons 59 = .ok (.iconst 1, 1) := by decide +kernel
theorem dX9_readPersons_60 : decode cX9_readPersons 60 = .ok (.goto 4, 3) := by decide +kernel
theorem dX9_readPersons_63 : decode cX9_readPersons 63 = .ok (.iconst 0, 1) := by decide +kernel
theorem dX9_readPersons_64 : decode cX9_readPersons 64 = .ok (.istore_n 3, 1) := by decide +kernel
theorem dX9_readPersons_65 : decode cX9_readPersons 65 = .ok (.iinc 4 1, 3) := by decide +kernel
theorem dX9_readPersons_68 : decode cX9_readPersons 68 = .ok (.goto (-40), 3) := by decide +kernel
theorem dX9_readPersons_71 : decode cX9_readPersons 71 = .ok (.iload_n 3, 1) := by decide +kernel
theorem dX9_readPersons_72 : decode cX9_readPersons 72 = .ok (.ifCond .ne 10, 3) := by decide +kernel
theorem dX9_readPersons_75 : decode cX9_readPersons 75 = .ok (.aload_n 0, 1) := by decide +kernel
theorem dX9_readPersons_76 : decode cX9_readPersons 76 = .ok (.iload_n 2, 1) := by decide +kernel
theorem dX9_readPersons_77 : decode cX9_readPersons 77 = .ok (.putfield 102, 3) := by decide +kernel
theorem dX9_readPersons_80 : decode cX9_readPersons 80 = .ok (.iconst 0, 1) := by decide +kernel
theorem dX9_readPersons_81 : decode cX9_readPersons 81 = .ok (.ireturn, 1) := by decide +kernel
theorem dX9_readPersons_82 : decode cX9_readPersons 82 = .ok (.aload_n 0, 1) := by decide +kernel
theorem dX9_readPersons_83 : decode cX9_readPersons 83 = .ok (.getfield 25, 3) := by decide +kernel
theorem dX9_readPersons_86 : decode cX9_readPersons 86 = .ok (.iconst 2, 1) := by decide +kernel
theorem dX9_readPersons_87 : decode cX9_readPersons 87 = .ok (.aload_n 0, 1) := by decide +kernel
theorem dX9_readPersons_88 : decode cX9_readPersons 88 = .ok (.getfield 25, 3) := by decide +kernel
theorem dX9_readPersons_91 : decode cX9_readPersons 91 = .ok (.iconst 1, 1) := by decide +kernel
theorem dX9_readPersons_92 : decode cX9_readPersons 92 = .ok (.iaload, 1) := by decide +kernel
theorem dX9_readPersons_93 : decode cX9_readPersons 93 = .ok (.iadd, 1) := by decide +kernel
theorem dX9_readPersons_94 : decode cX9_readPersons 94 = .ok (.aload_n 0, 1) := by decide +kernel
theorem dX9_readPersons_95 : decode cX9_readPersons 95 = .ok (.getfield 105, 3) := by decide +kernel
theorem dX9_readPersons_98 : decode cX9_readPersons 98 = .ok (.iastore, 1) := by decide +kernel
theorem dX9_readPersons_99 : decode cX9_readPersons 99 = .ok (.aload_n 0, 1) := by decide +kernel
theorem dX9_readPersons_100 : decode cX9_readPersons 100 = .ok (.getfield 25, 3) := by decide +kernel
theorem dX9_readPersons_103 : decode cX9_readPersons 103 = .ok (.iconst 1, 1) := by decide +kernel
theorem dX9_readPersons_104 : decode cX9_readPersons 104 = .ok (.dup2, 1) := by decide +kernel
theorem dX9_readPersons_105 : decode cX9_readPersons 105 = .ok (.iaload, 1) := by decide +kernel
theorem dX9_readPersons_106 : decode cX9_readPersons 106 = .ok (.iconst 1, 1) := by decide +kernel
theorem dX9_readPersons_107 : decode cX9_readPersons 107 = .ok (.iadd, 1) := by decide +kernel
theorem dX9_readPersons_108 : decode cX9_readPersons 108 = .ok (.iastore, 1) := by decide +kernel
theorem dX9_readPersons_109 : decode cX9_readPersons 109 = .ok (.aload_n 0, 1) := by decide +kernel
theorem dX9_readPersons_110 : decode cX9_readPersons 110 = .ok (.getfield 25, 3) := by decide +kernel
theorem dX9_readPersons_113 : decode cX9_readPersons 113 = .ok (.iconst 1, 1) := by decide +kernel
theorem dX9_readPersons_114 : decode cX9_readPersons 114 = .ok (.iaload, 1) := by decide +kernel
theorem dX9_readPersons_115 : decode cX9_readPersons 115 = .ok (.iconst 3, 1) := by decide +kernel
theorem dX9_readPersons_116 : decode cX9_readPersons 116 = .ok (.if_icmp .ge 16, 3) := by decide +kernel
theorem dX9_readPersons_119 : decode cX9_readPersons 119 = .ok (.aload_n 0, 1) := by decide +kernel
theorem dX9_readPersons_120 : decode cX9_readPersons 120 = .ok (.bipush 44, 2) := by decide +kernel
theorem dX9_readPersons_122 : decode cX9_readPersons 122 = .ok (.invokevirtual 111, 3) := by decide +kernel
theorem dX9_readPersons_125 : decode cX9_readPersons 125 = .ok (.ifCond .eq 7, 3) := by decide +kernel
theorem dX9_readPersons_128 : decode cX9_readPersons 128 = .ok (.iconst 1, 1) := by decide +kernel
theorem dX9_readPersons_129 : decode cX9_readPersons 129 = .ok (.goto 4, 3) := by decide +kernel
theorem dX9_readPersons_132 : decode cX9_readPersons 132 = .ok (.iconst 0, 1) := by decide +kernel
theorem dX9_readPersons_133 : decode cX9_readPersons 133 = .ok (.istore_n 1, 1) := by decide +kernel
theorem dX9_readPersons_134 : decode cX9_readPersons 134 = .ok (.goto (-125), 3) := by decide +kernel
theorem dX9_readPersons_137 : decode cX9_readPersons 137 = .ok (.iconst 1, 1) := by decide +kernel
theorem dX9_readPersons_138 : decode cX9_readPersons 138 = .ok (.ireturn, 1) := by decide +kernel
theorem dX9_readHour_0 : decode cX9_readHour 0 = .ok (.iconst 0, 1) := by decide +kernel
theorem dX9_readHour_1 : decode cX9_readHour 1 = .ok (.istore_n 1, 1) := by decide +kernel
theorem dX9_readHour_2 : decode cX9_readHour 2 = .ok (.aload_n 0, 1) := by decide +kernel
theorem dX9_readHour_3 : decode cX9_readHour 3 = .ok (.getfield 102, 3) := by decide +kernel
theorem dX9_readHour_6 : decode cX9_readHour 6 = .ok (.istore_n 2, 1) := by decide +kernel
theorem dX9_readHour_7 : decode cX9_readHour 7 = .ok (.aload_n 0, 1) := by decide +kernel
theorem dX9_readHour_8 : decode cX9_readHour 8 = .ok (.getfield 102, 3) := by decide +kernel
theorem dX9_readHour_11 : decode cX9_readHour 11 = .ok (.iload_n 2, 1) := by decide +kernel
theorem dX9_readHour_12 : decode cX9_readHour 12 = .ok (.iconst 3, 1) := by decide +kernel
theorem dX9_readHour_13 : decode cX9_readHour 13 = .ok (.iadd, 1) := by decide +kernel
theorem dX9_readHour_14 : decode cX9_readHour 14 = .ok (.if_icmp .ge 44, 3) := by decide +kernel
theorem dX9_readHour_17 : decode cX9_readHour 17 = .ok (.aload_n 0, 1) := by decide +kernel
theorem dX9_readHour_18 : decode cX9_readHour 18 = .ok (.getfield 102, 3) := by decide +kernel
theorem dX9_readHour_21 : decode cX9_readHour 21 = .ok (.iload_n 2, 1) := by decide +kernel
theorem dX9_readHour_22 : decode cX9_readHour 22 = .ok (.if_icmp .eq 14, 3) := by decide +kernel
theorem dX9_readHour_25 : decode cX9_readHour 25 = .ok (.aload_n 0, 1) := by decide +kernel
theorem dX9_readHour_26 : decode cX9_readHour 26 = .ok (.getfield 22, 3) := by decide +kernel
theorem dX9_readHour_29 : decode cX9_readHour 29 = .ok (.iload_n 2, 1) := by decide +kernel
theorem dX9_readHour_30 : decode cX9_readHour 30 = .ok (.iaload, 1) := by decide +kernel
theorem dX9_readHour_31 : decode cX9_readHour 31 = .ok (.bipush 48, 2) := by decide +kernel
theorem dX9_readHour_33 : decode cX9_readHour 33 = .ok (.if_icmp .eq 25, 3) := by decide +kernel
theorem dX9_readHour_36 : decode cX9_readHour 36 = .ok (.aload_n 0, 1) := by decide +kernel
theorem dX9_readHour_37 : decode cX9_readHour 37 = .ok (.bipush 9, 2) := by decide +kernel
theorem dX9_readHour_39 : decode cX9_readHour 39 = .ok (.invokevirtual 108, 3) := by decide +kernel
theorem dX9_readHour_42 : decode cX9_readHour 42 = .ok (.ifCond .eq 16, 3) := by decide +kernel
theorem dX9_readHour_45 : decode cX9_readHour 45 = .ok (.bipush 10, 2) := by decide +kernel
theorem dX9_readHour_47 : decode cX9_readHour 47 = .ok (.iload_n 1, 1) := by decide +kernel
theorem dX9_readHour_48 : decode cX9_readHour 48 = .ok (.imul, 1) := by decide +kernel
theorem dX9_readHour_49 : decode cX9_readHour 49 = .ok (.aload_n 0, 1) := by decide +kernel
theorem dX9_readHour_50 : decode cX9_readHour 50 = .ok (.getfield 105, 3) := by decide +kernel
theorem dX9_readHour_53 : decode cX9_readHour 53 = .ok (.iadd, 1) := by decide +kernel
theorem dX9_readHour_54 : decode cX9_readHour 54 = .ok (.istore_n 1, 1) := by decide +kernel
theorem dX9_readHour_55 : decode cX9_readHour 55 = .ok (.goto (-48), 3) := by decide +kernel
theorem dX9_readHour_58 : decode cX9_readHour 58 = .ok (.aload_n 0, 1) := by decide +kernel
theorem dX9_readHour_59 : decode cX9_readHour 59 = .ok (.getfield 25, 3) := by decide +kernel
theorem dX9_readHour_62 : decode cX9_readHour 62 = .ok (.iconst 5, 1) := by decide +kernel
theorem dX9_readHour_63 : decode cX9_readHour 63 = .ok (.iload_n 1, 1) := by decide +kernel
theorem dX9_readHour_64 : decode cX9_readHour 64 = .ok (.iastore, 1) := by decide +kernel
theorem dX9_readHour_65 : decode cX9_readHour 65 = .ok (.aload_n 0, 1) := by decide +kernel
theorem dX9_readHour_66 : decode cX9_readHour 66 = .ok (.getfield 102, 3) := by decide +kernel
theorem dX9_readHour_69 : decode cX9_readHour 69 = .ok (.iload_n 2, 1) := by decide +kernel
theorem dX9_readHour_70 : decode cX9_readHour 70 = .ok (.if_icmp .le 7, 3) := by decide +kernel
theorem dX9_readHour_73 : decode cX9_readHour 73 = .ok (.iconst 1, 1) := by decide +kernel
theorem dX9_readHour_74 : decode cX9_readHour 74 = .ok (.goto 4, 3) := by decide +kernel
theorem dX9_readHour_77 : decode cX9_readHour 77 = .ok (.iconst 0, 1) := by decide +kernel
theorem dX9_readHour_78 : decode cX9_readHour 78 = .ok (.ireturn, 1) := by decide +kernel
theorem dX9_readSlug_0 : decode cX9_readSlug 0 = .ok (.iconst 0, 1) := by decide +kernel
theorem dX9_readSlug_1 : decode cX9_readSlug 1 = .ok (.istore_n 1, 1) := by decide +kernel
theorem dX9_readSlug_2 : decode cX9_readSlug 2 = .ok (.iload_n 1, 1) := by decide +kernel
theorem dX9_readSlug_3 : decode cX9_readSlug 3 = .ok (.bipush 12, 2) := by decide +kernel
theorem dX9_readSlug_5 : decode cX9_readSlug 5 = .ok (.if_icmp .ge 67, 3) := by decide +kernel
theorem dX9_readSlug_8 : decode cX9_readSlug 8 = .ok (.aload_n 0, 1) := by decide +kernel
theorem dX9_readSlug_9 : decode cX9_readSlug 9 = .ok (.getfield 102, 3) := by decide +kernel
theorem dX9_readSlug_12 : decode cX9_readSlug 12 = .ok (.aload_n 0, 1) := by decide +kernel
theorem dX9_readSlug_13 : decode cX9_readSlug 13 = .ok (.getfield 99, 3) := by decide +kernel
theorem dX9_readSlug_16 : decode cX9_readSlug 16 = .ok (.if_icmp .ge 56, 3) := by decide +kernel
theorem dX9_readSlug_19 : decode cX9_readSlug 19 = .ok (.aload_n 0, 1) := by decide +kernel
theorem dX9_readSlug_20 : decode cX9_readSlug 20 = .ok (.getfield 22, 3) := by decide +kernel
theorem dX9_readSlug_23 : decode cX9_readSlug 23 = .ok (.aload_n 0, 1) := by decide +kernel
theorem dX9_readSlug_24 : decode cX9_readSlug 24 = .ok (.getfield 102, 3) := by decide +kernel
theorem dX9_readSlug_27 : decode cX9_readSlug 27 = .ok (.iaload, 1) := by decide +kernel
theorem dX9_readSlug_28 : decode cX9_readSlug 28 = .ok (.bipush 97, 2) := by decide +kernel
theorem dX9_readSlug_30 : decode cX9_readSlug 30 = .ok (.bipush 122, 2) := by decide +kernel
theorem dX9_readSlug_32 : decode cX9_readSlug 32 = .ok (.invokestatic 32, 3) := by decide +kernel
theorem dX9_readSlug_35 : decode cX9_readSlug 35 = .ok (.ifCond .eq 37, 3) := by decide +kernel
theorem dX9_readSlug_38 : decode cX9_readSlug 38 = .ok (.aload_n 0, 1) := by decide +kernel
theorem dX9_readSlug_39 : decode cX9_readSlug 39 = .ok (.getfield 25, 3) := by decide +kernel
theorem dX9_readSlug_42 : decode cX9_readSlug 42 = .ok (.bipush 17, 2) := by decide +kernel
theorem dX9_readSlug_44 : decode cX9_readSlug 44 = .ok (.iload_n 1, 1) := by decide +kernel
theorem dX9_readSlug_45 : decode cX9_readSlug 45 = .ok (.iadd, 1) := by decide +kernel
theorem dX9_readSlug_46 : decode cX9_readSlug 46 = .ok (.aload_n 0, 1) := by decide +kernel
theorem dX9_readSlug_47 : decode cX9_readSlug 47 = .ok (.getfield 22, 3) := by decide +kernel
theorem dX9_readSlug_50 : decode cX9_readSlug 50 = .ok (.aload_n 0, 1) := by decide +kernel
theorem dX9_readSlug_51 : decode cX9_readSlug 51 = .ok (.getfield 102, 3) := by decide +kernel
theorem dX9_readSlug_54 : decode cX9_readSlug 54 = .ok (.iaload, 1) := by decide +kernel
theorem dX9_readSlug_55 : decode cX9_readSlug 55 = .ok (.iastore, 1) := by decide +kernel
theorem dX9_readSlug_56 : decode cX9_readSlug 56 = .ok (.iinc 1 1, 3) := by decide +kernel
theorem dX9_readSlug_59 : decode cX9_readSlug 59 = .ok (.aload_n 0, 1) := by decide +kernel
theorem dX9_readSlug_60 : decode cX9_readSlug 60 = .ok (.dup, 1) := by decide +kernel
theorem dX9_readSlug_61 : decode cX9_readSlug 61 = .ok (.getfield 102, 3) := by decide +kernel
theorem dX9_readSlug_64 : decode cX9_readSlug 64 = .ok (.iconst 1, 1) := by decide +kernel
theorem dX9_readSlug_65 : decode cX9_readSlug 65 = .ok (.iadd, 1) := by decide +kernel
theorem dX9_readSlug_66 : decode cX9_readSlug 66 = .ok (.putfield 102, 3) := by decide +kernel
theorem dX9_readSlug_69 : decode cX9_readSlug 69 = .ok (.goto (-67), 3) := by decide +kernel
theorem dX9_readSlug_72 : decode cX9_readSlug 72 = .ok (.aload_n 0, 1) := by decide +kernel
theorem dX9_readSlug_73 : decode cX9_readSlug 73 = .ok (.getfield 25, 3) := by decide +kernel
theorem dX9_readSlug_76 : decode cX9_readSlug 76 = .ok (.bipush 16, 2) := by decide +kernel
theorem dX9_readSlug_78 : decode cX9_readSlug 78 = .ok (.iload_n 1, 1) := by decide +kernel
theorem dX9_readSlug_79 : decode cX9_readSlug 79 = .ok (.iastore, 1) := by decide +kernel
theorem dX9_readSlug_80 : decode cX9_readSlug 80 = .ok (.iload_n 1, 1) := by decide +kernel
theorem dX9_readSlug_81 : decode cX9_readSlug 81 = .ok (.ifCond .le 7, 3) := by decide +kernel
theorem dX9_readSlug_84 : decode cX9_readSlug 84 = .ok (.iconst 1, 1) := by decide +kernel
theorem dX9_readSlug_85 : decode cX9_readSlug 85 = .ok (.goto 4, 3) := by decide +kernel
theorem dX9_readSlug_88 : decode cX9_readSlug 88 = .ok (.iconst 0, 1) := by decide +kernel
theorem dX9_readSlug_89 : decode cX9_readSlug 89 = .ok (.ireturn, 1) := by decide +kernel
theorem dX9_readText_0 : decode cX9_readText 0 = .ok (.aload_n 0, 1) := by decide +kernel
theorem dX9_readText_1 : decode cX9_readText 1 = .ok (.iconst 0, 1) := by decide +kernel
theorem dX9_readText_2 : decode cX9_readText 2 = .ok (.putfield 102, 3) := by decide +kernel
theorem dX9_readText_5 : decode cX9_readText 5 = .ok (.iconst 0, 1) := by decide +kernel
theorem dX9_readText_6 : decode cX9_readText 6 = .ok (.istore_n 1, 1) := by decide +kernel
theorem dX9_readText_7 : decode cX9_readText 7 = .ok (.iload_n 1, 1) := by decide +kernel
theorem dX9_readText_8 : decode cX9_readText 8 = .ok (.bipush 29, 2) := by decide +kernel
theorem dX9_readText_10 : decode cX9_readText 10 = .ok (.if_icmp .ge 16, 3) := by decide +kernel
theorem dX9_readText_13 : decode cX9_readText 13 = .ok (.aload_n 0, 1) := by decide +kernel
theorem dX9_readText_14 : decode cX9_readText 14 = .ok (.getfield 25, 3) := by decide +kernel
theorem dX9_readText_17 : decode cX9_readText 17 = .ok (.iload_n 1, 1) := by decide +kernel
theorem dX9_readText_18 : decode cX9_readText 18 = .ok (.iconst 0, 1) := by decide +kernel
theorem dX9_readText_19 : decode cX9_readText 19 = .ok (.iastore, 1) := by decide +kernel
theorem dX9_readText_20 : decode cX9_readText 20 = .ok (.iinc 1 1, 3) := by decide +kernel
theorem dX9_readText_23 : decode cX9_readText 23 = .ok (.goto (-16), 3) := by decide +kernel
theorem dX9_readText_26 : decode cX9_readText 26 = .ok (.aload_n 0, 1) := by decide +kernel
theorem dX9_readText_27 : decode cX9_readText 27 = .ok (.bipush 7, 2) := by decide +kernel
theorem dX9_readText_29 : decode cX9_readText 29 = .ok (.invokevirtual 108, 3) := by decide +kernel
theorem dX9_readText_32 : decode cX9_readText 32 = .ok (.istore_n 1, 1) := by decide +kernel
theorem dX9_readText_33 : decode cX9_readText 33 = .ok (.aload_n 0, 1) := by decide +kernel
theorem dX9_readText_34 : decode cX9_readText 34 = .ok (.getfield 25, 3) := by decide +kernel
theorem dX9_readText_37 : decode cX9_readText 37 = .ok (.iconst 0, 1) := by decide +kernel
theorem dX9_readText_38 : decode cX9_readText 38 = .ok (.aload_n 0, 1) := by decide +kernel
theorem dX9_readText_39 : decode cX9_readText 39 = .ok (.getfield 105, 3) := by decide +kernel
theorem dX9_readText_42 : decode cX9_readText 42 = .ok (.iastore, 1) := by decide +kernel
theorem dX9_readText_43 : decode cX9_readText 43 = .ok (.iload_n 1, 1) := by decide +kernel
theorem dX9_readText_44 : decode cX9_readText 44 = .ok (.ifCond .eq 75, 3) := by decide +kernel
theorem dX9_readText_47 : decode cX9_readText 47 = .ok (.aload_n 0, 1) := by decide +kernel
theorem dX9_readText_48 : decode cX9_readText 48 = .ok (.bipush 32, 2) := by decide +kernel
theorem dX9_readText_50 : decode cX9_readText 50 = .ok (.invokevirtual 111, 3) := by decide +kernel
theorem dX9_readText_53 : decode cX9_readText 53 = .ok (.ifCond .eq 66, 3) := by decide +kernel
theorem dX9_readText_56 : decode cX9_readText 56 = .ok (.aload_n 0, 1) := by decide +kernel
theorem dX9_readText_57 : decode cX9_readText 57 = .ok (.invokevirtual 114, 3) := by decide +kernel
theorem dX9_readText_60 : decode cX9_readText 60 = .ok (.ifCond .eq 59, 3) := by decide +kernel
theorem dX9_readText_63 : decode cX9_readText 63 = .ok (.aload_n 0, 1) := by decide +kernel
theorem dX9_readText_64 : decode cX9_readText 64 = .ok (.bipush 32, 2) := by decide +kernel
theorem dX9_readText_66 : decode cX9_readText 66 = .ok (.invokevirtual 111, 3) := by decide +kernel
theorem dX9_readText_69 : decode cX9_readText 69 = .ok (.ifCond .eq 50, 3) := by decide +kernel
theorem dX9_readText_72 : decode cX9_readText 72 = .ok (.aload_n 0, 1) := by decide +kernel
theorem dX9_readText_73 : decode cX9_readText 73 = .ok (.bipush 64, 2) := by decide +kernel
theorem dX9_readText_75 : decode cX9_readText 75 = .ok (.invokevirtual 111, 3) := by decide +kernel
theorem dX9_readText_78 : decode cX9_readText 78 = .ok (.ifCond .eq 41, 3) := by decide +kernel
theorem dX9_readText_81 : decode cX9_readText 81 = .ok (.aload_n 0, 1) := by decide +kernel
theorem dX9_readText_82 : decode cX9_readText 82 = .ok (.invokevirtual 118, 3) := by decide +kernel
theorem dX9_readText_85 : decode cX9_readText 85 = .ok (.ifCond .eq 34, 3) := by decide +kernel
theorem dX9_readText_88 : decode cX9_readText 88 = .ok (.aload_n 0, 1) := by decide +kernel
theorem dX9_readText_89 : decode cX9_readText 89 = .ok (.bipush 32, 2) := by decide +kernel
theorem dX9_readText_91 : decode cX9_readText 91 = .ok (.invokevirtual 111, 3) := by decide +kernel
theorem dX9_readText_94 : decode cX9_readText 94 = .ok (.ifCond .eq 25, 3) := by decide +kernel
theorem dX9_readText_97 : decode cX9_readText 97 = .ok (.aload_n 0, 1) := by decide +kernel
theorem dX9_readText_98 : decode cX9_readText 98 = .ok (.invokevirtual 121, 3) := by decide +kernel
theorem dX9_readText_101 : decode cX9_readText 101 = .ok (.ifCond .eq 18, 3) := by decide +kernel
theorem dX9_readText_104 : decode cX9_readText 104 = .ok (.aload_n 0, 1) := by decide +kernel
theorem dX9_readText_105 : decode cX9_readText 105 = .ok (.getfield 102, 3) := by decide +kernel
theorem dX9_readText_108 : decode cX9_readText 108 = .ok (.aload_n 0, 1) := by decide +kernel
theorem dX9_readText_109 : decode cX9_readText 109 = .ok (.getfield 99, 3) := by decide +kernel
theorem dX9_readText_112 : decode cX9_readText 112 = .ok (.if_icmp .ne 7, 3) := by decide +kernel
theorem dX9_readText_115 : decode cX9_readText 115 = .ok (.iconst 1, 1) := by decide +kernel
theorem dX9_readText_116 : decode cX9_readText 116 = .ok (.goto 4, 3) := by decide +kernel
theorem dX9_readText_119 : decode cX9_readText 119 = .ok (.iconst 0, 1) := by decide +kernel
theorem dX9_readText_120 : decode cX9_readText 120 = .ok (.ireturn, 1) := by decide +kernel
theorem dX9_readStory_0 : decode cX9_readStory 0 = .ok (.aload_n 0, 1) := by decide +kernel
theorem dX9_readStory_1 : decode cX9_readStory 1 = .ok (.invokevirtual 124, 3) := by decide +kernel
theorem dX9_readStory_4 : decode cX9_readStory 4 = .ok (.ifCond .ne 11, 3) := by decide +kernel
theorem dX9_readStory_7 : decode cX9_readStory 7 = .ok (.bipush (-100), 2) := by decide +kernel
theorem dX9_readStory_9 : decode cX9_readStory 9 = .ok (.aload_n 0, 1) := by decide +kernel
theorem dX9_readStory_10 : decode cX9_readStory 10 = .ok (.getfield 102, 3) := by decide +kernel
theorem dX9_readStory_13 : decode cX9_readStory 13 = .ok (.isub, 1) := by decide +kernel
theorem dX9_readStory_14 : decode cX9_readStory 14 = .ok (.ireturn, 1) := by decide +kernel
theorem dX9_readStory_15 : decode cX9_readStory 15 = .ok (.aload_n 0, 1) := by decide +kernel
theorem dX9_readStory_16 : decode cX9_readStory 16 = .ok (.getfield 7, 3) := by decide +kernel
theorem dX9_readStory_19 : decode cX9_readStory 19 = .ok (.iconst 2, 1) := by decide +kernel
theorem dX9_readStory_20 : decode cX9_readStory 20 = .ok (.iaload, 1) := by decide +kernel
theorem dX9_readStory_21 : decode cX9_readStory 21 = .ok (.bipush 20, 2) := by decide +kernel
theorem dX9_readStory_23 : decode cX9_readStory 23 = .ok (.if_icmp .ne 6, 3) := by decide +kernel
theorem dX9_readStory_26 : decode cX9_readStory 26 = .ok (.bipush (-3), 2) := by decide +kernel
theorem dX9_readStory_28 : decode cX9_readStory 28 = .ok (.ireturn, 1) := by decide +kernel
theorem dX9_readStory_29 : decode cX9_readStory 29 = .ok (.aload_n 0, 1) := by decide +kernel
theorem dX9_readStory_30 : decode cX9_readStory 30 = .ok (.invokevirtual 89, 3) := by decide +kernel
theorem dX9_readStory_33 : decode cX9_readStory 33 = .ok (.aload_n 0, 1) := by decide +kernel
theorem dX9_readStory_34 : decode cX9_readStory 34 = .ok (.getfield 7, 3) := by decide +kernel
theorem dX9_readStory_37 : decode cX9_readStory 37 = .ok (.iconst 2, 1) := by decide +kernel
theorem dX9_readStory_38 : decode cX9_readStory 38 = .ok (.iaload, 1) := by decide +kernel
theorem dX9_readStory_39 : decode cX9_readStory 39 = .ok (.istore_n 1, 1) := by decide +kernel
theorem dX9_readStory_40 : decode cX9_readStory 40 = .ok (.iconst 0, 1) := by decide +kernel
theorem dX9_readStory_41 : decode cX9_readStory 41 = .ok (.istore_n 2, 1) := by decide +kernel
theorem dX9_readStory_42 : decode cX9_readStory 42 = .ok (.iload_n 2, 1) := by decide +kernel
theorem dX9_readStory_43 : decode cX9_readStory 43 = .ok (.bipush 29, 2) := by decide +kernel
theorem dX9_readStory_45 : decode cX9_readStory 45 = .ok (.if_icmp .ge 25, 3) := by decide +kernel
theorem dX9_readStory_48 : decode cX9_readStory 48 = .ok (.aload_n 0, 1) := by decide +kernel
theorem dX9_readStory_49 : decode cX9_readStory 49 = .ok (.getfield 7, 3) := by decide +kernel
theorem dX9_readStory_52 : decode cX9_readStory 52 = .ok (.iload_n 1, 1) := by decide +kernel
theorem dX9_readStory_53 : decode cX9_readStory 53 = .ok (.iload_n 2, 1) := by decide +kernel
theorem dX9_readStory_54 : decode cX9_readStory 54 = .ok (.invokestatic 40, 3) := by decide +kernel
theorem dX9_readStory_57 : decode cX9_readStory 57 = .ok (.aload_n 0, 1) := by decide +kernel
theorem dX9_readStory_58 : decode cX9_readStory 58 = .ok (.getfield 25, 3) := by decide +kernel
theorem dX9_readStory_61 : decode cX9_readStory 61 = .ok (.iload_n 2, 1) := by decide +kernel
theorem dX9_readStory_62 : decode cX9_readStory 62 = .ok (.iaload, 1) := by decide +kernel
theorem dX9_readStory_63 : decode cX9_readStory 63 = .ok (.iastore, 1) := by decide +kernel
theorem dX9_readStory_64 : decode cX9_readStory 64 = .ok (.iinc 2 1, 3) := by decide +kernel
theorem dX9_readStory_67 : decode cX9_readStory 67 = .ok (.goto (-25), 3) := by decide +kernel
theorem dX9_readStory_70 : decode cX9_readStory 70 = .ok (.aload_n 0, 1) := by decide +kernel
theorem dX9_readStory_71 : decode cX9_readStory 71 = .ok (.getfield 7, 3) := by decide +kernel
theorem dX9_readStory_74 : decode cX9_readStory 74 = .ok (.iload_n 1, 1) := by decide +kernel
theorem dX9_readStory_75 : decode cX9_readStory 75 = .ok (.bipush 6, 2) := by decide +kernel
theorem dX9_readStory_77 : decode cX9_readStory 77 = .ok (.invokestatic 40, 3) := by decide +kernel
theorem dX9_readStory_80 : decode cX9_readStory 80 = .ok (.iconst 0, 1) := by decide +kernel
theorem dX9_readStory_81 : decode cX9_readStory 81 = .ok (.iastore, 1) := by decide +kernel
theorem dX9_readStory_82 : decode cX9_readStory 82 = .ok (.aload_n 0, 1) := by decide +kernel
theorem dX9_readStory_83 : decode cX9_readStory 83 = .ok (.getfield 7, 3) := by decide +kernel
theorem dX9_readStory_86 : decode cX9_readStory 86 = .ok (.iload_n 1, 1) := by decide +kernel
theorem dX9_readStory_87 : decode cX9_readStory 87 = .ok (.bipush 8, 2) := by decide +kernel
theorem dX9_readStory_89 : decode cX9_readStory 89 = .ok (.invokestatic 40, 3) := by decide +kernel
theorem dX9_readStory_92 : decode cX9_readStory 92 = .ok (.bipush (-5), 2) := by decide +kernel
theorem dX9_readStory_94 : decode cX9_readStory 94 = .ok (.iastore, 1) := by decide +kernel
theorem dX9_readStory_95 : decode cX9_readStory 95 = .ok (.aload_n 0, 1) := by decide +kernel
theorem dX9_readStory_96 : decode cX9_readStory 96 = .ok (.getfield 7, 3) := by decide +kernel
theorem dX9_readStory_99 : decode cX9_readStory 99 = .ok (.iload_n 1, 1) := by decide +kernel
theorem dX9_readStory_100 : decode cX9_readStory 100 = .ok (.bipush 9, 2) := by decide +kernel
theorem dX9_readStory_102 : decode cX9_readStory 102 = .ok (.invokestatic 40, 3) := by decide +kernel
theorem dX9_readStory_105 : decode cX9_readStory 105 = .ok (.bipush (-5), 2) := by decide +kernel
theorem dX9_readStory_107 : decode cX9_readStory 107 = .ok (.iastore, 1) := by decide +kernel
theorem dX9_readStory_108 : decode cX9_readStory 108 = .ok (.aload_n 0, 1) := by decide +kernel
theorem dX9_readStory_109 : decode cX9_readStory 109 = .ok (.getfield 7, 3) := by decide +kernel
theorem dX9_readStory_112 : decode cX9_readStory 112 = .ok (.iconst 2, 1) := by decide +kernel
theorem dX9_readStory_113 : decode cX9_readStory 113 = .ok (.dup2, 1) := by decide +kernel
theorem dX9_readStory_114 : decode cX9_readStory 114 = .ok (.iaload, 1) := by decide +kernel
theorem dX9_readStory_115 : decode cX9_readStory 115 = .ok (.iconst 1, 1) := by decide +kernel
theorem dX9_readStory_116 : decode cX9_readStory 116 = .ok (.iadd, 1) := by decide +kernel
theorem dX9_readStory_117 : decode cX9_readStory 117 = .ok (.iastore, 1) := by decide +kernel
theorem dX9_readStory_118 : decode cX9_readStory 118 = .ok (.iload_n 1, 1) := by decide +kernel
theorem dX9_readStory_119 : decode cX9_readStory 119 = .ok (.ireturn, 1) := by decide +kernel
theorem dX9_release_0 : decode cX9_release 0 = .ok (.aload_n 0, 1) := by decide +kernel
theorem dX9_release_1 : decode cX9_release 1 = .ok (.iload_n 1, 1) := by decide +kernel
theorem dX9_release_2 : decode cX9_release 2 = .ok (.invokevirtual 127, 3) := by decide +kernel
theorem dX9_release_5 : decode cX9_release 5 = .ok (.ifCond .ne 5, 3) := by decide +kernel
theorem dX9_release_8 : decode cX9_release 8 = .ok (.iconst (-1), 1) := by decide +kernel
theorem dX9_release_9 : decode cX9_release 9 = .ok (.ireturn, 1) := by decide +kernel
theorem dX9_release_10 : decode cX9_release 10 = .ok (.aload_n 0, 1) := by decide +kernel
theorem dX9_release_11 : decode cX9_release 11 = .ok (.iload_n 1, 1) := by decide +kernel
theorem dX9_release_12 : decode cX9_release 12 = .ok (.bipush 6, 2) := by decide +kernel
theorem dX9_release_14 : decode cX9_release 14 = .ok (.invokevirtual 49, 3) := by decide +kernel
theorem dX9_release_17 : decode cX9_release 17 = .ok (.ifCond .eq 6, 3) := by decide +kernel
theorem dX9_release_20 : decode cX9_release 20 = .ok (.bipush (-4), 2) := by decide +kernel
theorem dX9_release_22 : decode cX9_release 22 = .ok (.ireturn, 1) := by decide +kernel
theorem dX9_release_23 : decode cX9_release 23 = .ok (.aload_n 0, 1) := by decide +kernel
theorem dX9_release_24 : decode cX9_release 24 = .ok (.invokevirtual 89, 3) := by decide +kernel
theorem dX9_release_27 : decode cX9_release 27 = .ok (.aload_n 0, 1) := by decide +kernel
theorem dX9_release_28 : decode cX9_release 28 = .ok (.getfield 7, 3) := by decide +kernel
theorem dX9_release_31 : decode cX9_release 31 = .ok (.iload_n 1, 1) := by decide +kernel
theorem dX9_release_32 : decode cX9_release 32 = .ok (.bipush 6, 2) := by decide +kernel
theorem dX9_release_34 : decode cX9_release 34 = .ok (.invokestatic 40, 3) := by decide +kernel
theorem dX9_release_37 : decode cX9_release 37 = .ok (.iconst 1, 1) := by decide +kernel
theorem dX9_release_38 : decode cX9_release 38 = .ok (.iastore, 1) := by decide +kernel
theorem dX9_release_39 : decode cX9_release 39 = .ok (.iconst 0, 1) := by decide +kernel
theorem dX9_release_40 : decode cX9_release 40 = .ok (.istore_n 2, 1) := by decide +kernel
theorem dX9_release_41 : decode cX9_release 41 = .ok (.iconst 0, 1) := by decide +kernel
theorem dX9_release_42 : decode cX9_release 42 = .ok (.istore_n 3, 1) := by decide +kernel
theorem dX9_release_43 : decode cX9_release 43 = .ok (.iload_n 3, 1) := by decide +kernel
theorem dX9_release_44 : decode cX9_release 44 = .ok (.aload_n 0, 1) := by decide +kernel
theorem dX9_release_45 : decode cX9_release 45 = .ok (.getfield 7, 3) := by decide +kernel
theorem dX9_release_48 : decode cX9_release 48 = .ok (.iconst 1, 1) := by decide +kernel
theorem dX9_release_49 : decode cX9_release 49 = .ok (.iaload, 1) := by decide +kernel
theorem dX9_release_50 : decode cX9_release 50 = .ok (.if_icmp .ge 26, 3) := by decide +kernel
theorem dX9_release_53 : decode cX9_release 53 = .ok (.iload_n 2, 1) := by decide +kernel
theorem dX9_release_54 : decode cX9_release 54 = .ok (.aload_n 0, 1) := by decide +kernel
theorem dX9_release_55 : decode cX9_release 55 = .ok (.iload_n 3, 1) := by decide +kernel
theorem dX9_release_56 : decode cX9_release 56 = .ok (.iload_n 1, 1) := by decide +kernel
theorem dX9_release_57 : decode cX9_release 57 = .ok (.invokevirtual 56, 3) := by decide +kernel
theorem dX9_release_60 : decode cX9_release 60 = .ok (.ifCond .eq 7, 3) := by decide +kernel
theorem dX9_release_63 : decode cX9_release 63 = .ok (.iconst 1, 1) := by decide +kernel
theorem dX9_release_64 : decode cX9_release 64 = .ok (.goto 4, 3) := by decide +kernel
theorem dX9_release_67 : decode cX9_release 67 = .ok (.iconst 0, 1) := by decide +kernel
theorem dX9_release_68 : decode cX9_release 68 = .ok (.iadd, 1) := by decide +kernel
theorem dX9_release_69 : decode cX9_release 69 = .ok (.istore_n 2, 1) := by decide +kernel
theorem dX9_release_70 : decode cX9_release 70 = .ok (.iinc 3 1, 3) := by decide +kernel
theorem dX9_release_73 : decode cX9_release 73 = .ok (.goto (-30), 3) := by decide +kernel
theorem dX9_release_76 : decode cX9_release 76 = .ok (.iload_n 2, 1) := by decide +kernel
theorem dX9_release_77 : decode cX9_release 77 = .ok (.ireturn, 1) := by decide +kernel
theorem dX9_hold_0 : decode cX9_hold 0 = .ok (.aload_n 0, 1) := by decide +kernel
theorem dX9_hold_1 : decode cX9_hold 1 = .ok (.iload_n 1, 1) := by decide +kernel
theorem dX9_hold_2 : decode cX9_hold 2 = .ok (.invokevirtual 127, 3) := by decide +kernel
theorem dX9_hold_5 : decode cX9_hold 5 = .ok (.ifCond .ne 5, 3) := by decide +kernel
theorem dX9_hold_8 : decode cX9_hold 8 = .ok (.iconst (-1), 1) := by decide +kernel
theorem dX9_hold_9 : decode cX9_hold 9 = .ok (.ireturn, 1) := by decide +kernel
theorem dX9_hold_10 : decode cX9_hold 10 = .ok (.aload_n 0, 1) := by decide +kernel
theorem dX9_hold_11 : decode cX9_hold 11 = .ok (.iload_n 1, 1) := by decide +kernel
theorem dX9_hold_12 : decode cX9_hold 12 = .ok (.bipush 6, 2) := by decide +kernel
theorem dX9_hold_14 : decode cX9_hold 14 = .ok (.invokevirtual 49, 3) := by decide +kernel
theorem dX9_hold_17 : decode cX9_hold 17 = .ok (.iconst 1, 1) := by decide +kernel
theorem dX9_hold_18 : decode cX9_hold 18 = .ok (.if_icmp .eq 6, 3) := by decide +kernel
theorem dX9_hold_21 : decode cX9_hold 21 = .ok (.bipush (-4), 2) := by decide +kernel
theorem dX9_hold_23 : decode cX9_hold 23 = .ok (.ireturn, 1) := by decide +kernel
theorem dX9_hold_24 : decode cX9_hold 24 = .ok (.aload_n 0, 1) := by decide +kernel
theorem dX9_hold_25 : decode cX9_hold 25 = .ok (.invokevirtual 89, 3) := by decide +kernel
theorem dX9_hold_28 : decode cX9_hold 28 = .ok (.aload_n 0, 1) := by decide +kernel
theorem dX9_hold_29 : decode cX9_hold 29 = .ok (.getfield 7, 3) := by decide +kernel
theorem dX9_hold_32 : decode cX9_hold 32 = .ok (.iload_n 1, 1) := by decide +kernel
theorem dX9_hold_33 : decode cX9_hold 33 = .ok (.bipush 6, 2) := by decide +kernel
theorem dX9_hold_35 : decode cX9_hold 35 = .ok (.invokestatic 40, 3) := by decide +kernel
theorem dX9_hold_38 : decode cX9_hold 38 = .ok (.iconst 0, 1) := by decide +kernel
theorem dX9_hold_39 : decode cX9_hold 39 = .ok (.iastore, 1) := by decide +kernel
theorem dX9_hold_40 : decode cX9_hold 40 = .ok (.aload_n 0, 1) := by decide +kernel
theorem dX9_hold_41 : decode cX9_hold 41 = .ok (.iload_n 1, 1) := by decide +kernel
theorem dX9_hold_42 : decode cX9_hold 42 = .ok (.iconst 5, 1) := by decide +kernel
theorem dX9_hold_43 : decode cX9_hold 43 = .ok (.invokevirtual 49, 3) := by decide +kernel
theorem dX9_hold_46 : decode cX9_hold 46 = .ok (.aload_n 0, 1) := by decide +kernel
theorem dX9_hold_47 : decode cX9_hold 47 = .ok (.getfield 7, 3) := by decide +kernel
theorem dX9_hold_50 : decode cX9_hold 50 = .ok (.iconst 0, 1) := by decide +kernel
theorem dX9_hold_51 : decode cX9_hold 51 = .ok (.iaload, 1) := by decide +kernel
theorem dX9_hold_52 : decode cX9_hold 52 = .ok (.isub, 1) := by decide +kernel
theorem dX9_hold_53 : decode cX9_hold 53 = .ok (.istore_n 2, 1) := by decide +kernel
theorem dX9_hold_54 : decode cX9_hold 54 = .ok (.iload_n 2, 1) := by decide +kernel
theorem dX9_hold_55 : decode cX9_hold 55 = .ok (.ifCond .le 7, 3) := by decide +kernel
theorem dX9_hold_58 : decode cX9_hold 58 = .ok (.iload_n 2, 1) := by decide +kernel
theorem dX9_hold_59 : decode cX9_hold 59 = .ok (.goto 4, 3) := by decide +kernel
theorem dX9_hold_62 : decode cX9_hold 62 = .ok (.iconst 0, 1) := by decide +kernel
theorem dX9_hold_63 : decode cX9_hold 63 = .ok (.ireturn, 1) := by decide +kernel
theorem dX9_setEmbargo_0 : decode cX9_setEmbargo 0 = .ok (.aload_n 0, 1) := by decide +kernel
theorem dX9_setEmbargo_1 : decode cX9_setEmbargo 1 = .ok (.iload_n 1, 1) := by decide +kernel
theorem dX9_setEmbargo_2 : decode cX9_setEmbargo 2 = .ok (.invokevirtual 127, 3) := by decide +kernel
theorem dX9_setEmbargo_5 : decode cX9_setEmbargo 5 = .ok (.ifCond .ne 5, 3) := by decide +kernel
theorem dX9_setEmbargo_8 : decode cX9_setEmbargo 8 = .ok (.iconst (-1), 1) := by decide +kernel
theorem dX9_setEmbargo_9 : decode cX9_setEmbargo 9 = .ok (.ireturn, 1) := by decide +kernel
theorem dX9_setEmbargo_10 : decode cX9_setEmbargo 10 = .ok (.iload_n 2, 1) := by decide +kernel
theorem dX9_setEmbargo_11 : decode cX9_setEmbargo 11 = .ok (.iconst 0, 1) := by decide +kernel
theorem dX9_setEmbargo_12 : decode cX9_setEmbargo 12 = .ok (.sipush 999, 3) := by decide +kernel
theorem dX9_setEmbargo_15 : decode cX9_setEmbargo 15 = .ok (.invokestatic 32, 3) := by decide +kernel
theorem dX9_setEmbargo_18 : decode cX9_setEmbargo 18 = .ok (.ifCond .ne 6, 3) := by decide +kernel
theorem dX9_setEmbargo_21 : decode cX9_setEmbargo 21 = .ok (.bipush (-2), 2) := by decide +kernel
theorem dX9_setEmbargo_23 : decode cX9_setEmbargo 23 = .ok (.ireturn, 1) := by decide +kernel
theorem dX9_setEmbargo_24 : decode cX9_setEmbargo 24 = .ok (.aload_n 0, 1) := by decide +kernel
theorem dX9_setEmbargo_25 : decode cX9_setEmbargo 25 = .ok (.iload_n 1, 1) := by decide +kernel
theorem dX9_setEmbargo_26 : decode cX9_setEmbargo 26 = .ok (.bipush 6, 2) := by decide +kernel
theorem dX9_setEmbargo_28 : decode cX9_setEmbargo 28 = .ok (.invokevirtual 49, 3) := by decide +kernel
theorem dX9_setEmbargo_31 : decode cX9_setEmbargo 31 = .ok (.iconst 1, 1) := by decide +kernel
theorem dX9_setEmbargo_32 : decode cX9_setEmbargo 32 = .ok (.if_icmp .le 8, 3) := by decide +kernel
theorem dX9_setEmbargo_35 : decode cX9_setEmbargo 35 = .ok (.bipush (-4), 2) := by decide +kernel
theorem dX9_setEmbargo_37 : decode cX9_setEmbargo 37 = .ok (.goto 13, 3) := by decide +kernel
theorem dX9_setEmbargo_40 : decode cX9_setEmbargo 40 = .ok (.aload_n 0, 1) := by decide +kernel
theorem dX9_setEmbargo_41 : decode cX9_setEmbargo 41 = .ok (.iload_n 1, 1) := by decide +kernel
theorem dX9_setEmbargo_42 : decode cX9_setEmbargo 42 = .ok (.iconst 5, 1) := by decide +kernel
theorem dX9_setEmbargo_43 : decode cX9_setEmbargo 43 = .ok (.invokestatic 40, 3) := by decide +kernel
theorem dX9_setEmbargo_46 : decode cX9_setEmbargo 46 = .ok (.iload_n 2, 1) := by decide +kernel
theorem dX9_setEmbargo_47 : decode cX9_setEmbargo 47 = .ok (.invokevirtual 96, 3) := by decide +kernel
theorem dX9_setEmbargo_50 : decode cX9_setEmbargo 50 = .ok (.ireturn, 1) := by decide +kernel
theorem dX9_correct_0 : decode cX9_correct 0 = .ok (.aload_n 0, 1) := by decide +kernel
theorem dX9_correct_1 : decode cX9_correct 1 = .ok (.iload_n 1, 1) := by decide +kernel
theorem dX9_correct_2 : decode cX9_correct 2 = .ok (.invokevirtual 127, 3) := by decide +kernel
theorem dX9_correct_5 : decode cX9_correct 5 = .ok (.ifCond .ne 5, 3) := by decide +kernel
theorem dX9_correct_8 : decode cX9_correct 8 = .ok (.iconst (-1), 1) := by decide +kernel
theorem dX9_correct_9 : decode cX9_correct 9 = .ok (.ireturn, 1) := by decide +kernel
theorem dX9_correct_10 : decode cX9_correct 10 = .ok (.aload_n 0, 1) := by decide +kernel
theorem dX9_correct_11 : decode cX9_correct 11 = .ok (.iload_n 1, 1) := by decide +kernel
theorem dX9_correct_12 : decode cX9_correct 12 = .ok (.bipush 6, 2) := by decide +kernel
theorem dX9_correct_14 : decode cX9_correct 14 = .ok (.invokevirtual 49, 3) := by decide +kernel
theorem dX9_correct_17 : decode cX9_correct 17 = .ok (.iconst 2, 1) := by decide +kernel
theorem dX9_correct_18 : decode cX9_correct 18 = .ok (.if_icmp .eq 6, 3) := by decide +kernel
theorem dX9_correct_21 : decode cX9_correct 21 = .ok (.bipush (-4), 2) := by decide +kernel
theorem dX9_correct_23 : decode cX9_correct 23 = .ok (.ireturn, 1) := by decide +kernel
theorem dX9_correct_24 : decode cX9_correct 24 = .ok (.aload_n 0, 1) := by decide +kernel
theorem dX9_correct_25 : decode cX9_correct 25 = .ok (.iload_n 1, 1) := by decide +kernel
theorem dX9_correct_26 : decode cX9_correct 26 = .ok (.bipush 7, 2) := by decide +kernel
theorem dX9_correct_28 : decode cX9_correct 28 = .ok (.invokevirtual 49, 3) := by decide +kernel
theorem dX9_correct_31 : decode cX9_correct 31 = .ok (.bipush 6, 2) := by decide +kernel
theorem dX9_correct_33 : decode cX9_correct 33 = .ok (.if_icmp .ne 6, 3) := by decide +kernel
theorem dX9_correct_36 : decode cX9_correct 36 = .ok (.bipush (-3), 2) := by decide +kernel
theorem dX9_correct_38 : decode cX9_correct 38 = .ok (.ireturn, 1) := by decide +kernel
theorem dX9_correct_39 : decode cX9_correct 39 = .ok (.aload_n 0, 1) := by decide +kernel
theorem dX9_correct_40 : decode cX9_correct 40 = .ok (.invokevirtual 89, 3) := by decide +kernel
theorem dX9_correct_43 : decode cX9_correct 43 = .ok (.aload_n 0, 1) := by decide +kernel
theorem dX9_correct_44 : decode cX9_correct 44 = .ok (.getfield 7, 3) := by decide +kernel
theorem dX9_correct_47 : decode cX9_correct 47 = .ok (.iload_n 1, 1) := by decide +kernel
theorem dX9_correct_48 : decode cX9_correct 48 = .ok (.bipush 10, 2) := by decide +kernel
theorem dX9_correct_50 : decode cX9_correct 50 = .ok (.aload_n 0, 1) := by decide +kernel
theorem dX9_correct_51 : decode cX9_correct 51 = .ok (.iload_n 1, 1) := by decide +kernel
theorem dX9_correct_52 : decode cX9_correct 52 = .ok (.bipush 7, 2) := by decide +kernel
theorem dX9_correct_54 : decode cX9_correct 54 = .ok (.invokevirtual 49, 3) := by decide +kernel
theorem dX9_correct_57 : decode cX9_correct 57 = .ok (.iadd, 1) := by decide +kernel
theorem dX9_correct_58 : decode cX9_correct 58 = .ok (.invokestatic 40, 3) := by decide +kernel
theorem dX9_correct_61 : decode cX9_correct 61 = .ok (.aload_n 0, 1) := by decide +kernel
theorem dX9_correct_62 : decode cX9_correct 62 = .ok (.getfield 7, 3) := by decide +kernel
theorem dX9_correct_65 : decode cX9_correct 65 = .ok (.iconst 0, 1) := by decide +kernel
theorem dX9_correct_66 : decode cX9_correct 66 = .ok (.iaload, 1) := by decide +kernel
theorem dX9_correct_67 : decode cX9_correct 67 = .ok (.iastore, 1) := by decide +kernel
theorem dX9_correct_68 : decode cX9_correct 68 = .ok (.aload_n 0, 1) := by decide +kernel
theorem dX9_correct_69 : decode cX9_correct 69 = .ok (.getfield 7, 3) := by decide +kernel
theorem dX9_correct_72 : decode cX9_correct 72 = .ok (.iload_n 1, 1) := by decide +kernel
theorem dX9_correct_73 : decode cX9_correct 73 = .ok (.bipush 7, 2) := by decide +kernel
theorem dX9_correct_75 : decode cX9_correct 75 = .ok (.invokestatic 40, 3) := by decide +kernel
theorem dX9_correct_78 : decode cX9_correct 78 = .ok (.dup2, 1) := by decide +kernel
theorem dX9_correct_79 : decode cX9_correct 79 = .ok (.iaload, 1) := by decide +kernel
theorem dX9_correct_80 : decode cX9_correct 80 = .ok (.iconst 1, 1) := by decide +kernel
theorem dX9_correct_81 : decode cX9_correct 81 = .ok (.iadd, 1) := by decide +kernel
theorem dX9_correct_82 : decode cX9_correct 82 = .ok (.iastore, 1) := by decide +kernel
theorem dX9_correct_83 : decode cX9_correct 83 = .ok (.aload_n 0, 1) := by decide +kernel
theorem dX9_correct_84 : decode cX9_correct 84 = .ok (.iconst 5, 1) := by decide +kernel
theorem dX9_correct_85 : decode cX9_correct 85 = .ok (.iload_n 1, 1) := by decide +kernel
theorem dX9_correct_86 : decode cX9_correct 86 = .ok (.bipush (-5), 2) := by decide +kernel
theorem dX9_correct_88 : decode cX9_correct 88 = .ok (.invokevirtual 52, 3) := by decide +kernel
theorem dX9_correct_91 : decode cX9_correct 91 = .ok (.aload_n 0, 1) := by decide +kernel
theorem dX9_correct_92 : decode cX9_correct 92 = .ok (.iload_n 1, 1) := by decide +kernel
theorem dX9_correct_93 : decode cX9_correct 93 = .ok (.bipush 7, 2) := by decide +kernel
theorem dX9_correct_95 : decode cX9_correct 95 = .ok (.invokevirtual 49, 3) := by decide +kernel
theorem dX9_correct_98 : decode cX9_correct 98 = .ok (.ireturn, 1) := by decide +kernel
theorem dX9_inUse_0 : decode cX9_inUse 0 = .ok (.iconst 0, 1) := by decide +kernel
theorem dX9_inUse_1 : decode cX9_inUse 1 = .ok (.istore_n 3, 1) := by decide +kernel
theorem dX9_inUse_2 : decode cX9_inUse 2 = .ok (.iconst 0, 1) := by decide +kernel
theorem dX9_inUse_3 : decode cX9_inUse 3 = .ok (.istore 4, 2) := by decide +kernel
theorem dX9_inUse_5 : decode cX9_inUse 5 = .ok (.iload 4, 2) := by decide +kernel
theorem dX9_inUse_7 : decode cX9_inUse 7 = .ok (.aload_n 0, 1) := by decide +kernel
theorem dX9_inUse_8 : decode cX9_inUse 8 = .ok (.getfield 7, 3) := by decide +kernel
theorem dX9_inUse_11 : decode cX9_inUse 11 = .ok (.iconst 3, 1) := by decide +kernel
theorem dX9_inUse_12 : decode cX9_inUse 12 = .ok (.iaload, 1) := by decide +kernel
theorem dX9_inUse_13 : decode cX9_inUse 13 = .ok (.if_icmp .ge 60, 3) := by decide +kernel
theorem dX9_inUse_16 : decode cX9_inUse 16 = .ok (.iload_n 3, 1) := by decide +kernel
theorem dX9_inUse_17 : decode cX9_inUse 17 = .ok (.aload_n 0, 1) := by decide +kernel
theorem dX9_inUse_18 : decode cX9_inUse 18 = .ok (.iload 4, 2) := by decide +kernel
theorem dX9_inUse_20 : decode cX9_inUse 20 = .ok (.iconst 0, 1) := by decide +kernel
theorem dX9_inUse_21 : decode cX9_inUse 21 = .ok (.invokevirtual 65, 3) := by decide +kernel
theorem dX9_inUse_24 : decode cX9_inUse 24 = .ok (.iload_n 1, 1) := by decide +kernel
theorem dX9_inUse_25 : decode cX9_inUse 25 = .ok (.if_icmp .ne 39, 3) := by decide +kernel
theorem dX9_inUse_28 : decode cX9_inUse 28 = .ok (.aload_n 0, 1) := by decide +kernel
theorem dX9_inUse_29 : decode cX9_inUse 29 = .ok (.iload 4, 2) := by decide +kernel
theorem dX9_inUse_31 : decode cX9_inUse 31 = .ok (.iconst 2, 1) := by decide +kernel
theorem dX9_inUse_32 : decode cX9_inUse 32 = .ok (.invokevirtual 65, 3) := by decide +kernel
theorem dX9_inUse_35 : decode cX9_inUse 35 = .ok (.iconst 1, 1) := by decide +kernel
theorem dX9_inUse_36 : decode cX9_inUse 36 = .ok (.if_icmp .ne 28, 3) := by decide +kernel
theorem dX9_inUse_39 : decode cX9_inUse 39 = .ok (.iload_n 2, 1) := by decide +kernel
theorem dX9_inUse_40 : decode cX9_inUse 40 = .ok (.ifCond .eq 20, 3) := by decide +kernel
theorem dX9_inUse_43 : decode cX9_inUse 43 = .ok (.aload_n 0, 1) := by decide +kernel
theorem dX9_inUse_44 : decode cX9_inUse 44 = .ok (.iload 4, 2) := by decide +kernel
theorem dX9_inUse_46 : decode cX9_inUse 46 = .ok (.iconst 5, 1) := by decide +kernel
theorem dX9_inUse_47 : decode cX9_inUse 47 = .ok (.invokevirtual 65, 3) := by decide +kernel
theorem dX9_inUse_50 : decode cX9_inUse 50 = .ok (.aload_n 0, 1) := by decide +kernel
theorem dX9_inUse_51 : decode cX9_inUse 51 = .ok (.iload_n 1, 1) := by decide +kernel
theorem dX9_inUse_52 : decode cX9_inUse 52 = .ok (.bipush 7, 2) := by decide +kernel
theorem dX9_inUse_54 : decode cX9_inUse 54 = .ok (.invokevirtual 49, 3) := by decide +kernel
theorem dX9_inUse_57 : decode cX9_inUse 57 = .ok (.if_icmp .ne 7, 3) := by decide +kernel
theorem dX9_inUse_60 : decode cX9_inUse 60 = .ok (.iconst 1, 1) := by decide +kernel
theorem dX9_inUse_61 : decode cX9_inUse 61 = .ok (.goto 4, 3) := by decide +kernel
theorem dX9_inUse_64 : decode cX9_inUse 64 = .ok (.iconst 0, 1) := by decide +kernel
theorem dX9_inUse_65 : decode cX9_inUse 65 = .ok (.iadd, 1) := by decide +kernel
theorem dX9_inUse_66 : decode cX9_inUse 66 = .ok (.istore_n 3, 1) := by decide +kernel
theorem dX9_inUse_67 : decode cX9_inUse 67 = .ok (.iinc 4 1, 3) := by decide +kernel
theorem dX9_inUse_70 : decode cX9_inUse 70 = .ok (.goto (-65), 3) := by decide +kernel
theorem dX9_inUse_73 : decode cX9_inUse 73 = .ok (.iload_n 3, 1) := by decide +kernel
theorem dX9_inUse_74 : decode cX9_inUse 74 = .ok (.ireturn, 1) := by decide +kernel
theorem dX9_kill_0 : decode cX9_kill 0 = .ok (.aload_n 0, 1) := by decide +kernel
theorem dX9_kill_1 : decode cX9_kill 1 = .ok (.iload_n 1, 1) := by decide +kernel
theorem dX9_kill_2 : decode cX9_kill 2 = .ok (.invokevirtual 127, 3) := by decide +kernel
theorem dX9_kill_5 : decode cX9_kill 5 = .ok (.ifCond .ne 5, 3) := by decide +kernel
theorem dX9_kill_8 : decode cX9_kill 8 = .ok (.iconst (-1), 1) := by decide +kernel
theorem dX9_kill_9 : decode cX9_kill 9 = .ok (.ireturn, 1) := by decide +kernel
theorem dX9_kill_10 : decode cX9_kill 10 = .ok (.aload_n 0, 1) := by decide +kernel
theorem dX9_kill_11 : decode cX9_kill 11 = .ok (.iload_n 1, 1) := by decide +kernel
theorem dX9_kill_12 : decode cX9_kill 12 = .ok (.bipush 6, 2) := by decide +kernel
theorem dX9_kill_14 : decode cX9_kill 14 = .ok (.invokevirtual 49, 3) := by decide +kernel
theorem dX9_kill_17 : decode cX9_kill 17 = .ok (.iconst 3, 1) := by decide +kernel
theorem dX9_kill_18 : decode cX9_kill 18 = .ok (.if_icmp .ne 6, 3) := by decide +kernel
theorem dX9_kill_21 : decode cX9_kill 21 = .ok (.bipush (-5), 2) := by decide +kernel
theorem dX9_kill_23 : decode cX9_kill 23 = .ok (.ireturn, 1) := by decide +kernel
theorem dX9_kill_24 : decode cX9_kill 24 = .ok (.aload_n 0, 1) := by decide +kernel
theorem dX9_kill_25 : decode cX9_kill 25 = .ok (.invokevirtual 89, 3) := by decide +kernel
theorem dX9_kill_28 : decode cX9_kill 28 = .ok (.aload_n 0, 1) := by decide +kernel
theorem dX9_kill_29 : decode cX9_kill 29 = .ok (.getfield 7, 3) := by decide +kernel
theorem dX9_kill_32 : decode cX9_kill 32 = .ok (.iload_n 1, 1) := by decide +kernel
theorem dX9_kill_33 : decode cX9_kill 33 = .ok (.bipush 6, 2) := by decide +kernel
theorem dX9_kill_35 : decode cX9_kill 35 = .ok (.invokestatic 40, 3) := by decide +kernel
theorem dX9_kill_38 : decode cX9_kill 38 = .ok (.iconst 3, 1) := by decide +kernel
theorem dX9_kill_39 : decode cX9_kill 39 = .ok (.iastore, 1) := by decide +kernel
theorem dX9_kill_40 : decode cX9_kill 40 = .ok (.aload_n 0, 1) := by decide +kernel
theorem dX9_kill_41 : decode cX9_kill 41 = .ok (.getfield 7, 3) := by decide +kernel
theorem dX9_kill_44 : decode cX9_kill 44 = .ok (.iload_n 1, 1) := by decide +kernel
theorem dX9_kill_45 : decode cX9_kill 45 = .ok (.bipush 9, 2) := by decide +kernel
theorem dX9_kill_47 : decode cX9_kill 47 = .ok (.invokestatic 40, 3) := by decide +kernel
theorem dX9_kill_50 : decode cX9_kill 50 = .ok (.aload_n 0, 1) := by decide +kernel
theorem dX9_kill_51 : decode cX9_kill 51 = .ok (.getfield 7, 3) := by decide +kernel
theorem dX9_kill_54 : decode cX9_kill 54 = .ok (.iconst 0, 1) := by decide +kernel
theorem dX9_kill_55 : decode cX9_kill 55 = .ok (.iaload, 1) := by decide +kernel
theorem dX9_kill_56 : decode cX9_kill 56 = .ok (.iastore, 1) := by decide +kernel
theorem dX9_kill_57 : decode cX9_kill 57 = .ok (.aload_n 0, 1) := by decide +kernel
theorem dX9_kill_58 : decode cX9_kill 58 = .ok (.bipush 6, 2) := by decide +kernel
theorem dX9_kill_60 : decode cX9_kill 60 = .ok (.iload_n 1, 1) := by decide +kernel
theorem dX9_kill_61 : decode cX9_kill 61 = .ok (.bipush (-5), 2) := by decide +kernel
theorem dX9_kill_63 : decode cX9_kill 63 = .ok (.invokevirtual 52, 3) := by decide +kernel
theorem dX9_kill_66 : decode cX9_kill 66 = .ok (.aload_n 0, 1) := by decide +kernel
theorem dX9_kill_67 : decode cX9_kill 67 = .ok (.iload_n 1, 1) := by decide +kernel
theorem dX9_kill_68 : decode cX9_kill 68 = .ok (.iconst 0, 1) := by decide +kernel
theorem dX9_kill_69 : decode cX9_kill 69 = .ok (.invokevirtual 130, 3) := by decide +kernel
theorem dX9_kill_72 : decode cX9_kill 72 = .ok (.ireturn, 1) := by decide +kernel
theorem dX9_pass_0 : decode cX9_pass 0 = .ok (.iload_n 1, 1) := by decide +kernel
theorem dX9_pass_1 : decode cX9_pass 1 = .ok (.iconst 1, 1) := by decide +kernel
theorem dX9_pass_2 : decode cX9_pass 2 = .ok (.bipush 100, 2) := by decide +kernel
theorem dX9_pass_4 : decode cX9_pass 4 = .ok (.invokestatic 32, 3) := by decide +kernel
theorem dX9_pass_7 : decode cX9_pass 7 = .ok (.ifCond .ne 6, 3) := by decide +kernel
theorem dX9_pass_10 : decode cX9_pass 10 = .ok (.bipush (-2), 2) := by decide +kernel
theorem dX9_pass_12 : decode cX9_pass 12 = .ok (.ireturn, 1) := by decide +kernel
theorem dX9_pass_13 : decode cX9_pass 13 = .ok (.aload_n 0, 1) := by decide +kernel
theorem dX9_pass_14 : decode cX9_pass 14 = .ok (.getfield 7, 3) := by decide +kernel
theorem dX9_pass_17 : decode cX9_pass 17 = .ok (.iconst 0, 1) := by decide +kernel
theorem dX9_pass_18 : decode cX9_pass 18 = .ok (.iaload, 1) := by decide +kernel
theorem dX9_pass_19 : decode cX9_pass 19 = .ok (.iload_n 1, 1) := by decide +kernel
theorem dX9_pass_20 : decode cX9_pass 20 = .ok (.iadd, 1) := by decide +kernel
theorem dX9_pass_21 : decode cX9_pass 21 = .ok (.sipush 9999, 3) := by decide +kernel
theorem dX9_pass_24 : decode cX9_pass 24 = .ok (.if_icmp .le 6, 3) := by decide +kernel
theorem dX9_pass_27 : decode cX9_pass 27 = .ok (.bipush (-4), 2) := by decide +kernel
theorem dX9_pass_29 : decode cX9_pass 29 = .ok (.ireturn, 1) := by decide +kernel
theorem dX9_pass_30 : decode cX9_pass 30 = .ok (.aload_n 0, 1) := by decide +kernel
theorem dX9_pass_31 : decode cX9_pass 31 = .ok (.invokevirtual 89, 3) := by decide +kernel
theorem dX9_pass_34 : decode cX9_pass 34 = .ok (.iconst 0, 1) := by decide +kernel
theorem dX9_pass_35 : decode cX9_pass 35 = .ok (.istore_n 2, 1) := by decide +kernel
theorem dX9_pass_36 : decode cX9_pass 36 = .ok (.iconst 0, 1) := by decide +kernel
theorem dX9_pass_37 : decode cX9_pass 37 = .ok (.istore_n 3, 1) := by decide +kernel
theorem dX9_pass_38 : decode cX9_pass 38 = .ok (.iload_n 3, 1) := by decide +kernel
theorem dX9_pass_39 : decode cX9_pass 39 = .ok (.iload_n 1, 1) := by decide +kernel
theorem dX9_pass_40 : decode cX9_pass 40 = .ok (.if_icmp .ge 16, 3) := by decide +kernel
theorem dX9_pass_43 : decode cX9_pass 43 = .ok (.iload_n 2, 1) := by decide +kernel
theorem dX9_pass_44 : decode cX9_pass 44 = .ok (.aload_n 0, 1) := by decide +kernel
theorem dX9_pass_45 : decode cX9_pass 45 = .ok (.invokevirtual 134, 3) := by decide +kernel
theorem dX9_pass_48 : decode cX9_pass 48 = .ok (.iadd, 1) := by decide +kernel
theorem dX9_pass_49 : decode cX9_pass 49 = .ok (.istore_n 2, 1) := by decide +kernel
theorem dX9_pass_50 : decode cX9_pass 50 = .ok (.iinc 3 1, 3) := by decide +kernel
theorem dX9_pass_53 : decode cX9_pass 53 = .ok (.goto (-15), 3) := by decide +kernel
theorem dX9_pass_56 : decode cX9_pass 56 = .ok (.iload_n 2, 1) := by decide +kernel
theorem dX9_pass_57 : decode cX9_pass 57 = .ok (.ireturn, 1) := by decide +kernel
theorem dX9_undo_0 : decode cX9_undo 0 = .ok (.aload_n 0, 1) := by decide +kernel
theorem dX9_undo_1 : decode cX9_undo 1 = .ok (.getfield 28, 3) := by decide +kernel
theorem dX9_undo_4 : decode cX9_undo 4 = .ok (.ifCond .ne 6, 3) := by decide +kernel
theorem dX9_undo_7 : decode cX9_undo 7 = .ok (.bipush (-5), 2) := by decide +kernel
theorem dX9_undo_9 : decode cX9_undo 9 = .ok (.ireturn, 1) := by decide +kernel
theorem dX9_undo_10 : decode cX9_undo 10 = .ok (.aload_n 0, 1) := by decide +kernel
theorem dX9_undo_11 : decode cX9_undo 11 = .ok (.dup, 1) := by decide +kernel
theorem dX9_undo_12 : decode cX9_undo 12 = .ok (.getfield 28, 3) := by decide +kernel
theorem dX9_undo_15 : decode cX9_undo 15 = .ok (.iconst 1, 1) := by decide +kernel
theorem dX9_undo_16 : decode cX9_undo 16 = .ok (.isub, 1) := by decide +kernel
theorem dX9_undo_17 : decode cX9_undo 17 = .ok (.putfield 28, 3) := by decide +kernel
theorem dX9_undo_20 : decode cX9_undo 20 = .ok (.iconst 0, 1) := by decide +kernel
theorem dX9_undo_21 : decode cX9_undo 21 = .ok (.istore_n 1, 1) := by decide +kernel
theorem dX9_undo_22 : decode cX9_undo 22 = .ok (.iload_n 1, 1) := by decide +kernel
theorem dX9_undo_23 : decode cX9_undo 23 = .ok (.sipush 1683, 3) := by decide +kernel
theorem dX9_undo_26 : decode cX9_undo 26 = .ok (.if_icmp .ge 30, 3) := by decide +kernel
theorem dX9_undo_29 : decode cX9_undo 29 = .ok (.aload_n 0, 1) := by decide +kernel
theorem dX9_undo_30 : decode cX9_undo 30 = .ok (.getfield 7, 3) := by decide +kernel
theorem dX9_undo_33 : decode cX9_undo 33 = .ok (.iload_n 1, 1) := by decide +kernel
theorem dX9_undo_34 : decode cX9_undo 34 = .ok (.aload_n 0, 1) := by decide +kernel
theorem dX9_undo_35 : decode cX9_undo 35 = .ok (.getfield 16, 3) := by decide +kernel
theorem dX9_undo_38 : decode cX9_undo 38 = .ok (.sipush 1683, 3) := by decide +kernel
theorem dX9_undo_41 : decode cX9_undo 41 = .ok (.aload_n 0, 1) := by decide +kernel
theorem dX9_undo_42 : decode cX9_undo 42 = .ok (.getfield 28, 3) := by decide +kernel
theorem dX9_undo_45 : decode cX9_undo 45 = .ok (.imul, 1) := by decide +kernel
theorem dX9_undo_46 : decode cX9_undo 46 = .ok (.iload_n 1, 1) := by decide +kernel
theorem dX9_undo_47 : decode cX9_undo 47 = .ok (.iadd, 1) := by decide +kernel
theorem dX9_undo_48 : decode cX9_undo 48 = .ok (.iaload, 1) := by decide +kernel
theorem dX9_undo_49 : decode cX9_undo 49 = .ok (.iastore, 1) := by decide +kernel
theorem dX9_undo_50 : decode cX9_undo 50 = .ok (.iinc 1 1, 3) := by decide +kernel
theorem dX9_undo_53 : decode cX9_undo 53 = .ok (.goto (-31), 3) := by decide +kernel
theorem dX9_undo_56 : decode cX9_undo 56 = .ok (.aload_n 0, 1) := by decide +kernel
theorem dX9_undo_57 : decode cX9_undo 57 = .ok (.getfield 28, 3) := by decide +kernel
theorem dX9_undo_60 : decode cX9_undo 60 = .ok (.ireturn, 1) := by decide +kernel
theorem dX9_keep_0 : decode cX9_keep 0 = .ok (.iconst 0, 1) := by decide +kernel
theorem dX9_keep_1 : decode cX9_keep 1 = .ok (.istore_n 1, 1) := by decide +kernel
theorem dX9_keep_2 : decode cX9_keep 2 = .ok (.iload_n 1, 1) := by decide +kernel
theorem dX9_keep_3 : decode cX9_keep 3 = .ok (.sipush 1683, 3) := by decide +kernel
theorem dX9_keep_6 : decode cX9_keep 6 = .ok (.if_icmp .ge 21, 3) := by decide +kernel
theorem dX9_keep_9 : decode cX9_keep 9 = .ok (.aload_n 0, 1) := by decide +kernel
theorem dX9_keep_10 : decode cX9_keep 10 = .ok (.getfield 19, 3) := by decide +kernel
theorem dX9_keep_13 : decode cX9_keep 13 = .ok (.iload_n 1, 1) := by decide +kernel
theorem dX9_keep_14 : decode cX9_keep 14 = .ok (.aload_n 0, 1) := by decide +kernel
theorem dX9_keep_15 : decode cX9_keep 15 = .ok (.getfield 7, 3) := by decide +kernel
theorem dX9_keep_18 : decode cX9_keep 18 = .ok (.iload_n 1, 1) := by decide +kernel
theorem dX9_keep_19 : decode cX9_keep 19 = .ok (.iaload, 1) := by decide +kernel
theorem dX9_keep_20 : decode cX9_keep 20 = .ok (.iastore, 1) := by decide +kernel
theorem dX9_keep_21 : decode cX9_keep 21 = .ok (.iinc 1 1, 3) := by decide +kernel
theorem dX9_keep_24 : decode cX9_keep 24 = .ok (.goto (-22), 3) := by decide +kernel
theorem dX9_keep_27 : decode cX9_keep 27 = .ok (.aload_n 0, 1) := by decide +kernel
theorem dX9_keep_28 : decode cX9_keep 28 = .ok (.iconst 1, 1) := by decide +kernel
theorem dX9_keep_29 : decode cX9_keep 29 = .ok (.putfield 138, 3) := by decide +kernel
theorem dX9_keep_32 : decode cX9_keep 32 = .ok (.aload_n 0, 1) := by decide +kernel
theorem dX9_keep_33 : decode cX9_keep 33 = .ok (.getfield 7, 3) := by decide +kernel
theorem dX9_keep_36 : decode cX9_keep 36 = .ok (.iconst 0, 1) := by decide +kernel
theorem dX9_keep_37 : decode cX9_keep 37 = .ok (.iaload, 1) := by decide +kernel
theorem dX9_keep_38 : decode cX9_keep 38 = .ok (.ireturn, 1) := by decide +kernel
theorem dX9_restore_0 : decode cX9_restore 0 = .ok (.aload_n 0, 1) := by decide +kernel
theorem dX9_restore_1 : decode cX9_restore 1 = .ok (.getfield 138, 3) := by decide +kernel
theorem dX9_restore_4 : decode cX9_restore 4 = .ok (.ifCond .ne 6, 3) := by decide +kernel
theorem dX9_restore_7 : decode cX9_restore 7 = .ok (.bipush (-5), 2) := by decide +kernel
theorem dX9_restore_9 : decode cX9_restore 9 = .ok (.ireturn, 1) := by decide +kernel
theorem dX9_restore_10 : decode cX9_restore 10 = .ok (.aload_n 0, 1) := by decide +kernel
theorem dX9_restore_11 : decode cX9_restore 11 = .ok (.invokevirtual 89, 3) := by decide +kernel
theorem dX9_restore_14 : decode cX9_restore 14 = .ok (.iconst 0, 1) := by decide +kernel
theorem dX9_restore_15 : decode cX9_restore 15 = .ok (.istore_n 1, 1) := by decide +kernel
theorem dX9_restore_16 : decode cX9_restore 16 = .ok (.iload_n 1, 1) := by decide +kernel
theorem dX9_restore_17 : decode cX9_restore 17 = .ok (.sipush 1683, 3) := by decide +kernel
theorem dX9_restore_20 : decode cX9_restore 20 = .ok (.if_icmp .ge 21, 3) := by decide +kernel
theorem dX9_restore_23 : decode cX9_restore 23 = .ok (.aload_n 0, 1) := by decide +kernel
theorem dX9_restore_24 : decode cX9_restore 24 = .ok (.getfield 7, 3) := by decide +kernel
theorem dX9_restore_27 : decode cX9_restore 27 = .ok (.iload_n 1, 1) := by decide +kernel
theorem dX9_restore_28 : decode cX9_restore 28 = .ok (.aload_n 0, 1) := by decide +kernel
theorem dX9_restore_29 : decode cX9_restore 29 = .ok (.getfield 19, 3) := by decide +kernel
theorem dX9_restore_32 : decode cX9_restore 32 = .ok (.iload_n 1, 1) := by decide +kernel
theorem dX9_restore_33 : decode cX9_restore 33 = .ok (.iaload, 1) := by decide +kernel
theorem dX9_restore_34 : decode cX9_restore 34 = .ok (.iastore, 1) := by decide +kernel
theorem dX9_restore_35 : decode cX9_restore 35 = .ok (.iinc 1 1, 3) := by decide +kernel
theorem dX9_restore_38 : decode cX9_restore 38 = .ok (.goto (-22), 3) := by decide +kernel
theorem dX9_restore_41 : decode cX9_restore 41 = .ok (.aload_n 0, 1) := by decide +kernel
theorem dX9_restore_42 : decode cX9_restore 42 = .ok (.getfield 7, 3) := by decide +kernel
theorem dX9_restore_45 : decode cX9_restore 45 = .ok (.iconst 0, 1) := by decide +kernel
theorem dX9_restore_46 : decode cX9_restore 46 = .ok (.iaload, 1) := by decide +kernel
theorem dX9_restore_47 : decode cX9_restore 47 = .ok (.ireturn, 1) := by decide +kernel
theorem dX9_story_0 : decode cX9_story 0 = .ok (.aload_n 0, 1) := by decide +kernel
theorem dX9_story_1 : decode cX9_story 1 = .ok (.iload_n 1, 1) := by decide +kernel
theorem dX9_story_2 : decode cX9_story 2 = .ok (.invokevirtual 127, 3) := by decide +kernel
theorem dX9_story_5 : decode cX9_story 5 = .ok (.ifCond .ne 5, 3) := by decide +kernel
theorem dX9_story_8 : decode cX9_story 8 = .ok (.iconst (-1), 1) := by decide +kernel
theorem dX9_story_9 : decode cX9_story 9 = .ok (.ireturn, 1) := by decide +kernel
theorem dX9_story_10 : decode cX9_story 10 = .ok (.iconst 0, 1) := by decide +kernel
theorem dX9_story_11 : decode cX9_story 11 = .ok (.istore_n 3, 1) := by decide +kernel
theorem dX9_story_12 : decode cX9_story 12 = .ok (.iconst 0, 1) := by decide +kernel
theorem dX9_story_13 : decode cX9_story 13 = .ok (.istore 4, 2) := by decide +kernel
theorem dX9_story_15 : decode cX9_story 15 = .ok (.iload 4, 2) := by decide +kernel
theorem dX9_story_17 : decode cX9_story 17 = .ok (.aload_n 0, 1) := by decide +kernel
theorem dX9_story_18 : decode cX9_story 18 = .ok (.getfield 7, 3) := by decide +kernel
theorem dX9_story_21 : decode cX9_story 21 = .ok (.iconst 3, 1) := by decide +kernel
theorem dX9_story_22 : decode cX9_story 22 = .ok (.iaload, 1) := by decide +kernel
theorem dX9_story_23 : decode cX9_story 23 = .ok (.if_icmp .ge 28, 3) := by decide +kernel
theorem dX9_story_26 : decode cX9_story 26 = .ok (.iload_n 3, 1) := by decide +kernel
theorem dX9_story_27 : decode cX9_story 27 = .ok (.aload_n 0, 1) := by decide +kernel
theorem dX9_story_28 : decode cX9_story 28 = .ok (.iload 4, 2) := by decide +kernel
theorem dX9_story_30 : decode cX9_story 30 = .ok (.iconst 0, 1) := by decide +kernel
theorem dX9_story_31 : decode cX9_story 31 = .ok (.invokevirtual 65, 3) := by decide +kernel
theorem dX9_story_34 : decode cX9_story 34 = .ok (.iload_n 1, 1) := by decide +kernel
theorem dX9_story_35 : decode cX9_story 35 = .ok (.if_icmp .ne 7, 3) := by decide +kernel
theorem dX9_story_38 : decode cX9_story 38 = .ok (.iconst 1, 1) := by decide +kernel
theorem dX9_story_39 : decode cX9_story 39 = .ok (.goto 4, 3) := by decide +kernel
theorem dX9_story_42 : decode cX9_story 42 = .ok (.iconst 0, 1) := by decide +kernel
theorem dX9_story_43 : decode cX9_story 43 = .ok (.iadd, 1) := by decide +kernel
theorem dX9_story_44 : decode cX9_story 44 = .ok (.istore_n 3, 1) := by decide +kernel
theorem dX9_story_45 : decode cX9_story 45 = .ok (.iinc 4 1, 3) := by decide +kernel
theorem dX9_story_48 : decode cX9_story 48 = .ok (.goto (-33), 3) := by decide +kernel
theorem dX9_story_51 : decode cX9_story 51 = .ok (.iload_n 2, 1) := by decide +kernel
theorem dX9_story_52 : decode cX9_story 52 = .ok (.tableswitch 137 0 10 #[60, 67, 74, 81, 89, 97, 105, 113, 121, 123, 130], 60) := by decide +kernel
theorem dX9_story_112 : decode cX9_story 112 = .ok (.aload_n 0, 1) := by decide +kernel
theorem dX9_story_113 : decode cX9_story 113 = .ok (.iload_n 1, 1) := by decide +kernel
theorem dX9_story_114 : decode cX9_story 114 = .ok (.iconst 0, 1) := by decide +kernel
theorem dX9_story_115 : decode cX9_story 115 = .ok (.invokevirtual 49, 3) := by decide +kernel
theorem dX9_story_118 : decode cX9_story 118 = .ok (.ireturn, 1) := by decide +kernel
theorem dX9_story_119 : decode cX9_story 119 = .ok (.aload_n 0, 1) := by decide +kernel
theorem dX9_story_120 : decode cX9_story 120 = .ok (.iload_n 1, 1) := by decide +kernel
theorem dX9_story_121 : decode cX9_story 121 = .ok (.iconst 1, 1) := by decide +kernel
theorem dX9_story_122 : decode cX9_story 122 = .ok (.invokevirtual 49, 3) := by decide +kernel
theorem dX9_story_125 : decode cX9_story 125 = .ok (.ireturn, 1) := by decide +kernel
theorem dX9_story_126 : decode cX9_story 126 = .ok (.aload_n 0, 1) := by decide +kernel
theorem dX9_story_127 : decode cX9_story 127 = .ok (.iload_n 1, 1) := by decide +kernel
theorem dX9_story_128 : decode cX9_story 128 = .ok (.iconst 5, 1) := by decide +kernel
theorem dX9_story_129 : decode cX9_story 129 = .ok (.invokevirtual 49, 3) := by decide +kernel
theorem dX9_story_132 : decode cX9_story 132 = .ok (.ireturn, 1) := by decide +kernel
theorem dX9_story_133 : decode cX9_story 133 = .ok (.aload_n 0, 1) := by decide +kernel
theorem dX9_story_134 : decode cX9_story 134 = .ok (.iload_n 1, 1) := by decide +kernel
theorem dX9_story_135 : decode cX9_story 135 = .ok (.bipush 6, 2) := by decide +kernel
theorem dX9_story_137 : decode cX9_story 137 = .ok (.invokevirtual 49, 3) := by decide +kernel
theorem dX9_story_140 : decode cX9_story 140 = .ok (.ireturn, 1) := by decide +kernel
theorem dX9_story_141 : decode cX9_story 141 = .ok (.aload_n 0, 1) := by decide +kernel
theorem dX9_story_142 : decode cX9_story 142 = .ok (.iload_n 1, 1) := by decide +kernel
theorem dX9_story_143 : decode cX9_story 143 = .ok (.bipush 7, 2) := by decide +kernel
theorem dX9_story_145 : decode cX9_story 145 = .ok (.invokevirtual 49, 3) := by decide +kernel
theorem dX9_story_148 : decode cX9_story 148 = .ok (.ireturn, 1) := by decide +kernel
theorem dX9_story_149 : decode cX9_story 149 = .ok (.aload_n 0, 1) := by decide +kernel
theorem dX9_story_150 : decode cX9_story 150 = .ok (.iload_n 1, 1) := by decide +kernel
theorem dX9_story_151 : decode cX9_story 151 = .ok (.bipush 8, 2) := by decide +kernel
theorem dX9_story_153 : decode cX9_story 153 = .ok (.invokevirtual 49, 3) := by decide +kernel
theorem dX9_story_156 : decode cX9_story 156 = .ok (.ireturn, 1) := by decide +kernel
theorem dX9_story_157 : decode cX9_story 157 = .ok (.aload_n 0, 1) := by decide +kernel
theorem dX9_story_158 : decode cX9_story 158 = .ok (.iload_n 1, 1) := by decide +kernel
theorem dX9_story_159 : decode cX9_story 159 = .ok (.bipush 9, 2) := by decide +kernel
theorem dX9_story_161 : decode cX9_story 161 = .ok (.invokevirtual 49, 3) := by decide +kernel
theorem dX9_story_164 : decode cX9_story 164 = .ok (.ireturn, 1) := by decide +kernel
theorem dX9_story_165 : decode cX9_story 165 = .ok (.aload_n 0, 1) := by decide +kernel
theorem dX9_story_166 : decode cX9_story 166 = .ok (.iload_n 1, 1) := by decide +kernel
theorem dX9_story_167 : decode cX9_story 167 = .ok (.bipush 16, 2) := by decide +kernel
theorem dX9_story_169 : decode cX9_story 169 = .ok (.invokevirtual 49, 3) := by decide +kernel
theorem dX9_story_172 : decode cX9_story 172 = .ok (.ireturn, 1) := by decide +kernel
theorem dX9_story_173 : decode cX9_story 173 = .ok (.iload_n 3, 1) := by decide +kernel
theorem dX9_story_174 : decode cX9_story 174 = .ok (.ireturn, 1) := by decide +kernel
theorem dX9_story_175 : decode cX9_story 175 = .ok (.aload_n 0, 1) := by decide +kernel
theorem dX9_story_176 : decode cX9_story 176 = .ok (.iload_n 1, 1) := by decide +kernel
theorem dX9_story_177 : decode cX9_story 177 = .ok (.iconst 0, 1) := by decide +kernel
theorem dX9_story_178 : decode cX9_story 178 = .ok (.invokevirtual 130, 3) := by decide +kernel
theorem dX9_story_181 : decode cX9_story 181 = .ok (.ireturn, 1) := by decide +kernel
theorem dX9_story_182 : decode cX9_story 182 = .ok (.aload_n 0, 1) := by decide +kernel
theorem dX9_story_183 : decode cX9_story 183 = .ok (.iload_n 1, 1) := by decide +kernel
theorem dX9_story_184 : decode cX9_story 184 = .ok (.iconst 1, 1) := by decide +kernel
theorem dX9_story_185 : decode cX9_story 185 = .ok (.invokevirtual 130, 3) := by decide +kernel
theorem dX9_story_188 : decode cX9_story 188 = .ok (.ireturn, 1) := by decide +kernel
theorem dX9_story_189 : decode cX9_story 189 = .ok (.bipush (-2), 2) := by decide +kernel
theorem dX9_story_191 : decode cX9_story 191 = .ok (.ireturn, 1) := by decide +kernel
theorem dX9_rowOf_0 : decode cX9_rowOf 0 = .ok (.aload_n 0, 1) := by decide +kernel
theorem dX9_rowOf_1 : decode cX9_rowOf 1 = .ok (.iload_n 1, 1) := by decide +kernel
theorem dX9_rowOf_2 : decode cX9_rowOf 2 = .ok (.invokevirtual 127, 3) := by decide +kernel
theorem dX9_rowOf_5 : decode cX9_rowOf 5 = .ok (.ifCond .ne 5, 3) := by decide +kernel
theorem dX9_rowOf_8 : decode cX9_rowOf 8 = .ok (.iconst (-1), 1) := by decide +kernel
theorem dX9_rowOf_9 : decode cX9_rowOf 9 = .ok (.ireturn, 1) := by decide +kernel
theorem dX9_rowOf_10 : decode cX9_rowOf 10 = .ok (.iload_n 2, 1) := by decide +kernel
theorem dX9_rowOf_11 : decode cX9_rowOf 11 = .ok (.ifCond .ge 6, 3) := by decide +kernel
theorem dX9_rowOf_14 : decode cX9_rowOf 14 = .ok (.bipush (-2), 2) := by decide +kernel
theorem dX9_rowOf_16 : decode cX9_rowOf 16 = .ok (.ireturn, 1) := by decide +kernel
theorem dX9_rowOf_17 : decode cX9_rowOf 17 = .ok (.iload_n 2, 1) := by decide +kernel
theorem dX9_rowOf_18 : decode cX9_rowOf 18 = .ok (.aload_n 0, 1) := by decide +kernel
theorem dX9_rowOf_19 : decode cX9_rowOf 19 = .ok (.iload_n 1, 1) := by decide +kernel
theorem dX9_rowOf_20 : decode cX9_rowOf 20 = .ok (.iload_n 3, 1) := by decide +kernel
theorem dX9_rowOf_21 : decode cX9_rowOf 21 = .ok (.invokevirtual 49, 3) := by decide +kernel
theorem dX9_rowOf_24 : decode cX9_rowOf 24 = .ok (.if_icmp .ge 15, 3) := by decide +kernel
theorem dX9_rowOf_27 : decode cX9_rowOf 27 = .ok (.aload_n 0, 1) := by decide +kernel
theorem dX9_rowOf_28 : decode cX9_rowOf 28 = .ok (.iload_n 1, 1) := by decide +kernel
theorem dX9_rowOf_29 : decode cX9_rowOf 29 = .ok (.iload 4, 2) := by decide +kernel
theorem dX9_rowOf_31 : decode cX9_rowOf 31 = .ok (.iload_n 2, 1) := by decide +kernel
theorem dX9_rowOf_32 : decode cX9_rowOf 32 = .ok (.iadd, 1) := by decide +kernel
theorem dX9_rowOf_33 : decode cX9_rowOf 33 = .ok (.invokevirtual 49, 3) := by decide +kernel
theorem dX9_rowOf_36 : decode cX9_rowOf 36 = .ok (.goto 5, 3) := by decide +kernel
theorem dX9_rowOf_39 : decode cX9_rowOf 39 = .ok (.bipush (-5), 2) := by decide +kernel
theorem dX9_rowOf_41 : decode cX9_rowOf 41 = .ok (.ireturn, 1) := by decide +kernel
theorem dX9_byline_0 : decode cX9_byline 0 = .ok (.aload_n 0, 1) := by decide +kernel
theorem dX9_byline_1 : decode cX9_byline 1 = .ok (.iload_n 1, 1) := by decide +kernel
theorem dX9_byline_2 : decode cX9_byline 2 = .ok (.iload_n 2, 1) := by decide +kernel
theorem dX9_byline_3 : decode cX9_byline 3 = .ok (.iconst 1, 1) := by decide +kernel
theorem dX9_byline_4 : decode cX9_byline 4 = .ok (.iconst 2, 1) := by decide +kernel
theorem dX9_byline_5 : decode cX9_byline 5 = .ok (.invokevirtual 142, 3) := by decide +kernel
theorem dX9_byline_8 : decode cX9_byline 8 = .ok (.ireturn, 1) := by decide +kernel
theorem dX9_slugChar_0 : decode cX9_slugChar 0 = .ok (.aload_n 0, 1) := by decide +kernel
theorem dX9_slugChar_1 : decode cX9_slugChar 1 = .ok (.iload_n 1, 1) := by decide +kernel
theorem dX9_slugChar_2 : decode cX9_slugChar 2 = .ok (.iload_n 2, 1) := by decide +kernel
theorem dX9_slugChar_3 : decode cX9_slugChar 3 = .ok (.bipush 16, 2) := by decide +kernel
theorem dX9_slugChar_5 : decode cX9_slugChar 5 = .ok (.bipush 17, 2) := by decide +kernel
theorem dX9_slugChar_7 : decode cX9_slugChar 7 = .ok (.invokevirtual 142, 3) := by decide +kernel
theorem dX9_slugChar_10 : decode cX9_slugChar 10 = .ok (.ireturn, 1) := by decide +kernel
theorem dX9_correction_0 : decode cX9_correction 0 = .ok (.aload_n 0, 1) := by decide +kernel
theorem dX9_correction_1 : decode cX9_correction 1 = .ok (.iload_n 1, 1) := by decide +kernel
theorem dX9_correction_2 : decode cX9_correction 2 = .ok (.iload_n 2, 1) := by decide +kernel
theorem dX9_correction_3 : decode cX9_correction 3 = .ok (.bipush 7, 2) := by decide +kernel
theorem dX9_correction_5 : decode cX9_correction 5 = .ok (.bipush 10, 2) := by decide +kernel
theorem dX9_correction_7 : decode cX9_correction 7 = .ok (.invokevirtual 142, 3) := by decide +kernel
theorem dX9_correction_10 : decode cX9_correction 10 = .ok (.ireturn, 1) := by decide +kernel
theorem dX9_inUseFor_0 : decode cX9_inUseFor 0 = .ok (.iconst 0, 1) := by decide +kernel
theorem dX9_inUseFor_1 : decode cX9_inUseFor 1 = .ok (.istore_n 2, 1) := by decide +kernel
theorem dX9_inUseFor_2 : decode cX9_inUseFor 2 = .ok (.iconst 0, 1) := by decide +kernel
theorem dX9_inUseFor_3 : decode cX9_inUseFor 3 = .ok (.istore_n 3, 1) := by decide +kernel
theorem dX9_inUseFor_4 : decode cX9_inUseFor 4 = .ok (.iload_n 3, 1) := by decide +kernel
theorem dX9_inUseFor_5 : decode cX9_inUseFor 5 = .ok (.aload_n 0, 1) := by decide +kernel
theorem dX9_inUseFor_6 : decode cX9_inUseFor 6 = .ok (.getfield 7, 3) := by decide +kernel
theorem dX9_inUseFor_9 : decode cX9_inUseFor 9 = .ok (.iconst 3, 1) := by decide +kernel
theorem dX9_inUseFor_10 : decode cX9_inUseFor 10 = .ok (.iaload, 1) := by decide +kernel
theorem dX9_inUseFor_11 : decode cX9_inUseFor 11 = .ok (.if_icmp .ge 37, 3) := by decide +kernel
theorem dX9_inUseFor_14 : decode cX9_inUseFor 14 = .ok (.iload_n 2, 1) := by decide +kernel
theorem dX9_inUseFor_15 : decode cX9_inUseFor 15 = .ok (.aload_n 0, 1) := by decide +kernel
theorem dX9_inUseFor_16 : decode cX9_inUseFor 16 = .ok (.iload_n 3, 1) := by decide +kernel
theorem dX9_inUseFor_17 : decode cX9_inUseFor 17 = .ok (.iconst 1, 1) := by decide +kernel
theorem dX9_inUseFor_18 : decode cX9_inUseFor 18 = .ok (.invokevirtual 65, 3) := by decide +kernel
theorem dX9_inUseFor_21 : decode cX9_inUseFor 21 = .ok (.iload_n 1, 1) := by decide +kernel
theorem dX9_inUseFor_22 : decode cX9_inUseFor 22 = .ok (.if_icmp .ne 17, 3) := by decide +kernel
theorem dX9_inUseFor_25 : decode cX9_inUseFor 25 = .ok (.aload_n 0, 1) := by decide +kernel
theorem dX9_inUseFor_26 : decode cX9_inUseFor 26 = .ok (.iload_n 3, 1) := by decide +kernel
theorem dX9_inUseFor_27 : decode cX9_inUseFor 27 = .ok (.iconst 2, 1) := by decide +kernel
theorem dX9_inUseFor_28 : decode cX9_inUseFor 28 = .ok (.invokevirtual 65, 3) := by decide +kernel
theorem dX9_inUseFor_31 : decode cX9_inUseFor 31 = .ok (.iconst 1, 1) := by decide +kernel
theorem dX9_inUseFor_32 : decode cX9_inUseFor 32 = .ok (.if_icmp .ne 7, 3) := by decide +kernel
theorem dX9_inUseFor_35 : decode cX9_inUseFor 35 = .ok (.iconst 1, 1) := by decide +kernel
theorem dX9_inUseFor_36 : decode cX9_inUseFor 36 = .ok (.goto 4, 3) := by decide +kernel
theorem dX9_inUseFor_39 : decode cX9_inUseFor 39 = .ok (.iconst 0, 1) := by decide +kernel
theorem dX9_inUseFor_40 : decode cX9_inUseFor 40 = .ok (.iadd, 1) := by decide +kernel
theorem dX9_inUseFor_41 : decode cX9_inUseFor 41 = .ok (.istore_n 2, 1) := by decide +kernel
theorem dX9_inUseFor_42 : decode cX9_inUseFor 42 = .ok (.iinc 3 1, 3) := by decide +kernel
theorem dX9_inUseFor_45 : decode cX9_inUseFor 45 = .ok (.goto (-41), 3) := by decide +kernel
theorem dX9_inUseFor_48 : decode cX9_inUseFor 48 = .ok (.iload_n 2, 1) := by decide +kernel
theorem dX9_inUseFor_49 : decode cX9_inUseFor 49 = .ok (.ireturn, 1) := by decide +kernel
theorem dX9_client_0 : decode cX9_client 0 = .ok (.aload_n 0, 1) := by decide +kernel
theorem dX9_client_1 : decode cX9_client 1 = .ok (.iload_n 1, 1) := by decide +kernel
theorem dX9_client_2 : decode cX9_client 2 = .ok (.invokevirtual 92, 3) := by decide +kernel
theorem dX9_client_5 : decode cX9_client 5 = .ok (.ifCond .ne 5, 3) := by decide +kernel
theorem dX9_client_8 : decode cX9_client 8 = .ok (.iconst (-1), 1) := by decide +kernel
theorem dX9_client_9 : decode cX9_client 9 = .ok (.ireturn, 1) := by decide +kernel
theorem dX9_client_10 : decode cX9_client 10 = .ok (.iload_n 2, 1) := by decide +kernel
theorem dX9_client_11 : decode cX9_client 11 = .ok (.iconst 0, 1) := by decide +kernel
theorem dX9_client_12 : decode cX9_client 12 = .ok (.bipush 10, 2) := by decide +kernel
theorem dX9_client_14 : decode cX9_client 14 = .ok (.invokestatic 32, 3) := by decide +kernel
theorem dX9_client_17 : decode cX9_client 17 = .ok (.ifCond .ne 6, 3) := by decide +kernel
theorem dX9_client_20 : decode cX9_client 20 = .ok (.bipush (-2), 2) := by decide +kernel
theorem dX9_client_22 : decode cX9_client 22 = .ok (.ireturn, 1) := by decide +kernel
theorem dX9_client_23 : decode cX9_client 23 = .ok (.iload_n 2, 1) := by decide +kernel
theorem dX9_client_24 : decode cX9_client 24 = .ok (.bipush 9, 2) := by decide +kernel
theorem dX9_client_26 : decode cX9_client 26 = .ok (.if_icmp .ge 12, 3) := by decide +kernel
theorem dX9_client_29 : decode cX9_client 29 = .ok (.aload_n 0, 1) := by decide +kernel
theorem dX9_client_30 : decode cX9_client 30 = .ok (.iload_n 1, 1) := by decide +kernel
theorem dX9_client_31 : decode cX9_client 31 = .ok (.iload_n 2, 1) := by decide +kernel
theorem dX9_client_32 : decode cX9_client 32 = .ok (.invokevirtual 46, 3) := by decide +kernel
theorem dX9_client_35 : decode cX9_client 35 = .ok (.goto 24, 3) := by decide +kernel
theorem dX9_client_38 : decode cX9_client 38 = .ok (.iload_n 2, 1) := by decide +kernel
theorem dX9_client_39 : decode cX9_client 39 = .ok (.bipush 9, 2) := by decide +kernel
theorem dX9_client_41 : decode cX9_client 41 = .ok (.if_icmp .ne 11, 3) := by decide +kernel
theorem dX9_client_44 : decode cX9_client 44 = .ok (.aload_n 0, 1) := by decide +kernel
theorem dX9_client_45 : decode cX9_client 45 = .ok (.iload_n 1, 1) := by decide +kernel
theorem dX9_client_46 : decode cX9_client 46 = .ok (.invokevirtual 146, 3) := by decide +kernel
theorem dX9_client_49 : decode cX9_client 49 = .ok (.goto 10, 3) := by decide +kernel
theorem dX9_client_52 : decode cX9_client 52 = .ok (.aload_n 0, 1) := by decide +kernel
theorem dX9_client_53 : decode cX9_client 53 = .ok (.iload_n 1, 1) := by decide +kernel
theorem dX9_client_54 : decode cX9_client 54 = .ok (.bipush 9, 2) := by decide +kernel
theorem dX9_client_56 : decode cX9_client 56 = .ok (.invokevirtual 46, 3) := by decide +kernel
theorem dX9_client_59 : decode cX9_client 59 = .ok (.ireturn, 1) := by decide +kernel
theorem dX9_wrote_0 : decode cX9_wrote 0 = .ok (.iconst 0, 1) := by decide +kernel
theorem dX9_wrote_1 : decode cX9_wrote 1 = .ok (.istore_n 3, 1) := by decide +kernel
theorem dX9_wrote_2 : decode cX9_wrote 2 = .ok (.iconst 0, 1) := by decide +kernel
theorem dX9_wrote_3 : decode cX9_wrote 3 = .ok (.istore 4, 2) := by decide +kernel
theorem dX9_wrote_5 : decode cX9_wrote 5 = .ok (.iload 4, 2) := by decide +kernel
theorem dX9_wrote_7 : decode cX9_wrote 7 = .ok (.aload_n 0, 1) := by decide +kernel
theorem dX9_wrote_8 : decode cX9_wrote 8 = .ok (.iload_n 2, 1) := by decide +kernel
theorem dX9_wrote_9 : decode cX9_wrote 9 = .ok (.iconst 1, 1) := by decide +kernel
theorem dX9_wrote_10 : decode cX9_wrote 10 = .ok (.invokevirtual 49, 3) := by decide +kernel
theorem dX9_wrote_13 : decode cX9_wrote 13 = .ok (.if_icmp .ge 32, 3) := by decide +kernel
theorem dX9_wrote_16 : decode cX9_wrote 16 = .ok (.iload_n 3, 1) := by decide +kernel
theorem dX9_wrote_17 : decode cX9_wrote 17 = .ok (.ifCond .ne 16, 3) := by decide +kernel
theorem dX9_wrote_20 : decode cX9_wrote 20 = .ok (.aload_n 0, 1) := by decide +kernel
theorem dX9_wrote_21 : decode cX9_wrote 21 = .ok (.iload_n 2, 1) := by decide +kernel
theorem dX9_wrote_22 : decode cX9_wrote 22 = .ok (.iconst 2, 1) := by decide +kernel
theorem dX9_wrote_23 : decode cX9_wrote 23 = .ok (.iload 4, 2) := by decide +kernel
theorem dX9_wrote_25 : decode cX9_wrote 25 = .ok (.iadd, 1) := by decide +kernel
theorem dX9_wrote_26 : decode cX9_wrote 26 = .ok (.invokevirtual 49, 3) := by decide +kernel
theorem dX9_wrote_29 : decode cX9_wrote 29 = .ok (.iload_n 1, 1) := by decide +kernel
theorem dX9_wrote_30 : decode cX9_wrote 30 = .ok (.if_icmp .ne 7, 3) := by decide +kernel
theorem dX9_wrote_33 : decode cX9_wrote 33 = .ok (.iconst 1, 1) := by decide +kernel
theorem dX9_wrote_34 : decode cX9_wrote 34 = .ok (.goto 4, 3) := by decide +kernel
theorem dX9_wrote_37 : decode cX9_wrote 37 = .ok (.iconst 0, 1) := by decide +kernel
theorem dX9_wrote_38 : decode cX9_wrote 38 = .ok (.istore_n 3, 1) := by decide +kernel
theorem dX9_wrote_39 : decode cX9_wrote 39 = .ok (.iinc 4 1, 3) := by decide +kernel
theorem dX9_wrote_42 : decode cX9_wrote 42 = .ok (.goto (-37), 3) := by decide +kernel
theorem dX9_wrote_45 : decode cX9_wrote 45 = .ok (.iload_n 3, 1) := by decide +kernel
theorem dX9_wrote_46 : decode cX9_wrote 46 = .ok (.ireturn, 1) := by decide +kernel
theorem dX9_person_0 : decode cX9_person 0 = .ok (.iload_n 1, 1) := by decide +kernel
theorem dX9_person_1 : decode cX9_person 1 = .ok (.iconst 0, 1) := by decide +kernel
theorem dX9_person_2 : decode cX9_person 2 = .ok (.bipush 9, 2) := by decide +kernel
theorem dX9_person_4 : decode cX9_person 4 = .ok (.invokestatic 32, 3) := by decide +kernel
theorem dX9_person_7 : decode cX9_person 7 = .ok (.ifCond .ne 5, 3) := by decide +kernel
theorem dX9_person_10 : decode cX9_person 10 = .ok (.iconst (-1), 1) := by decide +kernel
theorem dX9_person_11 : decode cX9_person 11 = .ok (.ireturn, 1) := by decide +kernel
theorem dX9_person_12 : decode cX9_person 12 = .ok (.iload_n 2, 1) := by decide +kernel
theorem dX9_person_13 : decode cX9_person 13 = .ok (.iconst 0, 1) := by decide +kernel
theorem dX9_person_14 : decode cX9_person 14 = .ok (.iconst 3, 1) := by decide +kernel
theorem dX9_person_15 : decode cX9_person 15 = .ok (.invokestatic 32, 3) := by decide +kernel
theorem dX9_person_18 : decode cX9_person 18 = .ok (.ifCond .ne 6, 3) := by decide +kernel
theorem dX9_person_21 : decode cX9_person 21 = .ok (.bipush (-2), 2) := by decide +kernel
theorem dX9_person_23 : decode cX9_person 23 = .ok (.ireturn, 1) := by decide +kernel
theorem dX9_person_24 : decode cX9_person 24 = .ok (.iconst 0, 1) := by decide +kernel
theorem dX9_person_25 : decode cX9_person 25 = .ok (.istore_n 3, 1) := by decide +kernel
theorem dX9_person_26 : decode cX9_person 26 = .ok (.iconst 0, 1) := by decide +kernel
theorem dX9_person_27 : decode cX9_person 27 = .ok (.istore 4, 2) := by decide +kernel
theorem dX9_person_29 : decode cX9_person 29 = .ok (.iconst 0, 1) := by decide +kernel
theorem dX9_person_30 : decode cX9_person 30 = .ok (.istore 5, 2) := by decide +kernel
theorem dX9_person_32 : decode cX9_person 32 = .ok (.iload 5, 2) := by decide +kernel
theorem dX9_person_34 : decode cX9_person 34 = .ok (.aload_n 0, 1) := by decide +kernel
theorem dX9_person_35 : decode cX9_person 35 = .ok (.getfield 7, 3) := by decide +kernel
theorem dX9_person_38 : decode cX9_person 38 = .ok (.iconst 2, 1) := by decide +kernel
theorem dX9_person_39 : decode cX9_person 39 = .ok (.iaload, 1) := by decide +kernel
theorem dX9_person_40 : decode cX9_person 40 = .ok (.if_icmp .ge 53, 3) := by decide +kernel
theorem dX9_person_43 : decode cX9_person 43 = .ok (.iload_n 3, 1) := by decide +kernel
theorem dX9_person_44 : decode cX9_person 44 = .ok (.aload_n 0, 1) := by decide +kernel
theorem dX9_person_45 : decode cX9_person 45 = .ok (.iload_n 1, 1) := by decide +kernel
theorem dX9_person_46 : decode cX9_person 46 = .ok (.iload 5, 2) := by decide +kernel
theorem dX9_person_48 : decode cX9_person 48 = .ok (.invokevirtual 149, 3) := by decide +kernel
theorem dX9_person_51 : decode cX9_person 51 = .ok (.ifCond .eq 7, 3) := by decide +kernel
theorem dX9_person_54 : decode cX9_person 54 = .ok (.iconst 1, 1) := by decide +kernel
theorem dX9_person_55 : decode cX9_person 55 = .ok (.goto 4, 3) := by decide +kernel
theorem dX9_person_58 : decode cX9_person 58 = .ok (.iconst 0, 1) := by decide +kernel
theorem dX9_person_59 : decode cX9_person 59 = .ok (.iadd, 1) := by decide +kernel
theorem dX9_person_60 : decode cX9_person 60 = .ok (.istore_n 3, 1) := by decide +kernel
theorem dX9_person_61 : decode cX9_person 61 = .ok (.iload 4, 2) := by decide +kernel
theorem dX9_person_63 : decode cX9_person 63 = .ok (.aload_n 0, 1) := by decide +kernel
theorem dX9_person_64 : decode cX9_person 64 = .ok (.iload_n 1, 1) := by decide +kernel
theorem dX9_person_65 : decode cX9_person 65 = .ok (.iload 5, 2) := by decide +kernel
theorem dX9_person_67 : decode cX9_person 67 = .ok (.invokevirtual 149, 3) := by decide +kernel
theorem dX9_person_70 : decode cX9_person 70 = .ok (.ifCond .eq 13, 3) := by decide +kernel
theorem dX9_person_73 : decode cX9_person 73 = .ok (.aload_n 0, 1) := by decide +kernel
theorem dX9_person_74 : decode cX9_person 74 = .ok (.iload 5, 2) := by decide +kernel
theorem dX9_person_76 : decode cX9_person 76 = .ok (.iconst 0, 1) := by decide +kernel
theorem dX9_person_77 : decode cX9_person 77 = .ok (.invokevirtual 130, 3) := by decide +kernel
theorem dX9_person_80 : decode cX9_person 80 = .ok (.goto 4, 3) := by decide +kernel
theorem dX9_person_83 : decode cX9_person 83 = .ok (.iconst 0, 1) := by decide +kernel
theorem dX9_person_84 : decode cX9_person 84 = .ok (.iadd, 1) := by decide +kernel
theorem dX9_person_85 : decode cX9_person 85 = .ok (.istore 4, 2) := by decide +kernel
theorem dX9_person_87 : decode cX9_person 87 = .ok (.iinc 5 1, 3) := by decide +kernel
theorem dX9_person_90 : decode cX9_person 90 = .ok (.goto (-58), 3) := by decide +kernel
theorem dX9_person_93 : decode cX9_person 93 = .ok (.iload_n 2, 1) := by decide +kernel
theorem dX9_person_94 : decode cX9_person 94 = .ok (.iconst 2, 1) := by decide +kernel
theorem dX9_person_95 : decode cX9_person 95 = .ok (.if_icmp .ge 19, 3) := by decide +kernel
theorem dX9_person_98 : decode cX9_person 98 = .ok (.aload_n 0, 1) := by decide +kernel
theorem dX9_person_99 : decode cX9_person 99 = .ok (.getfield 7, 3) := by decide +kernel
theorem dX9_person_102 : decode cX9_person 102 = .ok (.bipush 87, 2) := by decide +kernel
theorem dX9_person_104 : decode cX9_person 104 = .ok (.iconst 2, 1) := by decide +kernel
theorem dX9_person_105 : decode cX9_person 105 = .ok (.iload_n 1, 1) := by decide +kernel
theorem dX9_person_106 : decode cX9_person 106 = .ok (.imul, 1) := by decide +kernel
theorem dX9_person_107 : decode cX9_person 107 = .ok (.iadd, 1) := by decide +kernel
theorem dX9_person_108 : decode cX9_person 108 = .ok (.iload_n 2, 1) := by decide +kernel
theorem dX9_person_109 : decode cX9_person 109 = .ok (.iadd, 1) := by decide +kernel
theorem dX9_person_110 : decode cX9_person 110 = .ok (.iaload, 1) := by decide +kernel
theorem dX9_person_111 : decode cX9_person 111 = .ok (.goto 14, 3) := by decide +kernel
theorem dX9_person_114 : decode cX9_person 114 = .ok (.iload_n 2, 1) := by decide +kernel
theorem dX9_person_115 : decode cX9_person 115 = .ok (.iconst 2, 1) := by decide +kernel
theorem dX9_person_116 : decode cX9_person 116 = .ok (.if_icmp .ne 7, 3) := by decide +kernel
theorem dX9_person_119 : decode cX9_person 119 = .ok (.iload_n 3, 1) := by decide +kernel
theorem dX9_person_120 : decode cX9_person 120 = .ok (.goto 5, 3) := by decide +kernel
theorem dX9_person_123 : decode cX9_person 123 = .ok (.iload 4, 2) := by decide +kernel
theorem dX9_person_125 : decode cX9_person 125 = .ok (.ireturn, 1) := by decide +kernel
theorem dX9_copyOf_0 : decode cX9_copyOf 0 = .ok (.iconst (-1), 1) := by decide +kernel
theorem dX9_copyOf_1 : decode cX9_copyOf 1 = .ok (.istore_n 3, 1) := by decide +kernel
theorem dX9_copyOf_2 : decode cX9_copyOf 2 = .ok (.iconst 0, 1) := by decide +kernel
theorem dX9_copyOf_3 : decode cX9_copyOf 3 = .ok (.istore 4, 2) := by decide +kernel
theorem dX9_copyOf_5 : decode cX9_copyOf 5 = .ok (.iload 4, 2) := by decide +kernel
theorem dX9_copyOf_7 : decode cX9_copyOf 7 = .ok (.aload_n 0, 1) := by decide +kernel
theorem dX9_copyOf_8 : decode cX9_copyOf 8 = .ok (.getfield 7, 3) := by decide +kernel
theorem dX9_copyOf_11 : decode cX9_copyOf 11 = .ok (.iconst 3, 1) := by decide +kernel
theorem dX9_copyOf_12 : decode cX9_copyOf 12 = .ok (.iaload, 1) := by decide +kernel
theorem dX9_copyOf_13 : decode cX9_copyOf 13 = .ok (.if_icmp .ge 38, 3) := by decide +kernel
theorem dX9_copyOf_16 : decode cX9_copyOf 16 = .ok (.aload_n 0, 1) := by decide +kernel
theorem dX9_copyOf_17 : decode cX9_copyOf 17 = .ok (.iload 4, 2) := by decide +kernel
theorem dX9_copyOf_19 : decode cX9_copyOf 19 = .ok (.iconst 0, 1) := by decide +kernel
theorem dX9_copyOf_20 : decode cX9_copyOf 20 = .ok (.invokevirtual 65, 3) := by decide +kernel
theorem dX9_copyOf_23 : decode cX9_copyOf 23 = .ok (.iload_n 1, 1) := by decide +kernel
theorem dX9_copyOf_24 : decode cX9_copyOf 24 = .ok (.if_icmp .ne 19, 3) := by decide +kernel
theorem dX9_copyOf_27 : decode cX9_copyOf 27 = .ok (.aload_n 0, 1) := by decide +kernel
theorem dX9_copyOf_28 : decode cX9_copyOf 28 = .ok (.iload 4, 2) := by decide +kernel
theorem dX9_copyOf_30 : decode cX9_copyOf 30 = .ok (.iconst 1, 1) := by decide +kernel
theorem dX9_copyOf_31 : decode cX9_copyOf 31 = .ok (.invokevirtual 65, 3) := by decide +kernel
theorem dX9_copyOf_34 : decode cX9_copyOf 34 = .ok (.iload_n 2, 1) := by decide +kernel
theorem dX9_copyOf_35 : decode cX9_copyOf 35 = .ok (.if_icmp .ne 8, 3) := by decide +kernel
theorem dX9_copyOf_38 : decode cX9_copyOf 38 = .ok (.iload 4, 2) := by decide +kernel
theorem dX9_copyOf_40 : decode cX9_copyOf 40 = .ok (.goto 4, 3) := by decide +kernel
theorem dX9_copyOf_43 : decode cX9_copyOf 43 = .ok (.iload_n 3, 1) := by decide +kernel
theorem dX9_copyOf_44 : decode cX9_copyOf 44 = .ok (.istore_n 3, 1) := by decide +kernel
theorem dX9_copyOf_45 : decode cX9_copyOf 45 = .ok (.iinc 4 1, 3) := by decide +kernel
theorem dX9_copyOf_48 : decode cX9_copyOf 48 = .ok (.goto (-43), 3) := by decide +kernel
theorem dX9_copyOf_51 : decode cX9_copyOf 51 = .ok (.iload_n 3, 1) := by decide +kernel
theorem dX9_copyOf_52 : decode cX9_copyOf 52 = .ok (.ireturn, 1) := by decide +kernel
theorem dX9_dueNow_0 : decode cX9_dueNow 0 = .ok (.iconst 0, 1) := by decide +kernel
theorem dX9_dueNow_1 : decode cX9_dueNow 1 = .ok (.istore_n 2, 1) := by decide +kernel
theorem dX9_dueNow_2 : decode cX9_dueNow 2 = .ok (.aload_n 0, 1) := by decide +kernel
theorem dX9_dueNow_3 : decode cX9_dueNow 3 = .ok (.iload_n 1, 1) := by decide +kernel
theorem dX9_dueNow_4 : decode cX9_dueNow 4 = .ok (.iconst 5, 1) := by decide +kernel
theorem dX9_dueNow_5 : decode cX9_dueNow 5 = .ok (.invokevirtual 65, 3) := by decide +kernel
theorem dX9_dueNow_8 : decode cX9_dueNow 8 = .ok (.istore_n 3, 1) := by decide +kernel
theorem dX9_dueNow_9 : decode cX9_dueNow 9 = .ok (.aload_n 0, 1) := by decide +kernel
theorem dX9_dueNow_10 : decode cX9_dueNow 10 = .ok (.iload_n 1, 1) := by decide +kernel
theorem dX9_dueNow_11 : decode cX9_dueNow 11 = .ok (.iconst 2, 1) := by decide +kernel
theorem dX9_dueNow_12 : decode cX9_dueNow 12 = .ok (.invokevirtual 65, 3) := by decide +kernel
theorem dX9_dueNow_15 : decode cX9_dueNow 15 = .ok (.iconst 1, 1) := by decide +kernel
theorem dX9_dueNow_16 : decode cX9_dueNow 16 = .ok (.if_icmp .ne 48, 3) := by decide +kernel
theorem dX9_dueNow_19 : decode cX9_dueNow 19 = .ok (.iload_n 3, 1) := by decide +kernel
theorem dX9_dueNow_20 : decode cX9_dueNow 20 = .ok (.aload_n 0, 1) := by decide +kernel
theorem dX9_dueNow_21 : decode cX9_dueNow 21 = .ok (.aload_n 0, 1) := by decide +kernel
theorem dX9_dueNow_22 : decode cX9_dueNow 22 = .ok (.iload_n 1, 1) := by decide +kernel
theorem dX9_dueNow_23 : decode cX9_dueNow 23 = .ok (.iconst 0, 1) := by decide +kernel
theorem dX9_dueNow_24 : decode cX9_dueNow 24 = .ok (.invokevirtual 65, 3) := by decide +kernel
theorem dX9_dueNow_27 : decode cX9_dueNow 27 = .ok (.bipush 7, 2) := by decide +kernel
theorem dX9_dueNow_29 : decode cX9_dueNow 29 = .ok (.invokevirtual 49, 3) := by decide +kernel
theorem dX9_dueNow_32 : decode cX9_dueNow 32 = .ok (.if_icmp .ge 32, 3) := by decide +kernel
theorem dX9_dueNow_35 : decode cX9_dueNow 35 = .ok (.iload_n 2, 1) := by decide +kernel
theorem dX9_dueNow_36 : decode cX9_dueNow 36 = .ok (.aload_n 0, 1) := by decide +kernel
theorem dX9_dueNow_37 : decode cX9_dueNow 37 = .ok (.getfield 7, 3) := by decide +kernel
theorem dX9_dueNow_40 : decode cX9_dueNow 40 = .ok (.iconst 0, 1) := by decide +kernel
theorem dX9_dueNow_41 : decode cX9_dueNow 41 = .ok (.iaload, 1) := by decide +kernel
theorem dX9_dueNow_42 : decode cX9_dueNow 42 = .ok (.aload_n 0, 1) := by decide +kernel
theorem dX9_dueNow_43 : decode cX9_dueNow 43 = .ok (.iload_n 1, 1) := by decide +kernel
theorem dX9_dueNow_44 : decode cX9_dueNow 44 = .ok (.iload_n 3, 1) := by decide +kernel
theorem dX9_dueNow_45 : decode cX9_dueNow 45 = .ok (.invokevirtual 78, 3) := by decide +kernel
theorem dX9_dueNow_48 : decode cX9_dueNow 48 = .ok (.if_icmp .lt 7, 3) := by decide +kernel
theorem dX9_dueNow_51 : decode cX9_dueNow 51 = .ok (.iconst 1, 1) := by decide +kernel
theorem dX9_dueNow_52 : decode cX9_dueNow 52 = .ok (.goto 4, 3) := by decide +kernel
theorem dX9_dueNow_55 : decode cX9_dueNow 55 = .ok (.iconst 0, 1) := by decide +kernel
theorem dX9_dueNow_56 : decode cX9_dueNow 56 = .ok (.iadd, 1) := by decide +kernel
theorem dX9_dueNow_57 : decode cX9_dueNow 57 = .ok (.istore_n 2, 1) := by decide +kernel
theorem dX9_dueNow_58 : decode cX9_dueNow 58 = .ok (.iinc 3 1, 3) := by decide +kernel
theorem dX9_dueNow_61 : decode cX9_dueNow 61 = .ok (.goto (-52), 3) := by decide +kernel
theorem dX9_dueNow_64 : decode cX9_dueNow 64 = .ok (.iload_n 2, 1) := by decide +kernel
theorem dX9_dueNow_65 : decode cX9_dueNow 65 = .ok (.ireturn, 1) := by decide +kernel
theorem dX9_copy_0 : decode cX9_copy 0 = .ok (.aload_n 0, 1) := by decide +kernel
theorem dX9_copy_1 : decode cX9_copy 1 = .ok (.iload_n 1, 1) := by decide +kernel
theorem dX9_copy_2 : decode cX9_copy 2 = .ok (.invokevirtual 127, 3) := by decide +kernel
theorem dX9_copy_5 : decode cX9_copy 5 = .ok (.ifCond .eq 20, 3) := by decide +kernel
theorem dX9_copy_8 : decode cX9_copy 8 = .ok (.aload_n 0, 1) := by decide +kernel
theorem dX9_copy_9 : decode cX9_copy 9 = .ok (.iload_n 2, 1) := by decide +kernel
theorem dX9_copy_10 : decode cX9_copy 10 = .ok (.invokevirtual 92, 3) := by decide +kernel
theorem dX9_copy_13 : decode cX9_copy 13 = .ok (.ifCond .eq 12, 3) := by decide +kernel
theorem dX9_copy_16 : decode cX9_copy 16 = .ok (.aload_n 0, 1) := by decide +kernel
theorem dX9_copy_17 : decode cX9_copy 17 = .ok (.iload_n 1, 1) := by decide +kernel
theorem dX9_copy_18 : decode cX9_copy 18 = .ok (.iload_n 2, 1) := by decide +kernel
theorem dX9_copy_19 : decode cX9_copy 19 = .ok (.invokevirtual 152, 3) := by decide +kernel
theorem dX9_copy_22 : decode cX9_copy 22 = .ok (.goto 4, 3) := by decide +kernel
theorem dX9_copy_25 : decode cX9_copy 25 = .ok (.iconst (-1), 1) := by decide +kernel
theorem dX9_copy_26 : decode cX9_copy 26 = .ok (.istore 4, 2) := by decide +kernel
theorem dX9_copy_28 : decode cX9_copy 28 = .ok (.iload 4, 2) := by decide +kernel
theorem dX9_copy_30 : decode cX9_copy 30 = .ok (.ifCond .ge 5, 3) := by decide +kernel
theorem dX9_copy_33 : decode cX9_copy 33 = .ok (.iconst (-1), 1) := by decide +kernel
theorem dX9_copy_34 : decode cX9_copy 34 = .ok (.ireturn, 1) := by decide +kernel
theorem dX9_copy_35 : decode cX9_copy 35 = .ok (.aload_n 0, 1) := by decide +kernel
theorem dX9_copy_36 : decode cX9_copy 36 = .ok (.iload 4, 2) := by decide +kernel
theorem dX9_copy_38 : decode cX9_copy 38 = .ok (.iconst 2, 1) := by decide +kernel
theorem dX9_copy_39 : decode cX9_copy 39 = .ok (.invokevirtual 65, 3) := by decide +kernel
theorem dX9_copy_42 : decode cX9_copy 42 = .ok (.iconst 1, 1) := by decide +kernel
theorem dX9_copy_43 : decode cX9_copy 43 = .ok (.if_icmp .ne 7, 3) := by decide +kernel
theorem dX9_copy_46 : decode cX9_copy 46 = .ok (.iconst 1, 1) := by decide +kernel
theorem dX9_copy_47 : decode cX9_copy 47 = .ok (.goto 4, 3) := by decide +kernel
theorem dX9_copy_50 : decode cX9_copy 50 = .ok (.iconst 0, 1) := by decide +kernel
theorem dX9_copy_51 : decode cX9_copy 51 = .ok (.istore 5, 2) := by decide +kernel
theorem dX9_copy_53 : decode cX9_copy 53 = .ok (.iload 5, 2) := by decide +kernel
theorem dX9_copy_55 : decode cX9_copy 55 = .ok (.ifCond .eq 21, 3) := by decide +kernel
theorem dX9_copy_58 : decode cX9_copy 58 = .ok (.aload_n 0, 1) := by decide +kernel
theorem dX9_copy_59 : decode cX9_copy 59 = .ok (.iload_n 1, 1) := by decide +kernel
theorem dX9_copy_60 : decode cX9_copy 60 = .ok (.bipush 7, 2) := by decide +kernel
theorem dX9_copy_62 : decode cX9_copy 62 = .ok (.invokevirtual 49, 3) := by decide +kernel
theorem dX9_copy_65 : decode cX9_copy 65 = .ok (.aload_n 0, 1) := by decide +kernel
theorem dX9_copy_66 : decode cX9_copy 66 = .ok (.iload 4, 2) := by decide +kernel
theorem dX9_copy_68 : decode cX9_copy 68 = .ok (.iconst 5, 1) := by decide +kernel
theorem dX9_copy_69 : decode cX9_copy 69 = .ok (.invokevirtual 65, 3) := by decide +kernel
theorem dX9_copy_72 : decode cX9_copy 72 = .ok (.isub, 1) := by decide +kernel
theorem dX9_copy_73 : decode cX9_copy 73 = .ok (.goto 4, 3) := by decide +kernel
theorem dX9_copy_76 : decode cX9_copy 76 = .ok (.iconst 0, 1) := by decide +kernel
theorem dX9_copy_77 : decode cX9_copy 77 = .ok (.istore 6, 2) := by decide +kernel
theorem dX9_copy_79 : decode cX9_copy 79 = .ok (.iload_n 3, 1) := by decide +kernel
theorem dX9_copy_80 : decode cX9_copy 80 = .ok (.tableswitch 163 0 8 #[52, 60, 68, 76, 84, 87, 94, 118, 146], 52) := by decide +kernel
theorem dX9_copy_132 : decode cX9_copy 132 = .ok (.aload_n 0, 1) := by decide +kernel
theorem dX9_copy_133 : decode cX9_copy 133 = .ok (.iload 4, 2) := by decide +kernel
theorem dX9_copy_135 : decode cX9_copy 135 = .ok (.iconst 2, 1) := by decide +kernel
theorem dX9_copy_136 : decode cX9_copy 136 = .ok (.invokevirtual 65, 3) := by decide +kernel
theorem dX9_copy_139 : decode cX9_copy 139 = .ok (.ireturn, 1) := by decide +kernel
theorem dX9_copy_140 : decode cX9_copy 140 = .ok (.aload_n 0, 1) := by decide +kernel
theorem dX9_copy_141 : decode cX9_copy 141 = .ok (.iload 4, 2) := by decide +kernel
theorem dX9_copy_143 : decode cX9_copy 143 = .ok (.iconst 3, 1) := by decide +kernel
theorem dX9_copy_144 : decode cX9_copy 144 = .ok (.invokevirtual 65, 3) := by decide +kernel
theorem dX9_copy_147 : decode cX9_copy 147 = .ok (.ireturn, 1) := by decide +kernel
theorem dX9_copy_148 : decode cX9_copy 148 = .ok (.aload_n 0, 1) := by decide +kernel
theorem dX9_copy_149 : decode cX9_copy 149 = .ok (.iload 4, 2) := by decide +kernel
theorem dX9_copy_151 : decode cX9_copy 151 = .ok (.iconst 4, 1) := by decide +kernel
theorem dX9_copy_152 : decode cX9_copy 152 = .ok (.invokevirtual 65, 3) := by decide +kernel
theorem dX9_copy_155 : decode cX9_copy 155 = .ok (.ireturn, 1) := by decide +kernel
theorem dX9_copy_156 : decode cX9_copy 156 = .ok (.aload_n 0, 1) := by decide +kernel
theorem dX9_copy_157 : decode cX9_copy 157 = .ok (.iload 4, 2) := by decide +kernel
theorem dX9_copy_159 : decode cX9_copy 159 = .ok (.iconst 5, 1) := by decide +kernel
theorem dX9_copy_160 : decode cX9_copy 160 = .ok (.invokevirtual 65, 3) := by decide +kernel
theorem dX9_copy_163 : decode cX9_copy 163 = .ok (.ireturn, 1) := by decide +kernel
theorem dX9_copy_164 : decode cX9_copy 164 = .ok (.iload 6, 2) := by decide +kernel
theorem dX9_copy_166 : decode cX9_copy 166 = .ok (.ireturn, 1) := by decide +kernel
theorem dX9_copy_167 : decode cX9_copy 167 = .ok (.aload_n 0, 1) := by decide +kernel
theorem dX9_copy_168 : decode cX9_copy 168 = .ok (.iload 4, 2) := by decide +kernel
theorem dX9_copy_170 : decode cX9_copy 170 = .ok (.invokevirtual 155, 3) := by decide +kernel
theorem dX9_copy_173 : decode cX9_copy 173 = .ok (.ireturn, 1) := by decide +kernel
theorem dX9_copy_174 : decode cX9_copy 174 = .ok (.iload 6, 2) := by decide +kernel
theorem dX9_copy_176 : decode cX9_copy 176 = .ok (.ifCond .le 19, 3) := by decide +kernel
theorem dX9_copy_179 : decode cX9_copy 179 = .ok (.aload_n 0, 1) := by decide +kernel
theorem dX9_copy_180 : decode cX9_copy 180 = .ok (.iload 4, 2) := by decide +kernel
theorem dX9_copy_182 : decode cX9_copy 182 = .ok (.aload_n 0, 1) := by decide +kernel
theorem dX9_copy_183 : decode cX9_copy 183 = .ok (.iload 4, 2) := by decide +kernel
theorem dX9_copy_185 : decode cX9_copy 185 = .ok (.iconst 5, 1) := by decide +kernel
theorem dX9_copy_186 : decode cX9_copy 186 = .ok (.invokevirtual 65, 3) := by decide +kernel
theorem dX9_copy_189 : decode cX9_copy 189 = .ok (.invokevirtual 78, 3) := by decide +kernel
theorem dX9_copy_192 : decode cX9_copy 192 = .ok (.goto 5, 3) := by decide +kernel
theorem dX9_copy_195 : decode cX9_copy 195 = .ok (.bipush (-5), 2) := by decide +kernel
theorem dX9_copy_197 : decode cX9_copy 197 = .ok (.ireturn, 1) := by decide +kernel
theorem dX9_copy_198 : decode cX9_copy 198 = .ok (.iload 5, 2) := by decide +kernel
theorem dX9_copy_200 : decode cX9_copy 200 = .ok (.ifCond .eq 23, 3) := by decide +kernel
theorem dX9_copy_203 : decode cX9_copy 203 = .ok (.aload_n 0, 1) := by decide +kernel
theorem dX9_copy_204 : decode cX9_copy 204 = .ok (.iload_n 1, 1) := by decide +kernel
theorem dX9_copy_205 : decode cX9_copy 205 = .ok (.bipush 6, 2) := by decide +kernel
theorem dX9_copy_207 : decode cX9_copy 207 = .ok (.invokevirtual 49, 3) := by decide +kernel
theorem dX9_copy_210 : decode cX9_copy 210 = .ok (.iconst 3, 1) := by decide +kernel
theorem dX9_copy_211 : decode cX9_copy 211 = .ok (.if_icmp .ne 12, 3) := by decide +kernel
theorem dX9_copy_214 : decode cX9_copy 214 = .ok (.aload_n 0, 1) := by decide +kernel
theorem dX9_copy_215 : decode cX9_copy 215 = .ok (.iload 4, 2) := by decide +kernel
theorem dX9_copy_217 : decode cX9_copy 217 = .ok (.invokevirtual 75, 3) := by decide +kernel
theorem dX9_copy_220 : decode cX9_copy 220 = .ok (.goto 5, 3) := by decide +kernel
theorem dX9_copy_223 : decode cX9_copy 223 = .ok (.bipush (-5), 2) := by decide +kernel
theorem dX9_copy_225 : decode cX9_copy 225 = .ok (.ireturn, 1) := by decide +kernel
theorem dX9_copy_226 : decode cX9_copy 226 = .ok (.iload 5, 2) := by decide +kernel
theorem dX9_copy_228 : decode cX9_copy 228 = .ok (.ifCond .eq 12, 3) := by decide +kernel
theorem dX9_copy_231 : decode cX9_copy 231 = .ok (.aload_n 0, 1) := by decide +kernel
theorem dX9_copy_232 : decode cX9_copy 232 = .ok (.iload 4, 2) := by decide +kernel
theorem dX9_copy_234 : decode cX9_copy 234 = .ok (.invokevirtual 71, 3) := by decide +kernel
theorem dX9_copy_237 : decode cX9_copy 237 = .ok (.goto 5, 3) := by decide +kernel
theorem dX9_copy_240 : decode cX9_copy 240 = .ok (.bipush (-5), 2) := by decide +kernel
theorem dX9_copy_242 : decode cX9_copy 242 = .ok (.ireturn, 1) := by decide +kernel
theorem dX9_copy_243 : decode cX9_copy 243 = .ok (.bipush (-2), 2) := by decide +kernel
theorem dX9_copy_245 : decode cX9_copy 245 = .ok (.ireturn, 1) := by decide +kernel
theorem dX9_copyAt_0 : decode cX9_copyAt 0 = .ok (.iload_n 1, 1) := by decide +kernel
theorem dX9_copyAt_1 : decode cX9_copyAt 1 = .ok (.ifCond .ge 6, 3) := by decide +kernel
theorem dX9_copyAt_4 : decode cX9_copyAt 4 = .ok (.bipush (-2), 2) := by decide +kernel
theorem dX9_copyAt_6 : decode cX9_copyAt 6 = .ok (.ireturn, 1) := by decide +kernel
theorem dX9_copyAt_7 : decode cX9_copyAt 7 = .ok (.iload_n 1, 1) := by decide +kernel
theorem dX9_copyAt_8 : decode cX9_copyAt 8 = .ok (.aload_n 0, 1) := by decide +kernel
theorem dX9_copyAt_9 : decode cX9_copyAt 9 = .ok (.getfield 7, 3) := by decide +kernel
theorem dX9_copyAt_12 : decode cX9_copyAt 12 = .ok (.iconst 3, 1) := by decide +kernel
theorem dX9_copyAt_13 : decode cX9_copyAt 13 = .ok (.iaload, 1) := by decide +kernel
theorem dX9_copyAt_14 : decode cX9_copyAt 14 = .ok (.if_icmp .ge 22, 3) := by decide +kernel
theorem dX9_copyAt_17 : decode cX9_copyAt 17 = .ok (.bipush 10, 2) := by decide +kernel
theorem dX9_copyAt_19 : decode cX9_copyAt 19 = .ok (.aload_n 0, 1) := by decide +kernel
theorem dX9_copyAt_20 : decode cX9_copyAt 20 = .ok (.iload_n 1, 1) := by decide +kernel
theorem dX9_copyAt_21 : decode cX9_copyAt 21 = .ok (.iconst 0, 1) := by decide +kernel
theorem dX9_copyAt_22 : decode cX9_copyAt 22 = .ok (.invokevirtual 65, 3) := by decide +kernel
theorem dX9_copyAt_25 : decode cX9_copyAt 25 = .ok (.imul, 1) := by decide +kernel
theorem dX9_copyAt_26 : decode cX9_copyAt 26 = .ok (.aload_n 0, 1) := by decide +kernel
theorem dX9_copyAt_27 : decode cX9_copyAt 27 = .ok (.iload_n 1, 1) := by decide +kernel
theorem dX9_copyAt_28 : decode cX9_copyAt 28 = .ok (.iconst 1, 1) := by decide +kernel
theorem dX9_copyAt_29 : decode cX9_copyAt 29 = .ok (.invokevirtual 65, 3) := by decide +kernel
theorem dX9_copyAt_32 : decode cX9_copyAt 32 = .ok (.iadd, 1) := by decide +kernel
theorem dX9_copyAt_33 : decode cX9_copyAt 33 = .ok (.goto 5, 3) := by decide +kernel
theorem dX9_copyAt_36 : decode cX9_copyAt 36 = .ok (.bipush (-5), 2) := by decide +kernel
theorem dX9_copyAt_38 : decode cX9_copyAt 38 = .ok (.ireturn, 1) := by decide +kernel
theorem dX9_bringBack_0 : decode cX9_bringBack 0 = .ok (.iconst 0, 1) := by decide +kernel
theorem dX9_bringBack_1 : decode cX9_bringBack 1 = .ok (.istore_n 1, 1) := by decide +kernel
theorem dX9_bringBack_2 : decode cX9_bringBack 2 = .ok (.iload_n 1, 1) := by decide +kernel
theorem dX9_bringBack_3 : decode cX9_bringBack 3 = .ok (.sipush 1683, 3) := by decide +kernel
theorem dX9_bringBack_6 : decode cX9_bringBack 6 = .ok (.if_icmp .ge 21, 3) := by decide +kernel
theorem dX9_bringBack_9 : decode cX9_bringBack 9 = .ok (.aload_n 0, 1) := by decide +kernel
theorem dX9_bringBack_10 : decode cX9_bringBack 10 = .ok (.getfield 7, 3) := by decide +kernel
theorem dX9_bringBack_13 : decode cX9_bringBack 13 = .ok (.iload_n 1, 1) := by decide +kernel
theorem dX9_bringBack_14 : decode cX9_bringBack 14 = .ok (.aload_n 0, 1) := by decide +kernel
theorem dX9_bringBack_15 : decode cX9_bringBack 15 = .ok (.getfield 13, 3) := by decide +kernel
theorem dX9_bringBack_18 : decode cX9_bringBack 18 = .ok (.iload_n 1, 1) := by decide +kernel
theorem dX9_bringBack_19 : decode cX9_bringBack 19 = .ok (.iaload, 1) := by decide +kernel
theorem dX9_bringBack_20 : decode cX9_bringBack 20 = .ok (.iastore, 1) := by decide +kernel
theorem dX9_bringBack_21 : decode cX9_bringBack 21 = .ok (.iinc 1 1, 3) := by decide +kernel
theorem dX9_bringBack_24 : decode cX9_bringBack 24 = .ok (.goto (-22), 3) := by decide +kernel
theorem dX9_bringBack_27 : decode cX9_bringBack 27 = .ok (.return_, 1) := by decide +kernel
theorem dX9_setAside_0 : decode cX9_setAside 0 = .ok (.iconst 0, 1) := by decide +kernel
theorem dX9_setAside_1 : decode cX9_setAside 1 = .ok (.istore_n 1, 1) := by decide +kernel
theorem dX9_setAside_2 : decode cX9_setAside 2 = .ok (.iload_n 1, 1) := by decide +kernel
theorem dX9_setAside_3 : decode cX9_setAside 3 = .ok (.sipush 1683, 3) := by decide +kernel
theorem dX9_setAside_6 : decode cX9_setAside 6 = .ok (.if_icmp .ge 21, 3) := by decide +kernel
theorem dX9_setAside_9 : decode cX9_setAside 9 = .ok (.aload_n 0, 1) := by decide +kernel
theorem dX9_setAside_10 : decode cX9_setAside 10 = .ok (.getfield 13, 3) := by decide +kernel
theorem dX9_setAside_13 : decode cX9_setAside 13 = .ok (.iload_n 1, 1) := by decide +kernel
theorem dX9_setAside_14 : decode cX9_setAside 14 = .ok (.aload_n 0, 1) := by decide +kernel
theorem dX9_setAside_15 : decode cX9_setAside 15 = .ok (.getfield 7, 3) := by decide +kernel
theorem dX9_setAside_18 : decode cX9_setAside 18 = .ok (.iload_n 1, 1) := by decide +kernel
theorem dX9_setAside_19 : decode cX9_setAside 19 = .ok (.iaload, 1) := by decide +kernel
theorem dX9_setAside_20 : decode cX9_setAside 20 = .ok (.iastore, 1) := by decide +kernel
theorem dX9_setAside_21 : decode cX9_setAside 21 = .ok (.iinc 1 1, 3) := by decide +kernel
theorem dX9_setAside_24 : decode cX9_setAside 24 = .ok (.goto (-22), 3) := by decide +kernel
theorem dX9_setAside_27 : decode cX9_setAside 27 = .ok (.return_, 1) := by decide +kernel
theorem dX9_carriedIn_0 : decode cX9_carriedIn 0 = .ok (.aload_n 0, 1) := by decide +kernel
theorem dX9_carriedIn_1 : decode cX9_carriedIn 1 = .ok (.iload_n 1, 1) := by decide +kernel
theorem dX9_carriedIn_2 : decode cX9_carriedIn 2 = .ok (.invokevirtual 127, 3) := by decide +kernel
theorem dX9_carriedIn_5 : decode cX9_carriedIn 5 = .ok (.ifCond .eq 20, 3) := by decide +kernel
theorem dX9_carriedIn_8 : decode cX9_carriedIn 8 = .ok (.aload_n 0, 1) := by decide +kernel
theorem dX9_carriedIn_9 : decode cX9_carriedIn 9 = .ok (.iload_n 2, 1) := by decide +kernel
theorem dX9_carriedIn_10 : decode cX9_carriedIn 10 = .ok (.invokevirtual 92, 3) := by decide +kernel
theorem dX9_carriedIn_13 : decode cX9_carriedIn 13 = .ok (.ifCond .eq 12, 3) := by decide +kernel
theorem dX9_carriedIn_16 : decode cX9_carriedIn 16 = .ok (.aload_n 0, 1) := by decide +kernel
theorem dX9_carriedIn_17 : decode cX9_carriedIn 17 = .ok (.iload_n 1, 1) := by decide +kernel
theorem dX9_carriedIn_18 : decode cX9_carriedIn 18 = .ok (.iload_n 2, 1) := by decide +kernel
theorem dX9_carriedIn_19 : decode cX9_carriedIn 19 = .ok (.invokevirtual 152, 3) := by decide +kernel
theorem dX9_carriedIn_22 : decode cX9_carriedIn 22 = .ok (.goto 4, 3) := by decide +kernel
theorem dX9_carriedIn_25 : decode cX9_carriedIn 25 = .ok (.iconst (-1), 1) := by decide +kernel
theorem dX9_carriedIn_26 : decode cX9_carriedIn 26 = .ok (.istore_n 3, 1) := by decide +kernel
theorem dX9_carriedIn_27 : decode cX9_carriedIn 27 = .ok (.iload_n 3, 1) := by decide +kernel
theorem dX9_carriedIn_28 : decode cX9_carriedIn 28 = .ok (.ifCond .ge 5, 3) := by decide +kernel
theorem dX9_carriedIn_31 : decode cX9_carriedIn 31 = .ok (.iconst (-1), 1) := by decide +kernel
theorem dX9_carriedIn_32 : decode cX9_carriedIn 32 = .ok (.ireturn, 1) := by decide +kernel
theorem dX9_carriedIn_33 : decode cX9_carriedIn 33 = .ok (.aload_n 0, 1) := by decide +kernel
theorem dX9_carriedIn_34 : decode cX9_carriedIn 34 = .ok (.invokevirtual 158, 3) := by decide +kernel
theorem dX9_carriedIn_37 : decode cX9_carriedIn 37 = .ok (.iconst 0, 1) := by decide +kernel
theorem dX9_carriedIn_38 : decode cX9_carriedIn 38 = .ok (.istore 4, 2) := by decide +kernel
theorem dX9_carriedIn_40 : decode cX9_carriedIn 40 = .ok (.iload 4, 2) := by decide +kernel
theorem dX9_carriedIn_42 : decode cX9_carriedIn 42 = .ok (.bipush 101, 2) := by decide +kernel
theorem dX9_carriedIn_44 : decode cX9_carriedIn 44 = .ok (.if_icmp .ge 40, 3) := by decide +kernel
theorem dX9_carriedIn_47 : decode cX9_carriedIn 47 = .ok (.aload_n 0, 1) := by decide +kernel
theorem dX9_carriedIn_48 : decode cX9_carriedIn 48 = .ok (.iload_n 3, 1) := by decide +kernel
theorem dX9_carriedIn_49 : decode cX9_carriedIn 49 = .ok (.iconst 2, 1) := by decide +kernel
theorem dX9_carriedIn_50 : decode cX9_carriedIn 50 = .ok (.invokevirtual 65, 3) := by decide +kernel
theorem dX9_carriedIn_53 : decode cX9_carriedIn 53 = .ok (.iconst 1, 1) := by decide +kernel
theorem dX9_carriedIn_54 : decode cX9_carriedIn 54 = .ok (.if_icmp .ne 19, 3) := by decide +kernel
theorem dX9_carriedIn_57 : decode cX9_carriedIn 57 = .ok (.aload_n 0, 1) := by decide +kernel
theorem dX9_carriedIn_58 : decode cX9_carriedIn 58 = .ok (.iload_n 3, 1) := by decide +kernel
theorem dX9_carriedIn_59 : decode cX9_carriedIn 59 = .ok (.iconst 5, 1) := by decide +kernel
theorem dX9_carriedIn_60 : decode cX9_carriedIn 60 = .ok (.invokevirtual 65, 3) := by decide +kernel
theorem dX9_carriedIn_63 : decode cX9_carriedIn 63 = .ok (.aload_n 0, 1) := by decide +kernel
theorem dX9_carriedIn_64 : decode cX9_carriedIn 64 = .ok (.iload_n 1, 1) := by decide +kernel
theorem dX9_carriedIn_65 : decode cX9_carriedIn 65 = .ok (.bipush 7, 2) := by decide +kernel
theorem dX9_carriedIn_67 : decode cX9_carriedIn 67 = .ok (.invokevirtual 49, 3) := by decide +kernel
theorem dX9_carriedIn_70 : decode cX9_carriedIn 70 = .ok (.if_icmp .ge 14, 3) := by decide +kernel
theorem dX9_carriedIn_73 : decode cX9_carriedIn 73 = .ok (.aload_n 0, 1) := by decide +kernel
theorem dX9_carriedIn_74 : decode cX9_carriedIn 74 = .ok (.invokevirtual 134, 3) := by decide +kernel
theorem dX9_carriedIn_77 : decode cX9_carriedIn 77 = .ok (.pop, 1) := by decide +kernel
theorem dX9_carriedIn_78 : decode cX9_carriedIn 78 = .ok (.iinc 4 1, 3) := by decide +kernel
theorem dX9_carriedIn_81 : decode cX9_carriedIn 81 = .ok (.goto (-41), 3) := by decide +kernel
theorem dX9_carriedIn_84 : decode cX9_carriedIn 84 = .ok (.aload_n 0, 1) := by decide +kernel
theorem dX9_carriedIn_85 : decode cX9_carriedIn 85 = .ok (.invokevirtual 161, 3) := by decide +kernel
theorem dX9_carriedIn_88 : decode cX9_carriedIn 88 = .ok (.iload 4, 2) := by decide +kernel
theorem dX9_carriedIn_90 : decode cX9_carriedIn 90 = .ok (.bipush 100, 2) := by decide +kernel
theorem dX9_carriedIn_92 : decode cX9_carriedIn 92 = .ok (.if_icmp .le 8, 3) := by decide +kernel
theorem dX9_carriedIn_95 : decode cX9_carriedIn 95 = .ok (.bipush (-5), 2) := by decide +kernel
theorem dX9_carriedIn_97 : decode cX9_carriedIn 97 = .ok (.goto 5, 3) := by decide +kernel
theorem dX9_carriedIn_100 : decode cX9_carriedIn 100 = .ok (.iload 4, 2) := by decide +kernel
theorem dX9_carriedIn_102 : decode cX9_carriedIn 102 = .ok (.ireturn, 1) := by decide +kernel
theorem dX9_wouldCome_0 : decode cX9_wouldCome 0 = .ok (.aload_n 0, 1) := by decide +kernel
theorem dX9_wouldCome_1 : decode cX9_wouldCome 1 = .ok (.iload_n 1, 1) := by decide +kernel
theorem dX9_wouldCome_2 : decode cX9_wouldCome 2 = .ok (.invokevirtual 92, 3) := by decide +kernel
theorem dX9_wouldCome_5 : decode cX9_wouldCome 5 = .ok (.ifCond .ne 5, 3) := by decide +kernel
theorem dX9_wouldCome_8 : decode cX9_wouldCome 8 = .ok (.iconst (-1), 1) := by decide +kernel
theorem dX9_wouldCome_9 : decode cX9_wouldCome 9 = .ok (.ireturn, 1) := by decide +kernel
theorem dX9_wouldCome_10 : decode cX9_wouldCome 10 = .ok (.iload_n 2, 1) := by decide +kernel
theorem dX9_wouldCome_11 : decode cX9_wouldCome 11 = .ok (.iconst 1, 1) := by decide +kernel
theorem dX9_wouldCome_12 : decode cX9_wouldCome 12 = .ok (.bipush 100, 2) := by decide +kernel
theorem dX9_wouldCome_14 : decode cX9_wouldCome 14 = .ok (.invokestatic 32, 3) := by decide +kernel
theorem dX9_wouldCome_17 : decode cX9_wouldCome 17 = .ok (.ifCond .ne 6, 3) := by decide +kernel
theorem dX9_wouldCome_20 : decode cX9_wouldCome 20 = .ok (.bipush (-2), 2) := by decide +kernel
theorem dX9_wouldCome_22 : decode cX9_wouldCome 22 = .ok (.ireturn, 1) := by decide +kernel
theorem dX9_wouldCome_23 : decode cX9_wouldCome 23 = .ok (.aload_n 0, 1) := by decide +kernel
theorem dX9_wouldCome_24 : decode cX9_wouldCome 24 = .ok (.invokevirtual 158, 3) := by decide +kernel
theorem dX9_wouldCome_27 : decode cX9_wouldCome 27 = .ok (.iconst 0, 1) := by decide +kernel
theorem dX9_wouldCome_28 : decode cX9_wouldCome 28 = .ok (.istore_n 3, 1) := by decide +kernel
theorem dX9_wouldCome_29 : decode cX9_wouldCome 29 = .ok (.iload_n 3, 1) := by decide +kernel
theorem dX9_wouldCome_30 : decode cX9_wouldCome 30 = .ok (.iload_n 2, 1) := by decide +kernel
theorem dX9_wouldCome_31 : decode cX9_wouldCome 31 = .ok (.if_icmp .ge 14, 3) := by decide +kernel
theorem dX9_wouldCome_34 : decode cX9_wouldCome 34 = .ok (.aload_n 0, 1) := by decide +kernel
theorem dX9_wouldCome_35 : decode cX9_wouldCome 35 = .ok (.invokevirtual 134, 3) := by decide +kernel
theorem dX9_wouldCome_38 : decode cX9_wouldCome 38 = .ok (.pop, 1) := by decide +kernel
theorem dX9_wouldCome_39 : decode cX9_wouldCome 39 = .ok (.iinc 3 1, 3) := by decide +kernel
theorem dX9_wouldCome_42 : decode cX9_wouldCome 42 = .ok (.goto (-13), 3) := by decide +kernel
theorem dX9_wouldCome_45 : decode cX9_wouldCome 45 = .ok (.aload_n 0, 1) := by decide +kernel
theorem dX9_wouldCome_46 : decode cX9_wouldCome 46 = .ok (.iload_n 1, 1) := by decide +kernel
theorem dX9_wouldCome_47 : decode cX9_wouldCome 47 = .ok (.bipush 8, 2) := by decide +kernel
theorem dX9_wouldCome_49 : decode cX9_wouldCome 49 = .ok (.invokevirtual 46, 3) := by decide +kernel
theorem dX9_wouldCome_52 : decode cX9_wouldCome 52 = .ok (.aload_n 0, 1) := by decide +kernel
theorem dX9_wouldCome_53 : decode cX9_wouldCome 53 = .ok (.getfield 13, 3) := by decide +kernel
theorem dX9_wouldCome_56 : decode cX9_wouldCome 56 = .ok (.iload_n 1, 1) := by decide +kernel
theorem dX9_wouldCome_57 : decode cX9_wouldCome 57 = .ok (.bipush 8, 2) := by decide +kernel
theorem dX9_wouldCome_59 : decode cX9_wouldCome 59 = .ok (.invokestatic 36, 3) := by decide +kernel
theorem dX9_wouldCome_62 : decode cX9_wouldCome 62 = .ok (.iaload, 1) := by decide +kernel
theorem dX9_wouldCome_63 : decode cX9_wouldCome 63 = .ok (.isub, 1) := by decide +kernel
theorem dX9_wouldCome_64 : decode cX9_wouldCome 64 = .ok (.istore_n 3, 1) := by decide +kernel
theorem dX9_wouldCome_65 : decode cX9_wouldCome 65 = .ok (.aload_n 0, 1) := by decide +kernel
theorem dX9_wouldCome_66 : decode cX9_wouldCome 66 = .ok (.invokevirtual 161, 3) := by decide +kernel
theorem dX9_wouldCome_69 : decode cX9_wouldCome 69 = .ok (.iload_n 3, 1) := by decide +kernel
theorem dX9_wouldCome_70 : decode cX9_wouldCome 70 = .ok (.ireturn, 1) := by decide +kernel
theorem dX9_event_0 : decode cX9_event 0 = .ok (.iload_n 1, 1) := by decide +kernel
theorem dX9_event_1 : decode cX9_event 1 = .ok (.ifCond .lt 12, 3) := by decide +kernel
theorem dX9_event_4 : decode cX9_event 4 = .ok (.iload_n 2, 1) := by decide +kernel
theorem dX9_event_5 : decode cX9_event 5 = .ok (.iconst 0, 1) := by decide +kernel
theorem dX9_event_6 : decode cX9_event 6 = .ok (.iconst 3, 1) := by decide +kernel
theorem dX9_event_7 : decode cX9_event 7 = .ok (.invokestatic 32, 3) := by decide +kernel
theorem dX9_event_10 : decode cX9_event 10 = .ok (.ifCond .ne 6, 3) := by decide +kernel
theorem dX9_event_13 : decode cX9_event 13 = .ok (.bipush (-2), 2) := by decide +kernel
theorem dX9_event_15 : decode cX9_event 15 = .ok (.ireturn, 1) := by decide +kernel
theorem dX9_event_16 : decode cX9_event 16 = .ok (.iload_n 1, 1) := by decide +kernel
theorem dX9_event_17 : decode cX9_event 17 = .ok (.aload_n 0, 1) := by decide +kernel
theorem dX9_event_18 : decode cX9_event 18 = .ok (.getfield 7, 3) := by decide +kernel
theorem dX9_event_21 : decode cX9_event 21 = .ok (.bipush 6, 2) := by decide +kernel
theorem dX9_event_23 : decode cX9_event 23 = .ok (.iaload, 1) := by decide +kernel
theorem dX9_event_24 : decode cX9_event 24 = .ok (.if_icmp .lt 6, 3) := by decide +kernel
theorem dX9_event_27 : decode cX9_event 27 = .ok (.bipush (-5), 2) := by decide +kernel
theorem dX9_event_29 : decode cX9_event 29 = .ok (.ireturn, 1) := by decide +kernel
theorem dX9_event_30 : decode cX9_event 30 = .ok (.sipush 1647, 3) := by decide +kernel
theorem dX9_event_33 : decode cX9_event 33 = .ok (.iconst 3, 1) := by decide +kernel
theorem dX9_event_34 : decode cX9_event 34 = .ok (.iload_n 1, 1) := by decide +kernel
theorem dX9_event_35 : decode cX9_event 35 = .ok (.imul, 1) := by decide +kernel
theorem dX9_event_36 : decode cX9_event 36 = .ok (.iadd, 1) := by decide +kernel
theorem dX9_event_37 : decode cX9_event 37 = .ok (.istore_n 3, 1) := by decide +kernel
theorem dX9_event_38 : decode cX9_event 38 = .ok (.aload_n 0, 1) := by decide +kernel
theorem dX9_event_39 : decode cX9_event 39 = .ok (.getfield 7, 3) := by decide +kernel
theorem dX9_event_42 : decode cX9_event 42 = .ok (.iload_n 3, 1) := by decide +kernel
theorem dX9_event_43 : decode cX9_event 43 = .ok (.iconst 1, 1) := by decide +kernel
theorem dX9_event_44 : decode cX9_event 44 = .ok (.iadd, 1) := by decide +kernel
theorem dX9_event_45 : decode cX9_event 45 = .ok (.iaload, 1) := by decide +kernel
theorem dX9_event_46 : decode cX9_event 46 = .ok (.bipush 10, 2) := by decide +kernel
theorem dX9_event_48 : decode cX9_event 48 = .ok (.irem, 1) := by decide +kernel
theorem dX9_event_49 : decode cX9_event 49 = .ok (.istore 4, 2) := by decide +kernel
theorem dX9_event_51 : decode cX9_event 51 = .ok (.iload_n 2, 1) := by decide +kernel
theorem dX9_event_52 : decode cX9_event 52 = .ok (.ifCond .ne 12, 3) := by decide +kernel
theorem dX9_event_55 : decode cX9_event 55 = .ok (.aload_n 0, 1) := by decide +kernel
theorem dX9_event_56 : decode cX9_event 56 = .ok (.getfield 7, 3) := by decide +kernel
theorem dX9_event_59 : decode cX9_event 59 = .ok (.iload_n 3, 1) := by decide +kernel
theorem dX9_event_60 : decode cX9_event 60 = .ok (.iaload, 1) := by decide +kernel
theorem dX9_event_61 : decode cX9_event 61 = .ok (.goto 52, 3) := by decide +kernel
theorem dX9_event_64 : decode cX9_event 64 = .ok (.iload_n 2, 1) := by decide +kernel
theorem dX9_event_65 : decode cX9_event 65 = .ok (.iconst 1, 1) := by decide +kernel
theorem dX9_event_66 : decode cX9_event 66 = .ok (.if_icmp .ne 17, 3) := by decide +kernel
theorem dX9_event_69 : decode cX9_event 69 = .ok (.aload_n 0, 1) := by decide +kernel
theorem dX9_event_70 : decode cX9_event 70 = .ok (.getfield 7, 3) := by decide +kernel
theorem dX9_event_73 : decode cX9_event 73 = .ok (.iload_n 3, 1) := by decide +kernel
theorem dX9_event_74 : decode cX9_event 74 = .ok (.iconst 1, 1) := by decide +kernel
theorem dX9_event_75 : decode cX9_event 75 = .ok (.iadd, 1) := by decide +kernel
theorem dX9_event_76 : decode cX9_event 76 = .ok (.iaload, 1) := by decide +kernel
theorem dX9_event_77 : decode cX9_event 77 = .ok (.bipush 10, 2) := by decide +kernel
theorem dX9_event_79 : decode cX9_event 79 = .ok (.idiv, 1) := by decide +kernel
theorem dX9_event_80 : decode cX9_event 80 = .ok (.goto 33, 3) := by decide +kernel
theorem dX9_event_83 : decode cX9_event 83 = .ok (.iload_n 2, 1) := by decide +kernel
theorem dX9_event_84 : decode cX9_event 84 = .ok (.iconst 2, 1) := by decide +kernel
theorem dX9_event_85 : decode cX9_event 85 = .ok (.if_icmp .ne 20, 3) := by decide +kernel
theorem dX9_event_88 : decode cX9_event 88 = .ok (.iload 4, 2) := by decide +kernel
theorem dX9_event_90 : decode cX9_event 90 = .ok (.bipush 9, 2) := by decide +kernel
theorem dX9_event_92 : decode cX9_event 92 = .ok (.if_icmp .ne 8, 3) := by decide +kernel
theorem dX9_event_95 : decode cX9_event 95 = .ok (.bipush (-5), 2) := by decide +kernel
theorem dX9_event_97 : decode cX9_event 97 = .ok (.goto 16, 3) := by decide +kernel
theorem dX9_event_100 : decode cX9_event 100 = .ok (.iload 4, 2) := by decide +kernel
theorem dX9_event_102 : decode cX9_event 102 = .ok (.goto 11, 3) := by decide +kernel
theorem dX9_event_105 : decode cX9_event 105 = .ok (.aload_n 0, 1) := by decide +kernel
theorem dX9_event_106 : decode cX9_event 106 = .ok (.getfield 7, 3) := by decide +kernel
theorem dX9_event_109 : decode cX9_event 109 = .ok (.iload_n 3, 1) := by decide +kernel
theorem dX9_event_110 : decode cX9_event 110 = .ok (.iconst 2, 1) := by decide +kernel
theorem dX9_event_111 : decode cX9_event 111 = .ok (.iadd, 1) := by decide +kernel
theorem dX9_event_112 : decode cX9_event 112 = .ok (.iaload, 1) := by decide +kernel
theorem dX9_event_113 : decode cX9_event 113 = .ok (.ireturn, 1) := by decide +kernel
theorem dX9_personsOfAll_0 : decode cX9_personsOfAll 0 = .ok (.iconst 0, 1) := by decide +kernel
theorem dX9_personsOfAll_1 : decode cX9_personsOfAll 1 = .ok (.istore_n 1, 1) := by decide +kernel
theorem dX9_personsOfAll_2 : decode cX9_personsOfAll 2 = .ok (.iconst 0, 1) := by decide +kernel
theorem dX9_personsOfAll_3 : decode cX9_personsOfAll 3 = .ok (.istore_n 2, 1) := by decide +kernel
theorem dX9_personsOfAll_4 : decode cX9_personsOfAll 4 = .ok (.iload_n 2, 1) := by decide +kernel
theorem dX9_personsOfAll_5 : decode cX9_personsOfAll 5 = .ok (.bipush 10, 2) := by decide +kernel
theorem dX9_personsOfAll_7 : decode cX9_personsOfAll 7 = .ok (.if_icmp .ge 63, 3) := by decide +kernel
theorem dX9_personsOfAll_10 : decode cX9_personsOfAll 10 = .ok (.iconst 0, 1) := by decide +kernel
theorem dX9_personsOfAll_11 : decode cX9_personsOfAll 11 = .ok (.istore_n 3, 1) := by decide +kernel
theorem dX9_personsOfAll_12 : decode cX9_personsOfAll 12 = .ok (.iconst 0, 1) := by decide +kernel
theorem dX9_personsOfAll_13 : decode cX9_personsOfAll 13 = .ok (.istore 4, 2) := by decide +kernel
theorem dX9_personsOfAll_15 : decode cX9_personsOfAll 15 = .ok (.iload 4, 2) := by decide +kernel
theorem dX9_personsOfAll_17 : decode cX9_personsOfAll 17 = .ok (.aload_n 0, 1) := by decide +kernel
theorem dX9_personsOfAll_18 : decode cX9_personsOfAll 18 = .ok (.getfield 7, 3) := by decide +kernel
theorem dX9_personsOfAll_21 : decode cX9_personsOfAll 21 = .ok (.iconst 2, 1) := by decide +kernel
theorem dX9_personsOfAll_22 : decode cX9_personsOfAll 22 = .ok (.iaload, 1) := by decide +kernel
theorem dX9_personsOfAll_23 : decode cX9_personsOfAll 23 = .ok (.if_icmp .ge 29, 3) := by decide +kernel
theorem dX9_personsOfAll_26 : decode cX9_personsOfAll 26 = .ok (.iload_n 3, 1) := by decide +kernel
theorem dX9_personsOfAll_27 : decode cX9_personsOfAll 27 = .ok (.ifCond .ne 13, 3) := by decide +kernel
theorem dX9_personsOfAll_30 : decode cX9_personsOfAll 30 = .ok (.aload_n 0, 1) := by decide +kernel
theorem dX9_personsOfAll_31 : decode cX9_personsOfAll 31 = .ok (.iload_n 2, 1) := by decide +kernel
theorem dX9_personsOfAll_32 : decode cX9_personsOfAll 32 = .ok (.iload 4, 2) := by decide +kernel
theorem dX9_personsOfAll_34 : decode cX9_personsOfAll 34 = .ok (.invokevirtual 149, 3) := by decide +kernel
theorem dX9_personsOfAll_37 : decode cX9_personsOfAll 37 = .ok (.ifCond .eq 7, 3) := by decide +kernel
theorem dX9_personsOfAll_40 : decode cX9_personsOfAll 40 = .ok (.iconst 1, 1) := by decide +kernel
theorem dX9_personsOfAll_41 : decode cX9_personsOfAll 41 = .ok (.goto 4, 3) := by decide +kernel
theorem dX9_personsOfAll_44 : decode cX9_personsOfAll 44 = .ok (.iconst 0, 1) := by decide +kernel
theorem dX9_personsOfAll_45 : decode cX9_personsOfAll 45 = .ok (.istore_n 3, 1) := by decide +kernel
theorem dX9_personsOfAll_46 : decode cX9_personsOfAll 46 = .ok (.iinc 4 1, 3) := by decide +kernel
theorem dX9_personsOfAll_49 : decode cX9_personsOfAll 49 = .ok (.goto (-34), 3) := by decide +kernel
theorem dX9_personsOfAll_52 : decode cX9_personsOfAll 52 = .ok (.iload_n 1, 1) := by decide +kernel
theorem dX9_personsOfAll_53 : decode cX9_personsOfAll 53 = .ok (.iload_n 3, 1) := by decide +kernel
theorem dX9_personsOfAll_54 : decode cX9_personsOfAll 54 = .ok (.ifCond .eq 7, 3) := by decide +kernel
theorem dX9_personsOfAll_57 : decode cX9_personsOfAll 57 = .ok (.iconst 1, 1) := by decide +kernel
theorem dX9_personsOfAll_58 : decode cX9_personsOfAll 58 = .ok (.goto 4, 3) := by decide +kernel
theorem dX9_personsOfAll_61 : decode cX9_personsOfAll 61 = .ok (.iconst 0, 1) := by decide +kernel
theorem dX9_personsOfAll_62 : decode cX9_personsOfAll 62 = .ok (.iadd, 1) := by decide +kernel
theorem dX9_personsOfAll_63 : decode cX9_personsOfAll 63 = .ok (.istore_n 1, 1) := by decide +kernel
theorem dX9_personsOfAll_64 : decode cX9_personsOfAll 64 = .ok (.iinc 2 1, 3) := by decide +kernel
theorem dX9_personsOfAll_67 : decode cX9_personsOfAll 67 = .ok (.goto (-63), 3) := by decide +kernel
theorem dX9_personsOfAll_70 : decode cX9_personsOfAll 70 = .ok (.iload_n 1, 1) := by decide +kernel
theorem dX9_personsOfAll_71 : decode cX9_personsOfAll 71 = .ok (.ireturn, 1) := by decide +kernel
theorem dX9_count_0 : decode cX9_count 0 = .ok (.iconst 0, 1) := by decide +kernel
theorem dX9_count_1 : decode cX9_count 1 = .ok (.istore_n 2, 1) := by decide +kernel
theorem dX9_count_2 : decode cX9_count 2 = .ok (.iconst 0, 1) := by decide +kernel
theorem dX9_count_3 : decode cX9_count 3 = .ok (.istore_n 3, 1) := by decide +kernel
theorem dX9_count_4 : decode cX9_count 4 = .ok (.iconst 0, 1) := by decide +kernel
theorem dX9_count_5 : decode cX9_count 5 = .ok (.istore 4, 2) := by decide +kernel
theorem dX9_count_7 : decode cX9_count 7 = .ok (.iload 4, 2) := by decide +kernel
theorem dX9_count_9 : decode cX9_count 9 = .ok (.aload_n 0, 1) := by decide +kernel
theorem dX9_count_10 : decode cX9_count 10 = .ok (.getfield 7, 3) := by decide +kernel
theorem dX9_count_13 : decode cX9_count 13 = .ok (.iconst 3, 1) := by decide +kernel
theorem dX9_count_14 : decode cX9_count 14 = .ok (.iaload, 1) := by decide +kernel
theorem dX9_count_15 : decode cX9_count 15 = .ok (.if_icmp .ge 47, 3) := by decide +kernel
theorem dX9_count_18 : decode cX9_count 18 = .ok (.iload_n 2, 1) := by decide +kernel
theorem dX9_count_19 : decode cX9_count 19 = .ok (.aload_n 0, 1) := by decide +kernel
theorem dX9_count_20 : decode cX9_count 20 = .ok (.iload 4, 2) := by decide +kernel
theorem dX9_count_22 : decode cX9_count 22 = .ok (.iconst 2, 1) := by decide +kernel
theorem dX9_count_23 : decode cX9_count 23 = .ok (.invokevirtual 65, 3) := by decide +kernel
theorem dX9_count_26 : decode cX9_count 26 = .ok (.iload_n 1, 1) := by decide +kernel
theorem dX9_count_27 : decode cX9_count 27 = .ok (.iconst 4, 1) := by decide +kernel
theorem dX9_count_28 : decode cX9_count 28 = .ok (.isub, 1) := by decide +kernel
theorem dX9_count_29 : decode cX9_count 29 = .ok (.if_icmp .ne 7, 3) := by decide +kernel
theorem dX9_count_32 : decode cX9_count 32 = .ok (.iconst 1, 1) := by decide +kernel
theorem dX9_count_33 : decode cX9_count 33 = .ok (.goto 4, 3) := by decide +kernel
theorem dX9_count_36 : decode cX9_count 36 = .ok (.iconst 0, 1) := by decide +kernel
theorem dX9_count_37 : decode cX9_count 37 = .ok (.iadd, 1) := by decide +kernel
theorem dX9_count_38 : decode cX9_count 38 = .ok (.istore_n 2, 1) := by decide +kernel
theorem dX9_count_39 : decode cX9_count 39 = .ok (.iload_n 3, 1) := by decide +kernel
theorem dX9_count_40 : decode cX9_count 40 = .ok (.aload_n 0, 1) := by decide +kernel
theorem dX9_count_41 : decode cX9_count 41 = .ok (.iload 4, 2) := by decide +kernel
theorem dX9_count_43 : decode cX9_count 43 = .ok (.invokevirtual 155, 3) := by decide +kernel
theorem dX9_count_46 : decode cX9_count 46 = .ok (.ifCond .le 7, 3) := by decide +kernel
theorem dX9_count_49 : decode cX9_count 49 = .ok (.iconst 1, 1) := by decide +kernel
theorem dX9_count_50 : decode cX9_count 50 = .ok (.goto 4, 3) := by decide +kernel
theorem dX9_count_53 : decode cX9_count 53 = .ok (.iconst 0, 1) := by decide +kernel
theorem dX9_count_54 : decode cX9_count 54 = .ok (.iadd, 1) := by decide +kernel
theorem dX9_count_55 : decode cX9_count 55 = .ok (.istore_n 3, 1) := by decide +kernel
theorem dX9_count_56 : decode cX9_count 56 = .ok (.iinc 4 1, 3) := by decide +kernel
theorem dX9_count_59 : decode cX9_count 59 = .ok (.goto (-52), 3) := by decide +kernel
theorem dX9_count_62 : decode cX9_count 62 = .ok (.iload_n 1, 1) := by decide +kernel
theorem dX9_count_63 : decode cX9_count 63 = .ok (.tableswitch 113 0 14 #[73, 73, 73, 73, 80, 80, 80, 80, 80, 82, 84, 91, 96, 103, 108], 73) := by decide +kernel
theorem dX9_count_136 : decode cX9_count 136 = .ok (.aload_n 0, 1) := by decide +kernel
theorem dX9_count_137 : decode cX9_count 137 = .ok (.getfield 7, 3) := by decide +kernel
theorem dX9_count_140 : decode cX9_count 140 = .ok (.iload_n 1, 1) := by decide +kernel
theorem dX9_count_141 : decode cX9_count 141 = .ok (.iaload, 1) := by decide +kernel
theorem dX9_count_142 : decode cX9_count 142 = .ok (.ireturn, 1) := by decide +kernel
theorem dX9_count_143 : decode cX9_count 143 = .ok (.iload_n 2, 1) := by decide +kernel
theorem dX9_count_144 : decode cX9_count 144 = .ok (.ireturn, 1) := by decide +kernel
theorem dX9_count_145 : decode cX9_count 145 = .ok (.iload_n 3, 1) := by decide +kernel
theorem dX9_count_146 : decode cX9_count 146 = .ok (.ireturn, 1) := by decide +kernel
theorem dX9_count_147 : decode cX9_count 147 = .ok (.aload_n 0, 1) := by decide +kernel
theorem dX9_count_148 : decode cX9_count 148 = .ok (.getfield 7, 3) := by decide +kernel
theorem dX9_count_151 : decode cX9_count 151 = .ok (.iconst 5, 1) := by decide +kernel
theorem dX9_count_152 : decode cX9_count 152 = .ok (.iaload, 1) := by decide +kernel
theorem dX9_count_153 : decode cX9_count 153 = .ok (.ireturn, 1) := by decide +kernel
theorem dX9_count_154 : decode cX9_count 154 = .ok (.aload_n 0, 1) := by decide +kernel
theorem dX9_count_155 : decode cX9_count 155 = .ok (.invokevirtual 164, 3) := by decide +kernel
theorem dX9_count_158 : decode cX9_count 158 = .ok (.ireturn, 1) := by decide +kernel
theorem dX9_count_159 : decode cX9_count 159 = .ok (.aload_n 0, 1) := by decide +kernel
theorem dX9_count_160 : decode cX9_count 160 = .ok (.getfield 7, 3) := by decide +kernel
theorem dX9_count_163 : decode cX9_count 163 = .ok (.iconst 4, 1) := by decide +kernel
theorem dX9_count_164 : decode cX9_count 164 = .ok (.iaload, 1) := by decide +kernel
theorem dX9_count_165 : decode cX9_count 165 = .ok (.ireturn, 1) := by decide +kernel
theorem dX9_count_166 : decode cX9_count 166 = .ok (.aload_n 0, 1) := by decide +kernel
theorem dX9_count_167 : decode cX9_count 167 = .ok (.getfield 28, 3) := by decide +kernel
theorem dX9_count_170 : decode cX9_count 170 = .ok (.ireturn, 1) := by decide +kernel
theorem dX9_count_171 : decode cX9_count 171 = .ok (.aload_n 0, 1) := by decide +kernel
theorem dX9_count_172 : decode cX9_count 172 = .ok (.getfield 99, 3) := by decide +kernel
theorem dX9_count_175 : decode cX9_count 175 = .ok (.ireturn, 1) := by decide +kernel
theorem dX9_count_176 : decode cX9_count 176 = .ok (.bipush (-2), 2) := by decide +kernel
theorem dX9_count_178 : decode cX9_count 178 = .ok (.ireturn, 1) := by decide +kernel
