theorem dX8_init_0 : decode cX8_init 0 = .ok (.aload_n 0, 1) := by decide +kernel
theorem dX8_init_1 : decode cX8_init 1 = .ok (.invokespecial 3, 3) := by decide +kernel
theorem dX8_init_4 : decode cX8_init 4 = .ok (.aload_n 0, 1) := by decide +kernel
theorem dX8_init_5 : decode cX8_init 5 = .ok (.new 9, 3) := by decide +kernel
theorem dX8_init_8 : decode cX8_init 8 = .ok (.dup, 1) := by decide +kernel
theorem dX8_init_9 : decode cX8_init 9 = .ok (.invokespecial 11, 3) := by decide +kernel
theorem dX8_init_12 : decode cX8_init 12 = .ok (.putfield 12, 3) := by decide +kernel
theorem dX8_init_15 : decode cX8_init 15 = .ok (.aload_n 0, 1) := by decide +kernel
theorem dX8_init_16 : decode cX8_init 16 = .ok (.new 9, 3) := by decide +kernel
theorem dX8_init_19 : decode cX8_init 19 = .ok (.dup, 1) := by decide +kernel
theorem dX8_init_20 : decode cX8_init 20 = .ok (.invokespecial 11, 3) := by decide +kernel
theorem dX8_init_23 : decode cX8_init 23 = .ok (.putfield 16, 3) := by decide +kernel
theorem dX8_init_26 : decode cX8_init 26 = .ok (.aload_n 0, 1) := by decide +kernel
theorem dX8_init_27 : decode cX8_init 27 = .ok (.new 9, 3) := by decide +kernel
theorem dX8_init_30 : decode cX8_init 30 = .ok (.dup, 1) := by decide +kernel
theorem dX8_init_31 : decode cX8_init 31 = .ok (.invokespecial 11, 3) := by decide +kernel
theorem dX8_init_34 : decode cX8_init 34 = .ok (.putfield 19, 3) := by decide +kernel
theorem dX8_init_37 : decode cX8_init 37 = .ok (.aload_n 0, 1) := by decide +kernel
theorem dX8_init_38 : decode cX8_init 38 = .ok (.new 22, 3) := by decide +kernel
theorem dX8_init_41 : decode cX8_init 41 = .ok (.dup, 1) := by decide +kernel
theorem dX8_init_42 : decode cX8_init 42 = .ok (.invokespecial 24, 3) := by decide +kernel
theorem dX8_init_45 : decode cX8_init 45 = .ok (.putfield 25, 3) := by decide +kernel
theorem dX8_init_48 : decode cX8_init 48 = .ok (.aload_n 0, 1) := by decide +kernel
theorem dX8_init_49 : decode cX8_init 49 = .ok (.new 29, 3) := by decide +kernel
theorem dX8_init_52 : decode cX8_init 52 = .ok (.dup, 1) := by decide +kernel
theorem dX8_init_53 : decode cX8_init 53 = .ok (.invokespecial 31, 3) := by decide +kernel
theorem dX8_init_56 : decode cX8_init 56 = .ok (.putfield 32, 3) := by decide +kernel
theorem dX8_init_59 : decode cX8_init 59 = .ok (.return_, 1) := by decide +kernel
theorem dX8_addClient_0 : decode cX8_addClient 0 = .ok (.iload_n 1, 1) := by decide +kernel
theorem dX8_addClient_1 : decode cX8_addClient 1 = .ok (.iconst 1, 1) := by decide +kernel
theorem dX8_addClient_2 : decode cX8_addClient 2 = .ok (.sipush 255, 3) := by decide +kernel
theorem dX8_addClient_5 : decode cX8_addClient 5 = .ok (.invokestatic 36, 3) := by decide +kernel
theorem dX8_addClient_8 : decode cX8_addClient 8 = .ok (.ifCond .eq 45, 3) := by decide +kernel
theorem dX8_addClient_11 : decode cX8_addClient 11 = .ok (.iload_n 2, 1) := by decide +kernel
theorem dX8_addClient_12 : decode cX8_addClient 12 = .ok (.iconst 0, 1) := by decide +kernel
theorem dX8_addClient_13 : decode cX8_addClient 13 = .ok (.bipush 48, 2) := by decide +kernel
theorem dX8_addClient_15 : decode cX8_addClient 15 = .ok (.invokestatic 36, 3) := by decide +kernel
theorem dX8_addClient_18 : decode cX8_addClient 18 = .ok (.ifCond .eq 35, 3) := by decide +kernel
theorem dX8_addClient_21 : decode cX8_addClient 21 = .ok (.iload_n 3, 1) := by decide +kernel
theorem dX8_addClient_22 : decode cX8_addClient 22 = .ok (.iconst 0, 1) := by decide +kernel
theorem dX8_addClient_23 : decode cX8_addClient 23 = .ok (.bipush 24, 2) := by decide +kernel
theorem dX8_addClient_25 : decode cX8_addClient 25 = .ok (.invokestatic 36, 3) := by decide +kernel
theorem dX8_addClient_28 : decode cX8_addClient 28 = .ok (.ifCond .eq 25, 3) := by decide +kernel
theorem dX8_addClient_31 : decode cX8_addClient 31 = .ok (.iload 4, 2) := by decide +kernel
theorem dX8_addClient_33 : decode cX8_addClient 33 = .ok (.iconst 1, 1) := by decide +kernel
theorem dX8_addClient_34 : decode cX8_addClient 34 = .ok (.bipush 9, 2) := by decide +kernel
theorem dX8_addClient_36 : decode cX8_addClient 36 = .ok (.invokestatic 36, 3) := by decide +kernel
theorem dX8_addClient_39 : decode cX8_addClient 39 = .ok (.ifCond .eq 14, 3) := by decide +kernel
theorem dX8_addClient_42 : decode cX8_addClient 42 = .ok (.iload 5, 2) := by decide +kernel
theorem dX8_addClient_44 : decode cX8_addClient 44 = .ok (.iconst 0, 1) := by decide +kernel
theorem dX8_addClient_45 : decode cX8_addClient 45 = .ok (.ldc 40, 2) := by decide +kernel
theorem dX8_addClient_47 : decode cX8_addClient 47 = .ok (.invokestatic 36, 3) := by decide +kernel
theorem dX8_addClient_50 : decode cX8_addClient 50 = .ok (.ifCond .ne 6, 3) := by decide +kernel
theorem dX8_addClient_53 : decode cX8_addClient 53 = .ok (.bipush (-2), 2) := by decide +kernel
theorem dX8_addClient_55 : decode cX8_addClient 55 = .ok (.ireturn, 1) := by decide +kernel
theorem dX8_addClient_56 : decode cX8_addClient 56 = .ok (.aload_n 0, 1) := by decide +kernel
theorem dX8_addClient_57 : decode cX8_addClient 57 = .ok (.getfield 12, 3) := by decide +kernel
theorem dX8_addClient_60 : decode cX8_addClient 60 = .ok (.getfield 41, 3) := by decide +kernel
theorem dX8_addClient_63 : decode cX8_addClient 63 = .ok (.bipush 8, 2) := by decide +kernel
theorem dX8_addClient_65 : decode cX8_addClient 65 = .ok (.if_icmp .lt 6, 3) := by decide +kernel
theorem dX8_addClient_68 : decode cX8_addClient 68 = .ok (.bipush (-3), 2) := by decide +kernel
theorem dX8_addClient_70 : decode cX8_addClient 70 = .ok (.ireturn, 1) := by decide +kernel
theorem dX8_addClient_71 : decode cX8_addClient 71 = .ok (.aload_n 0, 1) := by decide +kernel
theorem dX8_addClient_72 : decode cX8_addClient 72 = .ok (.getfield 25, 3) := by decide +kernel
theorem dX8_addClient_75 : decode cX8_addClient 75 = .ok (.aload_n 0, 1) := by decide +kernel
theorem dX8_addClient_76 : decode cX8_addClient 76 = .ok (.getfield 12, 3) := by decide +kernel
theorem dX8_addClient_79 : decode cX8_addClient 79 = .ok (.invokevirtual 45, 3) := by decide +kernel
theorem dX8_addClient_82 : decode cX8_addClient 82 = .ok (.aload_n 0, 1) := by decide +kernel
theorem dX8_addClient_83 : decode cX8_addClient 83 = .ok (.getfield 12, 3) := by decide +kernel
theorem dX8_addClient_86 : decode cX8_addClient 86 = .ok (.getfield 41, 3) := by decide +kernel
theorem dX8_addClient_89 : decode cX8_addClient 89 = .ok (.istore 6, 2) := by decide +kernel
theorem dX8_addClient_91 : decode cX8_addClient 91 = .ok (.aload_n 0, 1) := by decide +kernel
theorem dX8_addClient_92 : decode cX8_addClient 92 = .ok (.getfield 12, 3) := by decide +kernel
theorem dX8_addClient_95 : decode cX8_addClient 95 = .ok (.dup, 1) := by decide +kernel
theorem dX8_addClient_96 : decode cX8_addClient 96 = .ok (.getfield 41, 3) := by decide +kernel
theorem dX8_addClient_99 : decode cX8_addClient 99 = .ok (.iconst 1, 1) := by decide +kernel
theorem dX8_addClient_100 : decode cX8_addClient 100 = .ok (.iadd, 1) := by decide +kernel
theorem dX8_addClient_101 : decode cX8_addClient 101 = .ok (.putfield 41, 3) := by decide +kernel
theorem dX8_addClient_104 : decode cX8_addClient 104 = .ok (.aload_n 0, 1) := by decide +kernel
theorem dX8_addClient_105 : decode cX8_addClient 105 = .ok (.getfield 12, 3) := by decide +kernel
theorem dX8_addClient_108 : decode cX8_addClient 108 = .ok (.iload 6, 2) := by decide +kernel
theorem dX8_addClient_110 : decode cX8_addClient 110 = .ok (.invokevirtual 49, 3) := by decide +kernel
theorem dX8_addClient_113 : decode cX8_addClient 113 = .ok (.astore 7, 2) := by decide +kernel
theorem dX8_addClient_115 : decode cX8_addClient 115 = .ok (.aload 7, 2) := by decide +kernel
theorem dX8_addClient_117 : decode cX8_addClient 117 = .ok (.ifnull 15, 3) := by decide +kernel
theorem dX8_addClient_120 : decode cX8_addClient 120 = .ok (.aload 7, 2) := by decide +kernel
theorem dX8_addClient_122 : decode cX8_addClient 122 = .ok (.iload_n 1, 1) := by decide +kernel
theorem dX8_addClient_123 : decode cX8_addClient 123 = .ok (.iload_n 2, 1) := by decide +kernel
theorem dX8_addClient_124 : decode cX8_addClient 124 = .ok (.iload_n 3, 1) := by decide +kernel
theorem dX8_addClient_125 : decode cX8_addClient 125 = .ok (.iload 4, 2) := by decide +kernel
theorem dX8_addClient_127 : decode cX8_addClient 127 = .ok (.iload 5, 2) := by decide +kernel
theorem dX8_addClient_129 : decode cX8_addClient 129 = .ok (.invokevirtual 53, 3) := by decide +kernel
theorem dX8_addClient_132 : decode cX8_addClient 132 = .ok (.iload 6, 2) := by decide +kernel
theorem dX8_addClient_134 : decode cX8_addClient 134 = .ok (.ireturn, 1) := by decide +kernel
theorem dX8_setUp_0 : decode cX8_setUp 0 = .ok (.aload_n 0, 1) := by decide +kernel
theorem dX8_setUp_1 : decode cX8_setUp 1 = .ok (.getfield 12, 3) := by decide +kernel
theorem dX8_setUp_4 : decode cX8_setUp 4 = .ok (.iload_n 1, 1) := by decide +kernel
theorem dX8_setUp_5 : decode cX8_setUp 5 = .ok (.invokevirtual 49, 3) := by decide +kernel
theorem dX8_setUp_8 : decode cX8_setUp 8 = .ok (.astore_n 3, 1) := by decide +kernel
theorem dX8_setUp_9 : decode cX8_setUp 9 = .ok (.aload_n 3, 1) := by decide +kernel
theorem dX8_setUp_10 : decode cX8_setUp 10 = .ok (.ifnonnull 5, 3) := by decide +kernel
theorem dX8_setUp_13 : decode cX8_setUp 13 = .ok (.iconst (-1), 1) := by decide +kernel
theorem dX8_setUp_14 : decode cX8_setUp 14 = .ok (.ireturn, 1) := by decide +kernel
theorem dX8_setUp_15 : decode cX8_setUp 15 = .ok (.aload_n 3, 1) := by decide +kernel
theorem dX8_setUp_16 : decode cX8_setUp 16 = .ok (.getfield 62, 3) := by decide +kernel
theorem dX8_setUp_19 : decode cX8_setUp 19 = .ok (.iload_n 2, 1) := by decide +kernel
theorem dX8_setUp_20 : decode cX8_setUp 20 = .ok (.if_icmp .ne 6, 3) := by decide +kernel
theorem dX8_setUp_23 : decode cX8_setUp 23 = .ok (.bipush (-5), 2) := by decide +kernel
theorem dX8_setUp_25 : decode cX8_setUp 25 = .ok (.ireturn, 1) := by decide +kernel
theorem dX8_setUp_26 : decode cX8_setUp 26 = .ok (.aload_n 0, 1) := by decide +kernel
theorem dX8_setUp_27 : decode cX8_setUp 27 = .ok (.getfield 25, 3) := by decide +kernel
theorem dX8_setUp_30 : decode cX8_setUp 30 = .ok (.aload_n 0, 1) := by decide +kernel
theorem dX8_setUp_31 : decode cX8_setUp 31 = .ok (.getfield 12, 3) := by decide +kernel
theorem dX8_setUp_34 : decode cX8_setUp 34 = .ok (.invokevirtual 45, 3) := by decide +kernel
theorem dX8_setUp_37 : decode cX8_setUp 37 = .ok (.aload_n 3, 1) := by decide +kernel
theorem dX8_setUp_38 : decode cX8_setUp 38 = .ok (.iload_n 2, 1) := by decide +kernel
theorem dX8_setUp_39 : decode cX8_setUp 39 = .ok (.putfield 62, 3) := by decide +kernel
theorem dX8_setUp_42 : decode cX8_setUp 42 = .ok (.aload_n 0, 1) := by decide +kernel
theorem dX8_setUp_43 : decode cX8_setUp 43 = .ok (.getfield 12, 3) := by decide +kernel
theorem dX8_setUp_46 : decode cX8_setUp 46 = .ok (.iconst (-1), 1) := by decide +kernel
theorem dX8_setUp_47 : decode cX8_setUp 47 = .ok (.iload_n 1, 1) := by decide +kernel
theorem dX8_setUp_48 : decode cX8_setUp 48 = .ok (.iconst 0, 1) := by decide +kernel
theorem dX8_setUp_49 : decode cX8_setUp 49 = .ok (.invokevirtual 66, 3) := by decide +kernel
theorem dX8_setUp_52 : decode cX8_setUp 52 = .ok (.aload_n 0, 1) := by decide +kernel
theorem dX8_setUp_53 : decode cX8_setUp 53 = .ok (.getfield 12, 3) := by decide +kernel
theorem dX8_setUp_56 : decode cX8_setUp 56 = .ok (.iconst (-1), 1) := by decide +kernel
theorem dX8_setUp_57 : decode cX8_setUp 57 = .ok (.iload_n 1, 1) := by decide +kernel
theorem dX8_setUp_58 : decode cX8_setUp 58 = .ok (.iconst 1, 1) := by decide +kernel
theorem dX8_setUp_59 : decode cX8_setUp 59 = .ok (.invokevirtual 66, 3) := by decide +kernel
theorem dX8_setUp_62 : decode cX8_setUp 62 = .ok (.iadd, 1) := by decide +kernel
theorem dX8_setUp_63 : decode cX8_setUp 63 = .ok (.ireturn, 1) := by decide +kernel
theorem dX8_setUse_0 : decode cX8_setUse 0 = .ok (.iload_n 1, 1) := by decide +kernel
theorem dX8_setUse_1 : decode cX8_setUse 1 = .ok (.iconst 1, 1) := by decide +kernel
theorem dX8_setUse_2 : decode cX8_setUse 2 = .ok (.bipush 9, 2) := by decide +kernel
theorem dX8_setUse_4 : decode cX8_setUse 4 = .ok (.invokestatic 36, 3) := by decide +kernel
theorem dX8_setUse_7 : decode cX8_setUse 7 = .ok (.ifCond .ne 6, 3) := by decide +kernel
theorem dX8_setUse_10 : decode cX8_setUse 10 = .ok (.bipush (-2), 2) := by decide +kernel
theorem dX8_setUse_12 : decode cX8_setUse 12 = .ok (.ireturn, 1) := by decide +kernel
theorem dX8_setUse_13 : decode cX8_setUse 13 = .ok (.aload_n 0, 1) := by decide +kernel
theorem dX8_setUse_14 : decode cX8_setUse 14 = .ok (.getfield 12, 3) := by decide +kernel
theorem dX8_setUse_17 : decode cX8_setUse 17 = .ok (.getfield 70, 3) := by decide +kernel
theorem dX8_setUse_20 : decode cX8_setUse 20 = .ok (.iload_n 1, 1) := by decide +kernel
theorem dX8_setUse_21 : decode cX8_setUse 21 = .ok (.if_icmp .ne 6, 3) := by decide +kernel
theorem dX8_setUse_24 : decode cX8_setUse 24 = .ok (.bipush (-5), 2) := by decide +kernel
theorem dX8_setUse_26 : decode cX8_setUse 26 = .ok (.ireturn, 1) := by decide +kernel
theorem dX8_setUse_27 : decode cX8_setUse 27 = .ok (.aload_n 0, 1) := by decide +kernel
theorem dX8_setUse_28 : decode cX8_setUse 28 = .ok (.getfield 25, 3) := by decide +kernel
theorem dX8_setUse_31 : decode cX8_setUse 31 = .ok (.aload_n 0, 1) := by decide +kernel
theorem dX8_setUse_32 : decode cX8_setUse 32 = .ok (.getfield 12, 3) := by decide +kernel
theorem dX8_setUse_35 : decode cX8_setUse 35 = .ok (.invokevirtual 45, 3) := by decide +kernel
theorem dX8_setUse_38 : decode cX8_setUse 38 = .ok (.aload_n 0, 1) := by decide +kernel
theorem dX8_setUse_39 : decode cX8_setUse 39 = .ok (.getfield 12, 3) := by decide +kernel
theorem dX8_setUse_42 : decode cX8_setUse 42 = .ok (.getfield 70, 3) := by decide +kernel
theorem dX8_setUse_45 : decode cX8_setUse 45 = .ok (.istore_n 2, 1) := by decide +kernel
theorem dX8_setUse_46 : decode cX8_setUse 46 = .ok (.aload_n 0, 1) := by decide +kernel
theorem dX8_setUse_47 : decode cX8_setUse 47 = .ok (.getfield 12, 3) := by decide +kernel
theorem dX8_setUse_50 : decode cX8_setUse 50 = .ok (.iload_n 1, 1) := by decide +kernel
theorem dX8_setUse_51 : decode cX8_setUse 51 = .ok (.putfield 70, 3) := by decide +kernel
theorem dX8_setUse_54 : decode cX8_setUse 54 = .ok (.iload_n 2, 1) := by decide +kernel
theorem dX8_setUse_55 : decode cX8_setUse 55 = .ok (.ireturn, 1) := by decide +kernel
theorem dX8_pay_0 : decode cX8_pay 0 = .ok (.aload_n 0, 1) := by decide +kernel
theorem dX8_pay_1 : decode cX8_pay 1 = .ok (.getfield 12, 3) := by decide +kernel
theorem dX8_pay_4 : decode cX8_pay 4 = .ok (.iload_n 1, 1) := by decide +kernel
theorem dX8_pay_5 : decode cX8_pay 5 = .ok (.invokevirtual 49, 3) := by decide +kernel
theorem dX8_pay_8 : decode cX8_pay 8 = .ok (.astore_n 3, 1) := by decide +kernel
theorem dX8_pay_9 : decode cX8_pay 9 = .ok (.aload_n 3, 1) := by decide +kernel
theorem dX8_pay_10 : decode cX8_pay 10 = .ok (.ifnonnull 5, 3) := by decide +kernel
theorem dX8_pay_13 : decode cX8_pay 13 = .ok (.iconst (-1), 1) := by decide +kernel
theorem dX8_pay_14 : decode cX8_pay 14 = .ok (.ireturn, 1) := by decide +kernel
theorem dX8_pay_15 : decode cX8_pay 15 = .ok (.iload_n 2, 1) := by decide +kernel
theorem dX8_pay_16 : decode cX8_pay 16 = .ok (.iconst 1, 1) := by decide +kernel
theorem dX8_pay_17 : decode cX8_pay 17 = .ok (.ldc 40, 2) := by decide +kernel
theorem dX8_pay_19 : decode cX8_pay 19 = .ok (.invokestatic 36, 3) := by decide +kernel
theorem dX8_pay_22 : decode cX8_pay 22 = .ok (.ifCond .ne 6, 3) := by decide +kernel
theorem dX8_pay_25 : decode cX8_pay 25 = .ok (.bipush (-2), 2) := by decide +kernel
theorem dX8_pay_27 : decode cX8_pay 27 = .ok (.ireturn, 1) := by decide +kernel
theorem dX8_pay_28 : decode cX8_pay 28 = .ok (.aload_n 3, 1) := by decide +kernel
theorem dX8_pay_29 : decode cX8_pay 29 = .ok (.getfield 73, 3) := by decide +kernel
theorem dX8_pay_32 : decode cX8_pay 32 = .ok (.iload_n 2, 1) := by decide +kernel
theorem dX8_pay_33 : decode cX8_pay 33 = .ok (.if_icmp .ge 6, 3) := by decide +kernel
theorem dX8_pay_36 : decode cX8_pay 36 = .ok (.bipush (-4), 2) := by decide +kernel
theorem dX8_pay_38 : decode cX8_pay 38 = .ok (.ireturn, 1) := by decide +kernel
theorem dX8_pay_39 : decode cX8_pay 39 = .ok (.aload_n 0, 1) := by decide +kernel
theorem dX8_pay_40 : decode cX8_pay 40 = .ok (.getfield 25, 3) := by decide +kernel
theorem dX8_pay_43 : decode cX8_pay 43 = .ok (.aload_n 0, 1) := by decide +kernel
theorem dX8_pay_44 : decode cX8_pay 44 = .ok (.getfield 12, 3) := by decide +kernel
theorem dX8_pay_47 : decode cX8_pay 47 = .ok (.invokevirtual 45, 3) := by decide +kernel
theorem dX8_pay_50 : decode cX8_pay 50 = .ok (.aload_n 3, 1) := by decide +kernel
theorem dX8_pay_51 : decode cX8_pay 51 = .ok (.dup, 1) := by decide +kernel
theorem dX8_pay_52 : decode cX8_pay 52 = .ok (.getfield 73, 3) := by decide +kernel
theorem dX8_pay_55 : decode cX8_pay 55 = .ok (.iload_n 2, 1) := by decide +kernel
theorem dX8_pay_56 : decode cX8_pay 56 = .ok (.isub, 1) := by decide +kernel
theorem dX8_pay_57 : decode cX8_pay 57 = .ok (.putfield 73, 3) := by decide +kernel
theorem dX8_pay_60 : decode cX8_pay 60 = .ok (.aload_n 3, 1) := by decide +kernel
theorem dX8_pay_61 : decode cX8_pay 61 = .ok (.getfield 73, 3) := by decide +kernel
theorem dX8_pay_64 : decode cX8_pay 64 = .ok (.ireturn, 1) := by decide +kernel
theorem dX8_readStory_0 : decode cX8_readStory 0 = .ok (.aload_n 0, 1) := by decide +kernel
theorem dX8_readStory_1 : decode cX8_readStory 1 = .ok (.getfield 32, 3) := by decide +kernel
theorem dX8_readStory_4 : decode cX8_readStory 4 = .ok (.invokevirtual 76, 3) := by decide +kernel
theorem dX8_readStory_7 : decode cX8_readStory 7 = .ok (.istore_n 1, 1) := by decide +kernel
theorem dX8_readStory_8 : decode cX8_readStory 8 = .ok (.iload_n 1, 1) := by decide +kernel
theorem dX8_readStory_9 : decode cX8_readStory 9 = .ok (.iconst (-1), 1) := by decide +kernel
theorem dX8_readStory_10 : decode cX8_readStory 10 = .ok (.if_icmp .eq 8, 3) := by decide +kernel
theorem dX8_readStory_13 : decode cX8_readStory 13 = .ok (.bipush (-100), 2) := by decide +kernel
theorem dX8_readStory_15 : decode cX8_readStory 15 = .ok (.iload_n 1, 1) := by decide +kernel
theorem dX8_readStory_16 : decode cX8_readStory 16 = .ok (.isub, 1) := by decide +kernel
theorem dX8_readStory_17 : decode cX8_readStory 17 = .ok (.ireturn, 1) := by decide +kernel
theorem dX8_readStory_18 : decode cX8_readStory 18 = .ok (.aload_n 0, 1) := by decide +kernel
theorem dX8_readStory_19 : decode cX8_readStory 19 = .ok (.getfield 12, 3) := by decide +kernel
theorem dX8_readStory_22 : decode cX8_readStory 22 = .ok (.getfield 80, 3) := by decide +kernel
theorem dX8_readStory_25 : decode cX8_readStory 25 = .ok (.bipush 20, 2) := by decide +kernel
theorem dX8_readStory_27 : decode cX8_readStory 27 = .ok (.if_icmp .lt 6, 3) := by decide +kernel
theorem dX8_readStory_30 : decode cX8_readStory 30 = .ok (.bipush (-3), 2) := by decide +kernel
theorem dX8_readStory_32 : decode cX8_readStory 32 = .ok (.ireturn, 1) := by decide +kernel
theorem dX8_readStory_33 : decode cX8_readStory 33 = .ok (.aload_n 0, 1) := by decide +kernel
theorem dX8_readStory_34 : decode cX8_readStory 34 = .ok (.getfield 25, 3) := by decide +kernel
theorem dX8_readStory_37 : decode cX8_readStory 37 = .ok (.aload_n 0, 1) := by decide +kernel
theorem dX8_readStory_38 : decode cX8_readStory 38 = .ok (.getfield 12, 3) := by decide +kernel
theorem dX8_readStory_41 : decode cX8_readStory 41 = .ok (.invokevirtual 45, 3) := by decide +kernel
theorem dX8_readStory_44 : decode cX8_readStory 44 = .ok (.aload_n 0, 1) := by decide +kernel
theorem dX8_readStory_45 : decode cX8_readStory 45 = .ok (.getfield 12, 3) := by decide +kernel
theorem dX8_readStory_48 : decode cX8_readStory 48 = .ok (.getfield 80, 3) := by decide +kernel
theorem dX8_readStory_51 : decode cX8_readStory 51 = .ok (.istore_n 2, 1) := by decide +kernel
theorem dX8_readStory_52 : decode cX8_readStory 52 = .ok (.aload_n 0, 1) := by decide +kernel
theorem dX8_readStory_53 : decode cX8_readStory 53 = .ok (.getfield 12, 3) := by decide +kernel
theorem dX8_readStory_56 : decode cX8_readStory 56 = .ok (.dup, 1) := by decide +kernel
theorem dX8_readStory_57 : decode cX8_readStory 57 = .ok (.getfield 80, 3) := by decide +kernel
theorem dX8_readStory_60 : decode cX8_readStory 60 = .ok (.iconst 1, 1) := by decide +kernel
theorem dX8_readStory_61 : decode cX8_readStory 61 = .ok (.iadd, 1) := by decide +kernel
theorem dX8_readStory_62 : decode cX8_readStory 62 = .ok (.putfield 80, 3) := by decide +kernel
theorem dX8_readStory_65 : decode cX8_readStory 65 = .ok (.aload_n 0, 1) := by decide +kernel
theorem dX8_readStory_66 : decode cX8_readStory 66 = .ok (.getfield 12, 3) := by decide +kernel
theorem dX8_readStory_69 : decode cX8_readStory 69 = .ok (.iload_n 2, 1) := by decide +kernel
theorem dX8_readStory_70 : decode cX8_readStory 70 = .ok (.invokevirtual 83, 3) := by decide +kernel
theorem dX8_readStory_73 : decode cX8_readStory 73 = .ok (.astore_n 3, 1) := by decide +kernel
theorem dX8_readStory_74 : decode cX8_readStory 74 = .ok (.aload_n 3, 1) := by decide +kernel
theorem dX8_readStory_75 : decode cX8_readStory 75 = .ok (.ifnull 11, 3) := by decide +kernel
theorem dX8_readStory_78 : decode cX8_readStory 78 = .ok (.aload_n 3, 1) := by decide +kernel
theorem dX8_readStory_79 : decode cX8_readStory 79 = .ok (.aload_n 0, 1) := by decide +kernel
theorem dX8_readStory_80 : decode cX8_readStory 80 = .ok (.getfield 32, 3) := by decide +kernel
theorem dX8_readStory_83 : decode cX8_readStory 83 = .ok (.invokevirtual 87, 3) := by decide +kernel
theorem dX8_readStory_86 : decode cX8_readStory 86 = .ok (.iload_n 2, 1) := by decide +kernel
theorem dX8_readStory_87 : decode cX8_readStory 87 = .ok (.ireturn, 1) := by decide +kernel
theorem dX8_release_0 : decode cX8_release 0 = .ok (.aload_n 0, 1) := by decide +kernel
theorem dX8_release_1 : decode cX8_release 1 = .ok (.getfield 12, 3) := by decide +kernel
theorem dX8_release_4 : decode cX8_release 4 = .ok (.iload_n 1, 1) := by decide +kernel
theorem dX8_release_5 : decode cX8_release 5 = .ok (.invokevirtual 83, 3) := by decide +kernel
theorem dX8_release_8 : decode cX8_release 8 = .ok (.astore_n 2, 1) := by decide +kernel
theorem dX8_release_9 : decode cX8_release 9 = .ok (.aload_n 2, 1) := by decide +kernel
theorem dX8_release_10 : decode cX8_release 10 = .ok (.ifnonnull 5, 3) := by decide +kernel
theorem dX8_release_13 : decode cX8_release 13 = .ok (.iconst (-1), 1) := by decide +kernel
theorem dX8_release_14 : decode cX8_release 14 = .ok (.ireturn, 1) := by decide +kernel
theorem dX8_release_15 : decode cX8_release 15 = .ok (.aload_n 2, 1) := by decide +kernel
theorem dX8_release_16 : decode cX8_release 16 = .ok (.getfield 92, 3) := by decide +kernel
theorem dX8_release_19 : decode cX8_release 19 = .ok (.ifCond .eq 6, 3) := by decide +kernel
theorem dX8_release_22 : decode cX8_release 22 = .ok (.bipush (-4), 2) := by decide +kernel
theorem dX8_release_24 : decode cX8_release 24 = .ok (.ireturn, 1) := by decide +kernel
theorem dX8_release_25 : decode cX8_release 25 = .ok (.aload_n 0, 1) := by decide +kernel
theorem dX8_release_26 : decode cX8_release 26 = .ok (.getfield 25, 3) := by decide +kernel
theorem dX8_release_29 : decode cX8_release 29 = .ok (.aload_n 0, 1) := by decide +kernel
theorem dX8_release_30 : decode cX8_release 30 = .ok (.getfield 12, 3) := by decide +kernel
theorem dX8_release_33 : decode cX8_release 33 = .ok (.invokevirtual 45, 3) := by decide +kernel
theorem dX8_release_36 : decode cX8_release 36 = .ok (.aload_n 2, 1) := by decide +kernel
theorem dX8_release_37 : decode cX8_release 37 = .ok (.iconst 1, 1) := by decide +kernel
theorem dX8_release_38 : decode cX8_release 38 = .ok (.putfield 92, 3) := by decide +kernel
theorem dX8_release_41 : decode cX8_release 41 = .ok (.aload_n 0, 1) := by decide +kernel
theorem dX8_release_42 : decode cX8_release 42 = .ok (.getfield 12, 3) := by decide +kernel
theorem dX8_release_45 : decode cX8_release 45 = .ok (.aload_n 2, 1) := by decide +kernel
theorem dX8_release_46 : decode cX8_release 46 = .ok (.getfield 94, 3) := by decide +kernel
theorem dX8_release_49 : decode cX8_release 49 = .ok (.invokevirtual 97, 3) := by decide +kernel
theorem dX8_release_52 : decode cX8_release 52 = .ok (.ireturn, 1) := by decide +kernel
theorem dX8_hold_0 : decode cX8_hold 0 = .ok (.aload_n 0, 1) := by decide +kernel
theorem dX8_hold_1 : decode cX8_hold 1 = .ok (.getfield 12, 3) := by decide +kernel
theorem dX8_hold_4 : decode cX8_hold 4 = .ok (.iload_n 1, 1) := by decide +kernel
theorem dX8_hold_5 : decode cX8_hold 5 = .ok (.invokevirtual 83, 3) := by decide +kernel
theorem dX8_hold_8 : decode cX8_hold 8 = .ok (.astore_n 2, 1) := by decide +kernel
theorem dX8_hold_9 : decode cX8_hold 9 = .ok (.aload_n 2, 1) := by decide +kernel
theorem dX8_hold_10 : decode cX8_hold 10 = .ok (.ifnonnull 5, 3) := by decide +kernel
theorem dX8_hold_13 : decode cX8_hold 13 = .ok (.iconst (-1), 1) := by decide +kernel
theorem dX8_hold_14 : decode cX8_hold 14 = .ok (.ireturn, 1) := by decide +kernel
theorem dX8_hold_15 : decode cX8_hold 15 = .ok (.aload_n 2, 1) := by decide +kernel
theorem dX8_hold_16 : decode cX8_hold 16 = .ok (.getfield 92, 3) := by decide +kernel
theorem dX8_hold_19 : decode cX8_hold 19 = .ok (.iconst 1, 1) := by decide +kernel
theorem dX8_hold_20 : decode cX8_hold 20 = .ok (.if_icmp .eq 6, 3) := by decide +kernel
theorem dX8_hold_23 : decode cX8_hold 23 = .ok (.bipush (-4), 2) := by decide +kernel
theorem dX8_hold_25 : decode cX8_hold 25 = .ok (.ireturn, 1) := by decide +kernel
theorem dX8_hold_26 : decode cX8_hold 26 = .ok (.aload_n 0, 1) := by decide +kernel
theorem dX8_hold_27 : decode cX8_hold 27 = .ok (.getfield 25, 3) := by decide +kernel
theorem dX8_hold_30 : decode cX8_hold 30 = .ok (.aload_n 0, 1) := by decide +kernel
theorem dX8_hold_31 : decode cX8_hold 31 = .ok (.getfield 12, 3) := by decide +kernel
theorem dX8_hold_34 : decode cX8_hold 34 = .ok (.invokevirtual 45, 3) := by decide +kernel
theorem dX8_hold_37 : decode cX8_hold 37 = .ok (.aload_n 2, 1) := by decide +kernel
theorem dX8_hold_38 : decode cX8_hold 38 = .ok (.iconst 0, 1) := by decide +kernel
theorem dX8_hold_39 : decode cX8_hold 39 = .ok (.putfield 92, 3) := by decide +kernel
theorem dX8_hold_42 : decode cX8_hold 42 = .ok (.aload_n 2, 1) := by decide +kernel
theorem dX8_hold_43 : decode cX8_hold 43 = .ok (.getfield 101, 3) := by decide +kernel
theorem dX8_hold_46 : decode cX8_hold 46 = .ok (.aload_n 0, 1) := by decide +kernel
theorem dX8_hold_47 : decode cX8_hold 47 = .ok (.getfield 12, 3) := by decide +kernel
theorem dX8_hold_50 : decode cX8_hold 50 = .ok (.getfield 104, 3) := by decide +kernel
theorem dX8_hold_53 : decode cX8_hold 53 = .ok (.isub, 1) := by decide +kernel
theorem dX8_hold_54 : decode cX8_hold 54 = .ok (.iconst 0, 1) := by decide +kernel
theorem dX8_hold_55 : decode cX8_hold 55 = .ok (.invokestatic 107, 3) := by decide +kernel
theorem dX8_hold_58 : decode cX8_hold 58 = .ok (.ireturn, 1) := by decide +kernel
theorem dX8_correct_0 : decode cX8_correct 0 = .ok (.aload_n 0, 1) := by decide +kernel
theorem dX8_correct_1 : decode cX8_correct 1 = .ok (.getfield 12, 3) := by decide +kernel
theorem dX8_correct_4 : decode cX8_correct 4 = .ok (.iload_n 1, 1) := by decide +kernel
theorem dX8_correct_5 : decode cX8_correct 5 = .ok (.invokevirtual 83, 3) := by decide +kernel
theorem dX8_correct_8 : decode cX8_correct 8 = .ok (.astore_n 2, 1) := by decide +kernel
theorem dX8_correct_9 : decode cX8_correct 9 = .ok (.aload_n 2, 1) := by decide +kernel
theorem dX8_correct_10 : decode cX8_correct 10 = .ok (.ifnonnull 5, 3) := by decide +kernel
theorem dX8_correct_13 : decode cX8_correct 13 = .ok (.iconst (-1), 1) := by decide +kernel
theorem dX8_correct_14 : decode cX8_correct 14 = .ok (.ireturn, 1) := by decide +kernel
theorem dX8_correct_15 : decode cX8_correct 15 = .ok (.aload_n 2, 1) := by decide +kernel
theorem dX8_correct_16 : decode cX8_correct 16 = .ok (.getfield 92, 3) := by decide +kernel
theorem dX8_correct_19 : decode cX8_correct 19 = .ok (.iconst 2, 1) := by decide +kernel
theorem dX8_correct_20 : decode cX8_correct 20 = .ok (.if_icmp .eq 6, 3) := by decide +kernel
theorem dX8_correct_23 : decode cX8_correct 23 = .ok (.bipush (-4), 2) := by decide +kernel
theorem dX8_correct_25 : decode cX8_correct 25 = .ok (.ireturn, 1) := by decide +kernel
theorem dX8_correct_26 : decode cX8_correct 26 = .ok (.aload_n 2, 1) := by decide +kernel
theorem dX8_correct_27 : decode cX8_correct 27 = .ok (.getfield 113, 3) := by decide +kernel
theorem dX8_correct_30 : decode cX8_correct 30 = .ok (.bipush 6, 2) := by decide +kernel
theorem dX8_correct_32 : decode cX8_correct 32 = .ok (.if_icmp .lt 6, 3) := by decide +kernel
theorem dX8_correct_35 : decode cX8_correct 35 = .ok (.bipush (-3), 2) := by decide +kernel
theorem dX8_correct_37 : decode cX8_correct 37 = .ok (.ireturn, 1) := by decide +kernel
theorem dX8_correct_38 : decode cX8_correct 38 = .ok (.aload_n 0, 1) := by decide +kernel
theorem dX8_correct_39 : decode cX8_correct 39 = .ok (.getfield 25, 3) := by decide +kernel
theorem dX8_correct_42 : decode cX8_correct 42 = .ok (.aload_n 0, 1) := by decide +kernel
theorem dX8_correct_43 : decode cX8_correct 43 = .ok (.getfield 12, 3) := by decide +kernel
theorem dX8_correct_46 : decode cX8_correct 46 = .ok (.invokevirtual 45, 3) := by decide +kernel
theorem dX8_correct_49 : decode cX8_correct 49 = .ok (.aload_n 2, 1) := by decide +kernel
theorem dX8_correct_50 : decode cX8_correct 50 = .ok (.aload_n 0, 1) := by decide +kernel
theorem dX8_correct_51 : decode cX8_correct 51 = .ok (.getfield 12, 3) := by decide +kernel
theorem dX8_correct_54 : decode cX8_correct 54 = .ok (.getfield 104, 3) := by decide +kernel
theorem dX8_correct_57 : decode cX8_correct 57 = .ok (.invokevirtual 116, 3) := by decide +kernel
theorem dX8_correct_60 : decode cX8_correct 60 = .ok (.aload_n 0, 1) := by decide +kernel
theorem dX8_correct_61 : decode cX8_correct 61 = .ok (.getfield 12, 3) := by decide +kernel
theorem dX8_correct_64 : decode cX8_correct 64 = .ok (.getfield 120, 3) := by decide +kernel
theorem dX8_correct_67 : decode cX8_correct 67 = .ok (.iconst 5, 1) := by decide +kernel
theorem dX8_correct_68 : decode cX8_correct 68 = .ok (.iload_n 1, 1) := by decide +kernel
theorem dX8_correct_69 : decode cX8_correct 69 = .ok (.bipush (-5), 2) := by decide +kernel
theorem dX8_correct_71 : decode cX8_correct 71 = .ok (.aload_n 0, 1) := by decide +kernel
theorem dX8_correct_72 : decode cX8_correct 72 = .ok (.getfield 12, 3) := by decide +kernel
theorem dX8_correct_75 : decode cX8_correct 75 = .ok (.getfield 104, 3) := by decide +kernel
theorem dX8_correct_78 : decode cX8_correct 78 = .ok (.invokevirtual 124, 3) := by decide +kernel
theorem dX8_correct_81 : decode cX8_correct 81 = .ok (.aload_n 2, 1) := by decide +kernel
theorem dX8_correct_82 : decode cX8_correct 82 = .ok (.getfield 113, 3) := by decide +kernel
theorem dX8_correct_85 : decode cX8_correct 85 = .ok (.ireturn, 1) := by decide +kernel
theorem dX8_kill_0 : decode cX8_kill 0 = .ok (.aload_n 0, 1) := by decide +kernel
theorem dX8_kill_1 : decode cX8_kill 1 = .ok (.getfield 12, 3) := by decide +kernel
theorem dX8_kill_4 : decode cX8_kill 4 = .ok (.iload_n 1, 1) := by decide +kernel
theorem dX8_kill_5 : decode cX8_kill 5 = .ok (.invokevirtual 83, 3) := by decide +kernel
theorem dX8_kill_8 : decode cX8_kill 8 = .ok (.astore_n 2, 1) := by decide +kernel
theorem dX8_kill_9 : decode cX8_kill 9 = .ok (.aload_n 2, 1) := by decide +kernel
theorem dX8_kill_10 : decode cX8_kill 10 = .ok (.ifnonnull 5, 3) := by decide +kernel
theorem dX8_kill_13 : decode cX8_kill 13 = .ok (.iconst (-1), 1) := by decide +kernel
theorem dX8_kill_14 : decode cX8_kill 14 = .ok (.ireturn, 1) := by decide +kernel
theorem dX8_kill_15 : decode cX8_kill 15 = .ok (.aload_n 2, 1) := by decide +kernel
theorem dX8_kill_16 : decode cX8_kill 16 = .ok (.getfield 92, 3) := by decide +kernel
theorem dX8_kill_19 : decode cX8_kill 19 = .ok (.iconst 3, 1) := by decide +kernel
theorem dX8_kill_20 : decode cX8_kill 20 = .ok (.if_icmp .ne 6, 3) := by decide +kernel
theorem dX8_kill_23 : decode cX8_kill 23 = .ok (.bipush (-5), 2) := by decide +kernel
theorem dX8_kill_25 : decode cX8_kill 25 = .ok (.ireturn, 1) := by decide +kernel
theorem dX8_kill_26 : decode cX8_kill 26 = .ok (.aload_n 0, 1) := by decide +kernel
theorem dX8_kill_27 : decode cX8_kill 27 = .ok (.getfield 25, 3) := by decide +kernel
theorem dX8_kill_30 : decode cX8_kill 30 = .ok (.aload_n 0, 1) := by decide +kernel
theorem dX8_kill_31 : decode cX8_kill 31 = .ok (.getfield 12, 3) := by decide +kernel
theorem dX8_kill_34 : decode cX8_kill 34 = .ok (.invokevirtual 45, 3) := by decide +kernel
theorem dX8_kill_37 : decode cX8_kill 37 = .ok (.aload_n 2, 1) := by decide +kernel
theorem dX8_kill_38 : decode cX8_kill 38 = .ok (.iconst 3, 1) := by decide +kernel
theorem dX8_kill_39 : decode cX8_kill 39 = .ok (.putfield 92, 3) := by decide +kernel
theorem dX8_kill_42 : decode cX8_kill 42 = .ok (.aload_n 2, 1) := by decide +kernel
theorem dX8_kill_43 : decode cX8_kill 43 = .ok (.aload_n 0, 1) := by decide +kernel
theorem dX8_kill_44 : decode cX8_kill 44 = .ok (.getfield 12, 3) := by decide +kernel
theorem dX8_kill_47 : decode cX8_kill 47 = .ok (.getfield 104, 3) := by decide +kernel
theorem dX8_kill_50 : decode cX8_kill 50 = .ok (.putfield 130, 3) := by decide +kernel
theorem dX8_kill_53 : decode cX8_kill 53 = .ok (.aload_n 0, 1) := by decide +kernel
theorem dX8_kill_54 : decode cX8_kill 54 = .ok (.getfield 12, 3) := by decide +kernel
theorem dX8_kill_57 : decode cX8_kill 57 = .ok (.getfield 120, 3) := by decide +kernel
theorem dX8_kill_60 : decode cX8_kill 60 = .ok (.bipush 6, 2) := by decide +kernel
theorem dX8_kill_62 : decode cX8_kill 62 = .ok (.iload_n 1, 1) := by decide +kernel
theorem dX8_kill_63 : decode cX8_kill 63 = .ok (.bipush (-5), 2) := by decide +kernel
theorem dX8_kill_65 : decode cX8_kill 65 = .ok (.aload_n 0, 1) := by decide +kernel
theorem dX8_kill_66 : decode cX8_kill 66 = .ok (.getfield 12, 3) := by decide +kernel
theorem dX8_kill_69 : decode cX8_kill 69 = .ok (.getfield 104, 3) := by decide +kernel
theorem dX8_kill_72 : decode cX8_kill 72 = .ok (.invokevirtual 124, 3) := by decide +kernel
theorem dX8_kill_75 : decode cX8_kill 75 = .ok (.aload_n 0, 1) := by decide +kernel
theorem dX8_kill_76 : decode cX8_kill 76 = .ok (.getfield 12, 3) := by decide +kernel
theorem dX8_kill_79 : decode cX8_kill 79 = .ok (.iload_n 1, 1) := by decide +kernel
theorem dX8_kill_80 : decode cX8_kill 80 = .ok (.iconst (-1), 1) := by decide +kernel
theorem dX8_kill_81 : decode cX8_kill 81 = .ok (.iconst 1, 1) := by decide +kernel
theorem dX8_kill_82 : decode cX8_kill 82 = .ok (.invokevirtual 66, 3) := by decide +kernel
theorem dX8_kill_85 : decode cX8_kill 85 = .ok (.ireturn, 1) := by decide +kernel
theorem dX8_pass_0 : decode cX8_pass 0 = .ok (.iload_n 1, 1) := by decide +kernel
theorem dX8_pass_1 : decode cX8_pass 1 = .ok (.iconst 1, 1) := by decide +kernel
theorem dX8_pass_2 : decode cX8_pass 2 = .ok (.bipush 100, 2) := by decide +kernel
theorem dX8_pass_4 : decode cX8_pass 4 = .ok (.invokestatic 36, 3) := by decide +kernel
theorem dX8_pass_7 : decode cX8_pass 7 = .ok (.ifCond .ne 6, 3) := by decide +kernel
theorem dX8_pass_10 : decode cX8_pass 10 = .ok (.bipush (-2), 2) := by decide +kernel
theorem dX8_pass_12 : decode cX8_pass 12 = .ok (.ireturn, 1) := by decide +kernel
theorem dX8_pass_13 : decode cX8_pass 13 = .ok (.aload_n 0, 1) := by decide +kernel
theorem dX8_pass_14 : decode cX8_pass 14 = .ok (.getfield 12, 3) := by decide +kernel
theorem dX8_pass_17 : decode cX8_pass 17 = .ok (.getfield 104, 3) := by decide +kernel
theorem dX8_pass_20 : decode cX8_pass 20 = .ok (.iload_n 1, 1) := by decide +kernel
theorem dX8_pass_21 : decode cX8_pass 21 = .ok (.iadd, 1) := by decide +kernel
theorem dX8_pass_22 : decode cX8_pass 22 = .ok (.sipush 9999, 3) := by decide +kernel
theorem dX8_pass_25 : decode cX8_pass 25 = .ok (.if_icmp .le 6, 3) := by decide +kernel
theorem dX8_pass_28 : decode cX8_pass 28 = .ok (.bipush (-4), 2) := by decide +kernel
theorem dX8_pass_30 : decode cX8_pass 30 = .ok (.ireturn, 1) := by decide +kernel
theorem dX8_pass_31 : decode cX8_pass 31 = .ok (.aload_n 0, 1) := by decide +kernel
theorem dX8_pass_32 : decode cX8_pass 32 = .ok (.getfield 25, 3) := by decide +kernel
theorem dX8_pass_35 : decode cX8_pass 35 = .ok (.aload_n 0, 1) := by decide +kernel
theorem dX8_pass_36 : decode cX8_pass 36 = .ok (.getfield 12, 3) := by decide +kernel
theorem dX8_pass_39 : decode cX8_pass 39 = .ok (.invokevirtual 45, 3) := by decide +kernel
theorem dX8_pass_42 : decode cX8_pass 42 = .ok (.aload_n 0, 1) := by decide +kernel
theorem dX8_pass_43 : decode cX8_pass 43 = .ok (.getfield 12, 3) := by decide +kernel
theorem dX8_pass_46 : decode cX8_pass 46 = .ok (.invokevirtual 133, 3) := by decide +kernel
theorem dX8_pass_49 : decode cX8_pass 49 = .ok (.istore_n 2, 1) := by decide +kernel
theorem dX8_pass_50 : decode cX8_pass 50 = .ok (.iconst 0, 1) := by decide +kernel
theorem dX8_pass_51 : decode cX8_pass 51 = .ok (.istore_n 3, 1) := by decide +kernel
theorem dX8_pass_52 : decode cX8_pass 52 = .ok (.iload_n 3, 1) := by decide +kernel
theorem dX8_pass_53 : decode cX8_pass 53 = .ok (.iload_n 1, 1) := by decide +kernel
theorem dX8_pass_54 : decode cX8_pass 54 = .ok (.if_icmp .ge 16, 3) := by decide +kernel
theorem dX8_pass_57 : decode cX8_pass 57 = .ok (.aload_n 0, 1) := by decide +kernel
theorem dX8_pass_58 : decode cX8_pass 58 = .ok (.getfield 12, 3) := by decide +kernel
theorem dX8_pass_61 : decode cX8_pass 61 = .ok (.invokevirtual 136, 3) := by decide +kernel
theorem dX8_pass_64 : decode cX8_pass 64 = .ok (.iinc 3 1, 3) := by decide +kernel
theorem dX8_pass_67 : decode cX8_pass 67 = .ok (.goto (-15), 3) := by decide +kernel
theorem dX8_pass_70 : decode cX8_pass 70 = .ok (.aload_n 0, 1) := by decide +kernel
theorem dX8_pass_71 : decode cX8_pass 71 = .ok (.getfield 12, 3) := by decide +kernel
theorem dX8_pass_74 : decode cX8_pass 74 = .ok (.invokevirtual 133, 3) := by decide +kernel
theorem dX8_pass_77 : decode cX8_pass 77 = .ok (.iload_n 2, 1) := by decide +kernel
theorem dX8_pass_78 : decode cX8_pass 78 = .ok (.isub, 1) := by decide +kernel
theorem dX8_pass_79 : decode cX8_pass 79 = .ok (.ireturn, 1) := by decide +kernel
theorem dX8_type_0 : decode cX8_type 0 = .ok (.aload_n 0, 1) := by decide +kernel
theorem dX8_type_1 : decode cX8_type 1 = .ok (.getfield 32, 3) := by decide +kernel
theorem dX8_type_4 : decode cX8_type 4 = .ok (.getfield 139, 3) := by decide +kernel
theorem dX8_type_7 : decode cX8_type 7 = .ok (.bipush 40, 2) := by decide +kernel
theorem dX8_type_9 : decode cX8_type 9 = .ok (.if_icmp .lt 6, 3) := by decide +kernel
theorem dX8_type_12 : decode cX8_type 12 = .ok (.bipush (-3), 2) := by decide +kernel
theorem dX8_type_14 : decode cX8_type 14 = .ok (.ireturn, 1) := by decide +kernel
theorem dX8_type_15 : decode cX8_type 15 = .ok (.aload_n 0, 1) := by decide +kernel
theorem dX8_type_16 : decode cX8_type 16 = .ok (.getfield 32, 3) := by decide +kernel
theorem dX8_type_19 : decode cX8_type 19 = .ok (.iload_n 1, 1) := by decide +kernel
theorem dX8_type_20 : decode cX8_type 20 = .ok (.invokevirtual 142, 3) := by decide +kernel
theorem dX8_type_23 : decode cX8_type 23 = .ok (.aload_n 0, 1) := by decide +kernel
theorem dX8_type_24 : decode cX8_type 24 = .ok (.getfield 32, 3) := by decide +kernel
theorem dX8_type_27 : decode cX8_type 27 = .ok (.getfield 139, 3) := by decide +kernel
theorem dX8_type_30 : decode cX8_type 30 = .ok (.ireturn, 1) := by decide +kernel
theorem dX8_clearText_0 : decode cX8_clearText 0 = .ok (.aload_n 0, 1) := by decide +kernel
theorem dX8_clearText_1 : decode cX8_clearText 1 = .ok (.getfield 32, 3) := by decide +kernel
theorem dX8_clearText_4 : decode cX8_clearText 4 = .ok (.getfield 139, 3) := by decide +kernel
theorem dX8_clearText_7 : decode cX8_clearText 7 = .ok (.istore_n 1, 1) := by decide +kernel
theorem dX8_clearText_8 : decode cX8_clearText 8 = .ok (.aload_n 0, 1) := by decide +kernel
theorem dX8_clearText_9 : decode cX8_clearText 9 = .ok (.getfield 32, 3) := by decide +kernel
theorem dX8_clearText_12 : decode cX8_clearText 12 = .ok (.iconst 0, 1) := by decide +kernel
theorem dX8_clearText_13 : decode cX8_clearText 13 = .ok (.putfield 139, 3) := by decide +kernel
theorem dX8_clearText_16 : decode cX8_clearText 16 = .ok (.iload_n 1, 1) := by decide +kernel
theorem dX8_clearText_17 : decode cX8_clearText 17 = .ok (.ireturn, 1) := by decide +kernel
theorem dX8_undo_0 : decode cX8_undo 0 = .ok (.aload_n 0, 1) := by decide +kernel
theorem dX8_undo_1 : decode cX8_undo 1 = .ok (.getfield 25, 3) := by decide +kernel
theorem dX8_undo_4 : decode cX8_undo 4 = .ok (.getfield 145, 3) := by decide +kernel
theorem dX8_undo_7 : decode cX8_undo 7 = .ok (.ifCond .ne 6, 3) := by decide +kernel
theorem dX8_undo_10 : decode cX8_undo 10 = .ok (.bipush (-5), 2) := by decide +kernel
theorem dX8_undo_12 : decode cX8_undo 12 = .ok (.ireturn, 1) := by decide +kernel
theorem dX8_undo_13 : decode cX8_undo 13 = .ok (.aload_n 0, 1) := by decide +kernel
theorem dX8_undo_14 : decode cX8_undo 14 = .ok (.getfield 25, 3) := by decide +kernel
theorem dX8_undo_17 : decode cX8_undo 17 = .ok (.aload_n 0, 1) := by decide +kernel
theorem dX8_undo_18 : decode cX8_undo 18 = .ok (.getfield 12, 3) := by decide +kernel
theorem dX8_undo_21 : decode cX8_undo 21 = .ok (.invokevirtual 148, 3) := by decide +kernel
theorem dX8_undo_24 : decode cX8_undo 24 = .ok (.aload_n 0, 1) := by decide +kernel
theorem dX8_undo_25 : decode cX8_undo 25 = .ok (.getfield 25, 3) := by decide +kernel
theorem dX8_undo_28 : decode cX8_undo 28 = .ok (.getfield 145, 3) := by decide +kernel
theorem dX8_undo_31 : decode cX8_undo 31 = .ok (.ireturn, 1) := by decide +kernel
theorem dX8_keep_0 : decode cX8_keep 0 = .ok (.aload_n 0, 1) := by decide +kernel
theorem dX8_keep_1 : decode cX8_keep 1 = .ok (.getfield 19, 3) := by decide +kernel
theorem dX8_keep_4 : decode cX8_keep 4 = .ok (.aload_n 0, 1) := by decide +kernel
theorem dX8_keep_5 : decode cX8_keep 5 = .ok (.getfield 12, 3) := by decide +kernel
theorem dX8_keep_8 : decode cX8_keep 8 = .ok (.invokevirtual 151, 3) := by decide +kernel
theorem dX8_keep_11 : decode cX8_keep 11 = .ok (.aload_n 0, 1) := by decide +kernel
theorem dX8_keep_12 : decode cX8_keep 12 = .ok (.iconst 1, 1) := by decide +kernel
theorem dX8_keep_13 : decode cX8_keep 13 = .ok (.putfield 154, 3) := by decide +kernel
theorem dX8_keep_16 : decode cX8_keep 16 = .ok (.aload_n 0, 1) := by decide +kernel
theorem dX8_keep_17 : decode cX8_keep 17 = .ok (.getfield 12, 3) := by decide +kernel
theorem dX8_keep_20 : decode cX8_keep 20 = .ok (.getfield 104, 3) := by decide +kernel
theorem dX8_keep_23 : decode cX8_keep 23 = .ok (.ireturn, 1) := by decide +kernel
theorem dX8_restore_0 : decode cX8_restore 0 = .ok (.aload_n 0, 1) := by decide +kernel
theorem dX8_restore_1 : decode cX8_restore 1 = .ok (.getfield 154, 3) := by decide +kernel
theorem dX8_restore_4 : decode cX8_restore 4 = .ok (.ifCond .ne 6, 3) := by decide +kernel
theorem dX8_restore_7 : decode cX8_restore 7 = .ok (.bipush (-5), 2) := by decide +kernel
theorem dX8_restore_9 : decode cX8_restore 9 = .ok (.ireturn, 1) := by decide +kernel
theorem dX8_restore_10 : decode cX8_restore 10 = .ok (.aload_n 0, 1) := by decide +kernel
theorem dX8_restore_11 : decode cX8_restore 11 = .ok (.getfield 25, 3) := by decide +kernel
theorem dX8_restore_14 : decode cX8_restore 14 = .ok (.aload_n 0, 1) := by decide +kernel
theorem dX8_restore_15 : decode cX8_restore 15 = .ok (.getfield 12, 3) := by decide +kernel
theorem dX8_restore_18 : decode cX8_restore 18 = .ok (.invokevirtual 45, 3) := by decide +kernel
theorem dX8_restore_21 : decode cX8_restore 21 = .ok (.aload_n 0, 1) := by decide +kernel
theorem dX8_restore_22 : decode cX8_restore 22 = .ok (.getfield 12, 3) := by decide +kernel
theorem dX8_restore_25 : decode cX8_restore 25 = .ok (.aload_n 0, 1) := by decide +kernel
theorem dX8_restore_26 : decode cX8_restore 26 = .ok (.getfield 19, 3) := by decide +kernel
theorem dX8_restore_29 : decode cX8_restore 29 = .ok (.invokevirtual 151, 3) := by decide +kernel
theorem dX8_restore_32 : decode cX8_restore 32 = .ok (.aload_n 0, 1) := by decide +kernel
theorem dX8_restore_33 : decode cX8_restore 33 = .ok (.getfield 12, 3) := by decide +kernel
theorem dX8_restore_36 : decode cX8_restore 36 = .ok (.getfield 104, 3) := by decide +kernel
theorem dX8_restore_39 : decode cX8_restore 39 = .ok (.ireturn, 1) := by decide +kernel
theorem dX8_story_0 : decode cX8_story 0 = .ok (.aload_n 0, 1) := by decide +kernel
theorem dX8_story_1 : decode cX8_story 1 = .ok (.getfield 12, 3) := by decide +kernel
theorem dX8_story_4 : decode cX8_story 4 = .ok (.iload_n 1, 1) := by decide +kernel
theorem dX8_story_5 : decode cX8_story 5 = .ok (.invokevirtual 83, 3) := by decide +kernel
theorem dX8_story_8 : decode cX8_story 8 = .ok (.astore_n 3, 1) := by decide +kernel
theorem dX8_story_9 : decode cX8_story 9 = .ok (.aload_n 3, 1) := by decide +kernel
theorem dX8_story_10 : decode cX8_story 10 = .ok (.ifnonnull 5, 3) := by decide +kernel
theorem dX8_story_13 : decode cX8_story 13 = .ok (.iconst (-1), 1) := by decide +kernel
theorem dX8_story_14 : decode cX8_story 14 = .ok (.ireturn, 1) := by decide +kernel
theorem dX8_story_15 : decode cX8_story 15 = .ok (.iload_n 2, 1) := by decide +kernel
theorem dX8_story_16 : decode cX8_story 16 = .ok (.tableswitch 131 0 10 #[60, 65, 70, 75, 80, 85, 90, 95, 100, 111, 122], 60) := by decide +kernel
theorem dX8_story_76 : decode cX8_story 76 = .ok (.aload_n 3, 1) := by decide +kernel
theorem dX8_story_77 : decode cX8_story 77 = .ok (.getfield 94, 3) := by decide +kernel
theorem dX8_story_80 : decode cX8_story 80 = .ok (.ireturn, 1) := by decide +kernel
theorem dX8_story_81 : decode cX8_story 81 = .ok (.aload_n 3, 1) := by decide +kernel
theorem dX8_story_82 : decode cX8_story 82 = .ok (.getfield 157, 3) := by decide +kernel
theorem dX8_story_85 : decode cX8_story 85 = .ok (.ireturn, 1) := by decide +kernel
theorem dX8_story_86 : decode cX8_story 86 = .ok (.aload_n 3, 1) := by decide +kernel
theorem dX8_story_87 : decode cX8_story 87 = .ok (.getfield 101, 3) := by decide +kernel
theorem dX8_story_90 : decode cX8_story 90 = .ok (.ireturn, 1) := by decide +kernel
theorem dX8_story_91 : decode cX8_story 91 = .ok (.aload_n 3, 1) := by decide +kernel
theorem dX8_story_92 : decode cX8_story 92 = .ok (.getfield 92, 3) := by decide +kernel
theorem dX8_story_95 : decode cX8_story 95 = .ok (.ireturn, 1) := by decide +kernel
theorem dX8_story_96 : decode cX8_story 96 = .ok (.aload_n 3, 1) := by decide +kernel
theorem dX8_story_97 : decode cX8_story 97 = .ok (.getfield 113, 3) := by decide +kernel
theorem dX8_story_100 : decode cX8_story 100 = .ok (.ireturn, 1) := by decide +kernel
theorem dX8_story_101 : decode cX8_story 101 = .ok (.aload_n 3, 1) := by decide +kernel
theorem dX8_story_102 : decode cX8_story 102 = .ok (.getfield 160, 3) := by decide +kernel
theorem dX8_story_105 : decode cX8_story 105 = .ok (.ireturn, 1) := by decide +kernel
theorem dX8_story_106 : decode cX8_story 106 = .ok (.aload_n 3, 1) := by decide +kernel
theorem dX8_story_107 : decode cX8_story 107 = .ok (.getfield 130, 3) := by decide +kernel
theorem dX8_story_110 : decode cX8_story 110 = .ok (.ireturn, 1) := by decide +kernel
theorem dX8_story_111 : decode cX8_story 111 = .ok (.aload_n 3, 1) := by decide +kernel
theorem dX8_story_112 : decode cX8_story 112 = .ok (.getfield 163, 3) := by decide +kernel
theorem dX8_story_115 : decode cX8_story 115 = .ok (.ireturn, 1) := by decide +kernel
theorem dX8_story_116 : decode cX8_story 116 = .ok (.aload_n 0, 1) := by decide +kernel
theorem dX8_story_117 : decode cX8_story 117 = .ok (.getfield 12, 3) := by decide +kernel
theorem dX8_story_120 : decode cX8_story 120 = .ok (.iload_n 1, 1) := by decide +kernel
theorem dX8_story_121 : decode cX8_story 121 = .ok (.iconst (-1), 1) := by decide +kernel
theorem dX8_story_122 : decode cX8_story 122 = .ok (.iconst (-1), 1) := by decide +kernel
theorem dX8_story_123 : decode cX8_story 123 = .ok (.invokevirtual 66, 3) := by decide +kernel
theorem dX8_story_126 : decode cX8_story 126 = .ok (.ireturn, 1) := by decide +kernel
theorem dX8_story_127 : decode cX8_story 127 = .ok (.aload_n 0, 1) := by decide +kernel
theorem dX8_story_128 : decode cX8_story 128 = .ok (.getfield 12, 3) := by decide +kernel
theorem dX8_story_131 : decode cX8_story 131 = .ok (.iload_n 1, 1) := by decide +kernel
theorem dX8_story_132 : decode cX8_story 132 = .ok (.iconst (-1), 1) := by decide +kernel
theorem dX8_story_133 : decode cX8_story 133 = .ok (.iconst 1, 1) := by decide +kernel
theorem dX8_story_134 : decode cX8_story 134 = .ok (.invokevirtual 66, 3) := by decide +kernel
theorem dX8_story_137 : decode cX8_story 137 = .ok (.ireturn, 1) := by decide +kernel
theorem dX8_story_138 : decode cX8_story 138 = .ok (.aload_n 0, 1) := by decide +kernel
theorem dX8_story_139 : decode cX8_story 139 = .ok (.getfield 12, 3) := by decide +kernel
theorem dX8_story_142 : decode cX8_story 142 = .ok (.iload_n 1, 1) := by decide +kernel
theorem dX8_story_143 : decode cX8_story 143 = .ok (.invokevirtual 166, 3) := by decide +kernel
theorem dX8_story_146 : decode cX8_story 146 = .ok (.ireturn, 1) := by decide +kernel
theorem dX8_story_147 : decode cX8_story 147 = .ok (.bipush (-2), 2) := by decide +kernel
theorem dX8_story_149 : decode cX8_story 149 = .ok (.ireturn, 1) := by decide +kernel
theorem dX8_byline_0 : decode cX8_byline 0 = .ok (.aload_n 0, 1) := by decide +kernel
theorem dX8_byline_1 : decode cX8_byline 1 = .ok (.getfield 12, 3) := by decide +kernel
theorem dX8_byline_4 : decode cX8_byline 4 = .ok (.iload_n 1, 1) := by decide +kernel
theorem dX8_byline_5 : decode cX8_byline 5 = .ok (.invokevirtual 83, 3) := by decide +kernel
theorem dX8_byline_8 : decode cX8_byline 8 = .ok (.astore_n 3, 1) := by decide +kernel
theorem dX8_byline_9 : decode cX8_byline 9 = .ok (.aload_n 3, 1) := by decide +kernel
theorem dX8_byline_10 : decode cX8_byline 10 = .ok (.ifnonnull 5, 3) := by decide +kernel
theorem dX8_byline_13 : decode cX8_byline 13 = .ok (.iconst (-1), 1) := by decide +kernel
theorem dX8_byline_14 : decode cX8_byline 14 = .ok (.ireturn, 1) := by decide +kernel
theorem dX8_byline_15 : decode cX8_byline 15 = .ok (.iload_n 2, 1) := by decide +kernel
theorem dX8_byline_16 : decode cX8_byline 16 = .ok (.ifCond .ge 8, 3) := by decide +kernel
theorem dX8_byline_19 : decode cX8_byline 19 = .ok (.bipush (-2), 2) := by decide +kernel
theorem dX8_byline_21 : decode cX8_byline 21 = .ok (.goto 8, 3) := by decide +kernel
theorem dX8_byline_24 : decode cX8_byline 24 = .ok (.aload_n 3, 1) := by decide +kernel
theorem dX8_byline_25 : decode cX8_byline 25 = .ok (.iload_n 2, 1) := by decide +kernel
theorem dX8_byline_26 : decode cX8_byline 26 = .ok (.invokevirtual 169, 3) := by decide +kernel
theorem dX8_byline_29 : decode cX8_byline 29 = .ok (.ireturn, 1) := by decide +kernel
theorem dX8_correction_0 : decode cX8_correction 0 = .ok (.aload_n 0, 1) := by decide +kernel
theorem dX8_correction_1 : decode cX8_correction 1 = .ok (.getfield 12, 3) := by decide +kernel
theorem dX8_correction_4 : decode cX8_correction 4 = .ok (.iload_n 1, 1) := by decide +kernel
theorem dX8_correction_5 : decode cX8_correction 5 = .ok (.invokevirtual 83, 3) := by decide +kernel
theorem dX8_correction_8 : decode cX8_correction 8 = .ok (.astore_n 3, 1) := by decide +kernel
theorem dX8_correction_9 : decode cX8_correction 9 = .ok (.aload_n 3, 1) := by decide +kernel
theorem dX8_correction_10 : decode cX8_correction 10 = .ok (.ifnonnull 5, 3) := by decide +kernel
theorem dX8_correction_13 : decode cX8_correction 13 = .ok (.iconst (-1), 1) := by decide +kernel
theorem dX8_correction_14 : decode cX8_correction 14 = .ok (.ireturn, 1) := by decide +kernel
theorem dX8_correction_15 : decode cX8_correction 15 = .ok (.iload_n 2, 1) := by decide +kernel
theorem dX8_correction_16 : decode cX8_correction 16 = .ok (.ifCond .ge 8, 3) := by decide +kernel
theorem dX8_correction_19 : decode cX8_correction 19 = .ok (.bipush (-2), 2) := by decide +kernel
theorem dX8_correction_21 : decode cX8_correction 21 = .ok (.goto 8, 3) := by decide +kernel
theorem dX8_correction_24 : decode cX8_correction 24 = .ok (.aload_n 3, 1) := by decide +kernel
theorem dX8_correction_25 : decode cX8_correction 25 = .ok (.iload_n 2, 1) := by decide +kernel
theorem dX8_correction_26 : decode cX8_correction 26 = .ok (.invokevirtual 175, 3) := by decide +kernel
theorem dX8_correction_29 : decode cX8_correction 29 = .ok (.ireturn, 1) := by decide +kernel
theorem dX8_client_0 : decode cX8_client 0 = .ok (.aload_n 0, 1) := by decide +kernel
theorem dX8_client_1 : decode cX8_client 1 = .ok (.getfield 12, 3) := by decide +kernel
theorem dX8_client_4 : decode cX8_client 4 = .ok (.iload_n 1, 1) := by decide +kernel
theorem dX8_client_5 : decode cX8_client 5 = .ok (.invokevirtual 49, 3) := by decide +kernel
theorem dX8_client_8 : decode cX8_client 8 = .ok (.astore_n 3, 1) := by decide +kernel
theorem dX8_client_9 : decode cX8_client 9 = .ok (.aload_n 3, 1) := by decide +kernel
theorem dX8_client_10 : decode cX8_client 10 = .ok (.ifnonnull 5, 3) := by decide +kernel
theorem dX8_client_13 : decode cX8_client 13 = .ok (.iconst (-1), 1) := by decide +kernel
theorem dX8_client_14 : decode cX8_client 14 = .ok (.ireturn, 1) := by decide +kernel
theorem dX8_client_15 : decode cX8_client 15 = .ok (.iload_n 2, 1) := by decide +kernel
theorem dX8_client_16 : decode cX8_client 16 = .ok (.tableswitch 129 0 10 #[60, 65, 70, 75, 80, 85, 98, 103, 108, 113, 124], 60) := by decide +kernel
theorem dX8_client_76 : decode cX8_client 76 = .ok (.aload_n 3, 1) := by decide +kernel
theorem dX8_client_77 : decode cX8_client 77 = .ok (.getfield 59, 3) := by decide +kernel
theorem dX8_client_80 : decode cX8_client 80 = .ok (.ireturn, 1) := by decide +kernel
theorem dX8_client_81 : decode cX8_client 81 = .ok (.aload_n 3, 1) := by decide +kernel
theorem dX8_client_82 : decode cX8_client 82 = .ok (.getfield 178, 3) := by decide +kernel
theorem dX8_client_85 : decode cX8_client 85 = .ok (.ireturn, 1) := by decide +kernel
theorem dX8_client_86 : decode cX8_client 86 = .ok (.aload_n 3, 1) := by decide +kernel
theorem dX8_client_87 : decode cX8_client 87 = .ok (.getfield 181, 3) := by decide +kernel
theorem dX8_client_90 : decode cX8_client 90 = .ok (.ireturn, 1) := by decide +kernel
theorem dX8_client_91 : decode cX8_client 91 = .ok (.aload_n 3, 1) := by decide +kernel
theorem dX8_client_92 : decode cX8_client 92 = .ok (.getfield 184, 3) := by decide +kernel
theorem dX8_client_95 : decode cX8_client 95 = .ok (.ireturn, 1) := by decide +kernel
theorem dX8_client_96 : decode cX8_client 96 = .ok (.aload_n 3, 1) := by decide +kernel
theorem dX8_client_97 : decode cX8_client 97 = .ok (.getfield 187, 3) := by decide +kernel
theorem dX8_client_100 : decode cX8_client 100 = .ok (.ireturn, 1) := by decide +kernel
theorem dX8_client_101 : decode cX8_client 101 = .ok (.aload_n 3, 1) := by decide +kernel
theorem dX8_client_102 : decode cX8_client 102 = .ok (.getfield 62, 3) := by decide +kernel
theorem dX8_client_105 : decode cX8_client 105 = .ok (.ifCond .eq 7, 3) := by decide +kernel
theorem dX8_client_108 : decode cX8_client 108 = .ok (.iconst 1, 1) := by decide +kernel
theorem dX8_client_109 : decode cX8_client 109 = .ok (.goto 4, 3) := by decide +kernel
theorem dX8_client_112 : decode cX8_client 112 = .ok (.iconst 0, 1) := by decide +kernel
theorem dX8_client_113 : decode cX8_client 113 = .ok (.ireturn, 1) := by decide +kernel
theorem dX8_client_114 : decode cX8_client 114 = .ok (.aload_n 3, 1) := by decide +kernel
theorem dX8_client_115 : decode cX8_client 115 = .ok (.getfield 73, 3) := by decide +kernel
theorem dX8_client_118 : decode cX8_client 118 = .ok (.ireturn, 1) := by decide +kernel
theorem dX8_client_119 : decode cX8_client 119 = .ok (.aload_n 3, 1) := by decide +kernel
theorem dX8_client_120 : decode cX8_client 120 = .ok (.getfield 190, 3) := by decide +kernel
theorem dX8_client_123 : decode cX8_client 123 = .ok (.ireturn, 1) := by decide +kernel
theorem dX8_client_124 : decode cX8_client 124 = .ok (.aload_n 3, 1) := by decide +kernel
theorem dX8_client_125 : decode cX8_client 125 = .ok (.getfield 193, 3) := by decide +kernel
theorem dX8_client_128 : decode cX8_client 128 = .ok (.ireturn, 1) := by decide +kernel
theorem dX8_client_129 : decode cX8_client 129 = .ok (.aload_n 0, 1) := by decide +kernel
theorem dX8_client_130 : decode cX8_client 130 = .ok (.getfield 12, 3) := by decide +kernel
theorem dX8_client_133 : decode cX8_client 133 = .ok (.iconst (-1), 1) := by decide +kernel
theorem dX8_client_134 : decode cX8_client 134 = .ok (.iload_n 1, 1) := by decide +kernel
theorem dX8_client_135 : decode cX8_client 135 = .ok (.iconst 1, 1) := by decide +kernel
theorem dX8_client_136 : decode cX8_client 136 = .ok (.invokevirtual 66, 3) := by decide +kernel
theorem dX8_client_139 : decode cX8_client 139 = .ok (.ireturn, 1) := by decide +kernel
theorem dX8_client_140 : decode cX8_client 140 = .ok (.aload_n 3, 1) := by decide +kernel
theorem dX8_client_141 : decode cX8_client 141 = .ok (.getfield 196, 3) := by decide +kernel
theorem dX8_client_144 : decode cX8_client 144 = .ok (.ireturn, 1) := by decide +kernel
theorem dX8_client_145 : decode cX8_client 145 = .ok (.bipush (-2), 2) := by decide +kernel
theorem dX8_client_147 : decode cX8_client 147 = .ok (.ireturn, 1) := by decide +kernel
theorem dX8_person_0 : decode cX8_person 0 = .ok (.aload_n 0, 1) := by decide +kernel
theorem dX8_person_1 : decode cX8_person 1 = .ok (.getfield 12, 3) := by decide +kernel
theorem dX8_person_4 : decode cX8_person 4 = .ok (.iload_n 1, 1) := by decide +kernel
theorem dX8_person_5 : decode cX8_person 5 = .ok (.invokevirtual 199, 3) := by decide +kernel
theorem dX8_person_8 : decode cX8_person 8 = .ok (.astore_n 3, 1) := by decide +kernel
theorem dX8_person_9 : decode cX8_person 9 = .ok (.aload_n 3, 1) := by decide +kernel
theorem dX8_person_10 : decode cX8_person 10 = .ok (.ifnonnull 5, 3) := by decide +kernel
theorem dX8_person_13 : decode cX8_person 13 = .ok (.iconst (-1), 1) := by decide +kernel
theorem dX8_person_14 : decode cX8_person 14 = .ok (.ireturn, 1) := by decide +kernel
theorem dX8_person_15 : decode cX8_person 15 = .ok (.iload_n 2, 1) := by decide +kernel
theorem dX8_person_16 : decode cX8_person 16 = .ok (.tableswitch 60 0 3 #[32, 37, 42, 51], 32) := by decide +kernel
theorem dX8_person_48 : decode cX8_person 48 = .ok (.aload_n 3, 1) := by decide +kernel
theorem dX8_person_49 : decode cX8_person 49 = .ok (.getfield 203, 3) := by decide +kernel
theorem dX8_person_52 : decode cX8_person 52 = .ok (.ireturn, 1) := by decide +kernel
theorem dX8_person_53 : decode cX8_person 53 = .ok (.aload_n 3, 1) := by decide +kernel
theorem dX8_person_54 : decode cX8_person 54 = .ok (.getfield 208, 3) := by decide +kernel
theorem dX8_person_57 : decode cX8_person 57 = .ok (.ireturn, 1) := by decide +kernel
theorem dX8_person_58 : decode cX8_person 58 = .ok (.aload_n 0, 1) := by decide +kernel
theorem dX8_person_59 : decode cX8_person 59 = .ok (.getfield 12, 3) := by decide +kernel
theorem dX8_person_62 : decode cX8_person 62 = .ok (.iload_n 1, 1) := by decide +kernel
theorem dX8_person_63 : decode cX8_person 63 = .ok (.invokevirtual 211, 3) := by decide +kernel
theorem dX8_person_66 : decode cX8_person 66 = .ok (.ireturn, 1) := by decide +kernel
theorem dX8_person_67 : decode cX8_person 67 = .ok (.aload_n 0, 1) := by decide +kernel
theorem dX8_person_68 : decode cX8_person 68 = .ok (.getfield 12, 3) := by decide +kernel
theorem dX8_person_71 : decode cX8_person 71 = .ok (.iload_n 1, 1) := by decide +kernel
theorem dX8_person_72 : decode cX8_person 72 = .ok (.invokevirtual 214, 3) := by decide +kernel
theorem dX8_person_75 : decode cX8_person 75 = .ok (.ireturn, 1) := by decide +kernel
theorem dX8_person_76 : decode cX8_person 76 = .ok (.bipush (-2), 2) := by decide +kernel
theorem dX8_person_78 : decode cX8_person 78 = .ok (.ireturn, 1) := by decide +kernel
theorem dX8_copy_0 : decode cX8_copy 0 = .ok (.aload_n 0, 1) := by decide +kernel
theorem dX8_copy_1 : decode cX8_copy 1 = .ok (.getfield 12, 3) := by decide +kernel
theorem dX8_copy_4 : decode cX8_copy 4 = .ok (.iload_n 1, 1) := by decide +kernel
theorem dX8_copy_5 : decode cX8_copy 5 = .ok (.iload_n 2, 1) := by decide +kernel
theorem dX8_copy_6 : decode cX8_copy 6 = .ok (.invokevirtual 217, 3) := by decide +kernel
theorem dX8_copy_9 : decode cX8_copy 9 = .ok (.astore 4, 2) := by decide +kernel
theorem dX8_copy_11 : decode cX8_copy 11 = .ok (.aload 4, 2) := by decide +kernel
theorem dX8_copy_13 : decode cX8_copy 13 = .ok (.ifnonnull 5, 3) := by decide +kernel
theorem dX8_copy_16 : decode cX8_copy 16 = .ok (.iconst (-1), 1) := by decide +kernel
theorem dX8_copy_17 : decode cX8_copy 17 = .ok (.ireturn, 1) := by decide +kernel
theorem dX8_copy_18 : decode cX8_copy 18 = .ok (.iload_n 3, 1) := by decide +kernel
theorem dX8_copy_19 : decode cX8_copy 19 = .ok (.tableswitch 123 0 8 #[49, 55, 61, 67, 73, 83, 93, 103, 113], 49) := by decide +kernel
theorem dX8_copy_68 : decode cX8_copy 68 = .ok (.aload 4, 2) := by decide +kernel
theorem dX8_copy_70 : decode cX8_copy 70 = .ok (.getfield 221, 3) := by decide +kernel
theorem dX8_copy_73 : decode cX8_copy 73 = .ok (.ireturn, 1) := by decide +kernel
theorem dX8_copy_74 : decode cX8_copy 74 = .ok (.aload 4, 2) := by decide +kernel
theorem dX8_copy_76 : decode cX8_copy 76 = .ok (.getfield 224, 3) := by decide +kernel
theorem dX8_copy_79 : decode cX8_copy 79 = .ok (.ireturn, 1) := by decide +kernel
theorem dX8_copy_80 : decode cX8_copy 80 = .ok (.aload 4, 2) := by decide +kernel
theorem dX8_copy_82 : decode cX8_copy 82 = .ok (.getfield 227, 3) := by decide +kernel
theorem dX8_copy_85 : decode cX8_copy 85 = .ok (.ireturn, 1) := by decide +kernel
theorem dX8_copy_86 : decode cX8_copy 86 = .ok (.aload 4, 2) := by decide +kernel
theorem dX8_copy_88 : decode cX8_copy 88 = .ok (.getfield 230, 3) := by decide +kernel
theorem dX8_copy_91 : decode cX8_copy 91 = .ok (.ireturn, 1) := by decide +kernel
theorem dX8_copy_92 : decode cX8_copy 92 = .ok (.aload_n 0, 1) := by decide +kernel
theorem dX8_copy_93 : decode cX8_copy 93 = .ok (.getfield 12, 3) := by decide +kernel
theorem dX8_copy_96 : decode cX8_copy 96 = .ok (.aload 4, 2) := by decide +kernel
theorem dX8_copy_98 : decode cX8_copy 98 = .ok (.invokevirtual 231, 3) := by decide +kernel
theorem dX8_copy_101 : decode cX8_copy 101 = .ok (.ireturn, 1) := by decide +kernel
theorem dX8_copy_102 : decode cX8_copy 102 = .ok (.aload_n 0, 1) := by decide +kernel
theorem dX8_copy_103 : decode cX8_copy 103 = .ok (.getfield 12, 3) := by decide +kernel
theorem dX8_copy_106 : decode cX8_copy 106 = .ok (.aload 4, 2) := by decide +kernel
theorem dX8_copy_108 : decode cX8_copy 108 = .ok (.invokevirtual 235, 3) := by decide +kernel
theorem dX8_copy_111 : decode cX8_copy 111 = .ok (.ireturn, 1) := by decide +kernel
theorem dX8_copy_112 : decode cX8_copy 112 = .ok (.aload_n 0, 1) := by decide +kernel
theorem dX8_copy_113 : decode cX8_copy 113 = .ok (.getfield 12, 3) := by decide +kernel
theorem dX8_copy_116 : decode cX8_copy 116 = .ok (.aload 4, 2) := by decide +kernel
theorem dX8_copy_118 : decode cX8_copy 118 = .ok (.invokevirtual 238, 3) := by decide +kernel
theorem dX8_copy_121 : decode cX8_copy 121 = .ok (.ireturn, 1) := by decide +kernel
theorem dX8_copy_122 : decode cX8_copy 122 = .ok (.aload_n 0, 1) := by decide +kernel
theorem dX8_copy_123 : decode cX8_copy 123 = .ok (.getfield 12, 3) := by decide +kernel
theorem dX8_copy_126 : decode cX8_copy 126 = .ok (.aload 4, 2) := by decide +kernel
theorem dX8_copy_128 : decode cX8_copy 128 = .ok (.invokevirtual 241, 3) := by decide +kernel
theorem dX8_copy_131 : decode cX8_copy 131 = .ok (.ireturn, 1) := by decide +kernel
theorem dX8_copy_132 : decode cX8_copy 132 = .ok (.aload_n 0, 1) := by decide +kernel
theorem dX8_copy_133 : decode cX8_copy 133 = .ok (.getfield 12, 3) := by decide +kernel
theorem dX8_copy_136 : decode cX8_copy 136 = .ok (.aload 4, 2) := by decide +kernel
theorem dX8_copy_138 : decode cX8_copy 138 = .ok (.invokevirtual 244, 3) := by decide +kernel
theorem dX8_copy_141 : decode cX8_copy 141 = .ok (.ireturn, 1) := by decide +kernel
theorem dX8_copy_142 : decode cX8_copy 142 = .ok (.bipush (-2), 2) := by decide +kernel
theorem dX8_copy_144 : decode cX8_copy 144 = .ok (.ireturn, 1) := by decide +kernel
theorem dX8_copyAt_0 : decode cX8_copyAt 0 = .ok (.iload_n 1, 1) := by decide +kernel
theorem dX8_copyAt_1 : decode cX8_copyAt 1 = .ok (.ifCond .ge 6, 3) := by decide +kernel
theorem dX8_copyAt_4 : decode cX8_copyAt 4 = .ok (.bipush (-2), 2) := by decide +kernel
theorem dX8_copyAt_6 : decode cX8_copyAt 6 = .ok (.ireturn, 1) := by decide +kernel
theorem dX8_copyAt_7 : decode cX8_copyAt 7 = .ok (.aload_n 0, 1) := by decide +kernel
theorem dX8_copyAt_8 : decode cX8_copyAt 8 = .ok (.getfield 12, 3) := by decide +kernel
theorem dX8_copyAt_11 : decode cX8_copyAt 11 = .ok (.iload_n 1, 1) := by decide +kernel
theorem dX8_copyAt_12 : decode cX8_copyAt 12 = .ok (.invokevirtual 247, 3) := by decide +kernel
theorem dX8_copyAt_15 : decode cX8_copyAt 15 = .ok (.astore_n 2, 1) := by decide +kernel
theorem dX8_copyAt_16 : decode cX8_copyAt 16 = .ok (.aload_n 2, 1) := by decide +kernel
theorem dX8_copyAt_17 : decode cX8_copyAt 17 = .ok (.ifnonnull 8, 3) := by decide +kernel
theorem dX8_copyAt_20 : decode cX8_copyAt 20 = .ok (.bipush (-5), 2) := by decide +kernel
theorem dX8_copyAt_22 : decode cX8_copyAt 22 = .ok (.goto 15, 3) := by decide +kernel
theorem dX8_copyAt_25 : decode cX8_copyAt 25 = .ok (.bipush 10, 2) := by decide +kernel
theorem dX8_copyAt_27 : decode cX8_copyAt 27 = .ok (.aload_n 2, 1) := by decide +kernel
theorem dX8_copyAt_28 : decode cX8_copyAt 28 = .ok (.getfield 251, 3) := by decide +kernel
theorem dX8_copyAt_31 : decode cX8_copyAt 31 = .ok (.imul, 1) := by decide +kernel
theorem dX8_copyAt_32 : decode cX8_copyAt 32 = .ok (.aload_n 2, 1) := by decide +kernel
theorem dX8_copyAt_33 : decode cX8_copyAt 33 = .ok (.getfield 254, 3) := by decide +kernel
theorem dX8_copyAt_36 : decode cX8_copyAt 36 = .ok (.iadd, 1) := by decide +kernel
theorem dX8_copyAt_37 : decode cX8_copyAt 37 = .ok (.ireturn, 1) := by decide +kernel
theorem dX8_carriedIn_0 : decode cX8_carriedIn 0 = .ok (.aload_n 0, 1) := by decide +kernel
theorem dX8_carriedIn_1 : decode cX8_carriedIn 1 = .ok (.getfield 16, 3) := by decide +kernel
theorem dX8_carriedIn_4 : decode cX8_carriedIn 4 = .ok (.aload_n 0, 1) := by decide +kernel
theorem dX8_carriedIn_5 : decode cX8_carriedIn 5 = .ok (.getfield 12, 3) := by decide +kernel
theorem dX8_carriedIn_8 : decode cX8_carriedIn 8 = .ok (.invokevirtual 151, 3) := by decide +kernel
theorem dX8_carriedIn_11 : decode cX8_carriedIn 11 = .ok (.aload_n 0, 1) := by decide +kernel
theorem dX8_carriedIn_12 : decode cX8_carriedIn 12 = .ok (.getfield 16, 3) := by decide +kernel
theorem dX8_carriedIn_15 : decode cX8_carriedIn 15 = .ok (.iload_n 1, 1) := by decide +kernel
theorem dX8_carriedIn_16 : decode cX8_carriedIn 16 = .ok (.iload_n 2, 1) := by decide +kernel
theorem dX8_carriedIn_17 : decode cX8_carriedIn 17 = .ok (.invokevirtual 217, 3) := by decide +kernel
theorem dX8_carriedIn_20 : decode cX8_carriedIn 20 = .ok (.astore_n 3, 1) := by decide +kernel
theorem dX8_carriedIn_21 : decode cX8_carriedIn 21 = .ok (.aload_n 0, 1) := by decide +kernel
theorem dX8_carriedIn_22 : decode cX8_carriedIn 22 = .ok (.getfield 16, 3) := by decide +kernel
theorem dX8_carriedIn_25 : decode cX8_carriedIn 25 = .ok (.iload_n 1, 1) := by decide +kernel
theorem dX8_carriedIn_26 : decode cX8_carriedIn 26 = .ok (.invokevirtual 83, 3) := by decide +kernel
theorem dX8_carriedIn_29 : decode cX8_carriedIn 29 = .ok (.astore 4, 2) := by decide +kernel
theorem dX8_carriedIn_31 : decode cX8_carriedIn 31 = .ok (.aload_n 3, 1) := by decide +kernel
theorem dX8_carriedIn_32 : decode cX8_carriedIn 32 = .ok (.ifnull 8, 3) := by decide +kernel
theorem dX8_carriedIn_35 : decode cX8_carriedIn 35 = .ok (.aload 4, 2) := by decide +kernel
theorem dX8_carriedIn_37 : decode cX8_carriedIn 37 = .ok (.ifnonnull 5, 3) := by decide +kernel
theorem dX8_carriedIn_40 : decode cX8_carriedIn 40 = .ok (.iconst (-1), 1) := by decide +kernel
theorem dX8_carriedIn_41 : decode cX8_carriedIn 41 = .ok (.ireturn, 1) := by decide +kernel
theorem dX8_carriedIn_42 : decode cX8_carriedIn 42 = .ok (.iconst 0, 1) := by decide +kernel
theorem dX8_carriedIn_43 : decode cX8_carriedIn 43 = .ok (.istore 5, 2) := by decide +kernel
theorem dX8_carriedIn_45 : decode cX8_carriedIn 45 = .ok (.iload 5, 2) := by decide +kernel
theorem dX8_carriedIn_47 : decode cX8_carriedIn 47 = .ok (.bipush 100, 2) := by decide +kernel
theorem dX8_carriedIn_49 : decode cX8_carriedIn 49 = .ok (.if_icmp .gt 44, 3) := by decide +kernel
theorem dX8_carriedIn_52 : decode cX8_carriedIn 52 = .ok (.iload 5, 2) := by decide +kernel
theorem dX8_carriedIn_54 : decode cX8_carriedIn 54 = .ok (.ifCond .le 10, 3) := by decide +kernel
theorem dX8_carriedIn_57 : decode cX8_carriedIn 57 = .ok (.aload_n 0, 1) := by decide +kernel
theorem dX8_carriedIn_58 : decode cX8_carriedIn 58 = .ok (.getfield 16, 3) := by decide +kernel
theorem dX8_carriedIn_61 : decode cX8_carriedIn 61 = .ok (.invokevirtual 136, 3) := by decide +kernel
theorem dX8_carriedIn_64 : decode cX8_carriedIn 64 = .ok (.aload_n 3, 1) := by decide +kernel
theorem dX8_carriedIn_65 : decode cX8_carriedIn 65 = .ok (.getfield 221, 3) := by decide +kernel
theorem dX8_carriedIn_68 : decode cX8_carriedIn 68 = .ok (.iconst 1, 1) := by decide +kernel
theorem dX8_carriedIn_69 : decode cX8_carriedIn 69 = .ok (.if_icmp .ne 18, 3) := by decide +kernel
theorem dX8_carriedIn_72 : decode cX8_carriedIn 72 = .ok (.aload_n 3, 1) := by decide +kernel
theorem dX8_carriedIn_73 : decode cX8_carriedIn 73 = .ok (.getfield 230, 3) := by decide +kernel
theorem dX8_carriedIn_76 : decode cX8_carriedIn 76 = .ok (.aload 4, 2) := by decide +kernel
theorem dX8_carriedIn_78 : decode cX8_carriedIn 78 = .ok (.getfield 113, 3) := by decide +kernel
theorem dX8_carriedIn_81 : decode cX8_carriedIn 81 = .ok (.if_icmp .ne 6, 3) := by decide +kernel
theorem dX8_carriedIn_84 : decode cX8_carriedIn 84 = .ok (.iload 5, 2) := by decide +kernel
theorem dX8_carriedIn_86 : decode cX8_carriedIn 86 = .ok (.ireturn, 1) := by decide +kernel
theorem dX8_carriedIn_87 : decode cX8_carriedIn 87 = .ok (.iinc 5 1, 3) := by decide +kernel
theorem dX8_carriedIn_90 : decode cX8_carriedIn 90 = .ok (.goto (-45), 3) := by decide +kernel
theorem dX8_carriedIn_93 : decode cX8_carriedIn 93 = .ok (.bipush (-5), 2) := by decide +kernel
theorem dX8_carriedIn_95 : decode cX8_carriedIn 95 = .ok (.ireturn, 1) := by decide +kernel
theorem dX8_wouldCome_0 : decode cX8_wouldCome 0 = .ok (.aload_n 0, 1) := by decide +kernel
theorem dX8_wouldCome_1 : decode cX8_wouldCome 1 = .ok (.getfield 16, 3) := by decide +kernel
theorem dX8_wouldCome_4 : decode cX8_wouldCome 4 = .ok (.aload_n 0, 1) := by decide +kernel
theorem dX8_wouldCome_5 : decode cX8_wouldCome 5 = .ok (.getfield 12, 3) := by decide +kernel
theorem dX8_wouldCome_8 : decode cX8_wouldCome 8 = .ok (.invokevirtual 151, 3) := by decide +kernel
theorem dX8_wouldCome_11 : decode cX8_wouldCome 11 = .ok (.aload_n 0, 1) := by decide +kernel
theorem dX8_wouldCome_12 : decode cX8_wouldCome 12 = .ok (.getfield 16, 3) := by decide +kernel
theorem dX8_wouldCome_15 : decode cX8_wouldCome 15 = .ok (.iload_n 1, 1) := by decide +kernel
theorem dX8_wouldCome_16 : decode cX8_wouldCome 16 = .ok (.invokevirtual 49, 3) := by decide +kernel
theorem dX8_wouldCome_19 : decode cX8_wouldCome 19 = .ok (.astore_n 3, 1) := by decide +kernel
theorem dX8_wouldCome_20 : decode cX8_wouldCome 20 = .ok (.aload_n 3, 1) := by decide +kernel
theorem dX8_wouldCome_21 : decode cX8_wouldCome 21 = .ok (.ifnonnull 5, 3) := by decide +kernel
theorem dX8_wouldCome_24 : decode cX8_wouldCome 24 = .ok (.iconst (-1), 1) := by decide +kernel
theorem dX8_wouldCome_25 : decode cX8_wouldCome 25 = .ok (.ireturn, 1) := by decide +kernel
theorem dX8_wouldCome_26 : decode cX8_wouldCome 26 = .ok (.iload_n 2, 1) := by decide +kernel
theorem dX8_wouldCome_27 : decode cX8_wouldCome 27 = .ok (.iconst 1, 1) := by decide +kernel
theorem dX8_wouldCome_28 : decode cX8_wouldCome 28 = .ok (.bipush 100, 2) := by decide +kernel
theorem dX8_wouldCome_30 : decode cX8_wouldCome 30 = .ok (.invokestatic 36, 3) := by decide +kernel
theorem dX8_wouldCome_33 : decode cX8_wouldCome 33 = .ok (.ifCond .ne 6, 3) := by decide +kernel
theorem dX8_wouldCome_36 : decode cX8_wouldCome 36 = .ok (.bipush (-2), 2) := by decide +kernel
theorem dX8_wouldCome_38 : decode cX8_wouldCome 38 = .ok (.ireturn, 1) := by decide +kernel
theorem dX8_wouldCome_39 : decode cX8_wouldCome 39 = .ok (.aload_n 3, 1) := by decide +kernel
theorem dX8_wouldCome_40 : decode cX8_wouldCome 40 = .ok (.getfield 193, 3) := by decide +kernel
theorem dX8_wouldCome_43 : decode cX8_wouldCome 43 = .ok (.istore 4, 2) := by decide +kernel
theorem dX8_wouldCome_45 : decode cX8_wouldCome 45 = .ok (.iconst 0, 1) := by decide +kernel
theorem dX8_wouldCome_46 : decode cX8_wouldCome 46 = .ok (.istore 5, 2) := by decide +kernel
theorem dX8_wouldCome_48 : decode cX8_wouldCome 48 = .ok (.iload 5, 2) := by decide +kernel
theorem dX8_wouldCome_50 : decode cX8_wouldCome 50 = .ok (.iload_n 2, 1) := by decide +kernel
theorem dX8_wouldCome_51 : decode cX8_wouldCome 51 = .ok (.if_icmp .ge 16, 3) := by decide +kernel
theorem dX8_wouldCome_54 : decode cX8_wouldCome 54 = .ok (.aload_n 0, 1) := by decide +kernel
theorem dX8_wouldCome_55 : decode cX8_wouldCome 55 = .ok (.getfield 16, 3) := by decide +kernel
theorem dX8_wouldCome_58 : decode cX8_wouldCome 58 = .ok (.invokevirtual 136, 3) := by decide +kernel
theorem dX8_wouldCome_61 : decode cX8_wouldCome 61 = .ok (.iinc 5 1, 3) := by decide +kernel
theorem dX8_wouldCome_64 : decode cX8_wouldCome 64 = .ok (.goto (-16), 3) := by decide +kernel
theorem dX8_wouldCome_67 : decode cX8_wouldCome 67 = .ok (.aload_n 3, 1) := by decide +kernel
theorem dX8_wouldCome_68 : decode cX8_wouldCome 68 = .ok (.getfield 193, 3) := by decide +kernel
theorem dX8_wouldCome_71 : decode cX8_wouldCome 71 = .ok (.iload 4, 2) := by decide +kernel
theorem dX8_wouldCome_73 : decode cX8_wouldCome 73 = .ok (.isub, 1) := by decide +kernel
theorem dX8_wouldCome_74 : decode cX8_wouldCome 74 = .ok (.ireturn, 1) := by decide +kernel
theorem dX8_count_0 : decode cX8_count 0 = .ok (.iload_n 1, 1) := by decide +kernel
theorem dX8_count_1 : decode cX8_count 1 = .ok (.tableswitch 168 0 14 #[75, 83, 91, 99, 107, 107, 107, 107, 107, 120, 128, 136, 144, 152, 160], 75) := by decide +kernel
theorem dX8_count_76 : decode cX8_count 76 = .ok (.aload_n 0, 1) := by decide +kernel
theorem dX8_count_77 : decode cX8_count 77 = .ok (.getfield 12, 3) := by decide +kernel
theorem dX8_count_80 : decode cX8_count 80 = .ok (.getfield 104, 3) := by decide +kernel
theorem dX8_count_83 : decode cX8_count 83 = .ok (.ireturn, 1) := by decide +kernel
theorem dX8_count_84 : decode cX8_count 84 = .ok (.aload_n 0, 1) := by decide +kernel
theorem dX8_count_85 : decode cX8_count 85 = .ok (.getfield 12, 3) := by decide +kernel
theorem dX8_count_88 : decode cX8_count 88 = .ok (.getfield 41, 3) := by decide +kernel
theorem dX8_count_91 : decode cX8_count 91 = .ok (.ireturn, 1) := by decide +kernel
theorem dX8_count_92 : decode cX8_count 92 = .ok (.aload_n 0, 1) := by decide +kernel
theorem dX8_count_93 : decode cX8_count 93 = .ok (.getfield 12, 3) := by decide +kernel
theorem dX8_count_96 : decode cX8_count 96 = .ok (.getfield 80, 3) := by decide +kernel
theorem dX8_count_99 : decode cX8_count 99 = .ok (.ireturn, 1) := by decide +kernel
theorem dX8_count_100 : decode cX8_count 100 = .ok (.aload_n 0, 1) := by decide +kernel
theorem dX8_count_101 : decode cX8_count 101 = .ok (.getfield 12, 3) := by decide +kernel
theorem dX8_count_104 : decode cX8_count 104 = .ok (.getfield 260, 3) := by decide +kernel
theorem dX8_count_107 : decode cX8_count 107 = .ok (.ireturn, 1) := by decide +kernel
theorem dX8_count_108 : decode cX8_count 108 = .ok (.aload_n 0, 1) := by decide +kernel
theorem dX8_count_109 : decode cX8_count 109 = .ok (.getfield 12, 3) := by decide +kernel
theorem dX8_count_112 : decode cX8_count 112 = .ok (.iconst (-1), 1) := by decide +kernel
theorem dX8_count_113 : decode cX8_count 113 = .ok (.iconst (-1), 1) := by decide +kernel
theorem dX8_count_114 : decode cX8_count 114 = .ok (.iload_n 1, 1) := by decide +kernel
theorem dX8_count_115 : decode cX8_count 115 = .ok (.iconst 4, 1) := by decide +kernel
theorem dX8_count_116 : decode cX8_count 116 = .ok (.isub, 1) := by decide +kernel
theorem dX8_count_117 : decode cX8_count 117 = .ok (.invokevirtual 66, 3) := by decide +kernel
theorem dX8_count_120 : decode cX8_count 120 = .ok (.ireturn, 1) := by decide +kernel
theorem dX8_count_121 : decode cX8_count 121 = .ok (.aload_n 0, 1) := by decide +kernel
theorem dX8_count_122 : decode cX8_count 122 = .ok (.getfield 12, 3) := by decide +kernel
theorem dX8_count_125 : decode cX8_count 125 = .ok (.invokevirtual 263, 3) := by decide +kernel
theorem dX8_count_128 : decode cX8_count 128 = .ok (.ireturn, 1) := by decide +kernel
theorem dX8_count_129 : decode cX8_count 129 = .ok (.aload_n 0, 1) := by decide +kernel
theorem dX8_count_130 : decode cX8_count 130 = .ok (.getfield 12, 3) := by decide +kernel
theorem dX8_count_133 : decode cX8_count 133 = .ok (.getfield 266, 3) := by decide +kernel
theorem dX8_count_136 : decode cX8_count 136 = .ok (.ireturn, 1) := by decide +kernel
theorem dX8_count_137 : decode cX8_count 137 = .ok (.aload_n 0, 1) := by decide +kernel
theorem dX8_count_138 : decode cX8_count 138 = .ok (.getfield 12, 3) := by decide +kernel
theorem dX8_count_141 : decode cX8_count 141 = .ok (.invokevirtual 269, 3) := by decide +kernel
theorem dX8_count_144 : decode cX8_count 144 = .ok (.ireturn, 1) := by decide +kernel
theorem dX8_count_145 : decode cX8_count 145 = .ok (.aload_n 0, 1) := by decide +kernel
theorem dX8_count_146 : decode cX8_count 146 = .ok (.getfield 12, 3) := by decide +kernel
theorem dX8_count_149 : decode cX8_count 149 = .ok (.getfield 70, 3) := by decide +kernel
theorem dX8_count_152 : decode cX8_count 152 = .ok (.ireturn, 1) := by decide +kernel
theorem dX8_count_153 : decode cX8_count 153 = .ok (.aload_n 0, 1) := by decide +kernel
theorem dX8_count_154 : decode cX8_count 154 = .ok (.getfield 25, 3) := by decide +kernel
theorem dX8_count_157 : decode cX8_count 157 = .ok (.getfield 145, 3) := by decide +kernel
theorem dX8_count_160 : decode cX8_count 160 = .ok (.ireturn, 1) := by decide +kernel
theorem dX8_count_161 : decode cX8_count 161 = .ok (.aload_n 0, 1) := by decide +kernel
theorem dX8_count_162 : decode cX8_count 162 = .ok (.getfield 32, 3) := by decide +kernel
theorem dX8_count_165 : decode cX8_count 165 = .ok (.getfield 139, 3) := by decide +kernel
theorem dX8_count_168 : decode cX8_count 168 = .ok (.ireturn, 1) := by decide +kernel
theorem dX8_count_169 : decode cX8_count 169 = .ok (.bipush (-2), 2) := by decide +kernel
theorem dX8_count_171 : decode cX8_count 171 = .ok (.ireturn, 1) := by decide +kernel
