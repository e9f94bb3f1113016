theorem dX0_init_0 : decode cX0_init 0 = .ok (.aload_n 0, 1) := by decide +kernel
theorem dX0_init_1 : decode cX0_init 1 = .ok (.invokespecial 1, 3) := by decide +kernel
theorem dX0_init_4 : decode cX0_init 4 = .ok (.return_, 1) := by decide +kernel
theorem dX0_begin_0 : decode cX0_begin 0 = .ok (.aload_n 0, 1) := by decide +kernel
theorem dX0_begin_1 : decode cX0_begin 1 = .ok (.iload_n 1, 1) := by decide +kernel
theorem dX0_begin_2 : decode cX0_begin 2 = .ok (.putfield 7, 3) := by decide +kernel
theorem dX0_begin_5 : decode cX0_begin 5 = .ok (.aload_n 0, 1) := by decide +kernel
theorem dX0_begin_6 : decode cX0_begin 6 = .ok (.iload_n 2, 1) := by decide +kernel
theorem dX0_begin_7 : decode cX0_begin 7 = .ok (.putfield 13, 3) := by decide +kernel
theorem dX0_begin_10 : decode cX0_begin 10 = .ok (.aload_n 0, 1) := by decide +kernel
theorem dX0_begin_11 : decode cX0_begin 11 = .ok (.iload_n 3, 1) := by decide +kernel
theorem dX0_begin_12 : decode cX0_begin 12 = .ok (.putfield 16, 3) := by decide +kernel
theorem dX0_begin_15 : decode cX0_begin 15 = .ok (.aload_n 0, 1) := by decide +kernel
theorem dX0_begin_16 : decode cX0_begin 16 = .ok (.iload 4, 2) := by decide +kernel
theorem dX0_begin_18 : decode cX0_begin 18 = .ok (.putfield 19, 3) := by decide +kernel
theorem dX0_begin_21 : decode cX0_begin 21 = .ok (.aload_n 0, 1) := by decide +kernel
theorem dX0_begin_22 : decode cX0_begin 22 = .ok (.iload 5, 2) := by decide +kernel
theorem dX0_begin_24 : decode cX0_begin 24 = .ok (.putfield 22, 3) := by decide +kernel
theorem dX0_begin_27 : decode cX0_begin 27 = .ok (.aload_n 0, 1) := by decide +kernel
theorem dX0_begin_28 : decode cX0_begin 28 = .ok (.iconst 1, 1) := by decide +kernel
theorem dX0_begin_29 : decode cX0_begin 29 = .ok (.putfield 25, 3) := by decide +kernel
theorem dX0_begin_32 : decode cX0_begin 32 = .ok (.aload_n 0, 1) := by decide +kernel
theorem dX0_begin_33 : decode cX0_begin 33 = .ok (.iconst 0, 1) := by decide +kernel
theorem dX0_begin_34 : decode cX0_begin 34 = .ok (.putfield 29, 3) := by decide +kernel
theorem dX0_begin_37 : decode cX0_begin 37 = .ok (.aload_n 0, 1) := by decide +kernel
theorem dX0_begin_38 : decode cX0_begin 38 = .ok (.iconst 0, 1) := by decide +kernel
theorem dX0_begin_39 : decode cX0_begin 39 = .ok (.putfield 32, 3) := by decide +kernel
theorem dX0_begin_42 : decode cX0_begin 42 = .ok (.aload_n 0, 1) := by decide +kernel
theorem dX0_begin_43 : decode cX0_begin 43 = .ok (.iconst 0, 1) := by decide +kernel
theorem dX0_begin_44 : decode cX0_begin 44 = .ok (.putfield 35, 3) := by decide +kernel
theorem dX0_begin_47 : decode cX0_begin 47 = .ok (.aload_n 0, 1) := by decide +kernel
theorem dX0_begin_48 : decode cX0_begin 48 = .ok (.iconst 0, 1) := by decide +kernel
theorem dX0_begin_49 : decode cX0_begin 49 = .ok (.putfield 38, 3) := by decide +kernel
theorem dX0_begin_52 : decode cX0_begin 52 = .ok (.return_, 1) := by decide +kernel
theorem dX0_copyFrom_0 : decode cX0_copyFrom 0 = .ok (.aload_n 0, 1) := by decide +kernel
theorem dX0_copyFrom_1 : decode cX0_copyFrom 1 = .ok (.aload_n 1, 1) := by decide +kernel
theorem dX0_copyFrom_2 : decode cX0_copyFrom 2 = .ok (.getfield 7, 3) := by decide +kernel
theorem dX0_copyFrom_5 : decode cX0_copyFrom 5 = .ok (.putfield 7, 3) := by decide +kernel
theorem dX0_copyFrom_8 : decode cX0_copyFrom 8 = .ok (.aload_n 0, 1) := by decide +kernel
theorem dX0_copyFrom_9 : decode cX0_copyFrom 9 = .ok (.aload_n 1, 1) := by decide +kernel
theorem dX0_copyFrom_10 : decode cX0_copyFrom 10 = .ok (.getfield 13, 3) := by decide +kernel
theorem dX0_copyFrom_13 : decode cX0_copyFrom 13 = .ok (.putfield 13, 3) := by decide +kernel
theorem dX0_copyFrom_16 : decode cX0_copyFrom 16 = .ok (.aload_n 0, 1) := by decide +kernel
theorem dX0_copyFrom_17 : decode cX0_copyFrom 17 = .ok (.aload_n 1, 1) := by decide +kernel
theorem dX0_copyFrom_18 : decode cX0_copyFrom 18 = .ok (.getfield 16, 3) := by decide +kernel
theorem dX0_copyFrom_21 : decode cX0_copyFrom 21 = .ok (.putfield 16, 3) := by decide +kernel
theorem dX0_copyFrom_24 : decode cX0_copyFrom 24 = .ok (.aload_n 0, 1) := by decide +kernel
theorem dX0_copyFrom_25 : decode cX0_copyFrom 25 = .ok (.aload_n 1, 1) := by decide +kernel
theorem dX0_copyFrom_26 : decode cX0_copyFrom 26 = .ok (.getfield 19, 3) := by decide +kernel
theorem dX0_copyFrom_29 : decode cX0_copyFrom 29 = .ok (.putfield 19, 3) := by decide +kernel
theorem dX0_copyFrom_32 : decode cX0_copyFrom 32 = .ok (.aload_n 0, 1) := by decide +kernel
theorem dX0_copyFrom_33 : decode cX0_copyFrom 33 = .ok (.aload_n 1, 1) := by decide +kernel
theorem dX0_copyFrom_34 : decode cX0_copyFrom 34 = .ok (.getfield 22, 3) := by decide +kernel
theorem dX0_copyFrom_37 : decode cX0_copyFrom 37 = .ok (.putfield 22, 3) := by decide +kernel
theorem dX0_copyFrom_40 : decode cX0_copyFrom 40 = .ok (.aload_n 0, 1) := by decide +kernel
theorem dX0_copyFrom_41 : decode cX0_copyFrom 41 = .ok (.aload_n 1, 1) := by decide +kernel
theorem dX0_copyFrom_42 : decode cX0_copyFrom 42 = .ok (.getfield 25, 3) := by decide +kernel
theorem dX0_copyFrom_45 : decode cX0_copyFrom 45 = .ok (.putfield 25, 3) := by decide +kernel
theorem dX0_copyFrom_48 : decode cX0_copyFrom 48 = .ok (.aload_n 0, 1) := by decide +kernel
theorem dX0_copyFrom_49 : decode cX0_copyFrom 49 = .ok (.aload_n 1, 1) := by decide +kernel
theorem dX0_copyFrom_50 : decode cX0_copyFrom 50 = .ok (.getfield 29, 3) := by decide +kernel
theorem dX0_copyFrom_53 : decode cX0_copyFrom 53 = .ok (.putfield 29, 3) := by decide +kernel
theorem dX0_copyFrom_56 : decode cX0_copyFrom 56 = .ok (.aload_n 0, 1) := by decide +kernel
theorem dX0_copyFrom_57 : decode cX0_copyFrom 57 = .ok (.aload_n 1, 1) := by decide +kernel
theorem dX0_copyFrom_58 : decode cX0_copyFrom 58 = .ok (.getfield 32, 3) := by decide +kernel
theorem dX0_copyFrom_61 : decode cX0_copyFrom 61 = .ok (.putfield 32, 3) := by decide +kernel
theorem dX0_copyFrom_64 : decode cX0_copyFrom 64 = .ok (.aload_n 0, 1) := by decide +kernel
theorem dX0_copyFrom_65 : decode cX0_copyFrom 65 = .ok (.aload_n 1, 1) := by decide +kernel
theorem dX0_copyFrom_66 : decode cX0_copyFrom 66 = .ok (.getfield 35, 3) := by decide +kernel
theorem dX0_copyFrom_69 : decode cX0_copyFrom 69 = .ok (.putfield 35, 3) := by decide +kernel
theorem dX0_copyFrom_72 : decode cX0_copyFrom 72 = .ok (.aload_n 0, 1) := by decide +kernel
theorem dX0_copyFrom_73 : decode cX0_copyFrom 73 = .ok (.aload_n 1, 1) := by decide +kernel
theorem dX0_copyFrom_74 : decode cX0_copyFrom 74 = .ok (.getfield 38, 3) := by decide +kernel
theorem dX0_copyFrom_77 : decode cX0_copyFrom 77 = .ok (.putfield 38, 3) := by decide +kernel
theorem dX0_copyFrom_80 : decode cX0_copyFrom 80 = .ok (.return_, 1) := by decide +kernel
theorem dX0_hasTopic_0 : decode cX0_hasTopic 0 = .ok (.aload_n 0, 1) := by decide +kernel
theorem dX0_hasTopic_1 : decode cX0_hasTopic 1 = .ok (.getfield 7, 3) := by decide +kernel
theorem dX0_hasTopic_4 : decode cX0_hasTopic 4 = .ok (.iload_n 1, 1) := by decide +kernel
theorem dX0_hasTopic_5 : decode cX0_hasTopic 5 = .ok (.ishr, 1) := by decide +kernel
theorem dX0_hasTopic_6 : decode cX0_hasTopic 6 = .ok (.iconst 1, 1) := by decide +kernel
theorem dX0_hasTopic_7 : decode cX0_hasTopic 7 = .ok (.iand, 1) := by decide +kernel
theorem dX0_hasTopic_8 : decode cX0_hasTopic 8 = .ok (.iconst 1, 1) := by decide +kernel
theorem dX0_hasTopic_9 : decode cX0_hasTopic 9 = .ok (.if_icmp .ne 7, 3) := by decide +kernel
theorem dX0_hasTopic_12 : decode cX0_hasTopic 12 = .ok (.iconst 1, 1) := by decide +kernel
theorem dX0_hasTopic_13 : decode cX0_hasTopic 13 = .ok (.goto 4, 3) := by decide +kernel
theorem dX0_hasTopic_16 : decode cX0_hasTopic 16 = .ok (.iconst 0, 1) := by decide +kernel
theorem dX0_hasTopic_17 : decode cX0_hasTopic 17 = .ok (.ireturn, 1) := by decide +kernel
theorem dX0_canGetCopy_0 : decode cX0_canGetCopy 0 = .ok (.aload_n 0, 1) := by decide +kernel
theorem dX0_canGetCopy_1 : decode cX0_canGetCopy 1 = .ok (.getfield 25, 3) := by decide +kernel
theorem dX0_canGetCopy_4 : decode cX0_canGetCopy 4 = .ok (.ifCond .eq 18, 3) := by decide +kernel
theorem dX0_canGetCopy_7 : decode cX0_canGetCopy 7 = .ok (.aload_n 0, 1) := by decide +kernel
theorem dX0_canGetCopy_8 : decode cX0_canGetCopy 8 = .ok (.getfield 32, 3) := by decide +kernel
theorem dX0_canGetCopy_11 : decode cX0_canGetCopy 11 = .ok (.aload_n 0, 1) := by decide +kernel
theorem dX0_canGetCopy_12 : decode cX0_canGetCopy 12 = .ok (.getfield 19, 3) := by decide +kernel
theorem dX0_canGetCopy_15 : decode cX0_canGetCopy 15 = .ok (.if_icmp .ge 7, 3) := by decide +kernel
theorem dX0_canGetCopy_18 : decode cX0_canGetCopy 18 = .ok (.iconst 1, 1) := by decide +kernel
theorem dX0_canGetCopy_19 : decode cX0_canGetCopy 19 = .ok (.goto 4, 3) := by decide +kernel
theorem dX0_canGetCopy_22 : decode cX0_canGetCopy 22 = .ok (.iconst 0, 1) := by decide +kernel
theorem dX0_canGetCopy_23 : decode cX0_canGetCopy 23 = .ok (.ireturn, 1) := by decide +kernel
theorem dX1_init_0 : decode cX1_init 0 = .ok (.aload_n 0, 1) := by decide +kernel
theorem dX1_init_1 : decode cX1_init 1 = .ok (.invokespecial 3, 3) := by decide +kernel
theorem dX1_init_4 : decode cX1_init 4 = .ok (.return_, 1) := by decide +kernel
theorem dX1_begin_0 : decode cX1_begin 0 = .ok (.aload_n 0, 1) := by decide +kernel
theorem dX1_begin_1 : decode cX1_begin 1 = .ok (.iload_n 1, 1) := by decide +kernel
theorem dX1_begin_2 : decode cX1_begin 2 = .ok (.putfield 9, 3) := by decide +kernel
theorem dX1_begin_5 : decode cX1_begin 5 = .ok (.aload_n 0, 1) := by decide +kernel
theorem dX1_begin_6 : decode cX1_begin 6 = .ok (.iload_n 2, 1) := by decide +kernel
theorem dX1_begin_7 : decode cX1_begin 7 = .ok (.putfield 15, 3) := by decide +kernel
theorem dX1_begin_10 : decode cX1_begin 10 = .ok (.aload_n 0, 1) := by decide +kernel
theorem dX1_begin_11 : decode cX1_begin 11 = .ok (.iconst 0, 1) := by decide +kernel
theorem dX1_begin_12 : decode cX1_begin 12 = .ok (.putfield 18, 3) := by decide +kernel
theorem dX1_begin_15 : decode cX1_begin 15 = .ok (.aload_n 0, 1) := by decide +kernel
theorem dX1_begin_16 : decode cX1_begin 16 = .ok (.iload_n 3, 1) := by decide +kernel
theorem dX1_begin_17 : decode cX1_begin 17 = .ok (.putfield 21, 3) := by decide +kernel
theorem dX1_begin_20 : decode cX1_begin 20 = .ok (.aload_n 0, 1) := by decide +kernel
theorem dX1_begin_21 : decode cX1_begin 21 = .ok (.bipush (-5), 2) := by decide +kernel
theorem dX1_begin_23 : decode cX1_begin 23 = .ok (.putfield 24, 3) := by decide +kernel
theorem dX1_begin_26 : decode cX1_begin 26 = .ok (.aload_n 0, 1) := by decide +kernel
theorem dX1_begin_27 : decode cX1_begin 27 = .ok (.bipush (-5), 2) := by decide +kernel
theorem dX1_begin_29 : decode cX1_begin 29 = .ok (.putfield 27, 3) := by decide +kernel
theorem dX1_begin_32 : decode cX1_begin 32 = .ok (.return_, 1) := by decide +kernel
theorem dX1_isOver_0 : decode cX1_isOver 0 = .ok (.aload_n 0, 1) := by decide +kernel
theorem dX1_isOver_1 : decode cX1_isOver 1 = .ok (.getfield 18, 3) := by decide +kernel
theorem dX1_isOver_4 : decode cX1_isOver 4 = .ok (.ifCond .eq 15, 3) := by decide +kernel
theorem dX1_isOver_7 : decode cX1_isOver 7 = .ok (.aload_n 0, 1) := by decide +kernel
theorem dX1_isOver_8 : decode cX1_isOver 8 = .ok (.getfield 18, 3) := by decide +kernel
theorem dX1_isOver_11 : decode cX1_isOver 11 = .ok (.iconst 1, 1) := by decide +kernel
theorem dX1_isOver_12 : decode cX1_isOver 12 = .ok (.if_icmp .eq 7, 3) := by decide +kernel
theorem dX1_isOver_15 : decode cX1_isOver 15 = .ok (.iconst 1, 1) := by decide +kernel
theorem dX1_isOver_16 : decode cX1_isOver 16 = .ok (.goto 4, 3) := by decide +kernel
theorem dX1_isOver_19 : decode cX1_isOver 19 = .ok (.iconst 0, 1) := by decide +kernel
theorem dX1_isOver_20 : decode cX1_isOver 20 = .ok (.ireturn, 1) := by decide +kernel
theorem dX1_copyFrom_0 : decode cX1_copyFrom 0 = .ok (.aload_n 0, 1) := by decide +kernel
theorem dX1_copyFrom_1 : decode cX1_copyFrom 1 = .ok (.aload_n 1, 1) := by decide +kernel
theorem dX1_copyFrom_2 : decode cX1_copyFrom 2 = .ok (.getfield 9, 3) := by decide +kernel
theorem dX1_copyFrom_5 : decode cX1_copyFrom 5 = .ok (.putfield 9, 3) := by decide +kernel
theorem dX1_copyFrom_8 : decode cX1_copyFrom 8 = .ok (.aload_n 0, 1) := by decide +kernel
theorem dX1_copyFrom_9 : decode cX1_copyFrom 9 = .ok (.aload_n 1, 1) := by decide +kernel
theorem dX1_copyFrom_10 : decode cX1_copyFrom 10 = .ok (.getfield 15, 3) := by decide +kernel
theorem dX1_copyFrom_13 : decode cX1_copyFrom 13 = .ok (.putfield 15, 3) := by decide +kernel
theorem dX1_copyFrom_16 : decode cX1_copyFrom 16 = .ok (.aload_n 0, 1) := by decide +kernel
theorem dX1_copyFrom_17 : decode cX1_copyFrom 17 = .ok (.aload_n 1, 1) := by decide +kernel
theorem dX1_copyFrom_18 : decode cX1_copyFrom 18 = .ok (.getfield 18, 3) := by decide +kernel
theorem dX1_copyFrom_21 : decode cX1_copyFrom 21 = .ok (.putfield 18, 3) := by decide +kernel
theorem dX1_copyFrom_24 : decode cX1_copyFrom 24 = .ok (.aload_n 0, 1) := by decide +kernel
theorem dX1_copyFrom_25 : decode cX1_copyFrom 25 = .ok (.aload_n 1, 1) := by decide +kernel
theorem dX1_copyFrom_26 : decode cX1_copyFrom 26 = .ok (.getfield 21, 3) := by decide +kernel
theorem dX1_copyFrom_29 : decode cX1_copyFrom 29 = .ok (.putfield 21, 3) := by decide +kernel
theorem dX1_copyFrom_32 : decode cX1_copyFrom 32 = .ok (.aload_n 0, 1) := by decide +kernel
theorem dX1_copyFrom_33 : decode cX1_copyFrom 33 = .ok (.aload_n 1, 1) := by decide +kernel
theorem dX1_copyFrom_34 : decode cX1_copyFrom 34 = .ok (.getfield 24, 3) := by decide +kernel
theorem dX1_copyFrom_37 : decode cX1_copyFrom 37 = .ok (.putfield 24, 3) := by decide +kernel
theorem dX1_copyFrom_40 : decode cX1_copyFrom 40 = .ok (.aload_n 0, 1) := by decide +kernel
theorem dX1_copyFrom_41 : decode cX1_copyFrom 41 = .ok (.aload_n 1, 1) := by decide +kernel
theorem dX1_copyFrom_42 : decode cX1_copyFrom 42 = .ok (.getfield 27, 3) := by decide +kernel
theorem dX1_copyFrom_45 : decode cX1_copyFrom 45 = .ok (.putfield 27, 3) := by decide +kernel
theorem dX1_copyFrom_48 : decode cX1_copyFrom 48 = .ok (.return_, 1) := by decide +kernel
theorem dX2_init_0 : decode cX2_init 0 = .ok (.aload_n 0, 1) := by decide +kernel
theorem dX2_init_1 : decode cX2_init 1 = .ok (.invokespecial 3, 3) := by decide +kernel
theorem dX2_init_4 : decode cX2_init 4 = .ok (.aload_n 0, 1) := by decide +kernel
theorem dX2_init_5 : decode cX2_init 5 = .ok (.iconst 4, 1) := by decide +kernel
theorem dX2_init_6 : decode cX2_init 6 = .ok (.anewarray 9, 3) := by decide +kernel
theorem dX2_init_9 : decode cX2_init 9 = .ok (.putfield 11, 3) := by decide +kernel
theorem dX2_init_12 : decode cX2_init 12 = .ok (.iconst 0, 1) := by decide +kernel
theorem dX2_init_13 : decode cX2_init 13 = .ok (.istore_n 1, 1) := by decide +kernel
theorem dX2_init_14 : decode cX2_init 14 = .ok (.iload_n 1, 1) := by decide +kernel
theorem dX2_init_15 : decode cX2_init 15 = .ok (.aload_n 0, 1) := by decide +kernel
theorem dX2_init_16 : decode cX2_init 16 = .ok (.getfield 11, 3) := by decide +kernel
theorem dX2_init_19 : decode cX2_init 19 = .ok (.arraylength, 1) := by decide +kernel
theorem dX2_init_20 : decode cX2_init 20 = .ok (.if_icmp .ge 22, 3) := by decide +kernel
theorem dX2_init_23 : decode cX2_init 23 = .ok (.aload_n 0, 1) := by decide +kernel
theorem dX2_init_24 : decode cX2_init 24 = .ok (.getfield 11, 3) := by decide +kernel
theorem dX2_init_27 : decode cX2_init 27 = .ok (.iload_n 1, 1) := by decide +kernel
theorem dX2_init_28 : decode cX2_init 28 = .ok (.new 9, 3) := by decide +kernel
theorem dX2_init_31 : decode cX2_init 31 = .ok (.dup, 1) := by decide +kernel
theorem dX2_init_32 : decode cX2_init 32 = .ok (.invokespecial 17, 3) := by decide +kernel
theorem dX2_init_35 : decode cX2_init 35 = .ok (.aastore, 1) := by decide +kernel
theorem dX2_init_36 : decode cX2_init 36 = .ok (.iinc 1 1, 3) := by decide +kernel
theorem dX2_init_39 : decode cX2_init 39 = .ok (.goto (-25), 3) := by decide +kernel
theorem dX2_init_42 : decode cX2_init 42 = .ok (.return_, 1) := by decide +kernel
theorem dX2_remember_0 : decode cX2_remember 0 = .ok (.aload_n 0, 1) := by decide +kernel
theorem dX2_remember_1 : decode cX2_remember 1 = .ok (.getfield 18, 3) := by decide +kernel
theorem dX2_remember_4 : decode cX2_remember 4 = .ok (.aload_n 0, 1) := by decide +kernel
theorem dX2_remember_5 : decode cX2_remember 5 = .ok (.getfield 11, 3) := by decide +kernel
theorem dX2_remember_8 : decode cX2_remember 8 = .ok (.arraylength, 1) := by decide +kernel
theorem dX2_remember_9 : decode cX2_remember 9 = .ok (.if_icmp .lt 7, 3) := by decide +kernel
theorem dX2_remember_12 : decode cX2_remember 12 = .ok (.aload_n 0, 1) := by decide +kernel
theorem dX2_remember_13 : decode cX2_remember 13 = .ok (.invokevirtual 22, 3) := by decide +kernel
theorem dX2_remember_16 : decode cX2_remember 16 = .ok (.aload_n 0, 1) := by decide +kernel
theorem dX2_remember_17 : decode cX2_remember 17 = .ok (.getfield 18, 3) := by decide +kernel
theorem dX2_remember_20 : decode cX2_remember 20 = .ok (.aload_n 0, 1) := by decide +kernel
theorem dX2_remember_21 : decode cX2_remember 21 = .ok (.getfield 11, 3) := by decide +kernel
theorem dX2_remember_24 : decode cX2_remember 24 = .ok (.arraylength, 1) := by decide +kernel
theorem dX2_remember_25 : decode cX2_remember 25 = .ok (.invokestatic 25, 3) := by decide +kernel
theorem dX2_remember_28 : decode cX2_remember 28 = .ok (.ifCond .eq 15, 3) := by decide +kernel
theorem dX2_remember_31 : decode cX2_remember 31 = .ok (.aload_n 0, 1) := by decide +kernel
theorem dX2_remember_32 : decode cX2_remember 32 = .ok (.getfield 11, 3) := by decide +kernel
theorem dX2_remember_35 : decode cX2_remember 35 = .ok (.aload_n 0, 1) := by decide +kernel
theorem dX2_remember_36 : decode cX2_remember 36 = .ok (.getfield 18, 3) := by decide +kernel
theorem dX2_remember_39 : decode cX2_remember 39 = .ok (.aaload, 1) := by decide +kernel
theorem dX2_remember_40 : decode cX2_remember 40 = .ok (.goto 4, 3) := by decide +kernel
theorem dX2_remember_43 : decode cX2_remember 43 = .ok (.aconst_null, 1) := by decide +kernel
theorem dX2_remember_44 : decode cX2_remember 44 = .ok (.astore_n 2, 1) := by decide +kernel
theorem dX2_remember_45 : decode cX2_remember 45 = .ok (.aload_n 2, 1) := by decide +kernel
theorem dX2_remember_46 : decode cX2_remember 46 = .ok (.ifnull 18, 3) := by decide +kernel
theorem dX2_remember_49 : decode cX2_remember 49 = .ok (.aload_n 2, 1) := by decide +kernel
theorem dX2_remember_50 : decode cX2_remember 50 = .ok (.aload_n 1, 1) := by decide +kernel
theorem dX2_remember_51 : decode cX2_remember 51 = .ok (.invokevirtual 29, 3) := by decide +kernel
theorem dX2_remember_54 : decode cX2_remember 54 = .ok (.aload_n 0, 1) := by decide +kernel
theorem dX2_remember_55 : decode cX2_remember 55 = .ok (.dup, 1) := by decide +kernel
theorem dX2_remember_56 : decode cX2_remember 56 = .ok (.getfield 18, 3) := by decide +kernel
theorem dX2_remember_59 : decode cX2_remember 59 = .ok (.iconst 1, 1) := by decide +kernel
theorem dX2_remember_60 : decode cX2_remember 60 = .ok (.iadd, 1) := by decide +kernel
theorem dX2_remember_61 : decode cX2_remember 61 = .ok (.putfield 18, 3) := by decide +kernel
theorem dX2_remember_64 : decode cX2_remember 64 = .ok (.return_, 1) := by decide +kernel
theorem dX2_dropOldest_0 : decode cX2_dropOldest 0 = .ok (.iconst 0, 1) := by decide +kernel
theorem dX2_dropOldest_1 : decode cX2_dropOldest 1 = .ok (.istore_n 1, 1) := by decide +kernel
theorem dX2_dropOldest_2 : decode cX2_dropOldest 2 = .ok (.iload_n 1, 1) := by decide +kernel
theorem dX2_dropOldest_3 : decode cX2_dropOldest 3 = .ok (.iconst 1, 1) := by decide +kernel
theorem dX2_dropOldest_4 : decode cX2_dropOldest 4 = .ok (.iadd, 1) := by decide +kernel
theorem dX2_dropOldest_5 : decode cX2_dropOldest 5 = .ok (.aload_n 0, 1) := by decide +kernel
theorem dX2_dropOldest_6 : decode cX2_dropOldest 6 = .ok (.getfield 11, 3) := by decide +kernel
theorem dX2_dropOldest_9 : decode cX2_dropOldest 9 = .ok (.arraylength, 1) := by decide +kernel
theorem dX2_dropOldest_10 : decode cX2_dropOldest 10 = .ok (.if_icmp .ge 39, 3) := by decide +kernel
theorem dX2_dropOldest_13 : decode cX2_dropOldest 13 = .ok (.aload_n 0, 1) := by decide +kernel
theorem dX2_dropOldest_14 : decode cX2_dropOldest 14 = .ok (.getfield 11, 3) := by decide +kernel
theorem dX2_dropOldest_17 : decode cX2_dropOldest 17 = .ok (.iload_n 1, 1) := by decide +kernel
theorem dX2_dropOldest_18 : decode cX2_dropOldest 18 = .ok (.aaload, 1) := by decide +kernel
theorem dX2_dropOldest_19 : decode cX2_dropOldest 19 = .ok (.astore_n 2, 1) := by decide +kernel
theorem dX2_dropOldest_20 : decode cX2_dropOldest 20 = .ok (.aload_n 0, 1) := by decide +kernel
theorem dX2_dropOldest_21 : decode cX2_dropOldest 21 = .ok (.getfield 11, 3) := by decide +kernel
theorem dX2_dropOldest_24 : decode cX2_dropOldest 24 = .ok (.iload_n 1, 1) := by decide +kernel
theorem dX2_dropOldest_25 : decode cX2_dropOldest 25 = .ok (.aload_n 0, 1) := by decide +kernel
theorem dX2_dropOldest_26 : decode cX2_dropOldest 26 = .ok (.getfield 11, 3) := by decide +kernel
theorem dX2_dropOldest_29 : decode cX2_dropOldest 29 = .ok (.iload_n 1, 1) := by decide +kernel
theorem dX2_dropOldest_30 : decode cX2_dropOldest 30 = .ok (.iconst 1, 1) := by decide +kernel
theorem dX2_dropOldest_31 : decode cX2_dropOldest 31 = .ok (.iadd, 1) := by decide +kernel
theorem dX2_dropOldest_32 : decode cX2_dropOldest 32 = .ok (.aaload, 1) := by decide +kernel
theorem dX2_dropOldest_33 : decode cX2_dropOldest 33 = .ok (.aastore, 1) := by decide +kernel
theorem dX2_dropOldest_34 : decode cX2_dropOldest 34 = .ok (.aload_n 0, 1) := by decide +kernel
theorem dX2_dropOldest_35 : decode cX2_dropOldest 35 = .ok (.getfield 11, 3) := by decide +kernel
theorem dX2_dropOldest_38 : decode cX2_dropOldest 38 = .ok (.iload_n 1, 1) := by decide +kernel
theorem dX2_dropOldest_39 : decode cX2_dropOldest 39 = .ok (.iconst 1, 1) := by decide +kernel
theorem dX2_dropOldest_40 : decode cX2_dropOldest 40 = .ok (.iadd, 1) := by decide +kernel
theorem dX2_dropOldest_41 : decode cX2_dropOldest 41 = .ok (.aload_n 2, 1) := by decide +kernel
theorem dX2_dropOldest_42 : decode cX2_dropOldest 42 = .ok (.aastore, 1) := by decide +kernel
theorem dX2_dropOldest_43 : decode cX2_dropOldest 43 = .ok (.iinc 1 1, 3) := by decide +kernel
theorem dX2_dropOldest_46 : decode cX2_dropOldest 46 = .ok (.goto (-44), 3) := by decide +kernel
theorem dX2_dropOldest_49 : decode cX2_dropOldest 49 = .ok (.aload_n 0, 1) := by decide +kernel
theorem dX2_dropOldest_50 : decode cX2_dropOldest 50 = .ok (.dup, 1) := by decide +kernel
theorem dX2_dropOldest_51 : decode cX2_dropOldest 51 = .ok (.getfield 18, 3) := by decide +kernel
theorem dX2_dropOldest_54 : decode cX2_dropOldest 54 = .ok (.iconst 1, 1) := by decide +kernel
theorem dX2_dropOldest_55 : decode cX2_dropOldest 55 = .ok (.isub, 1) := by decide +kernel
theorem dX2_dropOldest_56 : decode cX2_dropOldest 56 = .ok (.putfield 18, 3) := by decide +kernel
theorem dX2_dropOldest_59 : decode cX2_dropOldest 59 = .ok (.return_, 1) := by decide +kernel
theorem dX2_takeLatest_0 : decode cX2_takeLatest 0 = .ok (.aload_n 0, 1) := by decide +kernel
theorem dX2_takeLatest_1 : decode cX2_takeLatest 1 = .ok (.getfield 18, 3) := by decide +kernel
theorem dX2_takeLatest_4 : decode cX2_takeLatest 4 = .ok (.iconst 1, 1) := by decide +kernel
theorem dX2_takeLatest_5 : decode cX2_takeLatest 5 = .ok (.isub, 1) := by decide +kernel
theorem dX2_takeLatest_6 : decode cX2_takeLatest 6 = .ok (.aload_n 0, 1) := by decide +kernel
theorem dX2_takeLatest_7 : decode cX2_takeLatest 7 = .ok (.getfield 11, 3) := by decide +kernel
theorem dX2_takeLatest_10 : decode cX2_takeLatest 10 = .ok (.arraylength, 1) := by decide +kernel
theorem dX2_takeLatest_11 : decode cX2_takeLatest 11 = .ok (.invokestatic 25, 3) := by decide +kernel
theorem dX2_takeLatest_14 : decode cX2_takeLatest 14 = .ok (.ifCond .eq 17, 3) := by decide +kernel
theorem dX2_takeLatest_17 : decode cX2_takeLatest 17 = .ok (.aload_n 0, 1) := by decide +kernel
theorem dX2_takeLatest_18 : decode cX2_takeLatest 18 = .ok (.getfield 11, 3) := by decide +kernel
theorem dX2_takeLatest_21 : decode cX2_takeLatest 21 = .ok (.aload_n 0, 1) := by decide +kernel
theorem dX2_takeLatest_22 : decode cX2_takeLatest 22 = .ok (.getfield 18, 3) := by decide +kernel
theorem dX2_takeLatest_25 : decode cX2_takeLatest 25 = .ok (.iconst 1, 1) := by decide +kernel
theorem dX2_takeLatest_26 : decode cX2_takeLatest 26 = .ok (.isub, 1) := by decide +kernel
theorem dX2_takeLatest_27 : decode cX2_takeLatest 27 = .ok (.aaload, 1) := by decide +kernel
theorem dX2_takeLatest_28 : decode cX2_takeLatest 28 = .ok (.goto 4, 3) := by decide +kernel
theorem dX2_takeLatest_31 : decode cX2_takeLatest 31 = .ok (.aconst_null, 1) := by decide +kernel
theorem dX2_takeLatest_32 : decode cX2_takeLatest 32 = .ok (.astore_n 2, 1) := by decide +kernel
theorem dX2_takeLatest_33 : decode cX2_takeLatest 33 = .ok (.aload_n 2, 1) := by decide +kernel
theorem dX2_takeLatest_34 : decode cX2_takeLatest 34 = .ok (.ifnull 18, 3) := by decide +kernel
theorem dX2_takeLatest_37 : decode cX2_takeLatest 37 = .ok (.aload_n 1, 1) := by decide +kernel
theorem dX2_takeLatest_38 : decode cX2_takeLatest 38 = .ok (.aload_n 2, 1) := by decide +kernel
theorem dX2_takeLatest_39 : decode cX2_takeLatest 39 = .ok (.invokevirtual 29, 3) := by decide +kernel
theorem dX2_takeLatest_42 : decode cX2_takeLatest 42 = .ok (.aload_n 0, 1) := by decide +kernel
theorem dX2_takeLatest_43 : decode cX2_takeLatest 43 = .ok (.dup, 1) := by decide +kernel
theorem dX2_takeLatest_44 : decode cX2_takeLatest 44 = .ok (.getfield 18, 3) := by decide +kernel
theorem dX2_takeLatest_47 : decode cX2_takeLatest 47 = .ok (.iconst 1, 1) := by decide +kernel
theorem dX2_takeLatest_48 : decode cX2_takeLatest 48 = .ok (.isub, 1) := by decide +kernel
theorem dX2_takeLatest_49 : decode cX2_takeLatest 49 = .ok (.putfield 18, 3) := by decide +kernel
theorem dX2_takeLatest_52 : decode cX2_takeLatest 52 = .ok (.return_, 1) := by decide +kernel
theorem dX3_init_0 : decode cX3_init 0 = .ok (.aload_n 0, 1) := by decide +kernel
theorem dX3_init_1 : decode cX3_init 1 = .ok (.invokespecial 3, 3) := by decide +kernel
theorem dX3_init_4 : decode cX3_init 4 = .ok (.aload_n 0, 1) := by decide +kernel
theorem dX3_init_5 : decode cX3_init 5 = .ok (.bipush 48, 2) := by decide +kernel
theorem dX3_init_7 : decode cX3_init 7 = .ok (.newarray .int, 2) := by decide +kernel
theorem dX3_init_9 : decode cX3_init 9 = .ok (.putfield 11, 3) := by decide +kernel
theorem dX3_init_12 : decode cX3_init 12 = .ok (.return_, 1) := by decide +kernel
theorem dX3_add_0 : decode cX3_add 0 = .ok (.aload_n 0, 1) := by decide +kernel
theorem dX3_add_1 : decode cX3_add 1 = .ok (.aload_n 0, 1) := by decide +kernel
theorem dX3_add_2 : decode cX3_add 2 = .ok (.getfield 15, 3) := by decide +kernel
theorem dX3_add_5 : decode cX3_add 5 = .ok (.iconst 1, 1) := by decide +kernel
theorem dX3_add_6 : decode cX3_add 6 = .ok (.iadd, 1) := by decide +kernel
theorem dX3_add_7 : decode cX3_add 7 = .ok (.bipush 12, 2) := by decide +kernel
theorem dX3_add_9 : decode cX3_add 9 = .ok (.irem, 1) := by decide +kernel
theorem dX3_add_10 : decode cX3_add 10 = .ok (.putfield 15, 3) := by decide +kernel
theorem dX3_add_13 : decode cX3_add 13 = .ok (.aload_n 0, 1) := by decide +kernel
theorem dX3_add_14 : decode cX3_add 14 = .ok (.aload_n 0, 1) := by decide +kernel
theorem dX3_add_15 : decode cX3_add 15 = .ok (.getfield 19, 3) := by decide +kernel
theorem dX3_add_18 : decode cX3_add 18 = .ok (.iconst 1, 1) := by decide +kernel
theorem dX3_add_19 : decode cX3_add 19 = .ok (.iadd, 1) := by decide +kernel
theorem dX3_add_20 : decode cX3_add 20 = .ok (.bipush 12, 2) := by decide +kernel
theorem dX3_add_22 : decode cX3_add 22 = .ok (.invokestatic 22, 3) := by decide +kernel
theorem dX3_add_25 : decode cX3_add 25 = .ok (.putfield 19, 3) := by decide +kernel
theorem dX3_add_28 : decode cX3_add 28 = .ok (.aload_n 0, 1) := by decide +kernel
theorem dX3_add_29 : decode cX3_add 29 = .ok (.getfield 15, 3) := by decide +kernel
theorem dX3_add_32 : decode cX3_add 32 = .ok (.iconst 4, 1) := by decide +kernel
theorem dX3_add_33 : decode cX3_add 33 = .ok (.imul, 1) := by decide +kernel
theorem dX3_add_34 : decode cX3_add 34 = .ok (.istore 5, 2) := by decide +kernel
theorem dX3_add_36 : decode cX3_add 36 = .ok (.iload 5, 2) := by decide +kernel
theorem dX3_add_38 : decode cX3_add 38 = .ok (.aload_n 0, 1) := by decide +kernel
theorem dX3_add_39 : decode cX3_add 39 = .ok (.getfield 11, 3) := by decide +kernel
theorem dX3_add_42 : decode cX3_add 42 = .ok (.arraylength, 1) := by decide +kernel
theorem dX3_add_43 : decode cX3_add 43 = .ok (.iconst 4, 1) := by decide +kernel
theorem dX3_add_44 : decode cX3_add 44 = .ok (.isub, 1) := by decide +kernel
theorem dX3_add_45 : decode cX3_add 45 = .ok (.iconst 1, 1) := by decide +kernel
theorem dX3_add_46 : decode cX3_add 46 = .ok (.iadd, 1) := by decide +kernel
theorem dX3_add_47 : decode cX3_add 47 = .ok (.invokestatic 28, 3) := by decide +kernel
theorem dX3_add_50 : decode cX3_add 50 = .ok (.ifCond .eq 42, 3) := by decide +kernel
theorem dX3_add_53 : decode cX3_add 53 = .ok (.aload_n 0, 1) := by decide +kernel
theorem dX3_add_54 : decode cX3_add 54 = .ok (.getfield 11, 3) := by decide +kernel
theorem dX3_add_57 : decode cX3_add 57 = .ok (.iload 5, 2) := by decide +kernel
theorem dX3_add_59 : decode cX3_add 59 = .ok (.iload_n 1, 1) := by decide +kernel
theorem dX3_add_60 : decode cX3_add 60 = .ok (.iastore, 1) := by decide +kernel
theorem dX3_add_61 : decode cX3_add 61 = .ok (.aload_n 0, 1) := by decide +kernel
theorem dX3_add_62 : decode cX3_add 62 = .ok (.getfield 11, 3) := by decide +kernel
theorem dX3_add_65 : decode cX3_add 65 = .ok (.iload 5, 2) := by decide +kernel
theorem dX3_add_67 : decode cX3_add 67 = .ok (.iconst 1, 1) := by decide +kernel
theorem dX3_add_68 : decode cX3_add 68 = .ok (.iadd, 1) := by decide +kernel
theorem dX3_add_69 : decode cX3_add 69 = .ok (.iload_n 2, 1) := by decide +kernel
theorem dX3_add_70 : decode cX3_add 70 = .ok (.iastore, 1) := by decide +kernel
theorem dX3_add_71 : decode cX3_add 71 = .ok (.aload_n 0, 1) := by decide +kernel
theorem dX3_add_72 : decode cX3_add 72 = .ok (.getfield 11, 3) := by decide +kernel
theorem dX3_add_75 : decode cX3_add 75 = .ok (.iload 5, 2) := by decide +kernel
theorem dX3_add_77 : decode cX3_add 77 = .ok (.iconst 2, 1) := by decide +kernel
theorem dX3_add_78 : decode cX3_add 78 = .ok (.iadd, 1) := by decide +kernel
theorem dX3_add_79 : decode cX3_add 79 = .ok (.iload_n 3, 1) := by decide +kernel
theorem dX3_add_80 : decode cX3_add 80 = .ok (.iastore, 1) := by decide +kernel
theorem dX3_add_81 : decode cX3_add 81 = .ok (.aload_n 0, 1) := by decide +kernel
theorem dX3_add_82 : decode cX3_add 82 = .ok (.getfield 11, 3) := by decide +kernel
theorem dX3_add_85 : decode cX3_add 85 = .ok (.iload 5, 2) := by decide +kernel
theorem dX3_add_87 : decode cX3_add 87 = .ok (.iconst 3, 1) := by decide +kernel
theorem dX3_add_88 : decode cX3_add 88 = .ok (.iadd, 1) := by decide +kernel
theorem dX3_add_89 : decode cX3_add 89 = .ok (.iload 4, 2) := by decide +kernel
theorem dX3_add_91 : decode cX3_add 91 = .ok (.iastore, 1) := by decide +kernel
theorem dX3_add_92 : decode cX3_add 92 = .ok (.return_, 1) := by decide +kernel
theorem dX3_copyFrom_0 : decode cX3_copyFrom 0 = .ok (.aload_n 1, 1) := by decide +kernel
theorem dX3_copyFrom_1 : decode cX3_copyFrom 1 = .ok (.getfield 11, 3) := by decide +kernel
theorem dX3_copyFrom_4 : decode cX3_copyFrom 4 = .ok (.aload_n 0, 1) := by decide +kernel
theorem dX3_copyFrom_5 : decode cX3_copyFrom 5 = .ok (.getfield 11, 3) := by decide +kernel
theorem dX3_copyFrom_8 : decode cX3_copyFrom 8 = .ok (.invokestatic 32, 3) := by decide +kernel
theorem dX3_copyFrom_11 : decode cX3_copyFrom 11 = .ok (.aload_n 0, 1) := by decide +kernel
theorem dX3_copyFrom_12 : decode cX3_copyFrom 12 = .ok (.aload_n 1, 1) := by decide +kernel
theorem dX3_copyFrom_13 : decode cX3_copyFrom 13 = .ok (.getfield 15, 3) := by decide +kernel
theorem dX3_copyFrom_16 : decode cX3_copyFrom 16 = .ok (.putfield 15, 3) := by decide +kernel
theorem dX3_copyFrom_19 : decode cX3_copyFrom 19 = .ok (.aload_n 0, 1) := by decide +kernel
theorem dX3_copyFrom_20 : decode cX3_copyFrom 20 = .ok (.aload_n 1, 1) := by decide +kernel
theorem dX3_copyFrom_21 : decode cX3_copyFrom 21 = .ok (.getfield 19, 3) := by decide +kernel
theorem dX3_copyFrom_24 : decode cX3_copyFrom 24 = .ok (.putfield 19, 3) := by decide +kernel
theorem dX3_copyFrom_27 : decode cX3_copyFrom 27 = .ok (.return_, 1) := by decide +kernel
theorem dX4_init_0 : decode cX4_init 0 = .ok (.aload_n 0, 1) := by decide +kernel
theorem dX4_init_1 : decode cX4_init 1 = .ok (.invokespecial 3, 3) := by decide +kernel
theorem dX4_init_4 : decode cX4_init 4 = .ok (.return_, 1) := by decide +kernel
theorem dX4_addShare_0 : decode cX4_addShare 0 = .ok (.aload_n 0, 1) := by decide +kernel
theorem dX4_addShare_1 : decode cX4_addShare 1 = .ok (.getfield 9, 3) := by decide +kernel
theorem dX4_addShare_4 : decode cX4_addShare 4 = .ok (.i2l, 1) := by decide +kernel
theorem dX4_addShare_5 : decode cX4_addShare 5 = .ok (.iload_n 1, 1) := by decide +kernel
theorem dX4_addShare_6 : decode cX4_addShare 6 = .ok (.i2l, 1) := by decide +kernel
theorem dX4_addShare_7 : decode cX4_addShare 7 = .ok (.ladd, 1) := by decide +kernel
theorem dX4_addShare_8 : decode cX4_addShare 8 = .ok (.ldc2_w 15, 3) := by decide +kernel
theorem dX4_addShare_11 : decode cX4_addShare 11 = .ok (.lcmp, 1) := by decide +kernel
theorem dX4_addShare_12 : decode cX4_addShare 12 = .ok (.ifCond .le 16, 3) := by decide +kernel
theorem dX4_addShare_15 : decode cX4_addShare 15 = .ok (.aload_n 0, 1) := by decide +kernel
theorem dX4_addShare_16 : decode cX4_addShare 16 = .ok (.dup, 1) := by decide +kernel
theorem dX4_addShare_17 : decode cX4_addShare 17 = .ok (.getfield 17, 3) := by decide +kernel
theorem dX4_addShare_20 : decode cX4_addShare 20 = .ok (.iconst 1, 1) := by decide +kernel
theorem dX4_addShare_21 : decode cX4_addShare 21 = .ok (.iadd, 1) := by decide +kernel
theorem dX4_addShare_22 : decode cX4_addShare 22 = .ok (.putfield 17, 3) := by decide +kernel
theorem dX4_addShare_25 : decode cX4_addShare 25 = .ok (.goto 13, 3) := by decide +kernel
theorem dX4_addShare_28 : decode cX4_addShare 28 = .ok (.aload_n 0, 1) := by decide +kernel
theorem dX4_addShare_29 : decode cX4_addShare 29 = .ok (.dup, 1) := by decide +kernel
theorem dX4_addShare_30 : decode cX4_addShare 30 = .ok (.getfield 9, 3) := by decide +kernel
theorem dX4_addShare_33 : decode cX4_addShare 33 = .ok (.iload_n 1, 1) := by decide +kernel
theorem dX4_addShare_34 : decode cX4_addShare 34 = .ok (.iadd, 1) := by decide +kernel
theorem dX4_addShare_35 : decode cX4_addShare 35 = .ok (.putfield 9, 3) := by decide +kernel
theorem dX4_addShare_38 : decode cX4_addShare 38 = .ok (.return_, 1) := by decide +kernel
theorem dX5_init_0 : decode cX5_init 0 = .ok (.aload_n 0, 1) := by decide +kernel
theorem dX5_init_1 : decode cX5_init 1 = .ok (.invokespecial 3, 3) := by decide +kernel
theorem dX5_init_4 : decode cX5_init 4 = .ok (.aload_n 0, 1) := by decide +kernel
theorem dX5_init_5 : decode cX5_init 5 = .ok (.iconst 3, 1) := by decide +kernel
theorem dX5_init_6 : decode cX5_init 6 = .ok (.putfield 9, 3) := by decide +kernel
theorem dX5_init_9 : decode cX5_init 9 = .ok (.aload_n 0, 1) := by decide +kernel
theorem dX5_init_10 : decode cX5_init 10 = .ok (.new 15, 3) := by decide +kernel
theorem dX5_init_13 : decode cX5_init 13 = .ok (.dup, 1) := by decide +kernel
theorem dX5_init_14 : decode cX5_init 14 = .ok (.invokespecial 17, 3) := by decide +kernel
theorem dX5_init_17 : decode cX5_init 17 = .ok (.putfield 18, 3) := by decide +kernel
theorem dX5_init_20 : decode cX5_init 20 = .ok (.aload_n 0, 1) := by decide +kernel
theorem dX5_init_21 : decode cX5_init 21 = .ok (.bipush 20, 2) := by decide +kernel
theorem dX5_init_23 : decode cX5_init 23 = .ok (.anewarray 22, 3) := by decide +kernel
theorem dX5_init_26 : decode cX5_init 26 = .ok (.putfield 24, 3) := by decide +kernel
theorem dX5_init_29 : decode cX5_init 29 = .ok (.aload_n 0, 1) := by decide +kernel
theorem dX5_init_30 : decode cX5_init 30 = .ok (.bipush 8, 2) := by decide +kernel
theorem dX5_init_32 : decode cX5_init 32 = .ok (.anewarray 28, 3) := by decide +kernel
theorem dX5_init_35 : decode cX5_init 35 = .ok (.putfield 30, 3) := by decide +kernel
theorem dX5_init_38 : decode cX5_init 38 = .ok (.aload_n 0, 1) := by decide +kernel
theorem dX5_init_39 : decode cX5_init 39 = .ok (.sipush 160, 3) := by decide +kernel
theorem dX5_init_42 : decode cX5_init 42 = .ok (.anewarray 34, 3) := by decide +kernel
theorem dX5_init_45 : decode cX5_init 45 = .ok (.putfield 36, 3) := by decide +kernel
theorem dX5_init_48 : decode cX5_init 48 = .ok (.aload_n 0, 1) := by decide +kernel
theorem dX5_init_49 : decode cX5_init 49 = .ok (.bipush 10, 2) := by decide +kernel
theorem dX5_init_51 : decode cX5_init 51 = .ok (.anewarray 40, 3) := by decide +kernel
theorem dX5_init_54 : decode cX5_init 54 = .ok (.putfield 42, 3) := by decide +kernel
theorem dX5_init_57 : decode cX5_init 57 = .ok (.iconst 0, 1) := by decide +kernel
theorem dX5_init_58 : decode cX5_init 58 = .ok (.istore_n 1, 1) := by decide +kernel
theorem dX5_init_59 : decode cX5_init 59 = .ok (.iload_n 1, 1) := by decide +kernel
theorem dX5_init_60 : decode cX5_init 60 = .ok (.aload_n 0, 1) := by decide +kernel
theorem dX5_init_61 : decode cX5_init 61 = .ok (.getfield 24, 3) := by decide +kernel
theorem dX5_init_64 : decode cX5_init 64 = .ok (.arraylength, 1) := by decide +kernel
theorem dX5_init_65 : decode cX5_init 65 = .ok (.if_icmp .ge 22, 3) := by decide +kernel
theorem dX5_init_68 : decode cX5_init 68 = .ok (.aload_n 0, 1) := by decide +kernel
theorem dX5_init_69 : decode cX5_init 69 = .ok (.getfield 24, 3) := by decide +kernel
theorem dX5_init_72 : decode cX5_init 72 = .ok (.iload_n 1, 1) := by decide +kernel
theorem dX5_init_73 : decode cX5_init 73 = .ok (.new 22, 3) := by decide +kernel
theorem dX5_init_76 : decode cX5_init 76 = .ok (.dup, 1) := by decide +kernel
theorem dX5_init_77 : decode cX5_init 77 = .ok (.invokespecial 46, 3) := by decide +kernel
theorem dX5_init_80 : decode cX5_init 80 = .ok (.aastore, 1) := by decide +kernel
theorem dX5_init_81 : decode cX5_init 81 = .ok (.iinc 1 1, 3) := by decide +kernel
theorem dX5_init_84 : decode cX5_init 84 = .ok (.goto (-25), 3) := by decide +kernel
theorem dX5_init_87 : decode cX5_init 87 = .ok (.iconst 0, 1) := by decide +kernel
theorem dX5_init_88 : decode cX5_init 88 = .ok (.istore_n 1, 1) := by decide +kernel
theorem dX5_init_89 : decode cX5_init 89 = .ok (.iload_n 1, 1) := by decide +kernel
theorem dX5_init_90 : decode cX5_init 90 = .ok (.aload_n 0, 1) := by decide +kernel
theorem dX5_init_91 : decode cX5_init 91 = .ok (.getfield 30, 3) := by decide +kernel
theorem dX5_init_94 : decode cX5_init 94 = .ok (.arraylength, 1) := by decide +kernel
theorem dX5_init_95 : decode cX5_init 95 = .ok (.if_icmp .ge 22, 3) := by decide +kernel
theorem dX5_init_98 : decode cX5_init 98 = .ok (.aload_n 0, 1) := by decide +kernel
theorem dX5_init_99 : decode cX5_init 99 = .ok (.getfield 30, 3) := by decide +kernel
theorem dX5_init_102 : decode cX5_init 102 = .ok (.iload_n 1, 1) := by decide +kernel
theorem dX5_init_103 : decode cX5_init 103 = .ok (.new 28, 3) := by decide +kernel
theorem dX5_init_106 : decode cX5_init 106 = .ok (.dup, 1) := by decide +kernel
theorem dX5_init_107 : decode cX5_init 107 = .ok (.invokespecial 47, 3) := by decide +kernel
theorem dX5_init_110 : decode cX5_init 110 = .ok (.aastore, 1) := by decide +kernel
theorem dX5_init_111 : decode cX5_init 111 = .ok (.iinc 1 1, 3) := by decide +kernel
theorem dX5_init_114 : decode cX5_init 114 = .ok (.goto (-25), 3) := by decide +kernel
theorem dX5_init_117 : decode cX5_init 117 = .ok (.iconst 0, 1) := by decide +kernel
theorem dX5_init_118 : decode cX5_init 118 = .ok (.istore_n 1, 1) := by decide +kernel
theorem dX5_init_119 : decode cX5_init 119 = .ok (.iload_n 1, 1) := by decide +kernel
theorem dX5_init_120 : decode cX5_init 120 = .ok (.aload_n 0, 1) := by decide +kernel
theorem dX5_init_121 : decode cX5_init 121 = .ok (.getfield 36, 3) := by decide +kernel
theorem dX5_init_124 : decode cX5_init 124 = .ok (.arraylength, 1) := by decide +kernel
theorem dX5_init_125 : decode cX5_init 125 = .ok (.if_icmp .ge 22, 3) := by decide +kernel
theorem dX5_init_128 : decode cX5_init 128 = .ok (.aload_n 0, 1) := by decide +kernel
theorem dX5_init_129 : decode cX5_init 129 = .ok (.getfield 36, 3) := by decide +kernel
theorem dX5_init_132 : decode cX5_init 132 = .ok (.iload_n 1, 1) := by decide +kernel
theorem dX5_init_133 : decode cX5_init 133 = .ok (.new 34, 3) := by decide +kernel
theorem dX5_init_136 : decode cX5_init 136 = .ok (.dup, 1) := by decide +kernel
theorem dX5_init_137 : decode cX5_init 137 = .ok (.invokespecial 48, 3) := by decide +kernel
theorem dX5_init_140 : decode cX5_init 140 = .ok (.aastore, 1) := by decide +kernel
theorem dX5_init_141 : decode cX5_init 141 = .ok (.iinc 1 1, 3) := by decide +kernel
theorem dX5_init_144 : decode cX5_init 144 = .ok (.goto (-25), 3) := by decide +kernel
theorem dX5_init_147 : decode cX5_init 147 = .ok (.iconst 0, 1) := by decide +kernel
theorem dX5_init_148 : decode cX5_init 148 = .ok (.istore_n 1, 1) := by decide +kernel
theorem dX5_init_149 : decode cX5_init 149 = .ok (.iload_n 1, 1) := by decide +kernel
theorem dX5_init_150 : decode cX5_init 150 = .ok (.aload_n 0, 1) := by decide +kernel
theorem dX5_init_151 : decode cX5_init 151 = .ok (.getfield 42, 3) := by decide +kernel
theorem dX5_init_154 : decode cX5_init 154 = .ok (.arraylength, 1) := by decide +kernel
theorem dX5_init_155 : decode cX5_init 155 = .ok (.if_icmp .ge 22, 3) := by decide +kernel
theorem dX5_init_158 : decode cX5_init 158 = .ok (.aload_n 0, 1) := by decide +kernel
theorem dX5_init_159 : decode cX5_init 159 = .ok (.getfield 42, 3) := by decide +kernel
theorem dX5_init_162 : decode cX5_init 162 = .ok (.iload_n 1, 1) := by decide +kernel
theorem dX5_init_163 : decode cX5_init 163 = .ok (.new 40, 3) := by decide +kernel
theorem dX5_init_166 : decode cX5_init 166 = .ok (.dup, 1) := by decide +kernel
theorem dX5_init_167 : decode cX5_init 167 = .ok (.invokespecial 49, 3) := by decide +kernel
theorem dX5_init_170 : decode cX5_init 170 = .ok (.aastore, 1) := by decide +kernel
theorem dX5_init_171 : decode cX5_init 171 = .ok (.iinc 1 1, 3) := by decide +kernel
theorem dX5_init_174 : decode cX5_init 174 = .ok (.goto (-25), 3) := by decide +kernel
theorem dX5_init_177 : decode cX5_init 177 = .ok (.return_, 1) := by decide +kernel
theorem dX5_copyFrom_0 : decode cX5_copyFrom 0 = .ok (.aload_n 0, 1) := by decide +kernel
theorem dX5_copyFrom_1 : decode cX5_copyFrom 1 = .ok (.aload_n 1, 1) := by decide +kernel
theorem dX5_copyFrom_2 : decode cX5_copyFrom 2 = .ok (.getfield 50, 3) := by decide +kernel
theorem dX5_copyFrom_5 : decode cX5_copyFrom 5 = .ok (.putfield 50, 3) := by decide +kernel
theorem dX5_copyFrom_8 : decode cX5_copyFrom 8 = .ok (.aload_n 0, 1) := by decide +kernel
theorem dX5_copyFrom_9 : decode cX5_copyFrom 9 = .ok (.aload_n 1, 1) := by decide +kernel
theorem dX5_copyFrom_10 : decode cX5_copyFrom 10 = .ok (.getfield 9, 3) := by decide +kernel
theorem dX5_copyFrom_13 : decode cX5_copyFrom 13 = .ok (.putfield 9, 3) := by decide +kernel
theorem dX5_copyFrom_16 : decode cX5_copyFrom 16 = .ok (.aload_n 0, 1) := by decide +kernel
theorem dX5_copyFrom_17 : decode cX5_copyFrom 17 = .ok (.aload_n 1, 1) := by decide +kernel
theorem dX5_copyFrom_18 : decode cX5_copyFrom 18 = .ok (.getfield 53, 3) := by decide +kernel
theorem dX5_copyFrom_21 : decode cX5_copyFrom 21 = .ok (.putfield 53, 3) := by decide +kernel
theorem dX5_copyFrom_24 : decode cX5_copyFrom 24 = .ok (.aload_n 0, 1) := by decide +kernel
theorem dX5_copyFrom_25 : decode cX5_copyFrom 25 = .ok (.getfield 18, 3) := by decide +kernel
theorem dX5_copyFrom_28 : decode cX5_copyFrom 28 = .ok (.aload_n 1, 1) := by decide +kernel
theorem dX5_copyFrom_29 : decode cX5_copyFrom 29 = .ok (.getfield 18, 3) := by decide +kernel
theorem dX5_copyFrom_32 : decode cX5_copyFrom 32 = .ok (.invokevirtual 56, 3) := by decide +kernel
theorem dX5_copyFrom_35 : decode cX5_copyFrom 35 = .ok (.aload_n 0, 1) := by decide +kernel
theorem dX5_copyFrom_36 : decode cX5_copyFrom 36 = .ok (.aload_n 1, 1) := by decide +kernel
theorem dX5_copyFrom_37 : decode cX5_copyFrom 37 = .ok (.invokevirtual 60, 3) := by decide +kernel
theorem dX5_copyFrom_40 : decode cX5_copyFrom 40 = .ok (.aload_n 0, 1) := by decide +kernel
theorem dX5_copyFrom_41 : decode cX5_copyFrom 41 = .ok (.aload_n 1, 1) := by decide +kernel
theorem dX5_copyFrom_42 : decode cX5_copyFrom 42 = .ok (.invokevirtual 64, 3) := by decide +kernel
theorem dX5_copyFrom_45 : decode cX5_copyFrom 45 = .ok (.aload_n 0, 1) := by decide +kernel
theorem dX5_copyFrom_46 : decode cX5_copyFrom 46 = .ok (.aload_n 1, 1) := by decide +kernel
theorem dX5_copyFrom_47 : decode cX5_copyFrom 47 = .ok (.invokevirtual 67, 3) := by decide +kernel
theorem dX5_copyFrom_50 : decode cX5_copyFrom 50 = .ok (.aload_n 0, 1) := by decide +kernel
theorem dX5_copyFrom_51 : decode cX5_copyFrom 51 = .ok (.aload_n 1, 1) := by decide +kernel
theorem dX5_copyFrom_52 : decode cX5_copyFrom 52 = .ok (.invokevirtual 70, 3) := by decide +kernel
theorem dX5_copyFrom_55 : decode cX5_copyFrom 55 = .ok (.return_, 1) := by decide +kernel
theorem dX5_copyStories_0 : decode cX5_copyStories 0 = .ok (.aload_n 0, 1) := by decide +kernel
theorem dX5_copyStories_1 : decode cX5_copyStories 1 = .ok (.aload_n 1, 1) := by decide +kernel
theorem dX5_copyStories_2 : decode cX5_copyStories 2 = .ok (.getfield 73, 3) := by decide +kernel
theorem dX5_copyStories_5 : decode cX5_copyStories 5 = .ok (.putfield 73, 3) := by decide +kernel
theorem dX5_copyStories_8 : decode cX5_copyStories 8 = .ok (.iconst 0, 1) := by decide +kernel
theorem dX5_copyStories_9 : decode cX5_copyStories 9 = .ok (.istore_n 2, 1) := by decide +kernel
theorem dX5_copyStories_10 : decode cX5_copyStories 10 = .ok (.iload_n 2, 1) := by decide +kernel
theorem dX5_copyStories_11 : decode cX5_copyStories 11 = .ok (.aload_n 0, 1) := by decide +kernel
theorem dX5_copyStories_12 : decode cX5_copyStories 12 = .ok (.getfield 73, 3) := by decide +kernel
theorem dX5_copyStories_15 : decode cX5_copyStories 15 = .ok (.if_icmp .ge 37, 3) := by decide +kernel
theorem dX5_copyStories_18 : decode cX5_copyStories 18 = .ok (.aload_n 0, 1) := by decide +kernel
theorem dX5_copyStories_19 : decode cX5_copyStories 19 = .ok (.iload_n 2, 1) := by decide +kernel
theorem dX5_copyStories_20 : decode cX5_copyStories 20 = .ok (.invokevirtual 76, 3) := by decide +kernel
theorem dX5_copyStories_23 : decode cX5_copyStories 23 = .ok (.astore_n 3, 1) := by decide +kernel
theorem dX5_copyStories_24 : decode cX5_copyStories 24 = .ok (.aload_n 1, 1) := by decide +kernel
theorem dX5_copyStories_25 : decode cX5_copyStories 25 = .ok (.iload_n 2, 1) := by decide +kernel
theorem dX5_copyStories_26 : decode cX5_copyStories 26 = .ok (.invokevirtual 76, 3) := by decide +kernel
theorem dX5_copyStories_29 : decode cX5_copyStories 29 = .ok (.astore 4, 2) := by decide +kernel
theorem dX5_copyStories_31 : decode cX5_copyStories 31 = .ok (.aload_n 3, 1) := by decide +kernel
theorem dX5_copyStories_32 : decode cX5_copyStories 32 = .ok (.ifnull 14, 3) := by decide +kernel
theorem dX5_copyStories_35 : decode cX5_copyStories 35 = .ok (.aload 4, 2) := by decide +kernel
theorem dX5_copyStories_37 : decode cX5_copyStories 37 = .ok (.ifnull 9, 3) := by decide +kernel
theorem dX5_copyStories_40 : decode cX5_copyStories 40 = .ok (.aload_n 3, 1) := by decide +kernel
theorem dX5_copyStories_41 : decode cX5_copyStories 41 = .ok (.aload 4, 2) := by decide +kernel
theorem dX5_copyStories_43 : decode cX5_copyStories 43 = .ok (.invokevirtual 80, 3) := by decide +kernel
theorem dX5_copyStories_46 : decode cX5_copyStories 46 = .ok (.iinc 2 1, 3) := by decide +kernel
theorem dX5_copyStories_49 : decode cX5_copyStories 49 = .ok (.goto (-39), 3) := by decide +kernel
theorem dX5_copyStories_52 : decode cX5_copyStories 52 = .ok (.return_, 1) := by decide +kernel
theorem dX5_copyClients_0 : decode cX5_copyClients 0 = .ok (.aload_n 0, 1) := by decide +kernel
theorem dX5_copyClients_1 : decode cX5_copyClients 1 = .ok (.aload_n 1, 1) := by decide +kernel
theorem dX5_copyClients_2 : decode cX5_copyClients 2 = .ok (.getfield 83, 3) := by decide +kernel
theorem dX5_copyClients_5 : decode cX5_copyClients 5 = .ok (.putfield 83, 3) := by decide +kernel
theorem dX5_copyClients_8 : decode cX5_copyClients 8 = .ok (.iconst 0, 1) := by decide +kernel
theorem dX5_copyClients_9 : decode cX5_copyClients 9 = .ok (.istore_n 2, 1) := by decide +kernel
theorem dX5_copyClients_10 : decode cX5_copyClients 10 = .ok (.iload_n 2, 1) := by decide +kernel
theorem dX5_copyClients_11 : decode cX5_copyClients 11 = .ok (.aload_n 0, 1) := by decide +kernel
theorem dX5_copyClients_12 : decode cX5_copyClients 12 = .ok (.getfield 83, 3) := by decide +kernel
theorem dX5_copyClients_15 : decode cX5_copyClients 15 = .ok (.if_icmp .ge 37, 3) := by decide +kernel
theorem dX5_copyClients_18 : decode cX5_copyClients 18 = .ok (.aload_n 0, 1) := by decide +kernel
theorem dX5_copyClients_19 : decode cX5_copyClients 19 = .ok (.iload_n 2, 1) := by decide +kernel
theorem dX5_copyClients_20 : decode cX5_copyClients 20 = .ok (.invokevirtual 86, 3) := by decide +kernel
theorem dX5_copyClients_23 : decode cX5_copyClients 23 = .ok (.astore_n 3, 1) := by decide +kernel
theorem dX5_copyClients_24 : decode cX5_copyClients 24 = .ok (.aload_n 1, 1) := by decide +kernel
theorem dX5_copyClients_25 : decode cX5_copyClients 25 = .ok (.iload_n 2, 1) := by decide +kernel
theorem dX5_copyClients_26 : decode cX5_copyClients 26 = .ok (.invokevirtual 86, 3) := by decide +kernel
theorem dX5_copyClients_29 : decode cX5_copyClients 29 = .ok (.astore 4, 2) := by decide +kernel
theorem dX5_copyClients_31 : decode cX5_copyClients 31 = .ok (.aload_n 3, 1) := by decide +kernel
theorem dX5_copyClients_32 : decode cX5_copyClients 32 = .ok (.ifnull 14, 3) := by decide +kernel
theorem dX5_copyClients_35 : decode cX5_copyClients 35 = .ok (.aload 4, 2) := by decide +kernel
theorem dX5_copyClients_37 : decode cX5_copyClients 37 = .ok (.ifnull 9, 3) := by decide +kernel
theorem dX5_copyClients_40 : decode cX5_copyClients 40 = .ok (.aload_n 3, 1) := by decide +kernel
theorem dX5_copyClients_41 : decode cX5_copyClients 41 = .ok (.aload 4, 2) := by decide +kernel
theorem dX5_copyClients_43 : decode cX5_copyClients 43 = .ok (.invokevirtual 90, 3) := by decide +kernel
theorem dX5_copyClients_46 : decode cX5_copyClients 46 = .ok (.iinc 2 1, 3) := by decide +kernel
theorem dX5_copyClients_49 : decode cX5_copyClients 49 = .ok (.goto (-39), 3) := by decide +kernel
theorem dX5_copyClients_52 : decode cX5_copyClients 52 = .ok (.return_, 1) := by decide +kernel
theorem dX5_copyCopies_0 : decode cX5_copyCopies 0 = .ok (.aload_n 0, 1) := by decide +kernel
theorem dX5_copyCopies_1 : decode cX5_copyCopies 1 = .ok (.aload_n 1, 1) := by decide +kernel
theorem dX5_copyCopies_2 : decode cX5_copyCopies 2 = .ok (.getfield 93, 3) := by decide +kernel
theorem dX5_copyCopies_5 : decode cX5_copyCopies 5 = .ok (.putfield 93, 3) := by decide +kernel
theorem dX5_copyCopies_8 : decode cX5_copyCopies 8 = .ok (.iconst 0, 1) := by decide +kernel
theorem dX5_copyCopies_9 : decode cX5_copyCopies 9 = .ok (.istore_n 2, 1) := by decide +kernel
theorem dX5_copyCopies_10 : decode cX5_copyCopies 10 = .ok (.iload_n 2, 1) := by decide +kernel
theorem dX5_copyCopies_11 : decode cX5_copyCopies 11 = .ok (.aload_n 0, 1) := by decide +kernel
theorem dX5_copyCopies_12 : decode cX5_copyCopies 12 = .ok (.getfield 93, 3) := by decide +kernel
theorem dX5_copyCopies_15 : decode cX5_copyCopies 15 = .ok (.if_icmp .ge 37, 3) := by decide +kernel
theorem dX5_copyCopies_18 : decode cX5_copyCopies 18 = .ok (.aload_n 0, 1) := by decide +kernel
theorem dX5_copyCopies_19 : decode cX5_copyCopies 19 = .ok (.iload_n 2, 1) := by decide +kernel
theorem dX5_copyCopies_20 : decode cX5_copyCopies 20 = .ok (.invokevirtual 96, 3) := by decide +kernel
theorem dX5_copyCopies_23 : decode cX5_copyCopies 23 = .ok (.astore_n 3, 1) := by decide +kernel
theorem dX5_copyCopies_24 : decode cX5_copyCopies 24 = .ok (.aload_n 1, 1) := by decide +kernel
theorem dX5_copyCopies_25 : decode cX5_copyCopies 25 = .ok (.iload_n 2, 1) := by decide +kernel
theorem dX5_copyCopies_26 : decode cX5_copyCopies 26 = .ok (.invokevirtual 96, 3) := by decide +kernel
theorem dX5_copyCopies_29 : decode cX5_copyCopies 29 = .ok (.astore 4, 2) := by decide +kernel
theorem dX5_copyCopies_31 : decode cX5_copyCopies 31 = .ok (.aload_n 3, 1) := by decide +kernel
theorem dX5_copyCopies_32 : decode cX5_copyCopies 32 = .ok (.ifnull 14, 3) := by decide +kernel
theorem dX5_copyCopies_35 : decode cX5_copyCopies 35 = .ok (.aload 4, 2) := by decide +kernel
theorem dX5_copyCopies_37 : decode cX5_copyCopies 37 = .ok (.ifnull 9, 3) := by decide +kernel
theorem dX5_copyCopies_40 : decode cX5_copyCopies 40 = .ok (.aload_n 3, 1) := by decide +kernel
theorem dX5_copyCopies_41 : decode cX5_copyCopies 41 = .ok (.aload 4, 2) := by decide +kernel
theorem dX5_copyCopies_43 : decode cX5_copyCopies 43 = .ok (.invokevirtual 100, 3) := by decide +kernel
theorem dX5_copyCopies_46 : decode cX5_copyCopies 46 = .ok (.iinc 2 1, 3) := by decide +kernel
theorem dX5_copyCopies_49 : decode cX5_copyCopies 49 = .ok (.goto (-39), 3) := by decide +kernel
theorem dX5_copyCopies_52 : decode cX5_copyCopies 52 = .ok (.return_, 1) := by decide +kernel
theorem dX5_copyPersons_0 : decode cX5_copyPersons 0 = .ok (.iconst 0, 1) := by decide +kernel
theorem dX5_copyPersons_1 : decode cX5_copyPersons 1 = .ok (.istore_n 2, 1) := by decide +kernel
theorem dX5_copyPersons_2 : decode cX5_copyPersons 2 = .ok (.iload_n 2, 1) := by decide +kernel
theorem dX5_copyPersons_3 : decode cX5_copyPersons 3 = .ok (.bipush 10, 2) := by decide +kernel
theorem dX5_copyPersons_5 : decode cX5_copyPersons 5 = .ok (.if_icmp .ge 49, 3) := by decide +kernel
theorem dX5_copyPersons_8 : decode cX5_copyPersons 8 = .ok (.aload_n 0, 1) := by decide +kernel
theorem dX5_copyPersons_9 : decode cX5_copyPersons 9 = .ok (.iload_n 2, 1) := by decide +kernel
theorem dX5_copyPersons_10 : decode cX5_copyPersons 10 = .ok (.invokevirtual 103, 3) := by decide +kernel
theorem dX5_copyPersons_13 : decode cX5_copyPersons 13 = .ok (.astore_n 3, 1) := by decide +kernel
theorem dX5_copyPersons_14 : decode cX5_copyPersons 14 = .ok (.aload_n 1, 1) := by decide +kernel
theorem dX5_copyPersons_15 : decode cX5_copyPersons 15 = .ok (.iload_n 2, 1) := by decide +kernel
theorem dX5_copyPersons_16 : decode cX5_copyPersons 16 = .ok (.invokevirtual 103, 3) := by decide +kernel
theorem dX5_copyPersons_19 : decode cX5_copyPersons 19 = .ok (.astore 4, 2) := by decide +kernel
theorem dX5_copyPersons_21 : decode cX5_copyPersons 21 = .ok (.aload_n 3, 1) := by decide +kernel
theorem dX5_copyPersons_22 : decode cX5_copyPersons 22 = .ok (.ifnull 26, 3) := by decide +kernel
theorem dX5_copyPersons_25 : decode cX5_copyPersons 25 = .ok (.aload 4, 2) := by decide +kernel
theorem dX5_copyPersons_27 : decode cX5_copyPersons 27 = .ok (.ifnull 21, 3) := by decide +kernel
theorem dX5_copyPersons_30 : decode cX5_copyPersons 30 = .ok (.aload_n 3, 1) := by decide +kernel
theorem dX5_copyPersons_31 : decode cX5_copyPersons 31 = .ok (.aload 4, 2) := by decide +kernel
theorem dX5_copyPersons_33 : decode cX5_copyPersons 33 = .ok (.getfield 107, 3) := by decide +kernel
theorem dX5_copyPersons_36 : decode cX5_copyPersons 36 = .ok (.putfield 107, 3) := by decide +kernel
theorem dX5_copyPersons_39 : decode cX5_copyPersons 39 = .ok (.aload_n 3, 1) := by decide +kernel
theorem dX5_copyPersons_40 : decode cX5_copyPersons 40 = .ok (.aload 4, 2) := by decide +kernel
theorem dX5_copyPersons_42 : decode cX5_copyPersons 42 = .ok (.getfield 110, 3) := by decide +kernel
theorem dX5_copyPersons_45 : decode cX5_copyPersons 45 = .ok (.putfield 110, 3) := by decide +kernel
theorem dX5_copyPersons_48 : decode cX5_copyPersons 48 = .ok (.iinc 2 1, 3) := by decide +kernel
theorem dX5_copyPersons_51 : decode cX5_copyPersons 51 = .ok (.goto (-49), 3) := by decide +kernel
theorem dX5_copyPersons_54 : decode cX5_copyPersons 54 = .ok (.return_, 1) := by decide +kernel
theorem dX5_storyAt_0 : decode cX5_storyAt 0 = .ok (.iload_n 1, 1) := by decide +kernel
theorem dX5_storyAt_1 : decode cX5_storyAt 1 = .ok (.aload_n 0, 1) := by decide +kernel
theorem dX5_storyAt_2 : decode cX5_storyAt 2 = .ok (.getfield 73, 3) := by decide +kernel
theorem dX5_storyAt_5 : decode cX5_storyAt 5 = .ok (.aload_n 0, 1) := by decide +kernel
theorem dX5_storyAt_6 : decode cX5_storyAt 6 = .ok (.getfield 24, 3) := by decide +kernel
theorem dX5_storyAt_9 : decode cX5_storyAt 9 = .ok (.arraylength, 1) := by decide +kernel
theorem dX5_storyAt_10 : decode cX5_storyAt 10 = .ok (.invokestatic 113, 3) := by decide +kernel
theorem dX5_storyAt_13 : decode cX5_storyAt 13 = .ok (.invokestatic 119, 3) := by decide +kernel
theorem dX5_storyAt_16 : decode cX5_storyAt 16 = .ok (.ifCond .eq 12, 3) := by decide +kernel
theorem dX5_storyAt_19 : decode cX5_storyAt 19 = .ok (.aload_n 0, 1) := by decide +kernel
theorem dX5_storyAt_20 : decode cX5_storyAt 20 = .ok (.getfield 24, 3) := by decide +kernel
theorem dX5_storyAt_23 : decode cX5_storyAt 23 = .ok (.iload_n 1, 1) := by decide +kernel
theorem dX5_storyAt_24 : decode cX5_storyAt 24 = .ok (.aaload, 1) := by decide +kernel
theorem dX5_storyAt_25 : decode cX5_storyAt 25 = .ok (.goto 4, 3) := by decide +kernel
theorem dX5_storyAt_28 : decode cX5_storyAt 28 = .ok (.aconst_null, 1) := by decide +kernel
theorem dX5_storyAt_29 : decode cX5_storyAt 29 = .ok (.areturn, 1) := by decide +kernel
theorem dX5_clientAt_0 : decode cX5_clientAt 0 = .ok (.iload_n 1, 1) := by decide +kernel
theorem dX5_clientAt_1 : decode cX5_clientAt 1 = .ok (.aload_n 0, 1) := by decide +kernel
theorem dX5_clientAt_2 : decode cX5_clientAt 2 = .ok (.getfield 83, 3) := by decide +kernel
theorem dX5_clientAt_5 : decode cX5_clientAt 5 = .ok (.aload_n 0, 1) := by decide +kernel
theorem dX5_clientAt_6 : decode cX5_clientAt 6 = .ok (.getfield 30, 3) := by decide +kernel
theorem dX5_clientAt_9 : decode cX5_clientAt 9 = .ok (.arraylength, 1) := by decide +kernel
theorem dX5_clientAt_10 : decode cX5_clientAt 10 = .ok (.invokestatic 113, 3) := by decide +kernel
theorem dX5_clientAt_13 : decode cX5_clientAt 13 = .ok (.invokestatic 119, 3) := by decide +kernel
theorem dX5_clientAt_16 : decode cX5_clientAt 16 = .ok (.ifCond .eq 12, 3) := by decide +kernel
theorem dX5_clientAt_19 : decode cX5_clientAt 19 = .ok (.aload_n 0, 1) := by decide +kernel
theorem dX5_clientAt_20 : decode cX5_clientAt 20 = .ok (.getfield 30, 3) := by decide +kernel
theorem dX5_clientAt_23 : decode cX5_clientAt 23 = .ok (.iload_n 1, 1) := by decide +kernel
theorem dX5_clientAt_24 : decode cX5_clientAt 24 = .ok (.aaload, 1) := by decide +kernel
theorem dX5_clientAt_25 : decode cX5_clientAt 25 = .ok (.goto 4, 3) := by decide +kernel
theorem dX5_clientAt_28 : decode cX5_clientAt 28 = .ok (.aconst_null, 1) := by decide +kernel
theorem dX5_clientAt_29 : decode cX5_clientAt 29 = .ok (.areturn, 1) := by decide +kernel
theorem dX5_copyMade_0 : decode cX5_copyMade 0 = .ok (.iload_n 1, 1) := by decide +kernel
theorem dX5_copyMade_1 : decode cX5_copyMade 1 = .ok (.aload_n 0, 1) := by decide +kernel
theorem dX5_copyMade_2 : decode cX5_copyMade 2 = .ok (.getfield 93, 3) := by decide +kernel
theorem dX5_copyMade_5 : decode cX5_copyMade 5 = .ok (.aload_n 0, 1) := by decide +kernel
theorem dX5_copyMade_6 : decode cX5_copyMade 6 = .ok (.getfield 36, 3) := by decide +kernel
theorem dX5_copyMade_9 : decode cX5_copyMade 9 = .ok (.arraylength, 1) := by decide +kernel
theorem dX5_copyMade_10 : decode cX5_copyMade 10 = .ok (.invokestatic 113, 3) := by decide +kernel
theorem dX5_copyMade_13 : decode cX5_copyMade 13 = .ok (.invokestatic 119, 3) := by decide +kernel
theorem dX5_copyMade_16 : decode cX5_copyMade 16 = .ok (.ifCond .eq 12, 3) := by decide +kernel
theorem dX5_copyMade_19 : decode cX5_copyMade 19 = .ok (.aload_n 0, 1) := by decide +kernel
theorem dX5_copyMade_20 : decode cX5_copyMade 20 = .ok (.getfield 36, 3) := by decide +kernel
theorem dX5_copyMade_23 : decode cX5_copyMade 23 = .ok (.iload_n 1, 1) := by decide +kernel
theorem dX5_copyMade_24 : decode cX5_copyMade 24 = .ok (.aaload, 1) := by decide +kernel
theorem dX5_copyMade_25 : decode cX5_copyMade 25 = .ok (.goto 4, 3) := by decide +kernel
theorem dX5_copyMade_28 : decode cX5_copyMade 28 = .ok (.aconst_null, 1) := by decide +kernel
theorem dX5_copyMade_29 : decode cX5_copyMade 29 = .ok (.areturn, 1) := by decide +kernel
theorem dX5_personAt_0 : decode cX5_personAt 0 = .ok (.iload_n 1, 1) := by decide +kernel
theorem dX5_personAt_1 : decode cX5_personAt 1 = .ok (.aload_n 0, 1) := by decide +kernel
theorem dX5_personAt_2 : decode cX5_personAt 2 = .ok (.getfield 42, 3) := by decide +kernel
theorem dX5_personAt_5 : decode cX5_personAt 5 = .ok (.arraylength, 1) := by decide +kernel
theorem dX5_personAt_6 : decode cX5_personAt 6 = .ok (.invokestatic 119, 3) := by decide +kernel
theorem dX5_personAt_9 : decode cX5_personAt 9 = .ok (.ifCond .eq 12, 3) := by decide +kernel
theorem dX5_personAt_12 : decode cX5_personAt 12 = .ok (.aload_n 0, 1) := by decide +kernel
theorem dX5_personAt_13 : decode cX5_personAt 13 = .ok (.getfield 42, 3) := by decide +kernel
theorem dX5_personAt_16 : decode cX5_personAt 16 = .ok (.iload_n 1, 1) := by decide +kernel
theorem dX5_personAt_17 : decode cX5_personAt 17 = .ok (.aaload, 1) := by decide +kernel
theorem dX5_personAt_18 : decode cX5_personAt 18 = .ok (.goto 4, 3) := by decide +kernel
theorem dX5_personAt_21 : decode cX5_personAt 21 = .ok (.aconst_null, 1) := by decide +kernel
theorem dX5_personAt_22 : decode cX5_personAt 22 = .ok (.areturn, 1) := by decide +kernel
theorem dX5_copyFor_0 : decode cX5_copyFor 0 = .ok (.iconst 0, 1) := by decide +kernel
theorem dX5_copyFor_1 : decode cX5_copyFor 1 = .ok (.istore_n 3, 1) := by decide +kernel
theorem dX5_copyFor_2 : decode cX5_copyFor 2 = .ok (.iload_n 3, 1) := by decide +kernel
theorem dX5_copyFor_3 : decode cX5_copyFor 3 = .ok (.aload_n 0, 1) := by decide +kernel
theorem dX5_copyFor_4 : decode cX5_copyFor 4 = .ok (.getfield 93, 3) := by decide +kernel
theorem dX5_copyFor_7 : decode cX5_copyFor 7 = .ok (.if_icmp .ge 42, 3) := by decide +kernel
theorem dX5_copyFor_10 : decode cX5_copyFor 10 = .ok (.aload_n 0, 1) := by decide +kernel
theorem dX5_copyFor_11 : decode cX5_copyFor 11 = .ok (.iload_n 3, 1) := by decide +kernel
theorem dX5_copyFor_12 : decode cX5_copyFor 12 = .ok (.invokevirtual 96, 3) := by decide +kernel
theorem dX5_copyFor_15 : decode cX5_copyFor 15 = .ok (.astore 4, 2) := by decide +kernel
theorem dX5_copyFor_17 : decode cX5_copyFor 17 = .ok (.aload 4, 2) := by decide +kernel
theorem dX5_copyFor_19 : decode cX5_copyFor 19 = .ok (.ifnull 24, 3) := by decide +kernel
theorem dX5_copyFor_22 : decode cX5_copyFor 22 = .ok (.aload 4, 2) := by decide +kernel
theorem dX5_copyFor_24 : decode cX5_copyFor 24 = .ok (.getfield 123, 3) := by decide +kernel
theorem dX5_copyFor_27 : decode cX5_copyFor 27 = .ok (.iload_n 1, 1) := by decide +kernel
theorem dX5_copyFor_28 : decode cX5_copyFor 28 = .ok (.if_icmp .ne 15, 3) := by decide +kernel
theorem dX5_copyFor_31 : decode cX5_copyFor 31 = .ok (.aload 4, 2) := by decide +kernel
theorem dX5_copyFor_33 : decode cX5_copyFor 33 = .ok (.getfield 126, 3) := by decide +kernel
theorem dX5_copyFor_36 : decode cX5_copyFor 36 = .ok (.iload_n 2, 1) := by decide +kernel
theorem dX5_copyFor_37 : decode cX5_copyFor 37 = .ok (.if_icmp .ne 6, 3) := by decide +kernel
theorem dX5_copyFor_40 : decode cX5_copyFor 40 = .ok (.aload 4, 2) := by decide +kernel
theorem dX5_copyFor_42 : decode cX5_copyFor 42 = .ok (.areturn, 1) := by decide +kernel
theorem dX5_copyFor_43 : decode cX5_copyFor 43 = .ok (.iinc 3 1, 3) := by decide +kernel
theorem dX5_copyFor_46 : decode cX5_copyFor 46 = .ok (.goto (-44), 3) := by decide +kernel
theorem dX5_copyFor_49 : decode cX5_copyFor 49 = .ok (.aconst_null, 1) := by decide +kernel
theorem dX5_copyFor_50 : decode cX5_copyFor 50 = .ok (.areturn, 1) := by decide +kernel
theorem dX5_passHour_0 : decode cX5_passHour 0 = .ok (.aload_n 0, 1) := by decide +kernel
theorem dX5_passHour_1 : decode cX5_passHour 1 = .ok (.dup, 1) := by decide +kernel
theorem dX5_passHour_2 : decode cX5_passHour 2 = .ok (.getfield 50, 3) := by decide +kernel
theorem dX5_passHour_5 : decode cX5_passHour 5 = .ok (.iconst 1, 1) := by decide +kernel
theorem dX5_passHour_6 : decode cX5_passHour 6 = .ok (.iadd, 1) := by decide +kernel
theorem dX5_passHour_7 : decode cX5_passHour 7 = .ok (.putfield 50, 3) := by decide +kernel
theorem dX5_passHour_10 : decode cX5_passHour 10 = .ok (.aload_n 0, 1) := by decide +kernel
theorem dX5_passHour_11 : decode cX5_passHour 11 = .ok (.getfield 50, 3) := by decide +kernel
theorem dX5_passHour_14 : decode cX5_passHour 14 = .ok (.bipush 24, 2) := by decide +kernel
theorem dX5_passHour_16 : decode cX5_passHour 16 = .ok (.irem, 1) := by decide +kernel
theorem dX5_passHour_17 : decode cX5_passHour 17 = .ok (.ifCond .ne 7, 3) := by decide +kernel
theorem dX5_passHour_20 : decode cX5_passHour 20 = .ok (.aload_n 0, 1) := by decide +kernel
theorem dX5_passHour_21 : decode cX5_passHour 21 = .ok (.invokevirtual 129, 3) := by decide +kernel
theorem dX5_passHour_24 : decode cX5_passHour 24 = .ok (.iconst 0, 1) := by decide +kernel
theorem dX5_passHour_25 : decode cX5_passHour 25 = .ok (.istore_n 1, 1) := by decide +kernel
theorem dX5_passHour_26 : decode cX5_passHour 26 = .ok (.iload_n 1, 1) := by decide +kernel
theorem dX5_passHour_27 : decode cX5_passHour 27 = .ok (.aload_n 0, 1) := by decide +kernel
theorem dX5_passHour_28 : decode cX5_passHour 28 = .ok (.getfield 73, 3) := by decide +kernel
theorem dX5_passHour_31 : decode cX5_passHour 31 = .ok (.if_icmp .ge 44, 3) := by decide +kernel
theorem dX5_passHour_34 : decode cX5_passHour 34 = .ok (.aload_n 0, 1) := by decide +kernel
theorem dX5_passHour_35 : decode cX5_passHour 35 = .ok (.iload_n 1, 1) := by decide +kernel
theorem dX5_passHour_36 : decode cX5_passHour 36 = .ok (.invokevirtual 76, 3) := by decide +kernel
theorem dX5_passHour_39 : decode cX5_passHour 39 = .ok (.astore_n 2, 1) := by decide +kernel
theorem dX5_passHour_40 : decode cX5_passHour 40 = .ok (.aload_n 2, 1) := by decide +kernel
theorem dX5_passHour_41 : decode cX5_passHour 41 = .ok (.ifnull 28, 3) := by decide +kernel
theorem dX5_passHour_44 : decode cX5_passHour 44 = .ok (.aload_n 2, 1) := by decide +kernel
theorem dX5_passHour_45 : decode cX5_passHour 45 = .ok (.getfield 132, 3) := by decide +kernel
theorem dX5_passHour_48 : decode cX5_passHour 48 = .ok (.iconst 1, 1) := by decide +kernel
theorem dX5_passHour_49 : decode cX5_passHour 49 = .ok (.if_icmp .ne 20, 3) := by decide +kernel
theorem dX5_passHour_52 : decode cX5_passHour 52 = .ok (.aload_n 2, 1) := by decide +kernel
theorem dX5_passHour_53 : decode cX5_passHour 53 = .ok (.getfield 135, 3) := by decide +kernel
theorem dX5_passHour_56 : decode cX5_passHour 56 = .ok (.aload_n 0, 1) := by decide +kernel
theorem dX5_passHour_57 : decode cX5_passHour 57 = .ok (.getfield 50, 3) := by decide +kernel
theorem dX5_passHour_60 : decode cX5_passHour 60 = .ok (.if_icmp .gt 9, 3) := by decide +kernel
theorem dX5_passHour_63 : decode cX5_passHour 63 = .ok (.aload_n 0, 1) := by decide +kernel
theorem dX5_passHour_64 : decode cX5_passHour 64 = .ok (.iload_n 1, 1) := by decide +kernel
theorem dX5_passHour_65 : decode cX5_passHour 65 = .ok (.aload_n 2, 1) := by decide +kernel
theorem dX5_passHour_66 : decode cX5_passHour 66 = .ok (.invokevirtual 138, 3) := by decide +kernel
theorem dX5_passHour_69 : decode cX5_passHour 69 = .ok (.iinc 1 1, 3) := by decide +kernel
theorem dX5_passHour_72 : decode cX5_passHour 72 = .ok (.goto (-46), 3) := by decide +kernel
theorem dX5_passHour_75 : decode cX5_passHour 75 = .ok (.iconst 0, 1) := by decide +kernel
theorem dX5_passHour_76 : decode cX5_passHour 76 = .ok (.istore_n 1, 1) := by decide +kernel
theorem dX5_passHour_77 : decode cX5_passHour 77 = .ok (.iload_n 1, 1) := by decide +kernel
theorem dX5_passHour_78 : decode cX5_passHour 78 = .ok (.aload_n 0, 1) := by decide +kernel
theorem dX5_passHour_79 : decode cX5_passHour 79 = .ok (.getfield 93, 3) := by decide +kernel
theorem dX5_passHour_82 : decode cX5_passHour 82 = .ok (.if_icmp .ge 31, 3) := by decide +kernel
theorem dX5_passHour_85 : decode cX5_passHour 85 = .ok (.aload_n 0, 1) := by decide +kernel
theorem dX5_passHour_86 : decode cX5_passHour 86 = .ok (.iload_n 1, 1) := by decide +kernel
theorem dX5_passHour_87 : decode cX5_passHour 87 = .ok (.invokevirtual 96, 3) := by decide +kernel
theorem dX5_passHour_90 : decode cX5_passHour 90 = .ok (.astore_n 2, 1) := by decide +kernel
theorem dX5_passHour_91 : decode cX5_passHour 91 = .ok (.aload_n 2, 1) := by decide +kernel
theorem dX5_passHour_92 : decode cX5_passHour 92 = .ok (.ifnull 15, 3) := by decide +kernel
theorem dX5_passHour_95 : decode cX5_passHour 95 = .ok (.aload_n 2, 1) := by decide +kernel
theorem dX5_passHour_96 : decode cX5_passHour 96 = .ok (.invokevirtual 142, 3) := by decide +kernel
theorem dX5_passHour_99 : decode cX5_passHour 99 = .ok (.ifCond .ne 8, 3) := by decide +kernel
theorem dX5_passHour_102 : decode cX5_passHour 102 = .ok (.aload_n 0, 1) := by decide +kernel
theorem dX5_passHour_103 : decode cX5_passHour 103 = .ok (.aload_n 2, 1) := by decide +kernel
theorem dX5_passHour_104 : decode cX5_passHour 104 = .ok (.invokevirtual 146, 3) := by decide +kernel
theorem dX5_passHour_107 : decode cX5_passHour 107 = .ok (.iinc 1 1, 3) := by decide +kernel
theorem dX5_passHour_110 : decode cX5_passHour 110 = .ok (.goto (-33), 3) := by decide +kernel
theorem dX5_passHour_113 : decode cX5_passHour 113 = .ok (.return_, 1) := by decide +kernel
theorem dX5_startDay_0 : decode cX5_startDay 0 = .ok (.iconst 0, 1) := by decide +kernel
theorem dX5_startDay_1 : decode cX5_startDay 1 = .ok (.istore_n 1, 1) := by decide +kernel
theorem dX5_startDay_2 : decode cX5_startDay 2 = .ok (.iload_n 1, 1) := by decide +kernel
theorem dX5_startDay_3 : decode cX5_startDay 3 = .ok (.aload_n 0, 1) := by decide +kernel
theorem dX5_startDay_4 : decode cX5_startDay 4 = .ok (.getfield 83, 3) := by decide +kernel
theorem dX5_startDay_7 : decode cX5_startDay 7 = .ok (.if_icmp .ge 24, 3) := by decide +kernel
theorem dX5_startDay_10 : decode cX5_startDay 10 = .ok (.aload_n 0, 1) := by decide +kernel
theorem dX5_startDay_11 : decode cX5_startDay 11 = .ok (.iload_n 1, 1) := by decide +kernel
theorem dX5_startDay_12 : decode cX5_startDay 12 = .ok (.invokevirtual 86, 3) := by decide +kernel
theorem dX5_startDay_15 : decode cX5_startDay 15 = .ok (.astore_n 2, 1) := by decide +kernel
theorem dX5_startDay_16 : decode cX5_startDay 16 = .ok (.aload_n 2, 1) := by decide +kernel
theorem dX5_startDay_17 : decode cX5_startDay 17 = .ok (.ifnull 8, 3) := by decide +kernel
theorem dX5_startDay_20 : decode cX5_startDay 20 = .ok (.aload_n 2, 1) := by decide +kernel
theorem dX5_startDay_21 : decode cX5_startDay 21 = .ok (.iconst 0, 1) := by decide +kernel
theorem dX5_startDay_22 : decode cX5_startDay 22 = .ok (.putfield 149, 3) := by decide +kernel
theorem dX5_startDay_25 : decode cX5_startDay 25 = .ok (.iinc 1 1, 3) := by decide +kernel
theorem dX5_startDay_28 : decode cX5_startDay 28 = .ok (.goto (-26), 3) := by decide +kernel
theorem dX5_startDay_31 : decode cX5_startDay 31 = .ok (.return_, 1) := by decide +kernel
theorem dX5_publish_0 : decode cX5_publish 0 = .ok (.aload_n 2, 1) := by decide +kernel
theorem dX5_publish_1 : decode cX5_publish 1 = .ok (.iconst 2, 1) := by decide +kernel
theorem dX5_publish_2 : decode cX5_publish 2 = .ok (.putfield 132, 3) := by decide +kernel
theorem dX5_publish_5 : decode cX5_publish 5 = .ok (.aload_n 2, 1) := by decide +kernel
theorem dX5_publish_6 : decode cX5_publish 6 = .ok (.aload_n 0, 1) := by decide +kernel
theorem dX5_publish_7 : decode cX5_publish 7 = .ok (.getfield 50, 3) := by decide +kernel
theorem dX5_publish_10 : decode cX5_publish 10 = .ok (.putfield 152, 3) := by decide +kernel
theorem dX5_publish_13 : decode cX5_publish 13 = .ok (.aload_n 0, 1) := by decide +kernel
theorem dX5_publish_14 : decode cX5_publish 14 = .ok (.getfield 18, 3) := by decide +kernel
theorem dX5_publish_17 : decode cX5_publish 17 = .ok (.iconst 0, 1) := by decide +kernel
theorem dX5_publish_18 : decode cX5_publish 18 = .ok (.iload_n 1, 1) := by decide +kernel
theorem dX5_publish_19 : decode cX5_publish 19 = .ok (.bipush (-5), 2) := by decide +kernel
theorem dX5_publish_21 : decode cX5_publish 21 = .ok (.aload_n 0, 1) := by decide +kernel
theorem dX5_publish_22 : decode cX5_publish 22 = .ok (.getfield 50, 3) := by decide +kernel
theorem dX5_publish_25 : decode cX5_publish 25 = .ok (.invokevirtual 155, 3) := by decide +kernel
theorem dX5_publish_28 : decode cX5_publish 28 = .ok (.iconst 0, 1) := by decide +kernel
theorem dX5_publish_29 : decode cX5_publish 29 = .ok (.istore_n 3, 1) := by decide +kernel
theorem dX5_publish_30 : decode cX5_publish 30 = .ok (.iload_n 3, 1) := by decide +kernel
theorem dX5_publish_31 : decode cX5_publish 31 = .ok (.aload_n 0, 1) := by decide +kernel
theorem dX5_publish_32 : decode cX5_publish 32 = .ok (.getfield 83, 3) := by decide +kernel
theorem dX5_publish_35 : decode cX5_publish 35 = .ok (.if_icmp .ge 49, 3) := by decide +kernel
theorem dX5_publish_38 : decode cX5_publish 38 = .ok (.aload_n 0, 1) := by decide +kernel
theorem dX5_publish_39 : decode cX5_publish 39 = .ok (.iload_n 3, 1) := by decide +kernel
theorem dX5_publish_40 : decode cX5_publish 40 = .ok (.invokevirtual 86, 3) := by decide +kernel
theorem dX5_publish_43 : decode cX5_publish 43 = .ok (.astore 4, 2) := by decide +kernel
theorem dX5_publish_45 : decode cX5_publish 45 = .ok (.aload 4, 2) := by decide +kernel
theorem dX5_publish_47 : decode cX5_publish 47 = .ok (.ifnull 31, 3) := by decide +kernel
theorem dX5_publish_50 : decode cX5_publish 50 = .ok (.aload 4, 2) := by decide +kernel
theorem dX5_publish_52 : decode cX5_publish 52 = .ok (.aload_n 2, 1) := by decide +kernel
theorem dX5_publish_53 : decode cX5_publish 53 = .ok (.getfield 159, 3) := by decide +kernel
theorem dX5_publish_56 : decode cX5_publish 56 = .ok (.invokevirtual 162, 3) := by decide +kernel
theorem dX5_publish_59 : decode cX5_publish 59 = .ok (.ifCond .eq 19, 3) := by decide +kernel
theorem dX5_publish_62 : decode cX5_publish 62 = .ok (.aload_n 0, 1) := by decide +kernel
theorem dX5_publish_63 : decode cX5_publish 63 = .ok (.iload_n 1, 1) := by decide +kernel
theorem dX5_publish_64 : decode cX5_publish 64 = .ok (.iload_n 3, 1) := by decide +kernel
theorem dX5_publish_65 : decode cX5_publish 65 = .ok (.aload_n 0, 1) := by decide +kernel
theorem dX5_publish_66 : decode cX5_publish 66 = .ok (.getfield 50, 3) := by decide +kernel
theorem dX5_publish_69 : decode cX5_publish 69 = .ok (.aload 4, 2) := by decide +kernel
theorem dX5_publish_71 : decode cX5_publish 71 = .ok (.getfield 166, 3) := by decide +kernel
theorem dX5_publish_74 : decode cX5_publish 74 = .ok (.iadd, 1) := by decide +kernel
theorem dX5_publish_75 : decode cX5_publish 75 = .ok (.invokevirtual 169, 3) := by decide +kernel
theorem dX5_publish_78 : decode cX5_publish 78 = .ok (.iinc 3 1, 3) := by decide +kernel
theorem dX5_publish_81 : decode cX5_publish 81 = .ok (.goto (-51), 3) := by decide +kernel
theorem dX5_publish_84 : decode cX5_publish 84 = .ok (.return_, 1) := by decide +kernel
theorem dX5_planCopy_0 : decode cX5_planCopy 0 = .ok (.aload_n 0, 1) := by decide +kernel
theorem dX5_planCopy_1 : decode cX5_planCopy 1 = .ok (.getfield 93, 3) := by decide +kernel
theorem dX5_planCopy_4 : decode cX5_planCopy 4 = .ok (.sipush 160, 3) := by decide +kernel
theorem dX5_planCopy_7 : decode cX5_planCopy 7 = .ok (.if_icmp .lt 4, 3) := by decide +kernel
theorem dX5_planCopy_10 : decode cX5_planCopy 10 = .ok (.return_, 1) := by decide +kernel
theorem dX5_planCopy_11 : decode cX5_planCopy 11 = .ok (.aload_n 0, 1) := by decide +kernel
theorem dX5_planCopy_12 : decode cX5_planCopy 12 = .ok (.dup, 1) := by decide +kernel
theorem dX5_planCopy_13 : decode cX5_planCopy 13 = .ok (.getfield 93, 3) := by decide +kernel
theorem dX5_planCopy_16 : decode cX5_planCopy 16 = .ok (.iconst 1, 1) := by decide +kernel
theorem dX5_planCopy_17 : decode cX5_planCopy 17 = .ok (.iadd, 1) := by decide +kernel
theorem dX5_planCopy_18 : decode cX5_planCopy 18 = .ok (.putfield 93, 3) := by decide +kernel
theorem dX5_planCopy_21 : decode cX5_planCopy 21 = .ok (.aload_n 0, 1) := by decide +kernel
theorem dX5_planCopy_22 : decode cX5_planCopy 22 = .ok (.aload_n 0, 1) := by decide +kernel
theorem dX5_planCopy_23 : decode cX5_planCopy 23 = .ok (.getfield 93, 3) := by decide +kernel
theorem dX5_planCopy_26 : decode cX5_planCopy 26 = .ok (.iconst 1, 1) := by decide +kernel
theorem dX5_planCopy_27 : decode cX5_planCopy 27 = .ok (.isub, 1) := by decide +kernel
theorem dX5_planCopy_28 : decode cX5_planCopy 28 = .ok (.invokevirtual 96, 3) := by decide +kernel
theorem dX5_planCopy_31 : decode cX5_planCopy 31 = .ok (.astore 4, 2) := by decide +kernel
theorem dX5_planCopy_33 : decode cX5_planCopy 33 = .ok (.aload 4, 2) := by decide +kernel
theorem dX5_planCopy_35 : decode cX5_planCopy 35 = .ok (.ifnull 11, 3) := by decide +kernel
theorem dX5_planCopy_38 : decode cX5_planCopy 38 = .ok (.aload 4, 2) := by decide +kernel
theorem dX5_planCopy_40 : decode cX5_planCopy 40 = .ok (.iload_n 1, 1) := by decide +kernel
theorem dX5_planCopy_41 : decode cX5_planCopy 41 = .ok (.iload_n 2, 1) := by decide +kernel
theorem dX5_planCopy_42 : decode cX5_planCopy 42 = .ok (.iload_n 3, 1) := by decide +kernel
theorem dX5_planCopy_43 : decode cX5_planCopy 43 = .ok (.invokevirtual 173, 3) := by decide +kernel
theorem dX5_planCopy_46 : decode cX5_planCopy 46 = .ok (.return_, 1) := by decide +kernel
theorem dX5_moveOn_0 : decode cX5_moveOn 0 = .ok (.aload_n 0, 1) := by decide +kernel
theorem dX5_moveOn_1 : decode cX5_moveOn 1 = .ok (.aload_n 1, 1) := by decide +kernel
theorem dX5_moveOn_2 : decode cX5_moveOn 2 = .ok (.getfield 123, 3) := by decide +kernel
theorem dX5_moveOn_5 : decode cX5_moveOn 5 = .ok (.invokevirtual 76, 3) := by decide +kernel
theorem dX5_moveOn_8 : decode cX5_moveOn 8 = .ok (.astore_n 2, 1) := by decide +kernel
theorem dX5_moveOn_9 : decode cX5_moveOn 9 = .ok (.aload_n 0, 1) := by decide +kernel
theorem dX5_moveOn_10 : decode cX5_moveOn 10 = .ok (.aload_n 1, 1) := by decide +kernel
theorem dX5_moveOn_11 : decode cX5_moveOn 11 = .ok (.getfield 126, 3) := by decide +kernel
theorem dX5_moveOn_14 : decode cX5_moveOn 14 = .ok (.invokevirtual 86, 3) := by decide +kernel
theorem dX5_moveOn_17 : decode cX5_moveOn 17 = .ok (.astore_n 3, 1) := by decide +kernel
theorem dX5_moveOn_18 : decode cX5_moveOn 18 = .ok (.aload_n 2, 1) := by decide +kernel
theorem dX5_moveOn_19 : decode cX5_moveOn 19 = .ok (.ifnull 7, 3) := by decide +kernel
theorem dX5_moveOn_22 : decode cX5_moveOn 22 = .ok (.aload_n 3, 1) := by decide +kernel
theorem dX5_moveOn_23 : decode cX5_moveOn 23 = .ok (.ifnonnull 4, 3) := by decide +kernel
theorem dX5_moveOn_26 : decode cX5_moveOn 26 = .ok (.return_, 1) := by decide +kernel
theorem dX5_moveOn_27 : decode cX5_moveOn 27 = .ok (.aload_n 1, 1) := by decide +kernel
theorem dX5_moveOn_28 : decode cX5_moveOn 28 = .ok (.getfield 176, 3) := by decide +kernel
theorem dX5_moveOn_31 : decode cX5_moveOn 31 = .ok (.ifCond .ne 44, 3) := by decide +kernel
theorem dX5_moveOn_34 : decode cX5_moveOn 34 = .ok (.aload_n 2, 1) := by decide +kernel
theorem dX5_moveOn_35 : decode cX5_moveOn 35 = .ok (.getfield 132, 3) := by decide +kernel
theorem dX5_moveOn_38 : decode cX5_moveOn 38 = .ok (.iconst 3, 1) := by decide +kernel
theorem dX5_moveOn_39 : decode cX5_moveOn 39 = .ok (.if_icmp .ne 11, 3) := by decide +kernel
theorem dX5_moveOn_42 : decode cX5_moveOn 42 = .ok (.aload_n 1, 1) := by decide +kernel
theorem dX5_moveOn_43 : decode cX5_moveOn 43 = .ok (.iconst 4, 1) := by decide +kernel
theorem dX5_moveOn_44 : decode cX5_moveOn 44 = .ok (.putfield 176, 3) := by decide +kernel
theorem dX5_moveOn_47 : decode cX5_moveOn 47 = .ok (.goto 28, 3) := by decide +kernel
theorem dX5_moveOn_50 : decode cX5_moveOn 50 = .ok (.aload_n 1, 1) := by decide +kernel
theorem dX5_moveOn_51 : decode cX5_moveOn 51 = .ok (.getfield 177, 3) := by decide +kernel
theorem dX5_moveOn_54 : decode cX5_moveOn 54 = .ok (.aload_n 0, 1) := by decide +kernel
theorem dX5_moveOn_55 : decode cX5_moveOn 55 = .ok (.getfield 50, 3) := by decide +kernel
theorem dX5_moveOn_58 : decode cX5_moveOn 58 = .ok (.if_icmp .gt 17, 3) := by decide +kernel
theorem dX5_moveOn_61 : decode cX5_moveOn 61 = .ok (.aload_n 3, 1) := by decide +kernel
theorem dX5_moveOn_62 : decode cX5_moveOn 62 = .ok (.invokevirtual 180, 3) := by decide +kernel
theorem dX5_moveOn_65 : decode cX5_moveOn 65 = .ok (.ifCond .eq 10, 3) := by decide +kernel
theorem dX5_moveOn_68 : decode cX5_moveOn 68 = .ok (.aload_n 0, 1) := by decide +kernel
theorem dX5_moveOn_69 : decode cX5_moveOn 69 = .ok (.aload_n 1, 1) := by decide +kernel
theorem dX5_moveOn_70 : decode cX5_moveOn 70 = .ok (.aload_n 2, 1) := by decide +kernel
theorem dX5_moveOn_71 : decode cX5_moveOn 71 = .ok (.aload_n 3, 1) := by decide +kernel
theorem dX5_moveOn_72 : decode cX5_moveOn 72 = .ok (.invokevirtual 183, 3) := by decide +kernel
theorem dX5_moveOn_75 : decode cX5_moveOn 75 = .ok (.aload_n 1, 1) := by decide +kernel
theorem dX5_moveOn_76 : decode cX5_moveOn 76 = .ok (.getfield 176, 3) := by decide +kernel
theorem dX5_moveOn_79 : decode cX5_moveOn 79 = .ok (.iconst 1, 1) := by decide +kernel
theorem dX5_moveOn_80 : decode cX5_moveOn 80 = .ok (.if_icmp .ne 40, 3) := by decide +kernel
theorem dX5_moveOn_83 : decode cX5_moveOn 83 = .ok (.aload_n 0, 1) := by decide +kernel
theorem dX5_moveOn_84 : decode cX5_moveOn 84 = .ok (.aload_n 1, 1) := by decide +kernel
theorem dX5_moveOn_85 : decode cX5_moveOn 85 = .ok (.invokevirtual 187, 3) := by decide +kernel
theorem dX5_moveOn_88 : decode cX5_moveOn 88 = .ok (.aload_n 0, 1) := by decide +kernel
theorem dX5_moveOn_89 : decode cX5_moveOn 89 = .ok (.getfield 50, 3) := by decide +kernel
theorem dX5_moveOn_92 : decode cX5_moveOn 92 = .ok (.if_icmp .gt 28, 3) := by decide +kernel
theorem dX5_moveOn_95 : decode cX5_moveOn 95 = .ok (.aload_n 1, 1) := by decide +kernel
theorem dX5_moveOn_96 : decode cX5_moveOn 96 = .ok (.iconst 3, 1) := by decide +kernel
theorem dX5_moveOn_97 : decode cX5_moveOn 97 = .ok (.putfield 176, 3) := by decide +kernel
theorem dX5_moveOn_100 : decode cX5_moveOn 100 = .ok (.aload_n 0, 1) := by decide +kernel
theorem dX5_moveOn_101 : decode cX5_moveOn 101 = .ok (.getfield 18, 3) := by decide +kernel
theorem dX5_moveOn_104 : decode cX5_moveOn 104 = .ok (.iconst 4, 1) := by decide +kernel
theorem dX5_moveOn_105 : decode cX5_moveOn 105 = .ok (.aload_n 1, 1) := by decide +kernel
theorem dX5_moveOn_106 : decode cX5_moveOn 106 = .ok (.getfield 123, 3) := by decide +kernel
theorem dX5_moveOn_109 : decode cX5_moveOn 109 = .ok (.aload_n 1, 1) := by decide +kernel
theorem dX5_moveOn_110 : decode cX5_moveOn 110 = .ok (.getfield 126, 3) := by decide +kernel
theorem dX5_moveOn_113 : decode cX5_moveOn 113 = .ok (.aload_n 0, 1) := by decide +kernel
theorem dX5_moveOn_114 : decode cX5_moveOn 114 = .ok (.getfield 50, 3) := by decide +kernel
theorem dX5_moveOn_117 : decode cX5_moveOn 117 = .ok (.invokevirtual 155, 3) := by decide +kernel
theorem dX5_moveOn_120 : decode cX5_moveOn 120 = .ok (.aload_n 1, 1) := by decide +kernel
theorem dX5_moveOn_121 : decode cX5_moveOn 121 = .ok (.getfield 176, 3) := by decide +kernel
theorem dX5_moveOn_124 : decode cX5_moveOn 124 = .ok (.iconst 1, 1) := by decide +kernel
theorem dX5_moveOn_125 : decode cX5_moveOn 125 = .ok (.if_icmp .ne 16, 3) := by decide +kernel
theorem dX5_moveOn_128 : decode cX5_moveOn 128 = .ok (.aload_n 3, 1) := by decide +kernel
theorem dX5_moveOn_129 : decode cX5_moveOn 129 = .ok (.getfield 191, 3) := by decide +kernel
theorem dX5_moveOn_132 : decode cX5_moveOn 132 = .ok (.ifCond .eq 9, 3) := by decide +kernel
theorem dX5_moveOn_135 : decode cX5_moveOn 135 = .ok (.aload_n 0, 1) := by decide +kernel
theorem dX5_moveOn_136 : decode cX5_moveOn 136 = .ok (.aload_n 1, 1) := by decide +kernel
theorem dX5_moveOn_137 : decode cX5_moveOn 137 = .ok (.aload_n 2, 1) := by decide +kernel
theorem dX5_moveOn_138 : decode cX5_moveOn 138 = .ok (.invokevirtual 195, 3) := by decide +kernel
theorem dX5_moveOn_141 : decode cX5_moveOn 141 = .ok (.return_, 1) := by decide +kernel
theorem dX5_startUse_0 : decode cX5_startUse 0 = .ok (.aload_n 1, 1) := by decide +kernel
theorem dX5_startUse_1 : decode cX5_startUse 1 = .ok (.iconst 1, 1) := by decide +kernel
theorem dX5_startUse_2 : decode cX5_startUse 2 = .ok (.putfield 176, 3) := by decide +kernel
theorem dX5_startUse_5 : decode cX5_startUse 5 = .ok (.aload_n 1, 1) := by decide +kernel
theorem dX5_startUse_6 : decode cX5_startUse 6 = .ok (.aload_n 0, 1) := by decide +kernel
theorem dX5_startUse_7 : decode cX5_startUse 7 = .ok (.getfield 50, 3) := by decide +kernel
theorem dX5_startUse_10 : decode cX5_startUse 10 = .ok (.putfield 199, 3) := by decide +kernel
theorem dX5_startUse_13 : decode cX5_startUse 13 = .ok (.aload_n 1, 1) := by decide +kernel
theorem dX5_startUse_14 : decode cX5_startUse 14 = .ok (.aload_n 2, 1) := by decide +kernel
theorem dX5_startUse_15 : decode cX5_startUse 15 = .ok (.getfield 202, 3) := by decide +kernel
theorem dX5_startUse_18 : decode cX5_startUse 18 = .ok (.putfield 205, 3) := by decide +kernel
theorem dX5_startUse_21 : decode cX5_startUse 21 = .ok (.aload_n 3, 1) := by decide +kernel
theorem dX5_startUse_22 : decode cX5_startUse 22 = .ok (.dup, 1) := by decide +kernel
theorem dX5_startUse_23 : decode cX5_startUse 23 = .ok (.getfield 149, 3) := by decide +kernel
theorem dX5_startUse_26 : decode cX5_startUse 26 = .ok (.iconst 1, 1) := by decide +kernel
theorem dX5_startUse_27 : decode cX5_startUse 27 = .ok (.iadd, 1) := by decide +kernel
theorem dX5_startUse_28 : decode cX5_startUse 28 = .ok (.putfield 149, 3) := by decide +kernel
theorem dX5_startUse_31 : decode cX5_startUse 31 = .ok (.aload_n 3, 1) := by decide +kernel
theorem dX5_startUse_32 : decode cX5_startUse 32 = .ok (.dup, 1) := by decide +kernel
theorem dX5_startUse_33 : decode cX5_startUse 33 = .ok (.getfield 206, 3) := by decide +kernel
theorem dX5_startUse_36 : decode cX5_startUse 36 = .ok (.iconst 1, 1) := by decide +kernel
theorem dX5_startUse_37 : decode cX5_startUse 37 = .ok (.iadd, 1) := by decide +kernel
theorem dX5_startUse_38 : decode cX5_startUse 38 = .ok (.putfield 206, 3) := by decide +kernel
theorem dX5_startUse_41 : decode cX5_startUse 41 = .ok (.aload_n 0, 1) := by decide +kernel
theorem dX5_startUse_42 : decode cX5_startUse 42 = .ok (.getfield 18, 3) := by decide +kernel
theorem dX5_startUse_45 : decode cX5_startUse 45 = .ok (.iconst 1, 1) := by decide +kernel
theorem dX5_startUse_46 : decode cX5_startUse 46 = .ok (.aload_n 1, 1) := by decide +kernel
theorem dX5_startUse_47 : decode cX5_startUse 47 = .ok (.getfield 123, 3) := by decide +kernel
theorem dX5_startUse_50 : decode cX5_startUse 50 = .ok (.aload_n 1, 1) := by decide +kernel
theorem dX5_startUse_51 : decode cX5_startUse 51 = .ok (.getfield 126, 3) := by decide +kernel
theorem dX5_startUse_54 : decode cX5_startUse 54 = .ok (.aload_n 0, 1) := by decide +kernel
theorem dX5_startUse_55 : decode cX5_startUse 55 = .ok (.getfield 50, 3) := by decide +kernel
theorem dX5_startUse_58 : decode cX5_startUse 58 = .ok (.invokevirtual 155, 3) := by decide +kernel
theorem dX5_startUse_61 : decode cX5_startUse 61 = .ok (.aload_n 0, 1) := by decide +kernel
theorem dX5_startUse_62 : decode cX5_startUse 62 = .ok (.aload_n 2, 1) := by decide +kernel
theorem dX5_startUse_63 : decode cX5_startUse 63 = .ok (.aload_n 3, 1) := by decide +kernel
theorem dX5_startUse_64 : decode cX5_startUse 64 = .ok (.invokevirtual 209, 3) := by decide +kernel
theorem dX5_startUse_67 : decode cX5_startUse 67 = .ok (.return_, 1) := by decide +kernel
theorem dX5_bill_0 : decode cX5_bill 0 = .ok (.aload_n 2, 1) := by decide +kernel
theorem dX5_bill_1 : decode cX5_bill 1 = .ok (.getfield 213, 3) := by decide +kernel
theorem dX5_bill_4 : decode cX5_bill 4 = .ok (.i2l, 1) := by decide +kernel
theorem dX5_bill_5 : decode cX5_bill 5 = .ok (.aload_n 2, 1) := by decide +kernel
theorem dX5_bill_6 : decode cX5_bill 6 = .ok (.getfield 216, 3) := by decide +kernel
theorem dX5_bill_9 : decode cX5_bill 9 = .ok (.i2l, 1) := by decide +kernel
theorem dX5_bill_10 : decode cX5_bill 10 = .ok (.ladd, 1) := by decide +kernel
theorem dX5_bill_11 : decode cX5_bill 11 = .ok (.ldc2_w 219, 3) := by decide +kernel
theorem dX5_bill_14 : decode cX5_bill 14 = .ok (.lcmp, 1) := by decide +kernel
theorem dX5_bill_15 : decode cX5_bill 15 = .ok (.ifCond .le 14, 3) := by decide +kernel
theorem dX5_bill_18 : decode cX5_bill 18 = .ok (.aload_n 2, 1) := by decide +kernel
theorem dX5_bill_19 : decode cX5_bill 19 = .ok (.dup, 1) := by decide +kernel
theorem dX5_bill_20 : decode cX5_bill 20 = .ok (.getfield 221, 3) := by decide +kernel
theorem dX5_bill_23 : decode cX5_bill 23 = .ok (.iconst 1, 1) := by decide +kernel
theorem dX5_bill_24 : decode cX5_bill 24 = .ok (.iadd, 1) := by decide +kernel
theorem dX5_bill_25 : decode cX5_bill 25 = .ok (.putfield 221, 3) := by decide +kernel
theorem dX5_bill_28 : decode cX5_bill 28 = .ok (.return_, 1) := by decide +kernel
theorem dX5_bill_29 : decode cX5_bill 29 = .ok (.aload_n 2, 1) := by decide +kernel
theorem dX5_bill_30 : decode cX5_bill 30 = .ok (.dup, 1) := by decide +kernel
theorem dX5_bill_31 : decode cX5_bill 31 = .ok (.getfield 213, 3) := by decide +kernel
theorem dX5_bill_34 : decode cX5_bill 34 = .ok (.aload_n 2, 1) := by decide +kernel
theorem dX5_bill_35 : decode cX5_bill 35 = .ok (.getfield 216, 3) := by decide +kernel
theorem dX5_bill_38 : decode cX5_bill 38 = .ok (.iadd, 1) := by decide +kernel
theorem dX5_bill_39 : decode cX5_bill 39 = .ok (.putfield 213, 3) := by decide +kernel
theorem dX5_bill_42 : decode cX5_bill 42 = .ok (.aload_n 1, 1) := by decide +kernel
theorem dX5_bill_43 : decode cX5_bill 43 = .ok (.getfield 224, 3) := by decide +kernel
theorem dX5_bill_46 : decode cX5_bill 46 = .ok (.ifCond .gt 4, 3) := by decide +kernel
theorem dX5_bill_49 : decode cX5_bill 49 = .ok (.return_, 1) := by decide +kernel
theorem dX5_bill_50 : decode cX5_bill 50 = .ok (.aload_n 2, 1) := by decide +kernel
theorem dX5_bill_51 : decode cX5_bill 51 = .ok (.getfield 216, 3) := by decide +kernel
theorem dX5_bill_54 : decode cX5_bill 54 = .ok (.aload_n 1, 1) := by decide +kernel
theorem dX5_bill_55 : decode cX5_bill 55 = .ok (.getfield 224, 3) := by decide +kernel
theorem dX5_bill_58 : decode cX5_bill 58 = .ok (.idiv, 1) := by decide +kernel
theorem dX5_bill_59 : decode cX5_bill 59 = .ok (.istore_n 3, 1) := by decide +kernel
theorem dX5_bill_60 : decode cX5_bill 60 = .ok (.aload_n 2, 1) := by decide +kernel
theorem dX5_bill_61 : decode cX5_bill 61 = .ok (.getfield 216, 3) := by decide +kernel
theorem dX5_bill_64 : decode cX5_bill 64 = .ok (.aload_n 1, 1) := by decide +kernel
theorem dX5_bill_65 : decode cX5_bill 65 = .ok (.getfield 224, 3) := by decide +kernel
theorem dX5_bill_68 : decode cX5_bill 68 = .ok (.irem, 1) := by decide +kernel
theorem dX5_bill_69 : decode cX5_bill 69 = .ok (.istore 4, 2) := by decide +kernel
theorem dX5_bill_71 : decode cX5_bill 71 = .ok (.iconst 0, 1) := by decide +kernel
theorem dX5_bill_72 : decode cX5_bill 72 = .ok (.istore 5, 2) := by decide +kernel
theorem dX5_bill_74 : decode cX5_bill 74 = .ok (.iload 5, 2) := by decide +kernel
theorem dX5_bill_76 : decode cX5_bill 76 = .ok (.aload_n 1, 1) := by decide +kernel
theorem dX5_bill_77 : decode cX5_bill 77 = .ok (.getfield 224, 3) := by decide +kernel
theorem dX5_bill_80 : decode cX5_bill 80 = .ok (.if_icmp .ge 44, 3) := by decide +kernel
theorem dX5_bill_83 : decode cX5_bill 83 = .ok (.aload_n 0, 1) := by decide +kernel
theorem dX5_bill_84 : decode cX5_bill 84 = .ok (.aload_n 1, 1) := by decide +kernel
theorem dX5_bill_85 : decode cX5_bill 85 = .ok (.iload 5, 2) := by decide +kernel
theorem dX5_bill_87 : decode cX5_bill 87 = .ok (.invokevirtual 227, 3) := by decide +kernel
theorem dX5_bill_90 : decode cX5_bill 90 = .ok (.invokevirtual 103, 3) := by decide +kernel
theorem dX5_bill_93 : decode cX5_bill 93 = .ok (.astore 6, 2) := by decide +kernel
theorem dX5_bill_95 : decode cX5_bill 95 = .ok (.aload 6, 2) := by decide +kernel
theorem dX5_bill_97 : decode cX5_bill 97 = .ok (.ifnull 21, 3) := by decide +kernel
theorem dX5_bill_100 : decode cX5_bill 100 = .ok (.aload 6, 2) := by decide +kernel
theorem dX5_bill_102 : decode cX5_bill 102 = .ok (.iload 5, 2) := by decide +kernel
theorem dX5_bill_104 : decode cX5_bill 104 = .ok (.ifCond .ne 10, 3) := by decide +kernel
theorem dX5_bill_107 : decode cX5_bill 107 = .ok (.iload_n 3, 1) := by decide +kernel
theorem dX5_bill_108 : decode cX5_bill 108 = .ok (.iload 4, 2) := by decide +kernel
theorem dX5_bill_110 : decode cX5_bill 110 = .ok (.iadd, 1) := by decide +kernel
theorem dX5_bill_111 : decode cX5_bill 111 = .ok (.goto 4, 3) := by decide +kernel
theorem dX5_bill_114 : decode cX5_bill 114 = .ok (.iload_n 3, 1) := by decide +kernel
theorem dX5_bill_115 : decode cX5_bill 115 = .ok (.invokevirtual 231, 3) := by decide +kernel
theorem dX5_bill_118 : decode cX5_bill 118 = .ok (.iinc 5 1, 3) := by decide +kernel
theorem dX5_bill_121 : decode cX5_bill 121 = .ok (.goto (-47), 3) := by decide +kernel
theorem dX5_bill_124 : decode cX5_bill 124 = .ok (.return_, 1) := by decide +kernel
theorem dX5_reach_0 : decode cX5_reach 0 = .ok (.aload_n 2, 1) := by decide +kernel
theorem dX5_reach_1 : decode cX5_reach 1 = .ok (.getfield 132, 3) := by decide +kernel
theorem dX5_reach_4 : decode cX5_reach 4 = .ok (.iconst 3, 1) := by decide +kernel
theorem dX5_reach_5 : decode cX5_reach 5 = .ok (.if_icmp .ne 41, 3) := by decide +kernel
theorem dX5_reach_8 : decode cX5_reach 8 = .ok (.aload_n 0, 1) := by decide +kernel
theorem dX5_reach_9 : decode cX5_reach 9 = .ok (.aload_n 1, 1) := by decide +kernel
theorem dX5_reach_10 : decode cX5_reach 10 = .ok (.invokevirtual 235, 3) := by decide +kernel
theorem dX5_reach_13 : decode cX5_reach 13 = .ok (.aload_n 0, 1) := by decide +kernel
theorem dX5_reach_14 : decode cX5_reach 14 = .ok (.getfield 50, 3) := by decide +kernel
theorem dX5_reach_17 : decode cX5_reach 17 = .ok (.if_icmp .gt 29, 3) := by decide +kernel
theorem dX5_reach_20 : decode cX5_reach 20 = .ok (.aload_n 1, 1) := by decide +kernel
theorem dX5_reach_21 : decode cX5_reach 21 = .ok (.iconst 2, 1) := by decide +kernel
theorem dX5_reach_22 : decode cX5_reach 22 = .ok (.putfield 176, 3) := by decide +kernel
theorem dX5_reach_25 : decode cX5_reach 25 = .ok (.aload_n 0, 1) := by decide +kernel
theorem dX5_reach_26 : decode cX5_reach 26 = .ok (.getfield 18, 3) := by decide +kernel
theorem dX5_reach_29 : decode cX5_reach 29 = .ok (.iconst 3, 1) := by decide +kernel
theorem dX5_reach_30 : decode cX5_reach 30 = .ok (.aload_n 1, 1) := by decide +kernel
theorem dX5_reach_31 : decode cX5_reach 31 = .ok (.getfield 123, 3) := by decide +kernel
theorem dX5_reach_34 : decode cX5_reach 34 = .ok (.aload_n 1, 1) := by decide +kernel
theorem dX5_reach_35 : decode cX5_reach 35 = .ok (.getfield 126, 3) := by decide +kernel
theorem dX5_reach_38 : decode cX5_reach 38 = .ok (.aload_n 0, 1) := by decide +kernel
theorem dX5_reach_39 : decode cX5_reach 39 = .ok (.getfield 50, 3) := by decide +kernel
theorem dX5_reach_42 : decode cX5_reach 42 = .ok (.invokevirtual 155, 3) := by decide +kernel
theorem dX5_reach_45 : decode cX5_reach 45 = .ok (.return_, 1) := by decide +kernel
theorem dX5_reach_46 : decode cX5_reach 46 = .ok (.aload_n 0, 1) := by decide +kernel
theorem dX5_reach_47 : decode cX5_reach 47 = .ok (.aload_n 1, 1) := by decide +kernel
theorem dX5_reach_48 : decode cX5_reach 48 = .ok (.invokevirtual 238, 3) := by decide +kernel
theorem dX5_reach_51 : decode cX5_reach 51 = .ok (.istore_n 3, 1) := by decide +kernel
theorem dX5_reach_52 : decode cX5_reach 52 = .ok (.iconst 0, 1) := by decide +kernel
theorem dX5_reach_53 : decode cX5_reach 53 = .ok (.istore 4, 2) := by decide +kernel
theorem dX5_reach_55 : decode cX5_reach 55 = .ok (.iload 4, 2) := by decide +kernel
theorem dX5_reach_57 : decode cX5_reach 57 = .ok (.iload_n 3, 1) := by decide +kernel
theorem dX5_reach_58 : decode cX5_reach 58 = .ok (.if_icmp .ge 49, 3) := by decide +kernel
theorem dX5_reach_61 : decode cX5_reach 61 = .ok (.aload_n 1, 1) := by decide +kernel
theorem dX5_reach_62 : decode cX5_reach 62 = .ok (.dup, 1) := by decide +kernel
theorem dX5_reach_63 : decode cX5_reach 63 = .ok (.getfield 205, 3) := by decide +kernel
theorem dX5_reach_66 : decode cX5_reach 66 = .ok (.iconst 1, 1) := by decide +kernel
theorem dX5_reach_67 : decode cX5_reach 67 = .ok (.iadd, 1) := by decide +kernel
theorem dX5_reach_68 : decode cX5_reach 68 = .ok (.putfield 205, 3) := by decide +kernel
theorem dX5_reach_71 : decode cX5_reach 71 = .ok (.aload_n 0, 1) := by decide +kernel
theorem dX5_reach_72 : decode cX5_reach 72 = .ok (.dup, 1) := by decide +kernel
theorem dX5_reach_73 : decode cX5_reach 73 = .ok (.getfield 53, 3) := by decide +kernel
theorem dX5_reach_76 : decode cX5_reach 76 = .ok (.iconst 1, 1) := by decide +kernel
theorem dX5_reach_77 : decode cX5_reach 77 = .ok (.iadd, 1) := by decide +kernel
theorem dX5_reach_78 : decode cX5_reach 78 = .ok (.putfield 53, 3) := by decide +kernel
theorem dX5_reach_81 : decode cX5_reach 81 = .ok (.aload_n 0, 1) := by decide +kernel
theorem dX5_reach_82 : decode cX5_reach 82 = .ok (.getfield 18, 3) := by decide +kernel
theorem dX5_reach_85 : decode cX5_reach 85 = .ok (.iconst 2, 1) := by decide +kernel
theorem dX5_reach_86 : decode cX5_reach 86 = .ok (.aload_n 1, 1) := by decide +kernel
theorem dX5_reach_87 : decode cX5_reach 87 = .ok (.getfield 123, 3) := by decide +kernel
theorem dX5_reach_90 : decode cX5_reach 90 = .ok (.aload_n 1, 1) := by decide +kernel
theorem dX5_reach_91 : decode cX5_reach 91 = .ok (.getfield 126, 3) := by decide +kernel
theorem dX5_reach_94 : decode cX5_reach 94 = .ok (.aload_n 0, 1) := by decide +kernel
theorem dX5_reach_95 : decode cX5_reach 95 = .ok (.getfield 50, 3) := by decide +kernel
theorem dX5_reach_98 : decode cX5_reach 98 = .ok (.invokevirtual 155, 3) := by decide +kernel
theorem dX5_reach_101 : decode cX5_reach 101 = .ok (.iinc 4 1, 3) := by decide +kernel
theorem dX5_reach_104 : decode cX5_reach 104 = .ok (.goto (-49), 3) := by decide +kernel
theorem dX5_reach_107 : decode cX5_reach 107 = .ok (.return_, 1) := by decide +kernel
theorem dX5_correctionsMissing_0 : decode cX5_correctionsMissing 0 = .ok (.aload_n 0, 1) := by decide +kernel
theorem dX5_correctionsMissing_1 : decode cX5_correctionsMissing 1 = .ok (.aload_n 1, 1) := by decide +kernel
theorem dX5_correctionsMissing_2 : decode cX5_correctionsMissing 2 = .ok (.getfield 123, 3) := by decide +kernel
theorem dX5_correctionsMissing_5 : decode cX5_correctionsMissing 5 = .ok (.invokevirtual 76, 3) := by decide +kernel
theorem dX5_correctionsMissing_8 : decode cX5_correctionsMissing 8 = .ok (.astore_n 2, 1) := by decide +kernel
theorem dX5_correctionsMissing_9 : decode cX5_correctionsMissing 9 = .ok (.aload_n 2, 1) := by decide +kernel
theorem dX5_correctionsMissing_10 : decode cX5_correctionsMissing 10 = .ok (.ifnull 11, 3) := by decide +kernel
theorem dX5_correctionsMissing_13 : decode cX5_correctionsMissing 13 = .ok (.aload_n 1, 1) := by decide +kernel
theorem dX5_correctionsMissing_14 : decode cX5_correctionsMissing 14 = .ok (.getfield 176, 3) := by decide +kernel
theorem dX5_correctionsMissing_17 : decode cX5_correctionsMissing 17 = .ok (.iconst 1, 1) := by decide +kernel
theorem dX5_correctionsMissing_18 : decode cX5_correctionsMissing 18 = .ok (.if_icmp .eq 7, 3) := by decide +kernel
theorem dX5_correctionsMissing_21 : decode cX5_correctionsMissing 21 = .ok (.iconst 0, 1) := by decide +kernel
theorem dX5_correctionsMissing_22 : decode cX5_correctionsMissing 22 = .ok (.goto 12, 3) := by decide +kernel
theorem dX5_correctionsMissing_25 : decode cX5_correctionsMissing 25 = .ok (.aload_n 2, 1) := by decide +kernel
theorem dX5_correctionsMissing_26 : decode cX5_correctionsMissing 26 = .ok (.getfield 202, 3) := by decide +kernel
theorem dX5_correctionsMissing_29 : decode cX5_correctionsMissing 29 = .ok (.aload_n 1, 1) := by decide +kernel
theorem dX5_correctionsMissing_30 : decode cX5_correctionsMissing 30 = .ok (.getfield 205, 3) := by decide +kernel
theorem dX5_correctionsMissing_33 : decode cX5_correctionsMissing 33 = .ok (.isub, 1) := by decide +kernel
theorem dX5_correctionsMissing_34 : decode cX5_correctionsMissing 34 = .ok (.ireturn, 1) := by decide +kernel
theorem dX5_correctionsDue_0 : decode cX5_correctionsDue 0 = .ok (.aload_n 0, 1) := by decide +kernel
theorem dX5_correctionsDue_1 : decode cX5_correctionsDue 1 = .ok (.aload_n 1, 1) := by decide +kernel
theorem dX5_correctionsDue_2 : decode cX5_correctionsDue 2 = .ok (.getfield 123, 3) := by decide +kernel
theorem dX5_correctionsDue_5 : decode cX5_correctionsDue 5 = .ok (.invokevirtual 76, 3) := by decide +kernel
theorem dX5_correctionsDue_8 : decode cX5_correctionsDue 8 = .ok (.astore_n 2, 1) := by decide +kernel
theorem dX5_correctionsDue_9 : decode cX5_correctionsDue 9 = .ok (.aload_n 0, 1) := by decide +kernel
theorem dX5_correctionsDue_10 : decode cX5_correctionsDue 10 = .ok (.aload_n 1, 1) := by decide +kernel
theorem dX5_correctionsDue_11 : decode cX5_correctionsDue 11 = .ok (.getfield 126, 3) := by decide +kernel
theorem dX5_correctionsDue_14 : decode cX5_correctionsDue 14 = .ok (.invokevirtual 86, 3) := by decide +kernel
theorem dX5_correctionsDue_17 : decode cX5_correctionsDue 17 = .ok (.astore_n 3, 1) := by decide +kernel
theorem dX5_correctionsDue_18 : decode cX5_correctionsDue 18 = .ok (.aload_n 2, 1) := by decide +kernel
theorem dX5_correctionsDue_19 : decode cX5_correctionsDue 19 = .ok (.ifnull 15, 3) := by decide +kernel
theorem dX5_correctionsDue_22 : decode cX5_correctionsDue 22 = .ok (.aload_n 3, 1) := by decide +kernel
theorem dX5_correctionsDue_23 : decode cX5_correctionsDue 23 = .ok (.ifnull 11, 3) := by decide +kernel
theorem dX5_correctionsDue_26 : decode cX5_correctionsDue 26 = .ok (.aload_n 1, 1) := by decide +kernel
theorem dX5_correctionsDue_27 : decode cX5_correctionsDue 27 = .ok (.getfield 176, 3) := by decide +kernel
theorem dX5_correctionsDue_30 : decode cX5_correctionsDue 30 = .ok (.iconst 1, 1) := by decide +kernel
theorem dX5_correctionsDue_31 : decode cX5_correctionsDue 31 = .ok (.if_icmp .eq 5, 3) := by decide +kernel
theorem dX5_correctionsDue_34 : decode cX5_correctionsDue 34 = .ok (.iconst 0, 1) := by decide +kernel
theorem dX5_correctionsDue_35 : decode cX5_correctionsDue 35 = .ok (.ireturn, 1) := by decide +kernel
theorem dX5_correctionsDue_36 : decode cX5_correctionsDue 36 = .ok (.iconst 0, 1) := by decide +kernel
theorem dX5_correctionsDue_37 : decode cX5_correctionsDue 37 = .ok (.istore 4, 2) := by decide +kernel
theorem dX5_correctionsDue_39 : decode cX5_correctionsDue 39 = .ok (.aload_n 1, 1) := by decide +kernel
theorem dX5_correctionsDue_40 : decode cX5_correctionsDue 40 = .ok (.getfield 205, 3) := by decide +kernel
theorem dX5_correctionsDue_43 : decode cX5_correctionsDue 43 = .ok (.istore 5, 2) := by decide +kernel
theorem dX5_correctionsDue_45 : decode cX5_correctionsDue 45 = .ok (.iload 5, 2) := by decide +kernel
theorem dX5_correctionsDue_47 : decode cX5_correctionsDue 47 = .ok (.aload_n 2, 1) := by decide +kernel
theorem dX5_correctionsDue_48 : decode cX5_correctionsDue 48 = .ok (.getfield 202, 3) := by decide +kernel
theorem dX5_correctionsDue_51 : decode cX5_correctionsDue 51 = .ok (.if_icmp .ge 30, 3) := by decide +kernel
theorem dX5_correctionsDue_54 : decode cX5_correctionsDue 54 = .ok (.aload_n 2, 1) := by decide +kernel
theorem dX5_correctionsDue_55 : decode cX5_correctionsDue 55 = .ok (.iload 5, 2) := by decide +kernel
theorem dX5_correctionsDue_57 : decode cX5_correctionsDue 57 = .ok (.invokevirtual 241, 3) := by decide +kernel
theorem dX5_correctionsDue_60 : decode cX5_correctionsDue 60 = .ok (.aload_n 3, 1) := by decide +kernel
theorem dX5_correctionsDue_61 : decode cX5_correctionsDue 61 = .ok (.getfield 244, 3) := by decide +kernel
theorem dX5_correctionsDue_64 : decode cX5_correctionsDue 64 = .ok (.iadd, 1) := by decide +kernel
theorem dX5_correctionsDue_65 : decode cX5_correctionsDue 65 = .ok (.aload_n 0, 1) := by decide +kernel
theorem dX5_correctionsDue_66 : decode cX5_correctionsDue 66 = .ok (.getfield 50, 3) := by decide +kernel
theorem dX5_correctionsDue_69 : decode cX5_correctionsDue 69 = .ok (.if_icmp .gt 6, 3) := by decide +kernel
theorem dX5_correctionsDue_72 : decode cX5_correctionsDue 72 = .ok (.iinc 4 1, 3) := by decide +kernel
theorem dX5_correctionsDue_75 : decode cX5_correctionsDue 75 = .ok (.iinc 5 1, 3) := by decide +kernel
theorem dX5_correctionsDue_78 : decode cX5_correctionsDue 78 = .ok (.goto (-33), 3) := by decide +kernel
theorem dX5_correctionsDue_81 : decode cX5_correctionsDue 81 = .ok (.iload 4, 2) := by decide +kernel
theorem dX5_correctionsDue_83 : decode cX5_correctionsDue 83 = .ok (.ireturn, 1) := by decide +kernel
theorem dX5_nextCorrectionAt_0 : decode cX5_nextCorrectionAt 0 = .ok (.aload_n 0, 1) := by decide +kernel
theorem dX5_nextCorrectionAt_1 : decode cX5_nextCorrectionAt 1 = .ok (.aload_n 1, 1) := by decide +kernel
theorem dX5_nextCorrectionAt_2 : decode cX5_nextCorrectionAt 2 = .ok (.getfield 123, 3) := by decide +kernel
theorem dX5_nextCorrectionAt_5 : decode cX5_nextCorrectionAt 5 = .ok (.invokevirtual 76, 3) := by decide +kernel
theorem dX5_nextCorrectionAt_8 : decode cX5_nextCorrectionAt 8 = .ok (.astore_n 2, 1) := by decide +kernel
theorem dX5_nextCorrectionAt_9 : decode cX5_nextCorrectionAt 9 = .ok (.aload_n 0, 1) := by decide +kernel
theorem dX5_nextCorrectionAt_10 : decode cX5_nextCorrectionAt 10 = .ok (.aload_n 1, 1) := by decide +kernel
theorem dX5_nextCorrectionAt_11 : decode cX5_nextCorrectionAt 11 = .ok (.getfield 126, 3) := by decide +kernel
theorem dX5_nextCorrectionAt_14 : decode cX5_nextCorrectionAt 14 = .ok (.invokevirtual 86, 3) := by decide +kernel
theorem dX5_nextCorrectionAt_17 : decode cX5_nextCorrectionAt 17 = .ok (.astore_n 3, 1) := by decide +kernel
theorem dX5_nextCorrectionAt_18 : decode cX5_nextCorrectionAt 18 = .ok (.aload_n 2, 1) := by decide +kernel
theorem dX5_nextCorrectionAt_19 : decode cX5_nextCorrectionAt 19 = .ok (.ifnull 15, 3) := by decide +kernel
theorem dX5_nextCorrectionAt_22 : decode cX5_nextCorrectionAt 22 = .ok (.aload_n 3, 1) := by decide +kernel
theorem dX5_nextCorrectionAt_23 : decode cX5_nextCorrectionAt 23 = .ok (.ifnull 11, 3) := by decide +kernel
theorem dX5_nextCorrectionAt_26 : decode cX5_nextCorrectionAt 26 = .ok (.aload_n 0, 1) := by decide +kernel
theorem dX5_nextCorrectionAt_27 : decode cX5_nextCorrectionAt 27 = .ok (.aload_n 1, 1) := by decide +kernel
theorem dX5_nextCorrectionAt_28 : decode cX5_nextCorrectionAt 28 = .ok (.invokevirtual 247, 3) := by decide +kernel
theorem dX5_nextCorrectionAt_31 : decode cX5_nextCorrectionAt 31 = .ok (.ifCond .ne 6, 3) := by decide +kernel
theorem dX5_nextCorrectionAt_34 : decode cX5_nextCorrectionAt 34 = .ok (.bipush (-5), 2) := by decide +kernel
theorem dX5_nextCorrectionAt_36 : decode cX5_nextCorrectionAt 36 = .ok (.ireturn, 1) := by decide +kernel
theorem dX5_nextCorrectionAt_37 : decode cX5_nextCorrectionAt 37 = .ok (.aload_n 2, 1) := by decide +kernel
theorem dX5_nextCorrectionAt_38 : decode cX5_nextCorrectionAt 38 = .ok (.aload_n 1, 1) := by decide +kernel
theorem dX5_nextCorrectionAt_39 : decode cX5_nextCorrectionAt 39 = .ok (.getfield 205, 3) := by decide +kernel
theorem dX5_nextCorrectionAt_42 : decode cX5_nextCorrectionAt 42 = .ok (.invokevirtual 241, 3) := by decide +kernel
theorem dX5_nextCorrectionAt_45 : decode cX5_nextCorrectionAt 45 = .ok (.aload_n 3, 1) := by decide +kernel
theorem dX5_nextCorrectionAt_46 : decode cX5_nextCorrectionAt 46 = .ok (.getfield 244, 3) := by decide +kernel
theorem dX5_nextCorrectionAt_49 : decode cX5_nextCorrectionAt 49 = .ok (.iadd, 1) := by decide +kernel
theorem dX5_nextCorrectionAt_50 : decode cX5_nextCorrectionAt 50 = .ok (.ireturn, 1) := by decide +kernel
theorem dX5_killNoticeAt_0 : decode cX5_killNoticeAt 0 = .ok (.aload_n 0, 1) := by decide +kernel
theorem dX5_killNoticeAt_1 : decode cX5_killNoticeAt 1 = .ok (.aload_n 1, 1) := by decide +kernel
theorem dX5_killNoticeAt_2 : decode cX5_killNoticeAt 2 = .ok (.getfield 123, 3) := by decide +kernel
theorem dX5_killNoticeAt_5 : decode cX5_killNoticeAt 5 = .ok (.invokevirtual 76, 3) := by decide +kernel
theorem dX5_killNoticeAt_8 : decode cX5_killNoticeAt 8 = .ok (.astore_n 2, 1) := by decide +kernel
theorem dX5_killNoticeAt_9 : decode cX5_killNoticeAt 9 = .ok (.aload_n 0, 1) := by decide +kernel
theorem dX5_killNoticeAt_10 : decode cX5_killNoticeAt 10 = .ok (.aload_n 1, 1) := by decide +kernel
theorem dX5_killNoticeAt_11 : decode cX5_killNoticeAt 11 = .ok (.getfield 126, 3) := by decide +kernel
theorem dX5_killNoticeAt_14 : decode cX5_killNoticeAt 14 = .ok (.invokevirtual 86, 3) := by decide +kernel
theorem dX5_killNoticeAt_17 : decode cX5_killNoticeAt 17 = .ok (.astore_n 3, 1) := by decide +kernel
theorem dX5_killNoticeAt_18 : decode cX5_killNoticeAt 18 = .ok (.aload_n 2, 1) := by decide +kernel
theorem dX5_killNoticeAt_19 : decode cX5_killNoticeAt 19 = .ok (.ifnull 23, 3) := by decide +kernel
theorem dX5_killNoticeAt_22 : decode cX5_killNoticeAt 22 = .ok (.aload_n 3, 1) := by decide +kernel
theorem dX5_killNoticeAt_23 : decode cX5_killNoticeAt 23 = .ok (.ifnull 19, 3) := by decide +kernel
theorem dX5_killNoticeAt_26 : decode cX5_killNoticeAt 26 = .ok (.aload_n 2, 1) := by decide +kernel
theorem dX5_killNoticeAt_27 : decode cX5_killNoticeAt 27 = .ok (.getfield 132, 3) := by decide +kernel
theorem dX5_killNoticeAt_30 : decode cX5_killNoticeAt 30 = .ok (.iconst 3, 1) := by decide +kernel
theorem dX5_killNoticeAt_31 : decode cX5_killNoticeAt 31 = .ok (.if_icmp .ne 11, 3) := by decide +kernel
theorem dX5_killNoticeAt_34 : decode cX5_killNoticeAt 34 = .ok (.aload_n 1, 1) := by decide +kernel
theorem dX5_killNoticeAt_35 : decode cX5_killNoticeAt 35 = .ok (.getfield 176, 3) := by decide +kernel
theorem dX5_killNoticeAt_38 : decode cX5_killNoticeAt 38 = .ok (.iconst 1, 1) := by decide +kernel
theorem dX5_killNoticeAt_39 : decode cX5_killNoticeAt 39 = .ok (.if_icmp .eq 6, 3) := by decide +kernel
theorem dX5_killNoticeAt_42 : decode cX5_killNoticeAt 42 = .ok (.bipush (-5), 2) := by decide +kernel
theorem dX5_killNoticeAt_44 : decode cX5_killNoticeAt 44 = .ok (.ireturn, 1) := by decide +kernel
theorem dX5_killNoticeAt_45 : decode cX5_killNoticeAt 45 = .ok (.aload_n 2, 1) := by decide +kernel
theorem dX5_killNoticeAt_46 : decode cX5_killNoticeAt 46 = .ok (.getfield 250, 3) := by decide +kernel
theorem dX5_killNoticeAt_49 : decode cX5_killNoticeAt 49 = .ok (.aload_n 3, 1) := by decide +kernel
theorem dX5_killNoticeAt_50 : decode cX5_killNoticeAt 50 = .ok (.getfield 244, 3) := by decide +kernel
theorem dX5_killNoticeAt_53 : decode cX5_killNoticeAt 53 = .ok (.iconst 2, 1) := by decide +kernel
theorem dX5_killNoticeAt_54 : decode cX5_killNoticeAt 54 = .ok (.idiv, 1) := by decide +kernel
theorem dX5_killNoticeAt_55 : decode cX5_killNoticeAt 55 = .ok (.iadd, 1) := by decide +kernel
theorem dX5_killNoticeAt_56 : decode cX5_killNoticeAt 56 = .ok (.ireturn, 1) := by decide +kernel
theorem dX5_useEndsAt_0 : decode cX5_useEndsAt 0 = .ok (.aload_n 1, 1) := by decide +kernel
theorem dX5_useEndsAt_1 : decode cX5_useEndsAt 1 = .ok (.getfield 176, 3) := by decide +kernel
theorem dX5_useEndsAt_4 : decode cX5_useEndsAt 4 = .ok (.iconst 1, 1) := by decide +kernel
theorem dX5_useEndsAt_5 : decode cX5_useEndsAt 5 = .ok (.if_icmp .ne 18, 3) := by decide +kernel
theorem dX5_useEndsAt_8 : decode cX5_useEndsAt 8 = .ok (.aload_n 1, 1) := by decide +kernel
theorem dX5_useEndsAt_9 : decode cX5_useEndsAt 9 = .ok (.getfield 199, 3) := by decide +kernel
theorem dX5_useEndsAt_12 : decode cX5_useEndsAt 12 = .ok (.aload_n 0, 1) := by decide +kernel
theorem dX5_useEndsAt_13 : decode cX5_useEndsAt 13 = .ok (.getfield 9, 3) := by decide +kernel
theorem dX5_useEndsAt_16 : decode cX5_useEndsAt 16 = .ok (.bipush 24, 2) := by decide +kernel
theorem dX5_useEndsAt_18 : decode cX5_useEndsAt 18 = .ok (.imul, 1) := by decide +kernel
theorem dX5_useEndsAt_19 : decode cX5_useEndsAt 19 = .ok (.iadd, 1) := by decide +kernel
theorem dX5_useEndsAt_20 : decode cX5_useEndsAt 20 = .ok (.goto 5, 3) := by decide +kernel
theorem dX5_useEndsAt_23 : decode cX5_useEndsAt 23 = .ok (.bipush (-5), 2) := by decide +kernel
theorem dX5_useEndsAt_25 : decode cX5_useEndsAt 25 = .ok (.ireturn, 1) := by decide +kernel
theorem dX5_clientsFor_0 : decode cX5_clientsFor 0 = .ok (.iconst 0, 1) := by decide +kernel
theorem dX5_clientsFor_1 : decode cX5_clientsFor 1 = .ok (.istore_n 2, 1) := by decide +kernel
theorem dX5_clientsFor_2 : decode cX5_clientsFor 2 = .ok (.iconst 0, 1) := by decide +kernel
theorem dX5_clientsFor_3 : decode cX5_clientsFor 3 = .ok (.istore_n 3, 1) := by decide +kernel
theorem dX5_clientsFor_4 : decode cX5_clientsFor 4 = .ok (.iload_n 3, 1) := by decide +kernel
theorem dX5_clientsFor_5 : decode cX5_clientsFor 5 = .ok (.aload_n 0, 1) := by decide +kernel
theorem dX5_clientsFor_6 : decode cX5_clientsFor 6 = .ok (.getfield 83, 3) := by decide +kernel
theorem dX5_clientsFor_9 : decode cX5_clientsFor 9 = .ok (.if_icmp .ge 33, 3) := by decide +kernel
theorem dX5_clientsFor_12 : decode cX5_clientsFor 12 = .ok (.aload_n 0, 1) := by decide +kernel
theorem dX5_clientsFor_13 : decode cX5_clientsFor 13 = .ok (.iload_n 3, 1) := by decide +kernel
theorem dX5_clientsFor_14 : decode cX5_clientsFor 14 = .ok (.invokevirtual 86, 3) := by decide +kernel
theorem dX5_clientsFor_17 : decode cX5_clientsFor 17 = .ok (.astore 4, 2) := by decide +kernel
theorem dX5_clientsFor_19 : decode cX5_clientsFor 19 = .ok (.aload 4, 2) := by decide +kernel
theorem dX5_clientsFor_21 : decode cX5_clientsFor 21 = .ok (.ifnull 15, 3) := by decide +kernel
theorem dX5_clientsFor_24 : decode cX5_clientsFor 24 = .ok (.aload 4, 2) := by decide +kernel
theorem dX5_clientsFor_26 : decode cX5_clientsFor 26 = .ok (.iload_n 1, 1) := by decide +kernel
theorem dX5_clientsFor_27 : decode cX5_clientsFor 27 = .ok (.invokevirtual 162, 3) := by decide +kernel
theorem dX5_clientsFor_30 : decode cX5_clientsFor 30 = .ok (.ifCond .eq 6, 3) := by decide +kernel
theorem dX5_clientsFor_33 : decode cX5_clientsFor 33 = .ok (.iinc 2 1, 3) := by decide +kernel
theorem dX5_clientsFor_36 : decode cX5_clientsFor 36 = .ok (.iinc 3 1, 3) := by decide +kernel
theorem dX5_clientsFor_39 : decode cX5_clientsFor 39 = .ok (.goto (-35), 3) := by decide +kernel
theorem dX5_clientsFor_42 : decode cX5_clientsFor 42 = .ok (.iload_n 2, 1) := by decide +kernel
theorem dX5_clientsFor_43 : decode cX5_clientsFor 43 = .ok (.ireturn, 1) := by decide +kernel
theorem dX5_copiesThatCame_0 : decode cX5_copiesThatCame 0 = .ok (.iconst 0, 1) := by decide +kernel
theorem dX5_copiesThatCame_1 : decode cX5_copiesThatCame 1 = .ok (.istore_n 1, 1) := by decide +kernel
theorem dX5_copiesThatCame_2 : decode cX5_copiesThatCame 2 = .ok (.iconst 0, 1) := by decide +kernel
theorem dX5_copiesThatCame_3 : decode cX5_copiesThatCame 3 = .ok (.istore_n 2, 1) := by decide +kernel
theorem dX5_copiesThatCame_4 : decode cX5_copiesThatCame 4 = .ok (.iload_n 2, 1) := by decide +kernel
theorem dX5_copiesThatCame_5 : decode cX5_copiesThatCame 5 = .ok (.aload_n 0, 1) := by decide +kernel
theorem dX5_copiesThatCame_6 : decode cX5_copiesThatCame 6 = .ok (.getfield 83, 3) := by decide +kernel
theorem dX5_copiesThatCame_9 : decode cX5_copiesThatCame 9 = .ok (.if_icmp .ge 26, 3) := by decide +kernel
theorem dX5_copiesThatCame_12 : decode cX5_copiesThatCame 12 = .ok (.aload_n 0, 1) := by decide +kernel
theorem dX5_copiesThatCame_13 : decode cX5_copiesThatCame 13 = .ok (.iload_n 2, 1) := by decide +kernel
theorem dX5_copiesThatCame_14 : decode cX5_copiesThatCame 14 = .ok (.invokevirtual 86, 3) := by decide +kernel
theorem dX5_copiesThatCame_17 : decode cX5_copiesThatCame 17 = .ok (.astore_n 3, 1) := by decide +kernel
theorem dX5_copiesThatCame_18 : decode cX5_copiesThatCame 18 = .ok (.aload_n 3, 1) := by decide +kernel
theorem dX5_copiesThatCame_19 : decode cX5_copiesThatCame 19 = .ok (.ifnull 10, 3) := by decide +kernel
theorem dX5_copiesThatCame_22 : decode cX5_copiesThatCame 22 = .ok (.iload_n 1, 1) := by decide +kernel
theorem dX5_copiesThatCame_23 : decode cX5_copiesThatCame 23 = .ok (.aload_n 3, 1) := by decide +kernel
theorem dX5_copiesThatCame_24 : decode cX5_copiesThatCame 24 = .ok (.getfield 206, 3) := by decide +kernel
theorem dX5_copiesThatCame_27 : decode cX5_copiesThatCame 27 = .ok (.iadd, 1) := by decide +kernel
theorem dX5_copiesThatCame_28 : decode cX5_copiesThatCame 28 = .ok (.istore_n 1, 1) := by decide +kernel
theorem dX5_copiesThatCame_29 : decode cX5_copiesThatCame 29 = .ok (.iinc 2 1, 3) := by decide +kernel
theorem dX5_copiesThatCame_32 : decode cX5_copiesThatCame 32 = .ok (.goto (-28), 3) := by decide +kernel
theorem dX5_copiesThatCame_35 : decode cX5_copiesThatCame 35 = .ok (.iload_n 1, 1) := by decide +kernel
theorem dX5_copiesThatCame_36 : decode cX5_copiesThatCame 36 = .ok (.ireturn, 1) := by decide +kernel
theorem dX5_copiesOf_0 : decode cX5_copiesOf 0 = .ok (.iconst 0, 1) := by decide +kernel
theorem dX5_copiesOf_1 : decode cX5_copiesOf 1 = .ok (.istore 4, 2) := by decide +kernel
theorem dX5_copiesOf_3 : decode cX5_copiesOf 3 = .ok (.iconst 0, 1) := by decide +kernel
theorem dX5_copiesOf_4 : decode cX5_copiesOf 4 = .ok (.istore 5, 2) := by decide +kernel
theorem dX5_copiesOf_6 : decode cX5_copiesOf 6 = .ok (.iload 5, 2) := by decide +kernel
theorem dX5_copiesOf_8 : decode cX5_copiesOf 8 = .ok (.aload_n 0, 1) := by decide +kernel
theorem dX5_copiesOf_9 : decode cX5_copiesOf 9 = .ok (.getfield 93, 3) := by decide +kernel
theorem dX5_copiesOf_12 : decode cX5_copiesOf 12 = .ok (.if_icmp .ge 61, 3) := by decide +kernel
theorem dX5_copiesOf_15 : decode cX5_copiesOf 15 = .ok (.aload_n 0, 1) := by decide +kernel
theorem dX5_copiesOf_16 : decode cX5_copiesOf 16 = .ok (.iload 5, 2) := by decide +kernel
theorem dX5_copiesOf_18 : decode cX5_copiesOf 18 = .ok (.invokevirtual 96, 3) := by decide +kernel
theorem dX5_copiesOf_21 : decode cX5_copiesOf 21 = .ok (.astore 6, 2) := by decide +kernel
theorem dX5_copiesOf_23 : decode cX5_copiesOf 23 = .ok (.aload 6, 2) := by decide +kernel
theorem dX5_copiesOf_25 : decode cX5_copiesOf 25 = .ok (.ifnull 42, 3) := by decide +kernel
theorem dX5_copiesOf_28 : decode cX5_copiesOf 28 = .ok (.iload_n 1, 1) := by decide +kernel
theorem dX5_copiesOf_29 : decode cX5_copiesOf 29 = .ok (.aload 6, 2) := by decide +kernel
theorem dX5_copiesOf_31 : decode cX5_copiesOf 31 = .ok (.getfield 123, 3) := by decide +kernel
theorem dX5_copiesOf_34 : decode cX5_copiesOf 34 = .ok (.invokestatic 253, 3) := by decide +kernel
theorem dX5_copiesOf_37 : decode cX5_copiesOf 37 = .ok (.ifCond .eq 30, 3) := by decide +kernel
theorem dX5_copiesOf_40 : decode cX5_copiesOf 40 = .ok (.iload_n 2, 1) := by decide +kernel
theorem dX5_copiesOf_41 : decode cX5_copiesOf 41 = .ok (.aload 6, 2) := by decide +kernel
theorem dX5_copiesOf_43 : decode cX5_copiesOf 43 = .ok (.getfield 126, 3) := by decide +kernel
theorem dX5_copiesOf_46 : decode cX5_copiesOf 46 = .ok (.invokestatic 253, 3) := by decide +kernel
theorem dX5_copiesOf_49 : decode cX5_copiesOf 49 = .ok (.ifCond .eq 18, 3) := by decide +kernel
theorem dX5_copiesOf_52 : decode cX5_copiesOf 52 = .ok (.iload_n 3, 1) := by decide +kernel
theorem dX5_copiesOf_53 : decode cX5_copiesOf 53 = .ok (.aload 6, 2) := by decide +kernel
theorem dX5_copiesOf_55 : decode cX5_copiesOf 55 = .ok (.getfield 176, 3) := by decide +kernel
theorem dX5_copiesOf_58 : decode cX5_copiesOf 58 = .ok (.invokestatic 253, 3) := by decide +kernel
theorem dX5_copiesOf_61 : decode cX5_copiesOf 61 = .ok (.ifCond .eq 6, 3) := by decide +kernel
theorem dX5_copiesOf_64 : decode cX5_copiesOf 64 = .ok (.iinc 4 1, 3) := by decide +kernel
theorem dX5_copiesOf_67 : decode cX5_copiesOf 67 = .ok (.iinc 5 1, 3) := by decide +kernel
theorem dX5_copiesOf_70 : decode cX5_copiesOf 70 = .ok (.goto (-64), 3) := by decide +kernel
theorem dX5_copiesOf_73 : decode cX5_copiesOf 73 = .ok (.iload 4, 2) := by decide +kernel
theorem dX5_copiesOf_75 : decode cX5_copiesOf 75 = .ok (.ireturn, 1) := by decide +kernel
theorem dX5_fits_0 : decode cX5_fits 0 = .ok (.iload_n 0, 1) := by decide +kernel
theorem dX5_fits_1 : decode cX5_fits 1 = .ok (.iconst (-1), 1) := by decide +kernel
theorem dX5_fits_2 : decode cX5_fits 2 = .ok (.if_icmp .eq 8, 3) := by decide +kernel
theorem dX5_fits_5 : decode cX5_fits 5 = .ok (.iload_n 0, 1) := by decide +kernel
theorem dX5_fits_6 : decode cX5_fits 6 = .ok (.iload_n 1, 1) := by decide +kernel
theorem dX5_fits_7 : decode cX5_fits 7 = .ok (.if_icmp .ne 7, 3) := by decide +kernel
theorem dX5_fits_10 : decode cX5_fits 10 = .ok (.iconst 1, 1) := by decide +kernel
theorem dX5_fits_11 : decode cX5_fits 11 = .ok (.goto 4, 3) := by decide +kernel
theorem dX5_fits_14 : decode cX5_fits 14 = .ok (.iconst 0, 1) := by decide +kernel
theorem dX5_fits_15 : decode cX5_fits 15 = .ok (.ireturn, 1) := by decide +kernel
theorem dX5_upToDateCopies_0 : decode cX5_upToDateCopies 0 = .ok (.iconst 0, 1) := by decide +kernel
theorem dX5_upToDateCopies_1 : decode cX5_upToDateCopies 1 = .ok (.istore_n 2, 1) := by decide +kernel
theorem dX5_upToDateCopies_2 : decode cX5_upToDateCopies 2 = .ok (.iconst 0, 1) := by decide +kernel
theorem dX5_upToDateCopies_3 : decode cX5_upToDateCopies 3 = .ok (.istore_n 3, 1) := by decide +kernel
theorem dX5_upToDateCopies_4 : decode cX5_upToDateCopies 4 = .ok (.iload_n 3, 1) := by decide +kernel
theorem dX5_upToDateCopies_5 : decode cX5_upToDateCopies 5 = .ok (.aload_n 0, 1) := by decide +kernel
theorem dX5_upToDateCopies_6 : decode cX5_upToDateCopies 6 = .ok (.getfield 93, 3) := by decide +kernel
theorem dX5_upToDateCopies_9 : decode cX5_upToDateCopies 9 = .ok (.if_icmp .ge 51, 3) := by decide +kernel
theorem dX5_upToDateCopies_12 : decode cX5_upToDateCopies 12 = .ok (.aload_n 0, 1) := by decide +kernel
theorem dX5_upToDateCopies_13 : decode cX5_upToDateCopies 13 = .ok (.iload_n 3, 1) := by decide +kernel
theorem dX5_upToDateCopies_14 : decode cX5_upToDateCopies 14 = .ok (.invokevirtual 96, 3) := by decide +kernel
theorem dX5_upToDateCopies_17 : decode cX5_upToDateCopies 17 = .ok (.astore 4, 2) := by decide +kernel
theorem dX5_upToDateCopies_19 : decode cX5_upToDateCopies 19 = .ok (.aload 4, 2) := by decide +kernel
theorem dX5_upToDateCopies_21 : decode cX5_upToDateCopies 21 = .ok (.ifnull 33, 3) := by decide +kernel
theorem dX5_upToDateCopies_24 : decode cX5_upToDateCopies 24 = .ok (.aload 4, 2) := by decide +kernel
theorem dX5_upToDateCopies_26 : decode cX5_upToDateCopies 26 = .ok (.getfield 123, 3) := by decide +kernel
theorem dX5_upToDateCopies_29 : decode cX5_upToDateCopies 29 = .ok (.iload_n 1, 1) := by decide +kernel
theorem dX5_upToDateCopies_30 : decode cX5_upToDateCopies 30 = .ok (.if_icmp .ne 24, 3) := by decide +kernel
theorem dX5_upToDateCopies_33 : decode cX5_upToDateCopies 33 = .ok (.aload 4, 2) := by decide +kernel
theorem dX5_upToDateCopies_35 : decode cX5_upToDateCopies 35 = .ok (.getfield 176, 3) := by decide +kernel
theorem dX5_upToDateCopies_38 : decode cX5_upToDateCopies 38 = .ok (.iconst 1, 1) := by decide +kernel
theorem dX5_upToDateCopies_39 : decode cX5_upToDateCopies 39 = .ok (.if_icmp .ne 15, 3) := by decide +kernel
theorem dX5_upToDateCopies_42 : decode cX5_upToDateCopies 42 = .ok (.aload_n 0, 1) := by decide +kernel
theorem dX5_upToDateCopies_43 : decode cX5_upToDateCopies 43 = .ok (.aload 4, 2) := by decide +kernel
theorem dX5_upToDateCopies_45 : decode cX5_upToDateCopies 45 = .ok (.invokevirtual 247, 3) := by decide +kernel
theorem dX5_upToDateCopies_48 : decode cX5_upToDateCopies 48 = .ok (.ifCond .ne 6, 3) := by decide +kernel
theorem dX5_upToDateCopies_51 : decode cX5_upToDateCopies 51 = .ok (.iinc 2 1, 3) := by decide +kernel
theorem dX5_upToDateCopies_54 : decode cX5_upToDateCopies 54 = .ok (.iinc 3 1, 3) := by decide +kernel
theorem dX5_upToDateCopies_57 : decode cX5_upToDateCopies 57 = .ok (.goto (-53), 3) := by decide +kernel
theorem dX5_upToDateCopies_60 : decode cX5_upToDateCopies 60 = .ok (.iload_n 2, 1) := by decide +kernel
theorem dX5_upToDateCopies_61 : decode cX5_upToDateCopies 61 = .ok (.ireturn, 1) := by decide +kernel
theorem dX5_copiesWithCorrectionsDue_0 : decode cX5_copiesWithCorrectionsDue 0 = .ok (.iconst 0, 1) := by decide +kernel
theorem dX5_copiesWithCorrectionsDue_1 : decode cX5_copiesWithCorrectionsDue 1 = .ok (.istore_n 1, 1) := by decide +kernel
theorem dX5_copiesWithCorrectionsDue_2 : decode cX5_copiesWithCorrectionsDue 2 = .ok (.iconst 0, 1) := by decide +kernel
theorem dX5_copiesWithCorrectionsDue_3 : decode cX5_copiesWithCorrectionsDue 3 = .ok (.istore_n 2, 1) := by decide +kernel
theorem dX5_copiesWithCorrectionsDue_4 : decode cX5_copiesWithCorrectionsDue 4 = .ok (.iload_n 2, 1) := by decide +kernel
theorem dX5_copiesWithCorrectionsDue_5 : decode cX5_copiesWithCorrectionsDue 5 = .ok (.aload_n 0, 1) := by decide +kernel
theorem dX5_copiesWithCorrectionsDue_6 : decode cX5_copiesWithCorrectionsDue 6 = .ok (.getfield 93, 3) := by decide +kernel
theorem dX5_copiesWithCorrectionsDue_9 : decode cX5_copiesWithCorrectionsDue 9 = .ok (.if_icmp .ge 30, 3) := by decide +kernel
theorem dX5_copiesWithCorrectionsDue_12 : decode cX5_copiesWithCorrectionsDue 12 = .ok (.aload_n 0, 1) := by decide +kernel
theorem dX5_copiesWithCorrectionsDue_13 : decode cX5_copiesWithCorrectionsDue 13 = .ok (.iload_n 2, 1) := by decide +kernel
theorem dX5_copiesWithCorrectionsDue_14 : decode cX5_copiesWithCorrectionsDue 14 = .ok (.invokevirtual 96, 3) := by decide +kernel
theorem dX5_copiesWithCorrectionsDue_17 : decode cX5_copiesWithCorrectionsDue 17 = .ok (.astore_n 3, 1) := by decide +kernel
theorem dX5_copiesWithCorrectionsDue_18 : decode cX5_copiesWithCorrectionsDue 18 = .ok (.aload_n 3, 1) := by decide +kernel
theorem dX5_copiesWithCorrectionsDue_19 : decode cX5_copiesWithCorrectionsDue 19 = .ok (.ifnull 14, 3) := by decide +kernel
theorem dX5_copiesWithCorrectionsDue_22 : decode cX5_copiesWithCorrectionsDue 22 = .ok (.aload_n 0, 1) := by decide +kernel
theorem dX5_copiesWithCorrectionsDue_23 : decode cX5_copiesWithCorrectionsDue 23 = .ok (.aload_n 3, 1) := by decide +kernel
theorem dX5_copiesWithCorrectionsDue_24 : decode cX5_copiesWithCorrectionsDue 24 = .ok (.invokevirtual 238, 3) := by decide +kernel
theorem dX5_copiesWithCorrectionsDue_27 : decode cX5_copiesWithCorrectionsDue 27 = .ok (.ifCond .le 6, 3) := by decide +kernel
theorem dX5_copiesWithCorrectionsDue_30 : decode cX5_copiesWithCorrectionsDue 30 = .ok (.iinc 1 1, 3) := by decide +kernel
theorem dX5_copiesWithCorrectionsDue_33 : decode cX5_copiesWithCorrectionsDue 33 = .ok (.iinc 2 1, 3) := by decide +kernel
theorem dX5_copiesWithCorrectionsDue_36 : decode cX5_copiesWithCorrectionsDue 36 = .ok (.goto (-32), 3) := by decide +kernel
theorem dX5_copiesWithCorrectionsDue_39 : decode cX5_copiesWithCorrectionsDue 39 = .ok (.iload_n 1, 1) := by decide +kernel
theorem dX5_copiesWithCorrectionsDue_40 : decode cX5_copiesWithCorrectionsDue 40 = .ok (.ireturn, 1) := by decide +kernel
theorem dX5_storiesBy_0 : decode cX5_storiesBy 0 = .ok (.iconst 0, 1) := by decide +kernel
theorem dX5_storiesBy_1 : decode cX5_storiesBy 1 = .ok (.istore_n 2, 1) := by decide +kernel
theorem dX5_storiesBy_2 : decode cX5_storiesBy 2 = .ok (.iconst 0, 1) := by decide +kernel
theorem dX5_storiesBy_3 : decode cX5_storiesBy 3 = .ok (.istore_n 3, 1) := by decide +kernel
theorem dX5_storiesBy_4 : decode cX5_storiesBy 4 = .ok (.iload_n 3, 1) := by decide +kernel
theorem dX5_storiesBy_5 : decode cX5_storiesBy 5 = .ok (.aload_n 0, 1) := by decide +kernel
theorem dX5_storiesBy_6 : decode cX5_storiesBy 6 = .ok (.getfield 73, 3) := by decide +kernel
theorem dX5_storiesBy_9 : decode cX5_storiesBy 9 = .ok (.if_icmp .ge 33, 3) := by decide +kernel
theorem dX5_storiesBy_12 : decode cX5_storiesBy 12 = .ok (.aload_n 0, 1) := by decide +kernel
theorem dX5_storiesBy_13 : decode cX5_storiesBy 13 = .ok (.iload_n 3, 1) := by decide +kernel
theorem dX5_storiesBy_14 : decode cX5_storiesBy 14 = .ok (.invokevirtual 76, 3) := by decide +kernel
theorem dX5_storiesBy_17 : decode cX5_storiesBy 17 = .ok (.astore 4, 2) := by decide +kernel
theorem dX5_storiesBy_19 : decode cX5_storiesBy 19 = .ok (.aload 4, 2) := by decide +kernel
theorem dX5_storiesBy_21 : decode cX5_storiesBy 21 = .ok (.ifnull 15, 3) := by decide +kernel
theorem dX5_storiesBy_24 : decode cX5_storiesBy 24 = .ok (.aload 4, 2) := by decide +kernel
theorem dX5_storiesBy_26 : decode cX5_storiesBy 26 = .ok (.iload_n 1, 1) := by decide +kernel
theorem dX5_storiesBy_27 : decode cX5_storiesBy 27 = .ok (.invokevirtual 256, 3) := by decide +kernel
theorem dX5_storiesBy_30 : decode cX5_storiesBy 30 = .ok (.ifCond .eq 6, 3) := by decide +kernel
theorem dX5_storiesBy_33 : decode cX5_storiesBy 33 = .ok (.iinc 2 1, 3) := by decide +kernel
theorem dX5_storiesBy_36 : decode cX5_storiesBy 36 = .ok (.iinc 3 1, 3) := by decide +kernel
theorem dX5_storiesBy_39 : decode cX5_storiesBy 39 = .ok (.goto (-35), 3) := by decide +kernel
theorem dX5_storiesBy_42 : decode cX5_storiesBy 42 = .ok (.iload_n 2, 1) := by decide +kernel
theorem dX5_storiesBy_43 : decode cX5_storiesBy 43 = .ok (.ireturn, 1) := by decide +kernel
theorem dX5_copiesInUseBy_0 : decode cX5_copiesInUseBy 0 = .ok (.iconst 0, 1) := by decide +kernel
theorem dX5_copiesInUseBy_1 : decode cX5_copiesInUseBy 1 = .ok (.istore_n 2, 1) := by decide +kernel
theorem dX5_copiesInUseBy_2 : decode cX5_copiesInUseBy 2 = .ok (.iconst 0, 1) := by decide +kernel
theorem dX5_copiesInUseBy_3 : decode cX5_copiesInUseBy 3 = .ok (.istore_n 3, 1) := by decide +kernel
theorem dX5_copiesInUseBy_4 : decode cX5_copiesInUseBy 4 = .ok (.iload_n 3, 1) := by decide +kernel
theorem dX5_copiesInUseBy_5 : decode cX5_copiesInUseBy 5 = .ok (.aload_n 0, 1) := by decide +kernel
theorem dX5_copiesInUseBy_6 : decode cX5_copiesInUseBy 6 = .ok (.getfield 73, 3) := by decide +kernel
theorem dX5_copiesInUseBy_9 : decode cX5_copiesInUseBy 9 = .ok (.if_icmp .ge 40, 3) := by decide +kernel
theorem dX5_copiesInUseBy_12 : decode cX5_copiesInUseBy 12 = .ok (.aload_n 0, 1) := by decide +kernel
theorem dX5_copiesInUseBy_13 : decode cX5_copiesInUseBy 13 = .ok (.iload_n 3, 1) := by decide +kernel
theorem dX5_copiesInUseBy_14 : decode cX5_copiesInUseBy 14 = .ok (.invokevirtual 76, 3) := by decide +kernel
theorem dX5_copiesInUseBy_17 : decode cX5_copiesInUseBy 17 = .ok (.astore 4, 2) := by decide +kernel
theorem dX5_copiesInUseBy_19 : decode cX5_copiesInUseBy 19 = .ok (.aload 4, 2) := by decide +kernel
theorem dX5_copiesInUseBy_21 : decode cX5_copiesInUseBy 21 = .ok (.ifnull 22, 3) := by decide +kernel
theorem dX5_copiesInUseBy_24 : decode cX5_copiesInUseBy 24 = .ok (.aload 4, 2) := by decide +kernel
theorem dX5_copiesInUseBy_26 : decode cX5_copiesInUseBy 26 = .ok (.iload_n 1, 1) := by decide +kernel
theorem dX5_copiesInUseBy_27 : decode cX5_copiesInUseBy 27 = .ok (.invokevirtual 256, 3) := by decide +kernel
theorem dX5_copiesInUseBy_30 : decode cX5_copiesInUseBy 30 = .ok (.ifCond .eq 13, 3) := by decide +kernel
theorem dX5_copiesInUseBy_33 : decode cX5_copiesInUseBy 33 = .ok (.iload_n 2, 1) := by decide +kernel
theorem dX5_copiesInUseBy_34 : decode cX5_copiesInUseBy 34 = .ok (.aload_n 0, 1) := by decide +kernel
theorem dX5_copiesInUseBy_35 : decode cX5_copiesInUseBy 35 = .ok (.iload_n 3, 1) := by decide +kernel
theorem dX5_copiesInUseBy_36 : decode cX5_copiesInUseBy 36 = .ok (.iconst (-1), 1) := by decide +kernel
theorem dX5_copiesInUseBy_37 : decode cX5_copiesInUseBy 37 = .ok (.iconst 1, 1) := by decide +kernel
theorem dX5_copiesInUseBy_38 : decode cX5_copiesInUseBy 38 = .ok (.invokevirtual 259, 3) := by decide +kernel
theorem dX5_copiesInUseBy_41 : decode cX5_copiesInUseBy 41 = .ok (.iadd, 1) := by decide +kernel
theorem dX5_copiesInUseBy_42 : decode cX5_copiesInUseBy 42 = .ok (.istore_n 2, 1) := by decide +kernel
theorem dX5_copiesInUseBy_43 : decode cX5_copiesInUseBy 43 = .ok (.iinc 3 1, 3) := by decide +kernel
theorem dX5_copiesInUseBy_46 : decode cX5_copiesInUseBy 46 = .ok (.goto (-42), 3) := by decide +kernel
theorem dX5_copiesInUseBy_49 : decode cX5_copiesInUseBy 49 = .ok (.iload_n 2, 1) := by decide +kernel
theorem dX5_copiesInUseBy_50 : decode cX5_copiesInUseBy 50 = .ok (.ireturn, 1) := by decide +kernel
theorem dX5_authors_0 : decode cX5_authors 0 = .ok (.iconst 0, 1) := by decide +kernel
theorem dX5_authors_1 : decode cX5_authors 1 = .ok (.istore_n 1, 1) := by decide +kernel
theorem dX5_authors_2 : decode cX5_authors 2 = .ok (.iconst 0, 1) := by decide +kernel
theorem dX5_authors_3 : decode cX5_authors 3 = .ok (.istore_n 2, 1) := by decide +kernel
theorem dX5_authors_4 : decode cX5_authors 4 = .ok (.iload_n 2, 1) := by decide +kernel
theorem dX5_authors_5 : decode cX5_authors 5 = .ok (.bipush 10, 2) := by decide +kernel
theorem dX5_authors_7 : decode cX5_authors 7 = .ok (.if_icmp .ge 20, 3) := by decide +kernel
theorem dX5_authors_10 : decode cX5_authors 10 = .ok (.aload_n 0, 1) := by decide +kernel
theorem dX5_authors_11 : decode cX5_authors 11 = .ok (.iload_n 2, 1) := by decide +kernel
theorem dX5_authors_12 : decode cX5_authors 12 = .ok (.invokevirtual 263, 3) := by decide +kernel
theorem dX5_authors_15 : decode cX5_authors 15 = .ok (.ifCond .le 6, 3) := by decide +kernel
theorem dX5_authors_18 : decode cX5_authors 18 = .ok (.iinc 1 1, 3) := by decide +kernel
theorem dX5_authors_21 : decode cX5_authors 21 = .ok (.iinc 2 1, 3) := by decide +kernel
theorem dX5_authors_24 : decode cX5_authors 24 = .ok (.goto (-20), 3) := by decide +kernel
theorem dX5_authors_27 : decode cX5_authors 27 = .ok (.iload_n 1, 1) := by decide +kernel
theorem dX5_authors_28 : decode cX5_authors 28 = .ok (.ireturn, 1) := by decide +kernel
theorem dX6_init_0 : decode cX6_init 0 = .ok (.aload_n 0, 1) := by decide +kernel
theorem dX6_init_1 : decode cX6_init 1 = .ok (.invokespecial 3, 3) := by decide +kernel
theorem dX6_init_4 : decode cX6_init 4 = .ok (.aload_n 0, 1) := by decide +kernel
theorem dX6_init_5 : decode cX6_init 5 = .ok (.iconst 3, 1) := by decide +kernel
theorem dX6_init_6 : decode cX6_init 6 = .ok (.newarray .int, 2) := by decide +kernel
theorem dX6_init_8 : decode cX6_init 8 = .ok (.putfield 9, 3) := by decide +kernel
theorem dX6_init_11 : decode cX6_init 11 = .ok (.aload_n 0, 1) := by decide +kernel
theorem dX6_init_12 : decode cX6_init 12 = .ok (.bipush 12, 2) := by decide +kernel
theorem dX6_init_14 : decode cX6_init 14 = .ok (.newarray .int, 2) := by decide +kernel
theorem dX6_init_16 : decode cX6_init 16 = .ok (.putfield 15, 3) := by decide +kernel
theorem dX6_init_19 : decode cX6_init 19 = .ok (.aload_n 0, 1) := by decide +kernel
theorem dX6_init_20 : decode cX6_init 20 = .ok (.bipush 6, 2) := by decide +kernel
theorem dX6_init_22 : decode cX6_init 22 = .ok (.newarray .int, 2) := by decide +kernel
theorem dX6_init_24 : decode cX6_init 24 = .ok (.putfield 18, 3) := by decide +kernel
theorem dX6_init_27 : decode cX6_init 27 = .ok (.return_, 1) := by decide +kernel
theorem dX6_begin_0 : decode cX6_begin 0 = .ok (.aload_n 0, 1) := by decide +kernel
theorem dX6_begin_1 : decode cX6_begin 1 = .ok (.aload_n 1, 1) := by decide +kernel
theorem dX6_begin_2 : decode cX6_begin 2 = .ok (.getfield 21, 3) := by decide +kernel
theorem dX6_begin_5 : decode cX6_begin 5 = .ok (.putfield 27, 3) := by decide +kernel
theorem dX6_begin_8 : decode cX6_begin 8 = .ok (.aload_n 0, 1) := by decide +kernel
theorem dX6_begin_9 : decode cX6_begin 9 = .ok (.aload_n 1, 1) := by decide +kernel
theorem dX6_begin_10 : decode cX6_begin 10 = .ok (.getfield 28, 3) := by decide +kernel
theorem dX6_begin_13 : decode cX6_begin 13 = .ok (.putfield 31, 3) := by decide +kernel
theorem dX6_begin_16 : decode cX6_begin 16 = .ok (.aload_n 1, 1) := by decide +kernel
theorem dX6_begin_17 : decode cX6_begin 17 = .ok (.getfield 32, 3) := by decide +kernel
theorem dX6_begin_20 : decode cX6_begin 20 = .ok (.aload_n 0, 1) := by decide +kernel
theorem dX6_begin_21 : decode cX6_begin 21 = .ok (.getfield 9, 3) := by decide +kernel
theorem dX6_begin_24 : decode cX6_begin 24 = .ok (.invokestatic 33, 3) := by decide +kernel
theorem dX6_begin_27 : decode cX6_begin 27 = .ok (.aload_n 0, 1) := by decide +kernel
theorem dX6_begin_28 : decode cX6_begin 28 = .ok (.aload_n 1, 1) := by decide +kernel
theorem dX6_begin_29 : decode cX6_begin 29 = .ok (.getfield 37, 3) := by decide +kernel
theorem dX6_begin_32 : decode cX6_begin 32 = .ok (.putfield 40, 3) := by decide +kernel
theorem dX6_begin_35 : decode cX6_begin 35 = .ok (.aload_n 0, 1) := by decide +kernel
theorem dX6_begin_36 : decode cX6_begin 36 = .ok (.aload_n 1, 1) := by decide +kernel
theorem dX6_begin_37 : decode cX6_begin 37 = .ok (.getfield 41, 3) := by decide +kernel
theorem dX6_begin_40 : decode cX6_begin 40 = .ok (.putfield 44, 3) := by decide +kernel
theorem dX6_begin_43 : decode cX6_begin 43 = .ok (.aload_n 1, 1) := by decide +kernel
theorem dX6_begin_44 : decode cX6_begin 44 = .ok (.getfield 45, 3) := by decide +kernel
theorem dX6_begin_47 : decode cX6_begin 47 = .ok (.aload_n 0, 1) := by decide +kernel
theorem dX6_begin_48 : decode cX6_begin 48 = .ok (.getfield 15, 3) := by decide +kernel
theorem dX6_begin_51 : decode cX6_begin 51 = .ok (.invokestatic 33, 3) := by decide +kernel
theorem dX6_begin_54 : decode cX6_begin 54 = .ok (.aload_n 0, 1) := by decide +kernel
theorem dX6_begin_55 : decode cX6_begin 55 = .ok (.iconst 0, 1) := by decide +kernel
theorem dX6_begin_56 : decode cX6_begin 56 = .ok (.putfield 46, 3) := by decide +kernel
theorem dX6_begin_59 : decode cX6_begin 59 = .ok (.aload_n 0, 1) := by decide +kernel
theorem dX6_begin_60 : decode cX6_begin 60 = .ok (.iconst 0, 1) := by decide +kernel
theorem dX6_begin_61 : decode cX6_begin 61 = .ok (.putfield 49, 3) := by decide +kernel
theorem dX6_begin_64 : decode cX6_begin 64 = .ok (.aload_n 0, 1) := by decide +kernel
theorem dX6_begin_65 : decode cX6_begin 65 = .ok (.bipush (-5), 2) := by decide +kernel
theorem dX6_begin_67 : decode cX6_begin 67 = .ok (.putfield 52, 3) := by decide +kernel
theorem dX6_begin_70 : decode cX6_begin 70 = .ok (.aload_n 0, 1) := by decide +kernel
theorem dX6_begin_71 : decode cX6_begin 71 = .ok (.bipush (-5), 2) := by decide +kernel
theorem dX6_begin_73 : decode cX6_begin 73 = .ok (.putfield 55, 3) := by decide +kernel
theorem dX6_begin_76 : decode cX6_begin 76 = .ok (.return_, 1) := by decide +kernel
theorem dX6_copyFrom_0 : decode cX6_copyFrom 0 = .ok (.aload_n 0, 1) := by decide +kernel
theorem dX6_copyFrom_1 : decode cX6_copyFrom 1 = .ok (.aload_n 1, 1) := by decide +kernel
theorem dX6_copyFrom_2 : decode cX6_copyFrom 2 = .ok (.getfield 27, 3) := by decide +kernel
theorem dX6_copyFrom_5 : decode cX6_copyFrom 5 = .ok (.putfield 27, 3) := by decide +kernel
theorem dX6_copyFrom_8 : decode cX6_copyFrom 8 = .ok (.aload_n 0, 1) := by decide +kernel
theorem dX6_copyFrom_9 : decode cX6_copyFrom 9 = .ok (.aload_n 1, 1) := by decide +kernel
theorem dX6_copyFrom_10 : decode cX6_copyFrom 10 = .ok (.getfield 31, 3) := by decide +kernel
theorem dX6_copyFrom_13 : decode cX6_copyFrom 13 = .ok (.putfield 31, 3) := by decide +kernel
theorem dX6_copyFrom_16 : decode cX6_copyFrom 16 = .ok (.aload_n 1, 1) := by decide +kernel
theorem dX6_copyFrom_17 : decode cX6_copyFrom 17 = .ok (.getfield 9, 3) := by decide +kernel
theorem dX6_copyFrom_20 : decode cX6_copyFrom 20 = .ok (.aload_n 0, 1) := by decide +kernel
theorem dX6_copyFrom_21 : decode cX6_copyFrom 21 = .ok (.getfield 9, 3) := by decide +kernel
theorem dX6_copyFrom_24 : decode cX6_copyFrom 24 = .ok (.invokestatic 33, 3) := by decide +kernel
theorem dX6_copyFrom_27 : decode cX6_copyFrom 27 = .ok (.aload_n 0, 1) := by decide +kernel
theorem dX6_copyFrom_28 : decode cX6_copyFrom 28 = .ok (.aload_n 1, 1) := by decide +kernel
theorem dX6_copyFrom_29 : decode cX6_copyFrom 29 = .ok (.getfield 40, 3) := by decide +kernel
theorem dX6_copyFrom_32 : decode cX6_copyFrom 32 = .ok (.putfield 40, 3) := by decide +kernel
theorem dX6_copyFrom_35 : decode cX6_copyFrom 35 = .ok (.aload_n 0, 1) := by decide +kernel
theorem dX6_copyFrom_36 : decode cX6_copyFrom 36 = .ok (.aload_n 1, 1) := by decide +kernel
theorem dX6_copyFrom_37 : decode cX6_copyFrom 37 = .ok (.getfield 44, 3) := by decide +kernel
theorem dX6_copyFrom_40 : decode cX6_copyFrom 40 = .ok (.putfield 44, 3) := by decide +kernel
theorem dX6_copyFrom_43 : decode cX6_copyFrom 43 = .ok (.aload_n 1, 1) := by decide +kernel
theorem dX6_copyFrom_44 : decode cX6_copyFrom 44 = .ok (.getfield 15, 3) := by decide +kernel
theorem dX6_copyFrom_47 : decode cX6_copyFrom 47 = .ok (.aload_n 0, 1) := by decide +kernel
theorem dX6_copyFrom_48 : decode cX6_copyFrom 48 = .ok (.getfield 15, 3) := by decide +kernel
theorem dX6_copyFrom_51 : decode cX6_copyFrom 51 = .ok (.invokestatic 33, 3) := by decide +kernel
theorem dX6_copyFrom_54 : decode cX6_copyFrom 54 = .ok (.aload_n 0, 1) := by decide +kernel
theorem dX6_copyFrom_55 : decode cX6_copyFrom 55 = .ok (.aload_n 1, 1) := by decide +kernel
theorem dX6_copyFrom_56 : decode cX6_copyFrom 56 = .ok (.getfield 46, 3) := by decide +kernel
theorem dX6_copyFrom_59 : decode cX6_copyFrom 59 = .ok (.putfield 46, 3) := by decide +kernel
theorem dX6_copyFrom_62 : decode cX6_copyFrom 62 = .ok (.aload_n 0, 1) := by decide +kernel
theorem dX6_copyFrom_63 : decode cX6_copyFrom 63 = .ok (.aload_n 1, 1) := by decide +kernel
theorem dX6_copyFrom_64 : decode cX6_copyFrom 64 = .ok (.getfield 49, 3) := by decide +kernel
theorem dX6_copyFrom_67 : decode cX6_copyFrom 67 = .ok (.putfield 49, 3) := by decide +kernel
theorem dX6_copyFrom_70 : decode cX6_copyFrom 70 = .ok (.aload_n 1, 1) := by decide +kernel
theorem dX6_copyFrom_71 : decode cX6_copyFrom 71 = .ok (.getfield 18, 3) := by decide +kernel
theorem dX6_copyFrom_74 : decode cX6_copyFrom 74 = .ok (.aload_n 0, 1) := by decide +kernel
theorem dX6_copyFrom_75 : decode cX6_copyFrom 75 = .ok (.getfield 18, 3) := by decide +kernel
theorem dX6_copyFrom_78 : decode cX6_copyFrom 78 = .ok (.invokestatic 33, 3) := by decide +kernel
theorem dX6_copyFrom_81 : decode cX6_copyFrom 81 = .ok (.aload_n 0, 1) := by decide +kernel
theorem dX6_copyFrom_82 : decode cX6_copyFrom 82 = .ok (.aload_n 1, 1) := by decide +kernel
theorem dX6_copyFrom_83 : decode cX6_copyFrom 83 = .ok (.getfield 52, 3) := by decide +kernel
theorem dX6_copyFrom_86 : decode cX6_copyFrom 86 = .ok (.putfield 52, 3) := by decide +kernel
theorem dX6_copyFrom_89 : decode cX6_copyFrom 89 = .ok (.aload_n 0, 1) := by decide +kernel
theorem dX6_copyFrom_90 : decode cX6_copyFrom 90 = .ok (.aload_n 1, 1) := by decide +kernel
theorem dX6_copyFrom_91 : decode cX6_copyFrom 91 = .ok (.getfield 55, 3) := by decide +kernel
theorem dX6_copyFrom_94 : decode cX6_copyFrom 94 = .ok (.putfield 55, 3) := by decide +kernel
theorem dX6_copyFrom_97 : decode cX6_copyFrom 97 = .ok (.return_, 1) := by decide +kernel
theorem dX6_addCorrection_0 : decode cX6_addCorrection 0 = .ok (.aload_n 0, 1) := by decide +kernel
theorem dX6_addCorrection_1 : decode cX6_addCorrection 1 = .ok (.getfield 49, 3) := by decide +kernel
theorem dX6_addCorrection_4 : decode cX6_addCorrection 4 = .ok (.aload_n 0, 1) := by decide +kernel
theorem dX6_addCorrection_5 : decode cX6_addCorrection 5 = .ok (.getfield 18, 3) := by decide +kernel
theorem dX6_addCorrection_8 : decode cX6_addCorrection 8 = .ok (.arraylength, 1) := by decide +kernel
theorem dX6_addCorrection_9 : decode cX6_addCorrection 9 = .ok (.invokestatic 58, 3) := by decide +kernel
theorem dX6_addCorrection_12 : decode cX6_addCorrection 12 = .ok (.ifCond .eq 23, 3) := by decide +kernel
theorem dX6_addCorrection_15 : decode cX6_addCorrection 15 = .ok (.aload_n 0, 1) := by decide +kernel
theorem dX6_addCorrection_16 : decode cX6_addCorrection 16 = .ok (.getfield 18, 3) := by decide +kernel
theorem dX6_addCorrection_19 : decode cX6_addCorrection 19 = .ok (.aload_n 0, 1) := by decide +kernel
theorem dX6_addCorrection_20 : decode cX6_addCorrection 20 = .ok (.getfield 49, 3) := by decide +kernel
theorem dX6_addCorrection_23 : decode cX6_addCorrection 23 = .ok (.iload_n 1, 1) := by decide +kernel
theorem dX6_addCorrection_24 : decode cX6_addCorrection 24 = .ok (.iastore, 1) := by decide +kernel
theorem dX6_addCorrection_25 : decode cX6_addCorrection 25 = .ok (.aload_n 0, 1) := by decide +kernel
theorem dX6_addCorrection_26 : decode cX6_addCorrection 26 = .ok (.dup, 1) := by decide +kernel
theorem dX6_addCorrection_27 : decode cX6_addCorrection 27 = .ok (.getfield 49, 3) := by decide +kernel
theorem dX6_addCorrection_30 : decode cX6_addCorrection 30 = .ok (.iconst 1, 1) := by decide +kernel
theorem dX6_addCorrection_31 : decode cX6_addCorrection 31 = .ok (.iadd, 1) := by decide +kernel
theorem dX6_addCorrection_32 : decode cX6_addCorrection 32 = .ok (.putfield 49, 3) := by decide +kernel
theorem dX6_addCorrection_35 : decode cX6_addCorrection 35 = .ok (.return_, 1) := by decide +kernel
theorem dX6_authorAt_0 : decode cX6_authorAt 0 = .ok (.iload_n 1, 1) := by decide +kernel
theorem dX6_authorAt_1 : decode cX6_authorAt 1 = .ok (.aload_n 0, 1) := by decide +kernel
theorem dX6_authorAt_2 : decode cX6_authorAt 2 = .ok (.getfield 31, 3) := by decide +kernel
theorem dX6_authorAt_5 : decode cX6_authorAt 5 = .ok (.aload_n 0, 1) := by decide +kernel
theorem dX6_authorAt_6 : decode cX6_authorAt 6 = .ok (.getfield 9, 3) := by decide +kernel
theorem dX6_authorAt_9 : decode cX6_authorAt 9 = .ok (.arraylength, 1) := by decide +kernel
theorem dX6_authorAt_10 : decode cX6_authorAt 10 = .ok (.invokestatic 62, 3) := by decide +kernel
theorem dX6_authorAt_13 : decode cX6_authorAt 13 = .ok (.invokestatic 58, 3) := by decide +kernel
theorem dX6_authorAt_16 : decode cX6_authorAt 16 = .ok (.ifCond .eq 12, 3) := by decide +kernel
theorem dX6_authorAt_19 : decode cX6_authorAt 19 = .ok (.aload_n 0, 1) := by decide +kernel
theorem dX6_authorAt_20 : decode cX6_authorAt 20 = .ok (.getfield 9, 3) := by decide +kernel
theorem dX6_authorAt_23 : decode cX6_authorAt 23 = .ok (.iload_n 1, 1) := by decide +kernel
theorem dX6_authorAt_24 : decode cX6_authorAt 24 = .ok (.iaload, 1) := by decide +kernel
theorem dX6_authorAt_25 : decode cX6_authorAt 25 = .ok (.goto 5, 3) := by decide +kernel
theorem dX6_authorAt_28 : decode cX6_authorAt 28 = .ok (.bipush (-5), 2) := by decide +kernel
theorem dX6_authorAt_30 : decode cX6_authorAt 30 = .ok (.ireturn, 1) := by decide +kernel
theorem dX6_correctedAt_0 : decode cX6_correctedAt 0 = .ok (.iload_n 1, 1) := by decide +kernel
theorem dX6_correctedAt_1 : decode cX6_correctedAt 1 = .ok (.aload_n 0, 1) := by decide +kernel
theorem dX6_correctedAt_2 : decode cX6_correctedAt 2 = .ok (.getfield 49, 3) := by decide +kernel
theorem dX6_correctedAt_5 : decode cX6_correctedAt 5 = .ok (.aload_n 0, 1) := by decide +kernel
theorem dX6_correctedAt_6 : decode cX6_correctedAt 6 = .ok (.getfield 18, 3) := by decide +kernel
theorem dX6_correctedAt_9 : decode cX6_correctedAt 9 = .ok (.arraylength, 1) := by decide +kernel
theorem dX6_correctedAt_10 : decode cX6_correctedAt 10 = .ok (.invokestatic 62, 3) := by decide +kernel
theorem dX6_correctedAt_13 : decode cX6_correctedAt 13 = .ok (.invokestatic 58, 3) := by decide +kernel
theorem dX6_correctedAt_16 : decode cX6_correctedAt 16 = .ok (.ifCond .eq 12, 3) := by decide +kernel
theorem dX6_correctedAt_19 : decode cX6_correctedAt 19 = .ok (.aload_n 0, 1) := by decide +kernel
theorem dX6_correctedAt_20 : decode cX6_correctedAt 20 = .ok (.getfield 18, 3) := by decide +kernel
theorem dX6_correctedAt_23 : decode cX6_correctedAt 23 = .ok (.iload_n 1, 1) := by decide +kernel
theorem dX6_correctedAt_24 : decode cX6_correctedAt 24 = .ok (.iaload, 1) := by decide +kernel
theorem dX6_correctedAt_25 : decode cX6_correctedAt 25 = .ok (.goto 5, 3) := by decide +kernel
theorem dX6_correctedAt_28 : decode cX6_correctedAt 28 = .ok (.bipush (-5), 2) := by decide +kernel
theorem dX6_correctedAt_30 : decode cX6_correctedAt 30 = .ok (.ireturn, 1) := by decide +kernel
theorem dX6_isBy_0 : decode cX6_isBy 0 = .ok (.iconst 0, 1) := by decide +kernel
theorem dX6_isBy_1 : decode cX6_isBy 1 = .ok (.istore_n 2, 1) := by decide +kernel
theorem dX6_isBy_2 : decode cX6_isBy 2 = .ok (.iload_n 2, 1) := by decide +kernel
theorem dX6_isBy_3 : decode cX6_isBy 3 = .ok (.aload_n 0, 1) := by decide +kernel
theorem dX6_isBy_4 : decode cX6_isBy 4 = .ok (.getfield 31, 3) := by decide +kernel
theorem dX6_isBy_7 : decode cX6_isBy 7 = .ok (.if_icmp .ge 20, 3) := by decide +kernel
theorem dX6_isBy_10 : decode cX6_isBy 10 = .ok (.aload_n 0, 1) := by decide +kernel
theorem dX6_isBy_11 : decode cX6_isBy 11 = .ok (.iload_n 2, 1) := by decide +kernel
theorem dX6_isBy_12 : decode cX6_isBy 12 = .ok (.invokevirtual 68, 3) := by decide +kernel
theorem dX6_isBy_15 : decode cX6_isBy 15 = .ok (.iload_n 1, 1) := by decide +kernel
theorem dX6_isBy_16 : decode cX6_isBy 16 = .ok (.if_icmp .ne 5, 3) := by decide +kernel
theorem dX6_isBy_19 : decode cX6_isBy 19 = .ok (.iconst 1, 1) := by decide +kernel
theorem dX6_isBy_20 : decode cX6_isBy 20 = .ok (.ireturn, 1) := by decide +kernel
theorem dX6_isBy_21 : decode cX6_isBy 21 = .ok (.iinc 2 1, 3) := by decide +kernel
theorem dX6_isBy_24 : decode cX6_isBy 24 = .ok (.goto (-22), 3) := by decide +kernel
theorem dX6_isBy_27 : decode cX6_isBy 27 = .ok (.iconst 0, 1) := by decide +kernel
theorem dX6_isBy_28 : decode cX6_isBy 28 = .ok (.ireturn, 1) := by decide +kernel
theorem dX7_init_0 : decode cX7_init 0 = .ok (.aload_n 0, 1) := by decide +kernel
theorem dX7_init_1 : decode cX7_init 1 = .ok (.invokespecial 3, 3) := by decide +kernel
theorem dX7_init_4 : decode cX7_init 4 = .ok (.aload_n 0, 1) := by decide +kernel
theorem dX7_init_5 : decode cX7_init 5 = .ok (.bipush 40, 2) := by decide +kernel
theorem dX7_init_7 : decode cX7_init 7 = .ok (.newarray .int, 2) := by decide +kernel
theorem dX7_init_9 : decode cX7_init 9 = .ok (.putfield 9, 3) := by decide +kernel
theorem dX7_init_12 : decode cX7_init 12 = .ok (.aload_n 0, 1) := by decide +kernel
theorem dX7_init_13 : decode cX7_init 13 = .ok (.iconst 3, 1) := by decide +kernel
theorem dX7_init_14 : decode cX7_init 14 = .ok (.newarray .int, 2) := by decide +kernel
theorem dX7_init_16 : decode cX7_init 16 = .ok (.putfield 15, 3) := by decide +kernel
theorem dX7_init_19 : decode cX7_init 19 = .ok (.aload_n 0, 1) := by decide +kernel
theorem dX7_init_20 : decode cX7_init 20 = .ok (.bipush 12, 2) := by decide +kernel
theorem dX7_init_22 : decode cX7_init 22 = .ok (.newarray .int, 2) := by decide +kernel
theorem dX7_init_24 : decode cX7_init 24 = .ok (.putfield 18, 3) := by decide +kernel
theorem dX7_init_27 : decode cX7_init 27 = .ok (.return_, 1) := by decide +kernel
theorem dX7_add_0 : decode cX7_add 0 = .ok (.aload_n 0, 1) := by decide +kernel
theorem dX7_add_1 : decode cX7_add 1 = .ok (.getfield 21, 3) := by decide +kernel
theorem dX7_add_4 : decode cX7_add 4 = .ok (.aload_n 0, 1) := by decide +kernel
theorem dX7_add_5 : decode cX7_add 5 = .ok (.getfield 9, 3) := by decide +kernel
theorem dX7_add_8 : decode cX7_add 8 = .ok (.arraylength, 1) := by decide +kernel
theorem dX7_add_9 : decode cX7_add 9 = .ok (.invokestatic 25, 3) := by decide +kernel
theorem dX7_add_12 : decode cX7_add 12 = .ok (.ifCond .eq 23, 3) := by decide +kernel
theorem dX7_add_15 : decode cX7_add 15 = .ok (.aload_n 0, 1) := by decide +kernel
theorem dX7_add_16 : decode cX7_add 16 = .ok (.getfield 9, 3) := by decide +kernel
theorem dX7_add_19 : decode cX7_add 19 = .ok (.aload_n 0, 1) := by decide +kernel
theorem dX7_add_20 : decode cX7_add 20 = .ok (.getfield 21, 3) := by decide +kernel
theorem dX7_add_23 : decode cX7_add 23 = .ok (.iload_n 1, 1) := by decide +kernel
theorem dX7_add_24 : decode cX7_add 24 = .ok (.iastore, 1) := by decide +kernel
theorem dX7_add_25 : decode cX7_add 25 = .ok (.aload_n 0, 1) := by decide +kernel
theorem dX7_add_26 : decode cX7_add 26 = .ok (.dup, 1) := by decide +kernel
theorem dX7_add_27 : decode cX7_add 27 = .ok (.getfield 21, 3) := by decide +kernel
theorem dX7_add_30 : decode cX7_add 30 = .ok (.iconst 1, 1) := by decide +kernel
theorem dX7_add_31 : decode cX7_add 31 = .ok (.iadd, 1) := by decide +kernel
theorem dX7_add_32 : decode cX7_add 32 = .ok (.putfield 21, 3) := by decide +kernel
theorem dX7_add_35 : decode cX7_add 35 = .ok (.return_, 1) := by decide +kernel
theorem dX7_parse_0 : decode cX7_parse 0 = .ok (.aload_n 0, 1) := by decide +kernel
theorem dX7_parse_1 : decode cX7_parse 1 = .ok (.iconst 0, 1) := by decide +kernel
theorem dX7_parse_2 : decode cX7_parse 2 = .ok (.putfield 29, 3) := by decide +kernel
theorem dX7_parse_5 : decode cX7_parse 5 = .ok (.aload_n 0, 1) := by decide +kernel
theorem dX7_parse_6 : decode cX7_parse 6 = .ok (.invokevirtual 32, 3) := by decide +kernel
theorem dX7_parse_9 : decode cX7_parse 9 = .ok (.ifCond .eq 64, 3) := by decide +kernel
theorem dX7_parse_12 : decode cX7_parse 12 = .ok (.aload_n 0, 1) := by decide +kernel
theorem dX7_parse_13 : decode cX7_parse 13 = .ok (.bipush 32, 2) := by decide +kernel
theorem dX7_parse_15 : decode cX7_parse 15 = .ok (.invokevirtual 36, 3) := by decide +kernel
theorem dX7_parse_18 : decode cX7_parse 18 = .ok (.ifCond .eq 55, 3) := by decide +kernel
theorem dX7_parse_21 : decode cX7_parse 21 = .ok (.aload_n 0, 1) := by decide +kernel
theorem dX7_parse_22 : decode cX7_parse 22 = .ok (.invokevirtual 40, 3) := by decide +kernel
theorem dX7_parse_25 : decode cX7_parse 25 = .ok (.ifCond .eq 48, 3) := by decide +kernel
theorem dX7_parse_28 : decode cX7_parse 28 = .ok (.aload_n 0, 1) := by decide +kernel
theorem dX7_parse_29 : decode cX7_parse 29 = .ok (.bipush 32, 2) := by decide +kernel
theorem dX7_parse_31 : decode cX7_parse 31 = .ok (.invokevirtual 36, 3) := by decide +kernel
theorem dX7_parse_34 : decode cX7_parse 34 = .ok (.ifCond .eq 39, 3) := by decide +kernel
theorem dX7_parse_37 : decode cX7_parse 37 = .ok (.aload_n 0, 1) := by decide +kernel
theorem dX7_parse_38 : decode cX7_parse 38 = .ok (.bipush 64, 2) := by decide +kernel
theorem dX7_parse_40 : decode cX7_parse 40 = .ok (.invokevirtual 36, 3) := by decide +kernel
theorem dX7_parse_43 : decode cX7_parse 43 = .ok (.ifCond .eq 30, 3) := by decide +kernel
theorem dX7_parse_46 : decode cX7_parse 46 = .ok (.aload_n 0, 1) := by decide +kernel
theorem dX7_parse_47 : decode cX7_parse 47 = .ok (.invokevirtual 43, 3) := by decide +kernel
theorem dX7_parse_50 : decode cX7_parse 50 = .ok (.ifCond .eq 23, 3) := by decide +kernel
theorem dX7_parse_53 : decode cX7_parse 53 = .ok (.aload_n 0, 1) := by decide +kernel
theorem dX7_parse_54 : decode cX7_parse 54 = .ok (.bipush 32, 2) := by decide +kernel
theorem dX7_parse_56 : decode cX7_parse 56 = .ok (.invokevirtual 36, 3) := by decide +kernel
theorem dX7_parse_59 : decode cX7_parse 59 = .ok (.ifCond .eq 14, 3) := by decide +kernel
theorem dX7_parse_62 : decode cX7_parse 62 = .ok (.aload_n 0, 1) := by decide +kernel
theorem dX7_parse_63 : decode cX7_parse 63 = .ok (.invokevirtual 46, 3) := by decide +kernel
theorem dX7_parse_66 : decode cX7_parse 66 = .ok (.ifCond .eq 7, 3) := by decide +kernel
theorem dX7_parse_69 : decode cX7_parse 69 = .ok (.iconst 1, 1) := by decide +kernel
theorem dX7_parse_70 : decode cX7_parse 70 = .ok (.goto 4, 3) := by decide +kernel
theorem dX7_parse_73 : decode cX7_parse 73 = .ok (.iconst 0, 1) := by decide +kernel
theorem dX7_parse_74 : decode cX7_parse 74 = .ok (.istore_n 1, 1) := by decide +kernel
theorem dX7_parse_75 : decode cX7_parse 75 = .ok (.iload_n 1, 1) := by decide +kernel
theorem dX7_parse_76 : decode cX7_parse 76 = .ok (.ifCond .eq 7, 3) := by decide +kernel
theorem dX7_parse_79 : decode cX7_parse 79 = .ok (.iconst (-1), 1) := by decide +kernel
theorem dX7_parse_80 : decode cX7_parse 80 = .ok (.goto 7, 3) := by decide +kernel
theorem dX7_parse_83 : decode cX7_parse 83 = .ok (.aload_n 0, 1) := by decide +kernel
theorem dX7_parse_84 : decode cX7_parse 84 = .ok (.getfield 29, 3) := by decide +kernel
theorem dX7_parse_87 : decode cX7_parse 87 = .ok (.ireturn, 1) := by decide +kernel
theorem dX7_sign_0 : decode cX7_sign 0 = .ok (.aload_n 0, 1) := by decide +kernel
theorem dX7_sign_1 : decode cX7_sign 1 = .ok (.getfield 29, 3) := by decide +kernel
theorem dX7_sign_4 : decode cX7_sign 4 = .ok (.aload_n 0, 1) := by decide +kernel
theorem dX7_sign_5 : decode cX7_sign 5 = .ok (.getfield 21, 3) := by decide +kernel
theorem dX7_sign_8 : decode cX7_sign 8 = .ok (.aload_n 0, 1) := by decide +kernel
theorem dX7_sign_9 : decode cX7_sign 9 = .ok (.getfield 9, 3) := by decide +kernel
theorem dX7_sign_12 : decode cX7_sign 12 = .ok (.arraylength, 1) := by decide +kernel
theorem dX7_sign_13 : decode cX7_sign 13 = .ok (.invokestatic 49, 3) := by decide +kernel
theorem dX7_sign_16 : decode cX7_sign 16 = .ok (.invokestatic 25, 3) := by decide +kernel
theorem dX7_sign_19 : decode cX7_sign 19 = .ok (.ifCond .eq 15, 3) := by decide +kernel
theorem dX7_sign_22 : decode cX7_sign 22 = .ok (.aload_n 0, 1) := by decide +kernel
theorem dX7_sign_23 : decode cX7_sign 23 = .ok (.getfield 9, 3) := by decide +kernel
theorem dX7_sign_26 : decode cX7_sign 26 = .ok (.aload_n 0, 1) := by decide +kernel
theorem dX7_sign_27 : decode cX7_sign 27 = .ok (.getfield 29, 3) := by decide +kernel
theorem dX7_sign_30 : decode cX7_sign 30 = .ok (.iaload, 1) := by decide +kernel
theorem dX7_sign_31 : decode cX7_sign 31 = .ok (.goto 4, 3) := by decide +kernel
theorem dX7_sign_34 : decode cX7_sign 34 = .ok (.iconst (-1), 1) := by decide +kernel
theorem dX7_sign_35 : decode cX7_sign 35 = .ok (.ireturn, 1) := by decide +kernel
theorem dX7_digit_0 : decode cX7_digit 0 = .ok (.aload_n 0, 1) := by decide +kernel
theorem dX7_digit_1 : decode cX7_digit 1 = .ok (.invokevirtual 55, 3) := by decide +kernel
theorem dX7_digit_4 : decode cX7_digit 4 = .ok (.bipush 48, 2) := by decide +kernel
theorem dX7_digit_6 : decode cX7_digit 6 = .ok (.bipush 57, 2) := by decide +kernel
theorem dX7_digit_8 : decode cX7_digit 8 = .ok (.invokestatic 59, 3) := by decide +kernel
theorem dX7_digit_11 : decode cX7_digit 11 = .ok (.ifCond .eq 13, 3) := by decide +kernel
theorem dX7_digit_14 : decode cX7_digit 14 = .ok (.aload_n 0, 1) := by decide +kernel
theorem dX7_digit_15 : decode cX7_digit 15 = .ok (.invokevirtual 55, 3) := by decide +kernel
theorem dX7_digit_18 : decode cX7_digit 18 = .ok (.bipush 48, 2) := by decide +kernel
theorem dX7_digit_20 : decode cX7_digit 20 = .ok (.isub, 1) := by decide +kernel
theorem dX7_digit_21 : decode cX7_digit 21 = .ok (.goto 4, 3) := by decide +kernel
theorem dX7_digit_24 : decode cX7_digit 24 = .ok (.iconst (-1), 1) := by decide +kernel
theorem dX7_digit_25 : decode cX7_digit 25 = .ok (.ireturn, 1) := by decide +kernel
theorem dX7_readSign_0 : decode cX7_readSign 0 = .ok (.aload_n 0, 1) := by decide +kernel
theorem dX7_readSign_1 : decode cX7_readSign 1 = .ok (.invokevirtual 55, 3) := by decide +kernel
theorem dX7_readSign_4 : decode cX7_readSign 4 = .ok (.iload_n 1, 1) := by decide +kernel
theorem dX7_readSign_5 : decode cX7_readSign 5 = .ok (.if_icmp .eq 5, 3) := by decide +kernel
theorem dX7_readSign_8 : decode cX7_readSign 8 = .ok (.iconst 0, 1) := by decide +kernel
theorem dX7_readSign_9 : decode cX7_readSign 9 = .ok (.ireturn, 1) := by decide +kernel
theorem dX7_readSign_10 : decode cX7_readSign 10 = .ok (.aload_n 0, 1) := by decide +kernel
theorem dX7_readSign_11 : decode cX7_readSign 11 = .ok (.dup, 1) := by decide +kernel
theorem dX7_readSign_12 : decode cX7_readSign 12 = .ok (.getfield 29, 3) := by decide +kernel
theorem dX7_readSign_15 : decode cX7_readSign 15 = .ok (.iconst 1, 1) := by decide +kernel
theorem dX7_readSign_16 : decode cX7_readSign 16 = .ok (.iadd, 1) := by decide +kernel
theorem dX7_readSign_17 : decode cX7_readSign 17 = .ok (.putfield 29, 3) := by decide +kernel
theorem dX7_readSign_20 : decode cX7_readSign 20 = .ok (.iconst 1, 1) := by decide +kernel
theorem dX7_readSign_21 : decode cX7_readSign 21 = .ok (.ireturn, 1) := by decide +kernel
theorem dX7_readTopic_0 : decode cX7_readTopic 0 = .ok (.aload_n 0, 1) := by decide +kernel
theorem dX7_readTopic_1 : decode cX7_readTopic 1 = .ok (.aload_n 0, 1) := by decide +kernel
theorem dX7_readTopic_2 : decode cX7_readTopic 2 = .ok (.invokevirtual 63, 3) := by decide +kernel
theorem dX7_readTopic_5 : decode cX7_readTopic 5 = .ok (.putfield 66, 3) := by decide +kernel
theorem dX7_readTopic_8 : decode cX7_readTopic 8 = .ok (.aload_n 0, 1) := by decide +kernel
theorem dX7_readTopic_9 : decode cX7_readTopic 9 = .ok (.getfield 66, 3) := by decide +kernel
theorem dX7_readTopic_12 : decode cX7_readTopic 12 = .ok (.iconst 0, 1) := by decide +kernel
theorem dX7_readTopic_13 : decode cX7_readTopic 13 = .ok (.bipush 7, 2) := by decide +kernel
theorem dX7_readTopic_15 : decode cX7_readTopic 15 = .ok (.invokestatic 59, 3) := by decide +kernel
theorem dX7_readTopic_18 : decode cX7_readTopic 18 = .ok (.ifCond .ne 5, 3) := by decide +kernel
theorem dX7_readTopic_21 : decode cX7_readTopic 21 = .ok (.iconst 0, 1) := by decide +kernel
theorem dX7_readTopic_22 : decode cX7_readTopic 22 = .ok (.ireturn, 1) := by decide +kernel
theorem dX7_readTopic_23 : decode cX7_readTopic 23 = .ok (.aload_n 0, 1) := by decide +kernel
theorem dX7_readTopic_24 : decode cX7_readTopic 24 = .ok (.dup, 1) := by decide +kernel
theorem dX7_readTopic_25 : decode cX7_readTopic 25 = .ok (.getfield 29, 3) := by decide +kernel
theorem dX7_readTopic_28 : decode cX7_readTopic 28 = .ok (.iconst 1, 1) := by decide +kernel
theorem dX7_readTopic_29 : decode cX7_readTopic 29 = .ok (.iadd, 1) := by decide +kernel
theorem dX7_readTopic_30 : decode cX7_readTopic 30 = .ok (.putfield 29, 3) := by decide +kernel
theorem dX7_readTopic_33 : decode cX7_readTopic 33 = .ok (.iconst 1, 1) := by decide +kernel
theorem dX7_readTopic_34 : decode cX7_readTopic 34 = .ok (.ireturn, 1) := by decide +kernel
theorem dX7_readByline_0 : decode cX7_readByline 0 = .ok (.aload_n 0, 1) := by decide +kernel
theorem dX7_readByline_1 : decode cX7_readByline 1 = .ok (.iconst 0, 1) := by decide +kernel
theorem dX7_readByline_2 : decode cX7_readByline 2 = .ok (.putfield 69, 3) := by decide +kernel
theorem dX7_readByline_5 : decode cX7_readByline 5 = .ok (.iconst 0, 1) := by decide +kernel
theorem dX7_readByline_6 : decode cX7_readByline 6 = .ok (.istore_n 1, 1) := by decide +kernel
theorem dX7_readByline_7 : decode cX7_readByline 7 = .ok (.iload_n 1, 1) := by decide +kernel
theorem dX7_readByline_8 : decode cX7_readByline 8 = .ok (.iconst 3, 1) := by decide +kernel
theorem dX7_readByline_9 : decode cX7_readByline 9 = .ok (.if_icmp .ge 33, 3) := by decide +kernel
theorem dX7_readByline_12 : decode cX7_readByline 12 = .ok (.iload_n 1, 1) := by decide +kernel
theorem dX7_readByline_13 : decode cX7_readByline 13 = .ok (.ifCond .le 14, 3) := by decide +kernel
theorem dX7_readByline_16 : decode cX7_readByline 16 = .ok (.aload_n 0, 1) := by decide +kernel
theorem dX7_readByline_17 : decode cX7_readByline 17 = .ok (.bipush 44, 2) := by decide +kernel
theorem dX7_readByline_19 : decode cX7_readByline 19 = .ok (.invokevirtual 36, 3) := by decide +kernel
theorem dX7_readByline_22 : decode cX7_readByline 22 = .ok (.ifCond .ne 5, 3) := by decide +kernel
theorem dX7_readByline_25 : decode cX7_readByline 25 = .ok (.iconst 1, 1) := by decide +kernel
theorem dX7_readByline_26 : decode cX7_readByline 26 = .ok (.ireturn, 1) := by decide +kernel
theorem dX7_readByline_27 : decode cX7_readByline 27 = .ok (.aload_n 0, 1) := by decide +kernel
theorem dX7_readByline_28 : decode cX7_readByline 28 = .ok (.invokevirtual 72, 3) := by decide +kernel
theorem dX7_readByline_31 : decode cX7_readByline 31 = .ok (.ifCond .ne 5, 3) := by decide +kernel
theorem dX7_readByline_34 : decode cX7_readByline 34 = .ok (.iconst 0, 1) := by decide +kernel
theorem dX7_readByline_35 : decode cX7_readByline 35 = .ok (.ireturn, 1) := by decide +kernel
theorem dX7_readByline_36 : decode cX7_readByline 36 = .ok (.iinc 1 1, 3) := by decide +kernel
theorem dX7_readByline_39 : decode cX7_readByline 39 = .ok (.goto (-32), 3) := by decide +kernel
theorem dX7_readByline_42 : decode cX7_readByline 42 = .ok (.iconst 1, 1) := by decide +kernel
theorem dX7_readByline_43 : decode cX7_readByline 43 = .ok (.ireturn, 1) := by decide +kernel
theorem dX7_readPerson_0 : decode cX7_readPerson 0 = .ok (.aload_n 0, 1) := by decide +kernel
theorem dX7_readPerson_1 : decode cX7_readPerson 1 = .ok (.invokevirtual 63, 3) := by decide +kernel
theorem dX7_readPerson_4 : decode cX7_readPerson 4 = .ok (.istore_n 1, 1) := by decide +kernel
theorem dX7_readPerson_5 : decode cX7_readPerson 5 = .ok (.iload_n 1, 1) := by decide +kernel
theorem dX7_readPerson_6 : decode cX7_readPerson 6 = .ok (.iconst (-1), 1) := by decide +kernel
theorem dX7_readPerson_7 : decode cX7_readPerson 7 = .ok (.if_icmp .eq 26, 3) := by decide +kernel
theorem dX7_readPerson_10 : decode cX7_readPerson 10 = .ok (.aload_n 0, 1) := by decide +kernel
theorem dX7_readPerson_11 : decode cX7_readPerson 11 = .ok (.iload_n 1, 1) := by decide +kernel
theorem dX7_readPerson_12 : decode cX7_readPerson 12 = .ok (.invokevirtual 75, 3) := by decide +kernel
theorem dX7_readPerson_15 : decode cX7_readPerson 15 = .ok (.ifCond .ne 18, 3) := by decide +kernel
theorem dX7_readPerson_18 : decode cX7_readPerson 18 = .ok (.aload_n 0, 1) := by decide +kernel
theorem dX7_readPerson_19 : decode cX7_readPerson 19 = .ok (.getfield 69, 3) := by decide +kernel
theorem dX7_readPerson_22 : decode cX7_readPerson 22 = .ok (.aload_n 0, 1) := by decide +kernel
theorem dX7_readPerson_23 : decode cX7_readPerson 23 = .ok (.getfield 15, 3) := by decide +kernel
theorem dX7_readPerson_26 : decode cX7_readPerson 26 = .ok (.arraylength, 1) := by decide +kernel
theorem dX7_readPerson_27 : decode cX7_readPerson 27 = .ok (.invokestatic 25, 3) := by decide +kernel
theorem dX7_readPerson_30 : decode cX7_readPerson 30 = .ok (.ifCond .ne 5, 3) := by decide +kernel
theorem dX7_readPerson_33 : decode cX7_readPerson 33 = .ok (.iconst 0, 1) := by decide +kernel
theorem dX7_readPerson_34 : decode cX7_readPerson 34 = .ok (.ireturn, 1) := by decide +kernel
theorem dX7_readPerson_35 : decode cX7_readPerson 35 = .ok (.aload_n 0, 1) := by decide +kernel
theorem dX7_readPerson_36 : decode cX7_readPerson 36 = .ok (.getfield 15, 3) := by decide +kernel
theorem dX7_readPerson_39 : decode cX7_readPerson 39 = .ok (.aload_n 0, 1) := by decide +kernel
theorem dX7_readPerson_40 : decode cX7_readPerson 40 = .ok (.getfield 69, 3) := by decide +kernel
theorem dX7_readPerson_43 : decode cX7_readPerson 43 = .ok (.iload_n 1, 1) := by decide +kernel
theorem dX7_readPerson_44 : decode cX7_readPerson 44 = .ok (.iastore, 1) := by decide +kernel
theorem dX7_readPerson_45 : decode cX7_readPerson 45 = .ok (.aload_n 0, 1) := by decide +kernel
theorem dX7_readPerson_46 : decode cX7_readPerson 46 = .ok (.dup, 1) := by decide +kernel
theorem dX7_readPerson_47 : decode cX7_readPerson 47 = .ok (.getfield 69, 3) := by decide +kernel
theorem dX7_readPerson_50 : decode cX7_readPerson 50 = .ok (.iconst 1, 1) := by decide +kernel
theorem dX7_readPerson_51 : decode cX7_readPerson 51 = .ok (.iadd, 1) := by decide +kernel
theorem dX7_readPerson_52 : decode cX7_readPerson 52 = .ok (.putfield 69, 3) := by decide +kernel
theorem dX7_readPerson_55 : decode cX7_readPerson 55 = .ok (.aload_n 0, 1) := by decide +kernel
theorem dX7_readPerson_56 : decode cX7_readPerson 56 = .ok (.dup, 1) := by decide +kernel
theorem dX7_readPerson_57 : decode cX7_readPerson 57 = .ok (.getfield 29, 3) := by decide +kernel
theorem dX7_readPerson_60 : decode cX7_readPerson 60 = .ok (.iconst 1, 1) := by decide +kernel
theorem dX7_readPerson_61 : decode cX7_readPerson 61 = .ok (.iadd, 1) := by decide +kernel
theorem dX7_readPerson_62 : decode cX7_readPerson 62 = .ok (.putfield 29, 3) := by decide +kernel
theorem dX7_readPerson_65 : decode cX7_readPerson 65 = .ok (.iconst 1, 1) := by decide +kernel
theorem dX7_readPerson_66 : decode cX7_readPerson 66 = .ok (.ireturn, 1) := by decide +kernel
theorem dX7_isInByline_0 : decode cX7_isInByline 0 = .ok (.iconst 0, 1) := by decide +kernel
theorem dX7_isInByline_1 : decode cX7_isInByline 1 = .ok (.istore_n 2, 1) := by decide +kernel
theorem dX7_isInByline_2 : decode cX7_isInByline 2 = .ok (.iload_n 2, 1) := by decide +kernel
theorem dX7_isInByline_3 : decode cX7_isInByline 3 = .ok (.aload_n 0, 1) := by decide +kernel
theorem dX7_isInByline_4 : decode cX7_isInByline 4 = .ok (.getfield 69, 3) := by decide +kernel
theorem dX7_isInByline_7 : decode cX7_isInByline 7 = .ok (.if_icmp .ge 30, 3) := by decide +kernel
theorem dX7_isInByline_10 : decode cX7_isInByline 10 = .ok (.iload_n 2, 1) := by decide +kernel
theorem dX7_isInByline_11 : decode cX7_isInByline 11 = .ok (.aload_n 0, 1) := by decide +kernel
theorem dX7_isInByline_12 : decode cX7_isInByline 12 = .ok (.getfield 15, 3) := by decide +kernel
theorem dX7_isInByline_15 : decode cX7_isInByline 15 = .ok (.arraylength, 1) := by decide +kernel
theorem dX7_isInByline_16 : decode cX7_isInByline 16 = .ok (.if_icmp .ge 21, 3) := by decide +kernel
theorem dX7_isInByline_19 : decode cX7_isInByline 19 = .ok (.aload_n 0, 1) := by decide +kernel
theorem dX7_isInByline_20 : decode cX7_isInByline 20 = .ok (.getfield 15, 3) := by decide +kernel
theorem dX7_isInByline_23 : decode cX7_isInByline 23 = .ok (.iload_n 2, 1) := by decide +kernel
theorem dX7_isInByline_24 : decode cX7_isInByline 24 = .ok (.iaload, 1) := by decide +kernel
theorem dX7_isInByline_25 : decode cX7_isInByline 25 = .ok (.iload_n 1, 1) := by decide +kernel
theorem dX7_isInByline_26 : decode cX7_isInByline 26 = .ok (.if_icmp .ne 5, 3) := by decide +kernel
theorem dX7_isInByline_29 : decode cX7_isInByline 29 = .ok (.iconst 1, 1) := by decide +kernel
theorem dX7_isInByline_30 : decode cX7_isInByline 30 = .ok (.ireturn, 1) := by decide +kernel
theorem dX7_isInByline_31 : decode cX7_isInByline 31 = .ok (.iinc 2 1, 3) := by decide +kernel
theorem dX7_isInByline_34 : decode cX7_isInByline 34 = .ok (.goto (-32), 3) := by decide +kernel
theorem dX7_isInByline_37 : decode cX7_isInByline 37 = .ok (.iconst 0, 1) := by decide +kernel
theorem dX7_isInByline_38 : decode cX7_isInByline 38 = .ok (.ireturn, 1) := by decide +kernel
theorem dX7_readEmbargo_0 : decode cX7_readEmbargo 0 = .ok (.aload_n 0, 1) := by decide +kernel
theorem dX7_readEmbargo_1 : decode cX7_readEmbargo 1 = .ok (.aload_n 0, 1) := by decide +kernel
theorem dX7_readEmbargo_2 : decode cX7_readEmbargo 2 = .ok (.invokevirtual 63, 3) := by decide +kernel
theorem dX7_readEmbargo_5 : decode cX7_readEmbargo 5 = .ok (.putfield 79, 3) := by decide +kernel
theorem dX7_readEmbargo_8 : decode cX7_readEmbargo 8 = .ok (.aload_n 0, 1) := by decide +kernel
theorem dX7_readEmbargo_9 : decode cX7_readEmbargo 9 = .ok (.getfield 79, 3) := by decide +kernel
theorem dX7_readEmbargo_12 : decode cX7_readEmbargo 12 = .ok (.iconst (-1), 1) := by decide +kernel
theorem dX7_readEmbargo_13 : decode cX7_readEmbargo 13 = .ok (.if_icmp .ne 5, 3) := by decide +kernel
theorem dX7_readEmbargo_16 : decode cX7_readEmbargo 16 = .ok (.iconst 0, 1) := by decide +kernel
theorem dX7_readEmbargo_17 : decode cX7_readEmbargo 17 = .ok (.ireturn, 1) := by decide +kernel
theorem dX7_readEmbargo_18 : decode cX7_readEmbargo 18 = .ok (.aload_n 0, 1) := by decide +kernel
theorem dX7_readEmbargo_19 : decode cX7_readEmbargo 19 = .ok (.dup, 1) := by decide +kernel
theorem dX7_readEmbargo_20 : decode cX7_readEmbargo 20 = .ok (.getfield 29, 3) := by decide +kernel
theorem dX7_readEmbargo_23 : decode cX7_readEmbargo 23 = .ok (.iconst 1, 1) := by decide +kernel
theorem dX7_readEmbargo_24 : decode cX7_readEmbargo 24 = .ok (.iadd, 1) := by decide +kernel
theorem dX7_readEmbargo_25 : decode cX7_readEmbargo 25 = .ok (.putfield 29, 3) := by decide +kernel
theorem dX7_readEmbargo_28 : decode cX7_readEmbargo 28 = .ok (.iconst 1, 1) := by decide +kernel
theorem dX7_readEmbargo_29 : decode cX7_readEmbargo 29 = .ok (.istore_n 1, 1) := by decide +kernel
theorem dX7_readEmbargo_30 : decode cX7_readEmbargo 30 = .ok (.iload_n 1, 1) := by decide +kernel
theorem dX7_readEmbargo_31 : decode cX7_readEmbargo 31 = .ok (.iconst 3, 1) := by decide +kernel
theorem dX7_readEmbargo_32 : decode cX7_readEmbargo 32 = .ok (.if_icmp .ge 50, 3) := by decide +kernel
theorem dX7_readEmbargo_35 : decode cX7_readEmbargo 35 = .ok (.aload_n 0, 1) := by decide +kernel
theorem dX7_readEmbargo_36 : decode cX7_readEmbargo 36 = .ok (.getfield 79, 3) := by decide +kernel
theorem dX7_readEmbargo_39 : decode cX7_readEmbargo 39 = .ok (.ifCond .eq 43, 3) := by decide +kernel
theorem dX7_readEmbargo_42 : decode cX7_readEmbargo 42 = .ok (.aload_n 0, 1) := by decide +kernel
theorem dX7_readEmbargo_43 : decode cX7_readEmbargo 43 = .ok (.invokevirtual 63, 3) := by decide +kernel
theorem dX7_readEmbargo_46 : decode cX7_readEmbargo 46 = .ok (.iconst (-1), 1) := by decide +kernel
theorem dX7_readEmbargo_47 : decode cX7_readEmbargo 47 = .ok (.if_icmp .eq 35, 3) := by decide +kernel
theorem dX7_readEmbargo_50 : decode cX7_readEmbargo 50 = .ok (.aload_n 0, 1) := by decide +kernel
theorem dX7_readEmbargo_51 : decode cX7_readEmbargo 51 = .ok (.aload_n 0, 1) := by decide +kernel
theorem dX7_readEmbargo_52 : decode cX7_readEmbargo 52 = .ok (.getfield 79, 3) := by decide +kernel
theorem dX7_readEmbargo_55 : decode cX7_readEmbargo 55 = .ok (.bipush 10, 2) := by decide +kernel
theorem dX7_readEmbargo_57 : decode cX7_readEmbargo 57 = .ok (.imul, 1) := by decide +kernel
theorem dX7_readEmbargo_58 : decode cX7_readEmbargo 58 = .ok (.aload_n 0, 1) := by decide +kernel
theorem dX7_readEmbargo_59 : decode cX7_readEmbargo 59 = .ok (.invokevirtual 63, 3) := by decide +kernel
theorem dX7_readEmbargo_62 : decode cX7_readEmbargo 62 = .ok (.iadd, 1) := by decide +kernel
theorem dX7_readEmbargo_63 : decode cX7_readEmbargo 63 = .ok (.putfield 79, 3) := by decide +kernel
theorem dX7_readEmbargo_66 : decode cX7_readEmbargo 66 = .ok (.aload_n 0, 1) := by decide +kernel
theorem dX7_readEmbargo_67 : decode cX7_readEmbargo 67 = .ok (.dup, 1) := by decide +kernel
theorem dX7_readEmbargo_68 : decode cX7_readEmbargo 68 = .ok (.getfield 29, 3) := by decide +kernel
theorem dX7_readEmbargo_71 : decode cX7_readEmbargo 71 = .ok (.iconst 1, 1) := by decide +kernel
theorem dX7_readEmbargo_72 : decode cX7_readEmbargo 72 = .ok (.iadd, 1) := by decide +kernel
theorem dX7_readEmbargo_73 : decode cX7_readEmbargo 73 = .ok (.putfield 29, 3) := by decide +kernel
theorem dX7_readEmbargo_76 : decode cX7_readEmbargo 76 = .ok (.iinc 1 1, 3) := by decide +kernel
theorem dX7_readEmbargo_79 : decode cX7_readEmbargo 79 = .ok (.goto (-49), 3) := by decide +kernel
theorem dX7_readEmbargo_82 : decode cX7_readEmbargo 82 = .ok (.iconst 1, 1) := by decide +kernel
theorem dX7_readEmbargo_83 : decode cX7_readEmbargo 83 = .ok (.ireturn, 1) := by decide +kernel
theorem dX7_readSlug_0 : decode cX7_readSlug 0 = .ok (.aload_n 0, 1) := by decide +kernel
theorem dX7_readSlug_1 : decode cX7_readSlug 1 = .ok (.iconst 0, 1) := by decide +kernel
theorem dX7_readSlug_2 : decode cX7_readSlug 2 = .ok (.putfield 82, 3) := by decide +kernel
theorem dX7_readSlug_5 : decode cX7_readSlug 5 = .ok (.iconst 0, 1) := by decide +kernel
theorem dX7_readSlug_6 : decode cX7_readSlug 6 = .ok (.istore_n 1, 1) := by decide +kernel
theorem dX7_readSlug_7 : decode cX7_readSlug 7 = .ok (.iload_n 1, 1) := by decide +kernel
theorem dX7_readSlug_8 : decode cX7_readSlug 8 = .ok (.aload_n 0, 1) := by decide +kernel
theorem dX7_readSlug_9 : decode cX7_readSlug 9 = .ok (.getfield 18, 3) := by decide +kernel
theorem dX7_readSlug_12 : decode cX7_readSlug 12 = .ok (.arraylength, 1) := by decide +kernel
theorem dX7_readSlug_13 : decode cX7_readSlug 13 = .ok (.if_icmp .ge 53, 3) := by decide +kernel
theorem dX7_readSlug_16 : decode cX7_readSlug 16 = .ok (.aload_n 0, 1) := by decide +kernel
theorem dX7_readSlug_17 : decode cX7_readSlug 17 = .ok (.invokevirtual 55, 3) := by decide +kernel
theorem dX7_readSlug_20 : decode cX7_readSlug 20 = .ok (.bipush 97, 2) := by decide +kernel
theorem dX7_readSlug_22 : decode cX7_readSlug 22 = .ok (.bipush 122, 2) := by decide +kernel
theorem dX7_readSlug_24 : decode cX7_readSlug 24 = .ok (.invokestatic 59, 3) := by decide +kernel
theorem dX7_readSlug_27 : decode cX7_readSlug 27 = .ok (.ifCond .eq 39, 3) := by decide +kernel
theorem dX7_readSlug_30 : decode cX7_readSlug 30 = .ok (.aload_n 0, 1) := by decide +kernel
theorem dX7_readSlug_31 : decode cX7_readSlug 31 = .ok (.getfield 18, 3) := by decide +kernel
theorem dX7_readSlug_34 : decode cX7_readSlug 34 = .ok (.iload_n 1, 1) := by decide +kernel
theorem dX7_readSlug_35 : decode cX7_readSlug 35 = .ok (.aload_n 0, 1) := by decide +kernel
theorem dX7_readSlug_36 : decode cX7_readSlug 36 = .ok (.invokevirtual 55, 3) := by decide +kernel
theorem dX7_readSlug_39 : decode cX7_readSlug 39 = .ok (.iastore, 1) := by decide +kernel
theorem dX7_readSlug_40 : decode cX7_readSlug 40 = .ok (.aload_n 0, 1) := by decide +kernel
theorem dX7_readSlug_41 : decode cX7_readSlug 41 = .ok (.dup, 1) := by decide +kernel
theorem dX7_readSlug_42 : decode cX7_readSlug 42 = .ok (.getfield 82, 3) := by decide +kernel
theorem dX7_readSlug_45 : decode cX7_readSlug 45 = .ok (.iconst 1, 1) := by decide +kernel
theorem dX7_readSlug_46 : decode cX7_readSlug 46 = .ok (.iadd, 1) := by decide +kernel
theorem dX7_readSlug_47 : decode cX7_readSlug 47 = .ok (.putfield 82, 3) := by decide +kernel
theorem dX7_readSlug_50 : decode cX7_readSlug 50 = .ok (.aload_n 0, 1) := by decide +kernel
theorem dX7_readSlug_51 : decode cX7_readSlug 51 = .ok (.dup, 1) := by decide +kernel
theorem dX7_readSlug_52 : decode cX7_readSlug 52 = .ok (.getfield 29, 3) := by decide +kernel
theorem dX7_readSlug_55 : decode cX7_readSlug 55 = .ok (.iconst 1, 1) := by decide +kernel
theorem dX7_readSlug_56 : decode cX7_readSlug 56 = .ok (.iadd, 1) := by decide +kernel
theorem dX7_readSlug_57 : decode cX7_readSlug 57 = .ok (.putfield 29, 3) := by decide +kernel
theorem dX7_readSlug_60 : decode cX7_readSlug 60 = .ok (.iinc 1 1, 3) := by decide +kernel
theorem dX7_readSlug_63 : decode cX7_readSlug 63 = .ok (.goto (-56), 3) := by decide +kernel
theorem dX7_readSlug_66 : decode cX7_readSlug 66 = .ok (.aload_n 0, 1) := by decide +kernel
theorem dX7_readSlug_67 : decode cX7_readSlug 67 = .ok (.getfield 82, 3) := by decide +kernel
theorem dX7_readSlug_70 : decode cX7_readSlug 70 = .ok (.ifCond .le 18, 3) := by decide +kernel
theorem dX7_readSlug_73 : decode cX7_readSlug 73 = .ok (.aload_n 0, 1) := by decide +kernel
theorem dX7_readSlug_74 : decode cX7_readSlug 74 = .ok (.getfield 29, 3) := by decide +kernel
theorem dX7_readSlug_77 : decode cX7_readSlug 77 = .ok (.aload_n 0, 1) := by decide +kernel
theorem dX7_readSlug_78 : decode cX7_readSlug 78 = .ok (.getfield 21, 3) := by decide +kernel
theorem dX7_readSlug_81 : decode cX7_readSlug 81 = .ok (.if_icmp .ne 7, 3) := by decide +kernel
theorem dX7_readSlug_84 : decode cX7_readSlug 84 = .ok (.iconst 1, 1) := by decide +kernel
theorem dX7_readSlug_85 : decode cX7_readSlug 85 = .ok (.goto 4, 3) := by decide +kernel
theorem dX7_readSlug_88 : decode cX7_readSlug 88 = .ok (.iconst 0, 1) := by decide +kernel
theorem dX7_readSlug_89 : decode cX7_readSlug 89 = .ok (.ireturn, 1) := by decide +kernel
theorem dX8_isBetween_0 : decode cX8_isBetween 0 = .ok (.iload_n 0, 1) := by decide +kernel
theorem dX8_isBetween_1 : decode cX8_isBetween 1 = .ok (.iload_n 1, 1) := by decide +kernel
theorem dX8_isBetween_2 : decode cX8_isBetween 2 = .ok (.if_icmp .lt 12, 3) := by decide +kernel
theorem dX8_isBetween_5 : decode cX8_isBetween 5 = .ok (.iload_n 0, 1) := by decide +kernel
theorem dX8_isBetween_6 : decode cX8_isBetween 6 = .ok (.iload_n 2, 1) := by decide +kernel
theorem dX8_isBetween_7 : decode cX8_isBetween 7 = .ok (.if_icmp .gt 7, 3) := by decide +kernel
theorem dX8_isBetween_10 : decode cX8_isBetween 10 = .ok (.iconst 1, 1) := by decide +kernel
theorem dX8_isBetween_11 : decode cX8_isBetween 11 = .ok (.goto 4, 3) := by decide +kernel
theorem dX8_isBetween_14 : decode cX8_isBetween 14 = .ok (.iconst 0, 1) := by decide +kernel
theorem dX8_isBetween_15 : decode cX8_isBetween 15 = .ok (.ireturn, 1) := by decide +kernel
theorem dX8_isPlace_0 : decode cX8_isPlace 0 = .ok (.iload_n 0, 1) := by decide +kernel
theorem dX8_isPlace_1 : decode cX8_isPlace 1 = .ok (.ifCond .lt 12, 3) := by decide +kernel
theorem dX8_isPlace_4 : decode cX8_isPlace 4 = .ok (.iload_n 0, 1) := by decide +kernel
theorem dX8_isPlace_5 : decode cX8_isPlace 5 = .ok (.iload_n 1, 1) := by decide +kernel
theorem dX8_isPlace_6 : decode cX8_isPlace 6 = .ok (.if_icmp .ge 7, 3) := by decide +kernel
theorem dX8_isPlace_9 : decode cX8_isPlace 9 = .ok (.iconst 1, 1) := by decide +kernel
theorem dX8_isPlace_10 : decode cX8_isPlace 10 = .ok (.goto 4, 3) := by decide +kernel
theorem dX8_isPlace_13 : decode cX8_isPlace 13 = .ok (.iconst 0, 1) := by decide +kernel
theorem dX8_isPlace_14 : decode cX8_isPlace 14 = .ok (.ireturn, 1) := by decide +kernel
theorem dX8_copyRow_0 : decode cX8_copyRow 0 = .ok (.aload_n 0, 1) := by decide +kernel
theorem dX8_copyRow_1 : decode cX8_copyRow 1 = .ok (.iconst 0, 1) := by decide +kernel
theorem dX8_copyRow_2 : decode cX8_copyRow 2 = .ok (.aload_n 1, 1) := by decide +kernel
theorem dX8_copyRow_3 : decode cX8_copyRow 3 = .ok (.iconst 0, 1) := by decide +kernel
theorem dX8_copyRow_4 : decode cX8_copyRow 4 = .ok (.aload_n 0, 1) := by decide +kernel
theorem dX8_copyRow_5 : decode cX8_copyRow 5 = .ok (.arraylength, 1) := by decide +kernel
theorem dX8_copyRow_6 : decode cX8_copyRow 6 = .ok (.aload_n 1, 1) := by decide +kernel
theorem dX8_copyRow_7 : decode cX8_copyRow 7 = .ok (.arraylength, 1) := by decide +kernel
theorem dX8_copyRow_8 : decode cX8_copyRow 8 = .ok (.invokestatic 272, 3) := by decide +kernel
theorem dX8_copyRow_11 : decode cX8_copyRow 11 = .ok (.invokestatic 275, 3) := by decide +kernel
theorem dX8_copyRow_14 : decode cX8_copyRow 14 = .ok (.return_, 1) := by decide +kernel
