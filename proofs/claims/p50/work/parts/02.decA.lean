theorem dX0_init_0 : decode cX0_init 0 = .ok (.aload_n 0, 1) := by decide +kernel
theorem dX0_init_1 : decode cX0_init 1 = .ok (.invokespecial 1, 3) := by decide +kernel
theorem dX0_init_4 : decode cX0_init 4 = .ok (.aload_n 0, 1) := by decide +kernel
theorem dX0_init_5 : decode cX0_init 5 = .ok (.iload_n 1, 1) := by decide +kernel
theorem dX0_init_6 : decode cX0_init 6 = .ok (.ifCond .ge 7, 3) := by decide +kernel
theorem dX0_init_9 : decode cX0_init 9 = .ok (.iconst 0, 1) := by decide +kernel
theorem dX0_init_10 : decode cX0_init 10 = .ok (.goto 4, 3) := by decide +kernel
theorem dX0_init_13 : decode cX0_init 13 = .ok (.iload_n 1, 1) := by decide +kernel
theorem dX0_init_14 : decode cX0_init 14 = .ok (.newarray .int, 2) := by decide +kernel
theorem dX0_init_16 : decode cX0_init 16 = .ok (.putfield 7, 3) := by decide +kernel
theorem dX0_init_19 : decode cX0_init 19 = .ok (.aload_n 0, 1) := by decide +kernel
theorem dX0_init_20 : decode cX0_init 20 = .ok (.iconst 0, 1) := by decide +kernel
theorem dX0_init_21 : decode cX0_init 21 = .ok (.putfield 13, 3) := by decide +kernel
theorem dX0_init_24 : decode cX0_init 24 = .ok (.aload_n 0, 1) := by decide +kernel
theorem dX0_init_25 : decode cX0_init 25 = .ok (.iconst (-1), 1) := by decide +kernel
theorem dX0_init_26 : decode cX0_init 26 = .ok (.putfield 17, 3) := by decide +kernel
theorem dX0_init_29 : decode cX0_init 29 = .ok (.return_, 1) := by decide +kernel
theorem dX0_clear_0 : decode cX0_clear 0 = .ok (.aload_n 0, 1) := by decide +kernel
theorem dX0_clear_1 : decode cX0_clear 1 = .ok (.iload_n 1, 1) := by decide +kernel
theorem dX0_clear_2 : decode cX0_clear 2 = .ok (.putfield 13, 3) := by decide +kernel
theorem dX0_clear_5 : decode cX0_clear 5 = .ok (.aload_n 0, 1) := by decide +kernel
theorem dX0_clear_6 : decode cX0_clear 6 = .ok (.iload_n 2, 1) := by decide +kernel
theorem dX0_clear_7 : decode cX0_clear 7 = .ok (.iload_n 1, 1) := by decide +kernel
theorem dX0_clear_8 : decode cX0_clear 8 = .ok (.aload_n 0, 1) := by decide +kernel
theorem dX0_clear_9 : decode cX0_clear 9 = .ok (.getfield 7, 3) := by decide +kernel
theorem dX0_clear_12 : decode cX0_clear 12 = .ok (.arraylength, 1) := by decide +kernel
theorem dX0_clear_13 : decode cX0_clear 13 = .ok (.iadd, 1) := by decide +kernel
theorem dX0_clear_14 : decode cX0_clear 14 = .ok (.iconst 1, 1) := by decide +kernel
theorem dX0_clear_15 : decode cX0_clear 15 = .ok (.isub, 1) := by decide +kernel
theorem dX0_clear_16 : decode cX0_clear 16 = .ok (.invokestatic 20, 3) := by decide +kernel
theorem dX0_clear_19 : decode cX0_clear 19 = .ok (.putfield 17, 3) := by decide +kernel
theorem dX0_clear_22 : decode cX0_clear 22 = .ok (.iconst 0, 1) := by decide +kernel
theorem dX0_clear_23 : decode cX0_clear 23 = .ok (.istore_n 3, 1) := by decide +kernel
theorem dX0_clear_24 : decode cX0_clear 24 = .ok (.iload_n 3, 1) := by decide +kernel
theorem dX0_clear_25 : decode cX0_clear 25 = .ok (.aload_n 0, 1) := by decide +kernel
theorem dX0_clear_26 : decode cX0_clear 26 = .ok (.getfield 7, 3) := by decide +kernel
theorem dX0_clear_29 : decode cX0_clear 29 = .ok (.arraylength, 1) := by decide +kernel
theorem dX0_clear_30 : decode cX0_clear 30 = .ok (.if_icmp .ge 29, 3) := by decide +kernel
theorem dX0_clear_33 : decode cX0_clear 33 = .ok (.iload_n 3, 1) := by decide +kernel
theorem dX0_clear_34 : decode cX0_clear 34 = .ok (.aload_n 0, 1) := by decide +kernel
theorem dX0_clear_35 : decode cX0_clear 35 = .ok (.getfield 17, 3) := by decide +kernel
theorem dX0_clear_38 : decode cX0_clear 38 = .ok (.aload_n 0, 1) := by decide +kernel
theorem dX0_clear_39 : decode cX0_clear 39 = .ok (.getfield 13, 3) := by decide +kernel
theorem dX0_clear_42 : decode cX0_clear 42 = .ok (.isub, 1) := by decide +kernel
theorem dX0_clear_43 : decode cX0_clear 43 = .ok (.if_icmp .gt 16, 3) := by decide +kernel
theorem dX0_clear_46 : decode cX0_clear 46 = .ok (.aload_n 0, 1) := by decide +kernel
theorem dX0_clear_47 : decode cX0_clear 47 = .ok (.getfield 7, 3) := by decide +kernel
theorem dX0_clear_50 : decode cX0_clear 50 = .ok (.iload_n 3, 1) := by decide +kernel
theorem dX0_clear_51 : decode cX0_clear 51 = .ok (.iconst (-1), 1) := by decide +kernel
theorem dX0_clear_52 : decode cX0_clear 52 = .ok (.iastore, 1) := by decide +kernel
theorem dX0_clear_53 : decode cX0_clear 53 = .ok (.iinc 3 1, 3) := by decide +kernel
theorem dX0_clear_56 : decode cX0_clear 56 = .ok (.goto (-32), 3) := by decide +kernel
theorem dX0_clear_59 : decode cX0_clear 59 = .ok (.return_, 1) := by decide +kernel
theorem dX0_firstDay_0 : decode cX0_firstDay 0 = .ok (.aload_n 0, 1) := by decide +kernel
theorem dX0_firstDay_1 : decode cX0_firstDay 1 = .ok (.getfield 13, 3) := by decide +kernel
theorem dX0_firstDay_4 : decode cX0_firstDay 4 = .ok (.ireturn, 1) := by decide +kernel
theorem dX0_lastDay_0 : decode cX0_lastDay 0 = .ok (.aload_n 0, 1) := by decide +kernel
theorem dX0_lastDay_1 : decode cX0_lastDay 1 = .ok (.getfield 17, 3) := by decide +kernel
theorem dX0_lastDay_4 : decode cX0_lastDay 4 = .ok (.ireturn, 1) := by decide +kernel
theorem dX0_read_0 : decode cX0_read 0 = .ok (.iload_n 1, 1) := by decide +kernel
theorem dX0_read_1 : decode cX0_read 1 = .ok (.aload_n 0, 1) := by decide +kernel
theorem dX0_read_2 : decode cX0_read 2 = .ok (.getfield 13, 3) := by decide +kernel
theorem dX0_read_5 : decode cX0_read 5 = .ok (.isub, 1) := by decide +kernel
theorem dX0_read_6 : decode cX0_read 6 = .ok (.istore_n 2, 1) := by decide +kernel
theorem dX0_read_7 : decode cX0_read 7 = .ok (.iload_n 1, 1) := by decide +kernel
theorem dX0_read_8 : decode cX0_read 8 = .ok (.aload_n 0, 1) := by decide +kernel
theorem dX0_read_9 : decode cX0_read 9 = .ok (.getfield 17, 3) := by decide +kernel
theorem dX0_read_12 : decode cX0_read 12 = .ok (.if_icmp .gt 16, 3) := by decide +kernel
theorem dX0_read_15 : decode cX0_read 15 = .ok (.iload_n 2, 1) := by decide +kernel
theorem dX0_read_16 : decode cX0_read 16 = .ok (.ifCond .lt 12, 3) := by decide +kernel
theorem dX0_read_19 : decode cX0_read 19 = .ok (.iload_n 2, 1) := by decide +kernel
theorem dX0_read_20 : decode cX0_read 20 = .ok (.aload_n 0, 1) := by decide +kernel
theorem dX0_read_21 : decode cX0_read 21 = .ok (.getfield 7, 3) := by decide +kernel
theorem dX0_read_24 : decode cX0_read 24 = .ok (.arraylength, 1) := by decide +kernel
theorem dX0_read_25 : decode cX0_read 25 = .ok (.if_icmp .lt 7, 3) := by decide +kernel
theorem dX0_read_28 : decode cX0_read 28 = .ok (.iconst (-1), 1) := by decide +kernel
theorem dX0_read_29 : decode cX0_read 29 = .ok (.goto 9, 3) := by decide +kernel
theorem dX0_read_32 : decode cX0_read 32 = .ok (.aload_n 0, 1) := by decide +kernel
theorem dX0_read_33 : decode cX0_read 33 = .ok (.getfield 7, 3) := by decide +kernel
theorem dX0_read_36 : decode cX0_read 36 = .ok (.iload_n 2, 1) := by decide +kernel
theorem dX0_read_37 : decode cX0_read 37 = .ok (.iaload, 1) := by decide +kernel
theorem dX0_read_38 : decode cX0_read 38 = .ok (.ireturn, 1) := by decide +kernel
theorem dX0_write_0 : decode cX0_write 0 = .ok (.iload_n 1, 1) := by decide +kernel
theorem dX0_write_1 : decode cX0_write 1 = .ok (.aload_n 0, 1) := by decide +kernel
theorem dX0_write_2 : decode cX0_write 2 = .ok (.getfield 13, 3) := by decide +kernel
theorem dX0_write_5 : decode cX0_write 5 = .ok (.isub, 1) := by decide +kernel
theorem dX0_write_6 : decode cX0_write 6 = .ok (.istore_n 3, 1) := by decide +kernel
theorem dX0_write_7 : decode cX0_write 7 = .ok (.iload_n 1, 1) := by decide +kernel
theorem dX0_write_8 : decode cX0_write 8 = .ok (.aload_n 0, 1) := by decide +kernel
theorem dX0_write_9 : decode cX0_write 9 = .ok (.getfield 17, 3) := by decide +kernel
theorem dX0_write_12 : decode cX0_write 12 = .ok (.if_icmp .gt 23, 3) := by decide +kernel
theorem dX0_write_15 : decode cX0_write 15 = .ok (.iload_n 3, 1) := by decide +kernel
theorem dX0_write_16 : decode cX0_write 16 = .ok (.ifCond .lt 19, 3) := by decide +kernel
theorem dX0_write_19 : decode cX0_write 19 = .ok (.iload_n 3, 1) := by decide +kernel
theorem dX0_write_20 : decode cX0_write 20 = .ok (.aload_n 0, 1) := by decide +kernel
theorem dX0_write_21 : decode cX0_write 21 = .ok (.getfield 7, 3) := by decide +kernel
theorem dX0_write_24 : decode cX0_write 24 = .ok (.arraylength, 1) := by decide +kernel
theorem dX0_write_25 : decode cX0_write 25 = .ok (.if_icmp .ge 10, 3) := by decide +kernel
theorem dX0_write_28 : decode cX0_write 28 = .ok (.aload_n 0, 1) := by decide +kernel
theorem dX0_write_29 : decode cX0_write 29 = .ok (.getfield 7, 3) := by decide +kernel
theorem dX0_write_32 : decode cX0_write 32 = .ok (.iload_n 3, 1) := by decide +kernel
theorem dX0_write_33 : decode cX0_write 33 = .ok (.iload_n 2, 1) := by decide +kernel
theorem dX0_write_34 : decode cX0_write 34 = .ok (.iastore, 1) := by decide +kernel
theorem dX0_write_35 : decode cX0_write 35 = .ok (.return_, 1) := by decide +kernel
theorem dX1_yearWith_0 : decode cX1_yearWith 0 = .ok (.sipush 1900, 3) := by decide +kernel
theorem dX1_yearWith_3 : decode cX1_yearWith 3 = .ok (.iconst 4, 1) := by decide +kernel
theorem dX1_yearWith_4 : decode cX1_yearWith 4 = .ok (.iload_n 0, 1) := by decide +kernel
theorem dX1_yearWith_5 : decode cX1_yearWith 5 = .ok (.iconst 1, 1) := by decide +kernel
theorem dX1_yearWith_6 : decode cX1_yearWith 6 = .ok (.iadd, 1) := by decide +kernel
theorem dX1_yearWith_7 : decode cX1_yearWith 7 = .ok (.imul, 1) := by decide +kernel
theorem dX1_yearWith_8 : decode cX1_yearWith 8 = .ok (.sipush 1461, 3) := by decide +kernel
theorem dX1_yearWith_11 : decode cX1_yearWith 11 = .ok (.idiv, 1) := by decide +kernel
theorem dX1_yearWith_12 : decode cX1_yearWith 12 = .ok (.iadd, 1) := by decide +kernel
theorem dX1_yearWith_13 : decode cX1_yearWith 13 = .ok (.ireturn, 1) := by decide +kernel
theorem dX1_januaryOf_0 : decode cX1_januaryOf 0 = .ok (.bipush 12, 2) := by decide +kernel
theorem dX1_januaryOf_2 : decode cX1_januaryOf 2 = .ok (.iload_n 0, 1) := by decide +kernel
theorem dX1_januaryOf_3 : decode cX1_januaryOf 3 = .ok (.sipush 1900, 3) := by decide +kernel
theorem dX1_januaryOf_6 : decode cX1_januaryOf 6 = .ok (.isub, 1) := by decide +kernel
theorem dX1_januaryOf_7 : decode cX1_januaryOf 7 = .ok (.imul, 1) := by decide +kernel
theorem dX1_januaryOf_8 : decode cX1_januaryOf 8 = .ok (.ireturn, 1) := by decide +kernel
theorem dX1_monthBegin_0 : decode cX1_monthBegin 0 = .ok (.iload_n 0, 1) := by decide +kernel
theorem dX1_monthBegin_1 : decode cX1_monthBegin 1 = .ok (.ifCond .ge 5, 3) := by decide +kernel
theorem dX1_monthBegin_4 : decode cX1_monthBegin 4 = .ok (.iconst 0, 1) := by decide +kernel
theorem dX1_monthBegin_5 : decode cX1_monthBegin 5 = .ok (.ireturn, 1) := by decide +kernel
theorem dX1_monthBegin_6 : decode cX1_monthBegin 6 = .ok (.iload_n 0, 1) := by decide +kernel
theorem dX1_monthBegin_7 : decode cX1_monthBegin 7 = .ok (.sipush 2400, 3) := by decide +kernel
theorem dX1_monthBegin_10 : decode cX1_monthBegin 10 = .ok (.if_icmp .lt 6, 3) := by decide +kernel
theorem dX1_monthBegin_13 : decode cX1_monthBegin 13 = .ok (.ldc 11, 2) := by decide +kernel
theorem dX1_monthBegin_15 : decode cX1_monthBegin 15 = .ok (.ireturn, 1) := by decide +kernel
theorem dX1_monthBegin_16 : decode cX1_monthBegin 16 = .ok (.iload_n 0, 1) := by decide +kernel
theorem dX1_monthBegin_17 : decode cX1_monthBegin 17 = .ok (.bipush 12, 2) := by decide +kernel
theorem dX1_monthBegin_19 : decode cX1_monthBegin 19 = .ok (.idiv, 1) := by decide +kernel
theorem dX1_monthBegin_20 : decode cX1_monthBegin 20 = .ok (.istore_n 1, 1) := by decide +kernel
theorem dX1_monthBegin_21 : decode cX1_monthBegin 21 = .ok (.iload_n 0, 1) := by decide +kernel
theorem dX1_monthBegin_22 : decode cX1_monthBegin 22 = .ok (.bipush 12, 2) := by decide +kernel
theorem dX1_monthBegin_24 : decode cX1_monthBegin 24 = .ok (.irem, 1) := by decide +kernel
theorem dX1_monthBegin_25 : decode cX1_monthBegin 25 = .ok (.iconst 1, 1) := by decide +kernel
theorem dX1_monthBegin_26 : decode cX1_monthBegin 26 = .ok (.iadd, 1) := by decide +kernel
theorem dX1_monthBegin_27 : decode cX1_monthBegin 27 = .ok (.istore_n 2, 1) := by decide +kernel
theorem dX1_monthBegin_28 : decode cX1_monthBegin 28 = .ok (.sipush 365, 3) := by decide +kernel
theorem dX1_monthBegin_31 : decode cX1_monthBegin 31 = .ok (.iload_n 1, 1) := by decide +kernel
theorem dX1_monthBegin_32 : decode cX1_monthBegin 32 = .ok (.imul, 1) := by decide +kernel
theorem dX1_monthBegin_33 : decode cX1_monthBegin 33 = .ok (.iload_n 1, 1) := by decide +kernel
theorem dX1_monthBegin_34 : decode cX1_monthBegin 34 = .ok (.iconst 1, 1) := by decide +kernel
theorem dX1_monthBegin_35 : decode cX1_monthBegin 35 = .ok (.isub, 1) := by decide +kernel
theorem dX1_monthBegin_36 : decode cX1_monthBegin 36 = .ok (.iconst 4, 1) := by decide +kernel
theorem dX1_monthBegin_37 : decode cX1_monthBegin 37 = .ok (.idiv, 1) := by decide +kernel
theorem dX1_monthBegin_38 : decode cX1_monthBegin 38 = .ok (.iadd, 1) := by decide +kernel
theorem dX1_monthBegin_39 : decode cX1_monthBegin 39 = .ok (.istore_n 3, 1) := by decide +kernel
theorem dX1_monthBegin_40 : decode cX1_monthBegin 40 = .ok (.iload_n 2, 1) := by decide +kernel
theorem dX1_monthBegin_41 : decode cX1_monthBegin 41 = .ok (.iconst 2, 1) := by decide +kernel
theorem dX1_monthBegin_42 : decode cX1_monthBegin 42 = .ok (.if_icmp .gt 7, 3) := by decide +kernel
theorem dX1_monthBegin_45 : decode cX1_monthBegin 45 = .ok (.iconst 0, 1) := by decide +kernel
theorem dX1_monthBegin_46 : decode cX1_monthBegin 46 = .ok (.goto 18, 3) := by decide +kernel
theorem dX1_monthBegin_49 : decode cX1_monthBegin 49 = .ok (.iload_n 1, 1) := by decide +kernel
theorem dX1_monthBegin_50 : decode cX1_monthBegin 50 = .ok (.iconst 4, 1) := by decide +kernel
theorem dX1_monthBegin_51 : decode cX1_monthBegin 51 = .ok (.irem, 1) := by decide +kernel
theorem dX1_monthBegin_52 : decode cX1_monthBegin 52 = .ok (.ifCond .ne 11, 3) := by decide +kernel
theorem dX1_monthBegin_55 : decode cX1_monthBegin 55 = .ok (.iload_n 1, 1) := by decide +kernel
theorem dX1_monthBegin_56 : decode cX1_monthBegin 56 = .ok (.ifCond .eq 7, 3) := by decide +kernel
theorem dX1_monthBegin_59 : decode cX1_monthBegin 59 = .ok (.iconst 1, 1) := by decide +kernel
theorem dX1_monthBegin_60 : decode cX1_monthBegin 60 = .ok (.goto 4, 3) := by decide +kernel
theorem dX1_monthBegin_63 : decode cX1_monthBegin 63 = .ok (.iconst 2, 1) := by decide +kernel
theorem dX1_monthBegin_64 : decode cX1_monthBegin 64 = .ok (.istore 4, 2) := by decide +kernel
theorem dX1_monthBegin_66 : decode cX1_monthBegin 66 = .ok (.iload_n 3, 1) := by decide +kernel
theorem dX1_monthBegin_67 : decode cX1_monthBegin 67 = .ok (.sipush 367, 3) := by decide +kernel
theorem dX1_monthBegin_70 : decode cX1_monthBegin 70 = .ok (.iload_n 2, 1) := by decide +kernel
theorem dX1_monthBegin_71 : decode cX1_monthBegin 71 = .ok (.imul, 1) := by decide +kernel
theorem dX1_monthBegin_72 : decode cX1_monthBegin 72 = .ok (.sipush 362, 3) := by decide +kernel
theorem dX1_monthBegin_75 : decode cX1_monthBegin 75 = .ok (.isub, 1) := by decide +kernel
theorem dX1_monthBegin_76 : decode cX1_monthBegin 76 = .ok (.bipush 12, 2) := by decide +kernel
theorem dX1_monthBegin_78 : decode cX1_monthBegin 78 = .ok (.idiv, 1) := by decide +kernel
theorem dX1_monthBegin_79 : decode cX1_monthBegin 79 = .ok (.iadd, 1) := by decide +kernel
theorem dX1_monthBegin_80 : decode cX1_monthBegin 80 = .ok (.iload 4, 2) := by decide +kernel
theorem dX1_monthBegin_82 : decode cX1_monthBegin 82 = .ok (.isub, 1) := by decide +kernel
theorem dX1_monthBegin_83 : decode cX1_monthBegin 83 = .ok (.ireturn, 1) := by decide +kernel
theorem dX1_monthLength_0 : decode cX1_monthLength 0 = .ok (.iload_n 0, 1) := by decide +kernel
theorem dX1_monthLength_1 : decode cX1_monthLength 1 = .ok (.iconst 1, 1) := by decide +kernel
theorem dX1_monthLength_2 : decode cX1_monthLength 2 = .ok (.iadd, 1) := by decide +kernel
theorem dX1_monthLength_3 : decode cX1_monthLength 3 = .ok (.invokestatic 12, 3) := by decide +kernel
theorem dX1_monthLength_6 : decode cX1_monthLength 6 = .ok (.iload_n 0, 1) := by decide +kernel
theorem dX1_monthLength_7 : decode cX1_monthLength 7 = .ok (.invokestatic 12, 3) := by decide +kernel
theorem dX1_monthLength_10 : decode cX1_monthLength 10 = .ok (.isub, 1) := by decide +kernel
theorem dX1_monthLength_11 : decode cX1_monthLength 11 = .ok (.ireturn, 1) := by decide +kernel
theorem dX1_monthWith_0 : decode cX1_monthWith 0 = .ok (.iload_n 0, 1) := by decide +kernel
theorem dX1_monthWith_1 : decode cX1_monthWith 1 = .ok (.invokestatic 16, 3) := by decide +kernel
theorem dX1_monthWith_4 : decode cX1_monthWith 4 = .ok (.invokestatic 19, 3) := by decide +kernel
theorem dX1_monthWith_7 : decode cX1_monthWith 7 = .ok (.istore_n 1, 1) := by decide +kernel
theorem dX1_monthWith_8 : decode cX1_monthWith 8 = .ok (.iload_n 1, 1) := by decide +kernel
theorem dX1_monthWith_9 : decode cX1_monthWith 9 = .ok (.iload_n 0, 1) := by decide +kernel
theorem dX1_monthWith_10 : decode cX1_monthWith 10 = .ok (.iload_n 1, 1) := by decide +kernel
theorem dX1_monthWith_11 : decode cX1_monthWith 11 = .ok (.invokestatic 12, 3) := by decide +kernel
theorem dX1_monthWith_14 : decode cX1_monthWith 14 = .ok (.isub, 1) := by decide +kernel
theorem dX1_monthWith_15 : decode cX1_monthWith 15 = .ok (.bipush 31, 2) := by decide +kernel
theorem dX1_monthWith_17 : decode cX1_monthWith 17 = .ok (.idiv, 1) := by decide +kernel
theorem dX1_monthWith_18 : decode cX1_monthWith 18 = .ok (.iadd, 1) := by decide +kernel
theorem dX1_monthWith_19 : decode cX1_monthWith 19 = .ok (.istore_n 2, 1) := by decide +kernel
theorem dX1_monthWith_20 : decode cX1_monthWith 20 = .ok (.iload_n 2, 1) := by decide +kernel
theorem dX1_monthWith_21 : decode cX1_monthWith 21 = .ok (.iconst 1, 1) := by decide +kernel
theorem dX1_monthWith_22 : decode cX1_monthWith 22 = .ok (.iadd, 1) := by decide +kernel
theorem dX1_monthWith_23 : decode cX1_monthWith 23 = .ok (.invokestatic 12, 3) := by decide +kernel
theorem dX1_monthWith_26 : decode cX1_monthWith 26 = .ok (.iload_n 0, 1) := by decide +kernel
theorem dX1_monthWith_27 : decode cX1_monthWith 27 = .ok (.if_icmp .gt 9, 3) := by decide +kernel
theorem dX1_monthWith_30 : decode cX1_monthWith 30 = .ok (.iload_n 2, 1) := by decide +kernel
theorem dX1_monthWith_31 : decode cX1_monthWith 31 = .ok (.iconst 1, 1) := by decide +kernel
theorem dX1_monthWith_32 : decode cX1_monthWith 32 = .ok (.iadd, 1) := by decide +kernel
theorem dX1_monthWith_33 : decode cX1_monthWith 33 = .ok (.goto 4, 3) := by decide +kernel
theorem dX1_monthWith_36 : decode cX1_monthWith 36 = .ok (.iload_n 2, 1) := by decide +kernel
theorem dX1_monthWith_37 : decode cX1_monthWith 37 = .ok (.ireturn, 1) := by decide +kernel
theorem dX1_numberInMonth_0 : decode cX1_numberInMonth 0 = .ok (.iload_n 0, 1) := by decide +kernel
theorem dX1_numberInMonth_1 : decode cX1_numberInMonth 1 = .ok (.iload_n 0, 1) := by decide +kernel
theorem dX1_numberInMonth_2 : decode cX1_numberInMonth 2 = .ok (.invokestatic 22, 3) := by decide +kernel
theorem dX1_numberInMonth_5 : decode cX1_numberInMonth 5 = .ok (.invokestatic 12, 3) := by decide +kernel
theorem dX1_numberInMonth_8 : decode cX1_numberInMonth 8 = .ok (.isub, 1) := by decide +kernel
theorem dX1_numberInMonth_9 : decode cX1_numberInMonth 9 = .ok (.iconst 1, 1) := by decide +kernel
theorem dX1_numberInMonth_10 : decode cX1_numberInMonth 10 = .ok (.iadd, 1) := by decide +kernel
theorem dX1_numberInMonth_11 : decode cX1_numberInMonth 11 = .ok (.ireturn, 1) := by decide +kernel
theorem dX1_weekday_0 : decode cX1_weekday 0 = .ok (.iload_n 0, 1) := by decide +kernel
theorem dX1_weekday_1 : decode cX1_weekday 1 = .ok (.bipush 7, 2) := by decide +kernel
theorem dX1_weekday_3 : decode cX1_weekday 3 = .ok (.invokestatic 25, 3) := by decide +kernel
theorem dX1_weekday_6 : decode cX1_weekday 6 = .ok (.ireturn, 1) := by decide +kernel
theorem dX1_easter_0 : decode cX1_easter 0 = .ok (.iload_n 0, 1) := by decide +kernel
theorem dX1_easter_1 : decode cX1_easter 1 = .ok (.bipush 19, 2) := by decide +kernel
theorem dX1_easter_3 : decode cX1_easter 3 = .ok (.irem, 1) := by decide +kernel
theorem dX1_easter_4 : decode cX1_easter 4 = .ok (.istore_n 1, 1) := by decide +kernel
theorem dX1_easter_5 : decode cX1_easter 5 = .ok (.iload_n 0, 1) := by decide +kernel
theorem dX1_easter_6 : decode cX1_easter 6 = .ok (.bipush 100, 2) := by decide +kernel
theorem dX1_easter_8 : decode cX1_easter 8 = .ok (.idiv, 1) := by decide +kernel
theorem dX1_easter_9 : decode cX1_easter 9 = .ok (.istore_n 2, 1) := by decide +kernel
theorem dX1_easter_10 : decode cX1_easter 10 = .ok (.iload_n 0, 1) := by decide +kernel
theorem dX1_easter_11 : decode cX1_easter 11 = .ok (.bipush 100, 2) := by decide +kernel
theorem dX1_easter_13 : decode cX1_easter 13 = .ok (.irem, 1) := by decide +kernel
theorem dX1_easter_14 : decode cX1_easter 14 = .ok (.istore_n 3, 1) := by decide +kernel
theorem dX1_easter_15 : decode cX1_easter 15 = .ok (.bipush 19, 2) := by decide +kernel
theorem dX1_easter_17 : decode cX1_easter 17 = .ok (.iload_n 1, 1) := by decide +kernel
theorem dX1_easter_18 : decode cX1_easter 18 = .ok (.imul, 1) := by decide +kernel
theorem dX1_easter_19 : decode cX1_easter 19 = .ok (.iload_n 2, 1) := by decide +kernel
theorem dX1_easter_20 : decode cX1_easter 20 = .ok (.iadd, 1) := by decide +kernel
theorem dX1_easter_21 : decode cX1_easter 21 = .ok (.iload_n 2, 1) := by decide +kernel
theorem dX1_easter_22 : decode cX1_easter 22 = .ok (.iconst 4, 1) := by decide +kernel
theorem dX1_easter_23 : decode cX1_easter 23 = .ok (.idiv, 1) := by decide +kernel
theorem dX1_easter_24 : decode cX1_easter 24 = .ok (.isub, 1) := by decide +kernel
theorem dX1_easter_25 : decode cX1_easter 25 = .ok (.iload_n 2, 1) := by decide +kernel
theorem dX1_easter_26 : decode cX1_easter 26 = .ok (.iload_n 2, 1) := by decide +kernel
theorem dX1_easter_27 : decode cX1_easter 27 = .ok (.bipush 8, 2) := by decide +kernel
theorem dX1_easter_29 : decode cX1_easter 29 = .ok (.iadd, 1) := by decide +kernel
theorem dX1_easter_30 : decode cX1_easter 30 = .ok (.bipush 25, 2) := by decide +kernel
theorem dX1_easter_32 : decode cX1_easter 32 = .ok (.idiv, 1) := by decide +kernel
theorem dX1_easter_33 : decode cX1_easter 33 = .ok (.isub, 1) := by decide +kernel
theorem dX1_easter_34 : decode cX1_easter 34 = .ok (.iconst 1, 1) := by decide +kernel
theorem dX1_easter_35 : decode cX1_easter 35 = .ok (.iadd, 1) := by decide +kernel
theorem dX1_easter_36 : decode cX1_easter 36 = .ok (.iconst 3, 1) := by decide +kernel
theorem dX1_easter_37 : decode cX1_easter 37 = .ok (.idiv, 1) := by decide +kernel
theorem dX1_easter_38 : decode cX1_easter 38 = .ok (.isub, 1) := by decide +kernel
theorem dX1_easter_39 : decode cX1_easter 39 = .ok (.bipush 15, 2) := by decide +kernel
theorem dX1_easter_41 : decode cX1_easter 41 = .ok (.iadd, 1) := by decide +kernel
theorem dX1_easter_42 : decode cX1_easter 42 = .ok (.bipush 30, 2) := by decide +kernel
theorem dX1_easter_44 : decode cX1_easter 44 = .ok (.irem, 1) := by decide +kernel
theorem dX1_easter_45 : decode cX1_easter 45 = .ok (.istore 4, 2) := by decide +kernel
theorem dX1_easter_47 : decode cX1_easter 47 = .ok (.bipush 32, 2) := by decide +kernel
theorem dX1_easter_49 : decode cX1_easter 49 = .ok (.iconst 2, 1) := by decide +kernel
theorem dX1_easter_50 : decode cX1_easter 50 = .ok (.iload_n 2, 1) := by decide +kernel
theorem dX1_easter_51 : decode cX1_easter 51 = .ok (.iconst 4, 1) := by decide +kernel
theorem dX1_easter_52 : decode cX1_easter 52 = .ok (.irem, 1) := by decide +kernel
theorem dX1_easter_53 : decode cX1_easter 53 = .ok (.imul, 1) := by decide +kernel
theorem dX1_easter_54 : decode cX1_easter 54 = .ok (.iadd, 1) := by decide +kernel
theorem dX1_easter_55 : decode cX1_easter 55 = .ok (.iconst 2, 1) := by decide +kernel
theorem dX1_easter_56 : decode cX1_easter 56 = .ok (.iload_n 3, 1) := by decide +kernel
theorem dX1_easter_57 : decode cX1_easter 57 = .ok (.iconst 4, 1) := by decide +kernel
theorem dX1_easter_58 : decode cX1_easter 58 = .ok (.idiv, 1) := by decide +kernel
theorem dX1_easter_59 : decode cX1_easter 59 = .ok (.imul, 1) := by decide +kernel
theorem dX1_easter_60 : decode cX1_easter 60 = .ok (.iadd, 1) := by decide +kernel
theorem dX1_easter_61 : decode cX1_easter 61 = .ok (.iload 4, 2) := by decide +kernel
theorem dX1_easter_63 : decode cX1_easter 63 = .ok (.isub, 1) := by decide +kernel
theorem dX1_easter_64 : decode cX1_easter 64 = .ok (.iload_n 3, 1) := by decide +kernel
theorem dX1_easter_65 : decode cX1_easter 65 = .ok (.iconst 4, 1) := by decide +kernel
theorem dX1_easter_66 : decode cX1_easter 66 = .ok (.irem, 1) := by decide +kernel
theorem dX1_easter_67 : decode cX1_easter 67 = .ok (.isub, 1) := by decide +kernel
theorem dX1_easter_68 : decode cX1_easter 68 = .ok (.bipush 7, 2) := by decide +kernel
theorem dX1_easter_70 : decode cX1_easter 70 = .ok (.irem, 1) := by decide +kernel
theorem dX1_easter_71 : decode cX1_easter 71 = .ok (.istore 5, 2) := by decide +kernel
theorem dX1_easter_73 : decode cX1_easter 73 = .ok (.iload 4, 2) := by decide +kernel
theorem dX1_easter_75 : decode cX1_easter 75 = .ok (.iload 5, 2) := by decide +kernel
theorem dX1_easter_77 : decode cX1_easter 77 = .ok (.iadd, 1) := by decide +kernel
theorem dX1_easter_78 : decode cX1_easter 78 = .ok (.bipush 7, 2) := by decide +kernel
theorem dX1_easter_80 : decode cX1_easter 80 = .ok (.iload_n 1, 1) := by decide +kernel
theorem dX1_easter_81 : decode cX1_easter 81 = .ok (.bipush 11, 2) := by decide +kernel
theorem dX1_easter_83 : decode cX1_easter 83 = .ok (.iload 4, 2) := by decide +kernel
theorem dX1_easter_85 : decode cX1_easter 85 = .ok (.imul, 1) := by decide +kernel
theorem dX1_easter_86 : decode cX1_easter 86 = .ok (.iadd, 1) := by decide +kernel
theorem dX1_easter_87 : decode cX1_easter 87 = .ok (.bipush 22, 2) := by decide +kernel
theorem dX1_easter_89 : decode cX1_easter 89 = .ok (.iload 5, 2) := by decide +kernel
theorem dX1_easter_91 : decode cX1_easter 91 = .ok (.imul, 1) := by decide +kernel
theorem dX1_easter_92 : decode cX1_easter 92 = .ok (.iadd, 1) := by decide +kernel
theorem dX1_easter_93 : decode cX1_easter 93 = .ok (.sipush 451, 3) := by decide +kernel
theorem dX1_easter_96 : decode cX1_easter 96 = .ok (.idiv, 1) := by decide +kernel
theorem dX1_easter_97 : decode cX1_easter 97 = .ok (.imul, 1) := by decide +kernel
theorem dX1_easter_98 : decode cX1_easter 98 = .ok (.isub, 1) := by decide +kernel
theorem dX1_easter_99 : decode cX1_easter 99 = .ok (.bipush 114, 2) := by decide +kernel
theorem dX1_easter_101 : decode cX1_easter 101 = .ok (.iadd, 1) := by decide +kernel
theorem dX1_easter_102 : decode cX1_easter 102 = .ok (.istore 6, 2) := by decide +kernel
theorem dX1_easter_104 : decode cX1_easter 104 = .ok (.iload_n 0, 1) := by decide +kernel
theorem dX1_easter_105 : decode cX1_easter 105 = .ok (.invokestatic 19, 3) := by decide +kernel
theorem dX1_easter_108 : decode cX1_easter 108 = .ok (.iload 6, 2) := by decide +kernel
theorem dX1_easter_110 : decode cX1_easter 110 = .ok (.bipush 31, 2) := by decide +kernel
theorem dX1_easter_112 : decode cX1_easter 112 = .ok (.idiv, 1) := by decide +kernel
theorem dX1_easter_113 : decode cX1_easter 113 = .ok (.iadd, 1) := by decide +kernel
theorem dX1_easter_114 : decode cX1_easter 114 = .ok (.iconst 1, 1) := by decide +kernel
theorem dX1_easter_115 : decode cX1_easter 115 = .ok (.isub, 1) := by decide +kernel
theorem dX1_easter_116 : decode cX1_easter 116 = .ok (.invokestatic 12, 3) := by decide +kernel
theorem dX1_easter_119 : decode cX1_easter 119 = .ok (.iload 6, 2) := by decide +kernel
theorem dX1_easter_121 : decode cX1_easter 121 = .ok (.bipush 31, 2) := by decide +kernel
theorem dX1_easter_123 : decode cX1_easter 123 = .ok (.irem, 1) := by decide +kernel
theorem dX1_easter_124 : decode cX1_easter 124 = .ok (.iadd, 1) := by decide +kernel
theorem dX1_easter_125 : decode cX1_easter 125 = .ok (.ireturn, 1) := by decide +kernel
theorem dX1_isIn_0 : decode cX1_isIn 0 = .ok (.iload_n 0, 1) := by decide +kernel
theorem dX1_isIn_1 : decode cX1_isIn 1 = .ok (.iload_n 1, 1) := by decide +kernel
theorem dX1_isIn_2 : decode cX1_isIn 2 = .ok (.bipush 7, 2) := by decide +kernel
theorem dX1_isIn_4 : decode cX1_isIn 4 = .ok (.invokestatic 25, 3) := by decide +kernel
theorem dX1_isIn_7 : decode cX1_isIn 7 = .ok (.ishr, 1) := by decide +kernel
theorem dX1_isIn_8 : decode cX1_isIn 8 = .ok (.iconst 1, 1) := by decide +kernel
theorem dX1_isIn_9 : decode cX1_isIn 9 = .ok (.iand, 1) := by decide +kernel
theorem dX1_isIn_10 : decode cX1_isIn 10 = .ok (.ifCond .eq 7, 3) := by decide +kernel
theorem dX1_isIn_13 : decode cX1_isIn 13 = .ok (.iconst 1, 1) := by decide +kernel
theorem dX1_isIn_14 : decode cX1_isIn 14 = .ok (.goto 4, 3) := by decide +kernel
theorem dX1_isIn_17 : decode cX1_isIn 17 = .ok (.iconst 0, 1) := by decide +kernel
theorem dX1_isIn_18 : decode cX1_isIn 18 = .ok (.ireturn, 1) := by decide +kernel
theorem dX2_init_0 : decode cX2_init 0 = .ok (.aload_n 0, 1) := by decide +kernel
theorem dX2_init_1 : decode cX2_init 1 = .ok (.invokespecial 1, 3) := by decide +kernel
theorem dX2_init_4 : decode cX2_init 4 = .ok (.aload_n 0, 1) := by decide +kernel
theorem dX2_init_5 : decode cX2_init 5 = .ok (.iload_n 1, 1) := by decide +kernel
theorem dX2_init_6 : decode cX2_init 6 = .ok (.putfield 7, 3) := by decide +kernel
theorem dX2_init_9 : decode cX2_init 9 = .ok (.aload_n 0, 1) := by decide +kernel
theorem dX2_init_10 : decode cX2_init 10 = .ok (.iload_n 2, 1) := by decide +kernel
theorem dX2_init_11 : decode cX2_init 11 = .ok (.putfield 13, 3) := by decide +kernel
theorem dX2_init_14 : decode cX2_init 14 = .ok (.aload_n 0, 1) := by decide +kernel
theorem dX2_init_15 : decode cX2_init 15 = .ok (.aload_n 3, 1) := by decide +kernel
theorem dX2_init_16 : decode cX2_init 16 = .ok (.putfield 16, 3) := by decide +kernel
theorem dX2_init_19 : decode cX2_init 19 = .ok (.aload_n 0, 1) := by decide +kernel
theorem dX2_init_20 : decode cX2_init 20 = .ok (.iload 4, 2) := by decide +kernel
theorem dX2_init_22 : decode cX2_init 22 = .ok (.putfield 20, 3) := by decide +kernel
theorem dX2_init_25 : decode cX2_init 25 = .ok (.return_, 1) := by decide +kernel
theorem dX3_init_0 : decode cX3_init 0 = .ok (.aload_n 0, 1) := by decide +kernel
theorem dX3_init_1 : decode cX3_init 1 = .ok (.invokespecial 3, 3) := by decide +kernel
theorem dX3_init_4 : decode cX3_init 4 = .ok (.aload_n 0, 1) := by decide +kernel
theorem dX3_init_5 : decode cX3_init 5 = .ok (.iload_n 1, 1) := by decide +kernel
theorem dX3_init_6 : decode cX3_init 6 = .ok (.putfield 9, 3) := by decide +kernel
theorem dX3_init_9 : decode cX3_init 9 = .ok (.aload_n 0, 1) := by decide +kernel
theorem dX3_init_10 : decode cX3_init 10 = .ok (.iload_n 2, 1) := by decide +kernel
theorem dX3_init_11 : decode cX3_init 11 = .ok (.putfield 15, 3) := by decide +kernel
theorem dX3_init_14 : decode cX3_init 14 = .ok (.aload_n 0, 1) := by decide +kernel
theorem dX3_init_15 : decode cX3_init 15 = .ok (.iload_n 3, 1) := by decide +kernel
theorem dX3_init_16 : decode cX3_init 16 = .ok (.putfield 18, 3) := by decide +kernel
theorem dX3_init_19 : decode cX3_init 19 = .ok (.return_, 1) := by decide +kernel
theorem dX3_greatestNumber_0 : decode cX3_greatestNumber 0 = .ok (.iload_n 0, 1) := by decide +kernel
theorem dX3_greatestNumber_1 : decode cX3_greatestNumber 1 = .ok (.iconst 2, 1) := by decide +kernel
theorem dX3_greatestNumber_2 : decode cX3_greatestNumber 2 = .ok (.if_icmp .ge 6, 3) := by decide +kernel
theorem dX3_greatestNumber_5 : decode cX3_greatestNumber 5 = .ok (.bipush 31, 2) := by decide +kernel
theorem dX3_greatestNumber_7 : decode cX3_greatestNumber 7 = .ok (.ireturn, 1) := by decide +kernel
theorem dX3_greatestNumber_8 : decode cX3_greatestNumber 8 = .ok (.iload_n 0, 1) := by decide +kernel
theorem dX3_greatestNumber_9 : decode cX3_greatestNumber 9 = .ok (.bipush 16, 2) := by decide +kernel
theorem dX3_greatestNumber_11 : decode cX3_greatestNumber 11 = .ok (.if_icmp .ge 7, 3) := by decide +kernel
theorem dX3_greatestNumber_14 : decode cX3_greatestNumber 14 = .ok (.iconst 5, 1) := by decide +kernel
theorem dX3_greatestNumber_15 : decode cX3_greatestNumber 15 = .ok (.goto 6, 3) := by decide +kernel
theorem dX3_greatestNumber_18 : decode cX3_greatestNumber 18 = .ok (.sipush 200, 3) := by decide +kernel
theorem dX3_greatestNumber_21 : decode cX3_greatestNumber 21 = .ok (.ireturn, 1) := by decide +kernel
theorem dX3_toldIn_0 : decode cX3_toldIn 0 = .ok (.aload_n 0, 1) := by decide +kernel
theorem dX3_toldIn_1 : decode cX3_toldIn 1 = .ok (.getfield 9, 3) := by decide +kernel
theorem dX3_toldIn_4 : decode cX3_toldIn 4 = .ok (.ifCond .eq 18, 3) := by decide +kernel
theorem dX3_toldIn_7 : decode cX3_toldIn 7 = .ok (.aload_n 0, 1) := by decide +kernel
theorem dX3_toldIn_8 : decode cX3_toldIn 8 = .ok (.getfield 9, 3) := by decide +kernel
theorem dX3_toldIn_11 : decode cX3_toldIn 11 = .ok (.iload_n 1, 1) := by decide +kernel
theorem dX3_toldIn_12 : decode cX3_toldIn 12 = .ok (.bipush 12, 2) := by decide +kernel
theorem dX3_toldIn_14 : decode cX3_toldIn 14 = .ok (.irem, 1) := by decide +kernel
theorem dX3_toldIn_15 : decode cX3_toldIn 15 = .ok (.iconst 1, 1) := by decide +kernel
theorem dX3_toldIn_16 : decode cX3_toldIn 16 = .ok (.iadd, 1) := by decide +kernel
theorem dX3_toldIn_17 : decode cX3_toldIn 17 = .ok (.if_icmp .eq 5, 3) := by decide +kernel
theorem dX3_toldIn_20 : decode cX3_toldIn 20 = .ok (.iconst (-1), 1) := by decide +kernel
theorem dX3_toldIn_21 : decode cX3_toldIn 21 = .ok (.ireturn, 1) := by decide +kernel
theorem dX3_toldIn_22 : decode cX3_toldIn 22 = .ok (.iload_n 1, 1) := by decide +kernel
theorem dX3_toldIn_23 : decode cX3_toldIn 23 = .ok (.invokestatic 21, 3) := by decide +kernel
theorem dX3_toldIn_26 : decode cX3_toldIn 26 = .ok (.istore_n 2, 1) := by decide +kernel
theorem dX3_toldIn_27 : decode cX3_toldIn 27 = .ok (.iload_n 1, 1) := by decide +kernel
theorem dX3_toldIn_28 : decode cX3_toldIn 28 = .ok (.iconst 1, 1) := by decide +kernel
theorem dX3_toldIn_29 : decode cX3_toldIn 29 = .ok (.iadd, 1) := by decide +kernel
theorem dX3_toldIn_30 : decode cX3_toldIn 30 = .ok (.invokestatic 21, 3) := by decide +kernel
theorem dX3_toldIn_33 : decode cX3_toldIn 33 = .ok (.iload_n 2, 1) := by decide +kernel
theorem dX3_toldIn_34 : decode cX3_toldIn 34 = .ok (.isub, 1) := by decide +kernel
theorem dX3_toldIn_35 : decode cX3_toldIn 35 = .ok (.istore_n 3, 1) := by decide +kernel
theorem dX3_toldIn_36 : decode cX3_toldIn 36 = .ok (.aload_n 0, 1) := by decide +kernel
theorem dX3_toldIn_37 : decode cX3_toldIn 37 = .ok (.getfield 15, 3) := by decide +kernel
theorem dX3_toldIn_40 : decode cX3_toldIn 40 = .ok (.bipush 16, 2) := by decide +kernel
theorem dX3_toldIn_42 : decode cX3_toldIn 42 = .ok (.if_icmp .ne 31, 3) := by decide +kernel
theorem dX3_toldIn_45 : decode cX3_toldIn 45 = .ok (.sipush 1900, 3) := by decide +kernel
theorem dX3_toldIn_48 : decode cX3_toldIn 48 = .ok (.iload_n 1, 1) := by decide +kernel
theorem dX3_toldIn_49 : decode cX3_toldIn 49 = .ok (.bipush 12, 2) := by decide +kernel
theorem dX3_toldIn_51 : decode cX3_toldIn 51 = .ok (.idiv, 1) := by decide +kernel
theorem dX3_toldIn_52 : decode cX3_toldIn 52 = .ok (.iadd, 1) := by decide +kernel
theorem dX3_toldIn_53 : decode cX3_toldIn 53 = .ok (.invokestatic 27, 3) := by decide +kernel
theorem dX3_toldIn_56 : decode cX3_toldIn 56 = .ok (.aload_n 0, 1) := by decide +kernel
theorem dX3_toldIn_57 : decode cX3_toldIn 57 = .ok (.getfield 18, 3) := by decide +kernel
theorem dX3_toldIn_60 : decode cX3_toldIn 60 = .ok (.iadd, 1) := by decide +kernel
theorem dX3_toldIn_61 : decode cX3_toldIn 61 = .ok (.bipush 100, 2) := by decide +kernel
theorem dX3_toldIn_63 : decode cX3_toldIn 63 = .ok (.isub, 1) := by decide +kernel
theorem dX3_toldIn_64 : decode cX3_toldIn 64 = .ok (.iload_n 2, 1) := by decide +kernel
theorem dX3_toldIn_65 : decode cX3_toldIn 65 = .ok (.isub, 1) := by decide +kernel
theorem dX3_toldIn_66 : decode cX3_toldIn 66 = .ok (.iconst 1, 1) := by decide +kernel
theorem dX3_toldIn_67 : decode cX3_toldIn 67 = .ok (.iadd, 1) := by decide +kernel
theorem dX3_toldIn_68 : decode cX3_toldIn 68 = .ok (.istore 4, 2) := by decide +kernel
theorem dX3_toldIn_70 : decode cX3_toldIn 70 = .ok (.goto 11, 3) := by decide +kernel
theorem dX3_toldIn_73 : decode cX3_toldIn 73 = .ok (.aload_n 0, 1) := by decide +kernel
theorem dX3_toldIn_74 : decode cX3_toldIn 74 = .ok (.iload_n 2, 1) := by decide +kernel
theorem dX3_toldIn_75 : decode cX3_toldIn 75 = .ok (.iload_n 3, 1) := by decide +kernel
theorem dX3_toldIn_76 : decode cX3_toldIn 76 = .ok (.invokevirtual 30, 3) := by decide +kernel
theorem dX3_toldIn_79 : decode cX3_toldIn 79 = .ok (.istore 4, 2) := by decide +kernel
theorem dX3_toldIn_81 : decode cX3_toldIn 81 = .ok (.iload 4, 2) := by decide +kernel
theorem dX3_toldIn_83 : decode cX3_toldIn 83 = .ok (.iconst 1, 1) := by decide +kernel
theorem dX3_toldIn_84 : decode cX3_toldIn 84 = .ok (.if_icmp .lt 9, 3) := by decide +kernel
theorem dX3_toldIn_87 : decode cX3_toldIn 87 = .ok (.iload 4, 2) := by decide +kernel
theorem dX3_toldIn_89 : decode cX3_toldIn 89 = .ok (.iload_n 3, 1) := by decide +kernel
theorem dX3_toldIn_90 : decode cX3_toldIn 90 = .ok (.if_icmp .le 7, 3) := by decide +kernel
theorem dX3_toldIn_93 : decode cX3_toldIn 93 = .ok (.iconst (-1), 1) := by decide +kernel
theorem dX3_toldIn_94 : decode cX3_toldIn 94 = .ok (.goto 9, 3) := by decide +kernel
theorem dX3_toldIn_97 : decode cX3_toldIn 97 = .ok (.iload_n 2, 1) := by decide +kernel
theorem dX3_toldIn_98 : decode cX3_toldIn 98 = .ok (.iload 4, 2) := by decide +kernel
theorem dX3_toldIn_100 : decode cX3_toldIn 100 = .ok (.iadd, 1) := by decide +kernel
theorem dX3_toldIn_101 : decode cX3_toldIn 101 = .ok (.iconst 1, 1) := by decide +kernel
theorem dX3_toldIn_102 : decode cX3_toldIn 102 = .ok (.isub, 1) := by decide +kernel
theorem dX3_toldIn_103 : decode cX3_toldIn 103 = .ok (.ireturn, 1) := by decide +kernel
theorem dX3_numberTold_0 : decode cX3_numberTold 0 = .ok (.aload_n 0, 1) := by decide +kernel
theorem dX3_numberTold_1 : decode cX3_numberTold 1 = .ok (.getfield 15, 3) := by decide +kernel
theorem dX3_numberTold_4 : decode cX3_numberTold 4 = .ok (.ifCond .ne 8, 3) := by decide +kernel
theorem dX3_numberTold_7 : decode cX3_numberTold 7 = .ok (.aload_n 0, 1) := by decide +kernel
theorem dX3_numberTold_8 : decode cX3_numberTold 8 = .ok (.getfield 18, 3) := by decide +kernel
theorem dX3_numberTold_11 : decode cX3_numberTold 11 = .ok (.ireturn, 1) := by decide +kernel
theorem dX3_numberTold_12 : decode cX3_numberTold 12 = .ok (.aload_n 0, 1) := by decide +kernel
theorem dX3_numberTold_13 : decode cX3_numberTold 13 = .ok (.getfield 15, 3) := by decide +kernel
theorem dX3_numberTold_16 : decode cX3_numberTold 16 = .ok (.iconst 1, 1) := by decide +kernel
theorem dX3_numberTold_17 : decode cX3_numberTold 17 = .ok (.if_icmp .ne 12, 3) := by decide +kernel
theorem dX3_numberTold_20 : decode cX3_numberTold 20 = .ok (.iload_n 2, 1) := by decide +kernel
theorem dX3_numberTold_21 : decode cX3_numberTold 21 = .ok (.aload_n 0, 1) := by decide +kernel
theorem dX3_numberTold_22 : decode cX3_numberTold 22 = .ok (.getfield 18, 3) := by decide +kernel
theorem dX3_numberTold_25 : decode cX3_numberTold 25 = .ok (.isub, 1) := by decide +kernel
theorem dX3_numberTold_26 : decode cX3_numberTold 26 = .ok (.iconst 1, 1) := by decide +kernel
theorem dX3_numberTold_27 : decode cX3_numberTold 27 = .ok (.iadd, 1) := by decide +kernel
theorem dX3_numberTold_28 : decode cX3_numberTold 28 = .ok (.ireturn, 1) := by decide +kernel
theorem dX3_numberTold_29 : decode cX3_numberTold 29 = .ok (.aload_n 0, 1) := by decide +kernel
theorem dX3_numberTold_30 : decode cX3_numberTold 30 = .ok (.getfield 15, 3) := by decide +kernel
theorem dX3_numberTold_33 : decode cX3_numberTold 33 = .ok (.bipush 8, 2) := by decide +kernel
theorem dX3_numberTold_35 : decode cX3_numberTold 35 = .ok (.if_icmp .gt 29, 3) := by decide +kernel
theorem dX3_numberTold_38 : decode cX3_numberTold 38 = .ok (.iconst 1, 1) := by decide +kernel
theorem dX3_numberTold_39 : decode cX3_numberTold 39 = .ok (.aload_n 0, 1) := by decide +kernel
theorem dX3_numberTold_40 : decode cX3_numberTold 40 = .ok (.getfield 15, 3) := by decide +kernel
theorem dX3_numberTold_43 : decode cX3_numberTold 43 = .ok (.iconst 2, 1) := by decide +kernel
theorem dX3_numberTold_44 : decode cX3_numberTold 44 = .ok (.isub, 1) := by decide +kernel
theorem dX3_numberTold_45 : decode cX3_numberTold 45 = .ok (.iload_n 1, 1) := by decide +kernel
theorem dX3_numberTold_46 : decode cX3_numberTold 46 = .ok (.isub, 1) := by decide +kernel
theorem dX3_numberTold_47 : decode cX3_numberTold 47 = .ok (.bipush 7, 2) := by decide +kernel
theorem dX3_numberTold_49 : decode cX3_numberTold 49 = .ok (.invokestatic 34, 3) := by decide +kernel
theorem dX3_numberTold_52 : decode cX3_numberTold 52 = .ok (.iadd, 1) := by decide +kernel
theorem dX3_numberTold_53 : decode cX3_numberTold 53 = .ok (.bipush 7, 2) := by decide +kernel
theorem dX3_numberTold_55 : decode cX3_numberTold 55 = .ok (.aload_n 0, 1) := by decide +kernel
theorem dX3_numberTold_56 : decode cX3_numberTold 56 = .ok (.getfield 18, 3) := by decide +kernel
theorem dX3_numberTold_59 : decode cX3_numberTold 59 = .ok (.iconst 1, 1) := by decide +kernel
theorem dX3_numberTold_60 : decode cX3_numberTold 60 = .ok (.isub, 1) := by decide +kernel
theorem dX3_numberTold_61 : decode cX3_numberTold 61 = .ok (.imul, 1) := by decide +kernel
theorem dX3_numberTold_62 : decode cX3_numberTold 62 = .ok (.iadd, 1) := by decide +kernel
theorem dX3_numberTold_63 : decode cX3_numberTold 63 = .ok (.ireturn, 1) := by decide +kernel
theorem dX3_numberTold_64 : decode cX3_numberTold 64 = .ok (.iload_n 2, 1) := by decide +kernel
theorem dX3_numberTold_65 : decode cX3_numberTold 65 = .ok (.iload_n 1, 1) := by decide +kernel
theorem dX3_numberTold_66 : decode cX3_numberTold 66 = .ok (.iload_n 2, 1) := by decide +kernel
theorem dX3_numberTold_67 : decode cX3_numberTold 67 = .ok (.iadd, 1) := by decide +kernel
theorem dX3_numberTold_68 : decode cX3_numberTold 68 = .ok (.iconst 1, 1) := by decide +kernel
theorem dX3_numberTold_69 : decode cX3_numberTold 69 = .ok (.isub, 1) := by decide +kernel
theorem dX3_numberTold_70 : decode cX3_numberTold 70 = .ok (.aload_n 0, 1) := by decide +kernel
theorem dX3_numberTold_71 : decode cX3_numberTold 71 = .ok (.getfield 15, 3) := by decide +kernel
theorem dX3_numberTold_74 : decode cX3_numberTold 74 = .ok (.bipush 9, 2) := by decide +kernel
theorem dX3_numberTold_76 : decode cX3_numberTold 76 = .ok (.isub, 1) := by decide +kernel
theorem dX3_numberTold_77 : decode cX3_numberTold 77 = .ok (.isub, 1) := by decide +kernel
theorem dX3_numberTold_78 : decode cX3_numberTold 78 = .ok (.bipush 7, 2) := by decide +kernel
theorem dX3_numberTold_80 : decode cX3_numberTold 80 = .ok (.invokestatic 34, 3) := by decide +kernel
theorem dX3_numberTold_83 : decode cX3_numberTold 83 = .ok (.isub, 1) := by decide +kernel
theorem dX3_numberTold_84 : decode cX3_numberTold 84 = .ok (.bipush 7, 2) := by decide +kernel
theorem dX3_numberTold_86 : decode cX3_numberTold 86 = .ok (.aload_n 0, 1) := by decide +kernel
theorem dX3_numberTold_87 : decode cX3_numberTold 87 = .ok (.getfield 18, 3) := by decide +kernel
theorem dX3_numberTold_90 : decode cX3_numberTold 90 = .ok (.iconst 1, 1) := by decide +kernel
theorem dX3_numberTold_91 : decode cX3_numberTold 91 = .ok (.isub, 1) := by decide +kernel
theorem dX3_numberTold_92 : decode cX3_numberTold 92 = .ok (.imul, 1) := by decide +kernel
theorem dX3_numberTold_93 : decode cX3_numberTold 93 = .ok (.isub, 1) := by decide +kernel
theorem dX3_numberTold_94 : decode cX3_numberTold 94 = .ok (.ireturn, 1) := by decide +kernel
theorem dX3_countIn_0 : decode cX3_countIn 0 = .ok (.iload_n 1, 1) := by decide +kernel
theorem dX3_countIn_1 : decode cX3_countIn 1 = .ok (.invokestatic 39, 3) := by decide +kernel
theorem dX3_countIn_4 : decode cX3_countIn 4 = .ok (.istore_n 2, 1) := by decide +kernel
theorem dX3_countIn_5 : decode cX3_countIn 5 = .ok (.iconst 0, 1) := by decide +kernel
theorem dX3_countIn_6 : decode cX3_countIn 6 = .ok (.istore_n 3, 1) := by decide +kernel
theorem dX3_countIn_7 : decode cX3_countIn 7 = .ok (.iload_n 2, 1) := by decide +kernel
theorem dX3_countIn_8 : decode cX3_countIn 8 = .ok (.istore 4, 2) := by decide +kernel
theorem dX3_countIn_10 : decode cX3_countIn 10 = .ok (.iload 4, 2) := by decide +kernel
theorem dX3_countIn_12 : decode cX3_countIn 12 = .ok (.iload_n 2, 1) := by decide +kernel
theorem dX3_countIn_13 : decode cX3_countIn 13 = .ok (.bipush 12, 2) := by decide +kernel
theorem dX3_countIn_15 : decode cX3_countIn 15 = .ok (.iadd, 1) := by decide +kernel
theorem dX3_countIn_16 : decode cX3_countIn 16 = .ok (.if_icmp .ge 21, 3) := by decide +kernel
theorem dX3_countIn_19 : decode cX3_countIn 19 = .ok (.aload_n 0, 1) := by decide +kernel
theorem dX3_countIn_20 : decode cX3_countIn 20 = .ok (.iload 4, 2) := by decide +kernel
theorem dX3_countIn_22 : decode cX3_countIn 22 = .ok (.invokevirtual 42, 3) := by decide +kernel
theorem dX3_countIn_25 : decode cX3_countIn 25 = .ok (.ifCond .lt 6, 3) := by decide +kernel
theorem dX3_countIn_28 : decode cX3_countIn 28 = .ok (.iinc 3 1, 3) := by decide +kernel
theorem dX3_countIn_31 : decode cX3_countIn 31 = .ok (.iinc 4 1, 3) := by decide +kernel
theorem dX3_countIn_34 : decode cX3_countIn 34 = .ok (.goto (-24), 3) := by decide +kernel
theorem dX3_countIn_37 : decode cX3_countIn 37 = .ok (.iload_n 3, 1) := by decide +kernel
theorem dX3_countIn_38 : decode cX3_countIn 38 = .ok (.ireturn, 1) := by decide +kernel
theorem dX3_firstFrom_0 : decode cX3_firstFrom 0 = .ok (.iload_n 1, 1) := by decide +kernel
theorem dX3_firstFrom_1 : decode cX3_firstFrom 1 = .ok (.invokestatic 45, 3) := by decide +kernel
theorem dX3_firstFrom_4 : decode cX3_firstFrom 4 = .ok (.istore_n 2, 1) := by decide +kernel
theorem dX3_firstFrom_5 : decode cX3_firstFrom 5 = .ok (.iload_n 2, 1) := by decide +kernel
theorem dX3_firstFrom_6 : decode cX3_firstFrom 6 = .ok (.sipush 2400, 3) := by decide +kernel
theorem dX3_firstFrom_9 : decode cX3_firstFrom 9 = .ok (.if_icmp .ge 22, 3) := by decide +kernel
theorem dX3_firstFrom_12 : decode cX3_firstFrom 12 = .ok (.aload_n 0, 1) := by decide +kernel
theorem dX3_firstFrom_13 : decode cX3_firstFrom 13 = .ok (.iload_n 2, 1) := by decide +kernel
theorem dX3_firstFrom_14 : decode cX3_firstFrom 14 = .ok (.invokevirtual 42, 3) := by decide +kernel
theorem dX3_firstFrom_17 : decode cX3_firstFrom 17 = .ok (.istore_n 3, 1) := by decide +kernel
theorem dX3_firstFrom_18 : decode cX3_firstFrom 18 = .ok (.iload_n 3, 1) := by decide +kernel
theorem dX3_firstFrom_19 : decode cX3_firstFrom 19 = .ok (.iload_n 1, 1) := by decide +kernel
theorem dX3_firstFrom_20 : decode cX3_firstFrom 20 = .ok (.if_icmp .lt 5, 3) := by decide +kernel
theorem dX3_firstFrom_23 : decode cX3_firstFrom 23 = .ok (.iload_n 3, 1) := by decide +kernel
theorem dX3_firstFrom_24 : decode cX3_firstFrom 24 = .ok (.ireturn, 1) := by decide +kernel
theorem dX3_firstFrom_25 : decode cX3_firstFrom 25 = .ok (.iinc 2 1, 3) := by decide +kernel
theorem dX3_firstFrom_28 : decode cX3_firstFrom 28 = .ok (.goto (-23), 3) := by decide +kernel
theorem dX3_firstFrom_31 : decode cX3_firstFrom 31 = .ok (.iconst (-1), 1) := by decide +kernel
theorem dX3_firstFrom_32 : decode cX3_firstFrom 32 = .ok (.ireturn, 1) := by decide +kernel
theorem dX4_init_0 : decode cX4_init 0 = .ok (.aload_n 0, 1) := by decide +kernel
theorem dX4_init_1 : decode cX4_init 1 = .ok (.invokespecial 3, 3) := by decide +kernel
theorem dX4_init_4 : decode cX4_init 4 = .ok (.aload_n 0, 1) := by decide +kernel
theorem dX4_init_5 : decode cX4_init 5 = .ok (.iload_n 1, 1) := by decide +kernel
theorem dX4_init_6 : decode cX4_init 6 = .ok (.putfield 9, 3) := by decide +kernel
theorem dX4_init_9 : decode cX4_init 9 = .ok (.aload_n 0, 1) := by decide +kernel
theorem dX4_init_10 : decode cX4_init 10 = .ok (.bipush 6, 2) := by decide +kernel
theorem dX4_init_12 : decode cX4_init 12 = .ok (.anewarray 15, 3) := by decide +kernel
theorem dX4_init_15 : decode cX4_init 15 = .ok (.putfield 17, 3) := by decide +kernel
theorem dX4_init_18 : decode cX4_init 18 = .ok (.aload_n 0, 1) := by decide +kernel
theorem dX4_init_19 : decode cX4_init 19 = .ok (.iconst 0, 1) := by decide +kernel
theorem dX4_init_20 : decode cX4_init 20 = .ok (.putfield 21, 3) := by decide +kernel
theorem dX4_init_23 : decode cX4_init 23 = .ok (.aload_n 0, 1) := by decide +kernel
theorem dX4_init_24 : decode cX4_init 24 = .ok (.bipush 6, 2) := by decide +kernel
theorem dX4_init_26 : decode cX4_init 26 = .ok (.newarray .int, 2) := by decide +kernel
theorem dX4_init_28 : decode cX4_init 28 = .ok (.putfield 24, 3) := by decide +kernel
theorem dX4_init_31 : decode cX4_init 31 = .ok (.aload_n 0, 1) := by decide +kernel
theorem dX4_init_32 : decode cX4_init 32 = .ok (.sipush 1201, 3) := by decide +kernel
theorem dX4_init_35 : decode cX4_init 35 = .ok (.newarray .int, 2) := by decide +kernel
theorem dX4_init_37 : decode cX4_init 37 = .ok (.putfield 28, 3) := by decide +kernel
theorem dX4_init_40 : decode cX4_init 40 = .ok (.aload_n 0, 1) := by decide +kernel
theorem dX4_init_41 : decode cX4_init 41 = .ok (.aload_n 0, 1) := by decide +kernel
theorem dX4_init_42 : decode cX4_init 42 = .ok (.getfield 28, 3) := by decide +kernel
theorem dX4_init_45 : decode cX4_init 45 = .ok (.arraylength, 1) := by decide +kernel
theorem dX4_init_46 : decode cX4_init 46 = .ok (.newarray .int, 2) := by decide +kernel
theorem dX4_init_48 : decode cX4_init 48 = .ok (.putfield 31, 3) := by decide +kernel
theorem dX4_init_51 : decode cX4_init 51 = .ok (.aload_n 0, 1) := by decide +kernel
theorem dX4_init_52 : decode cX4_init 52 = .ok (.iconst 1, 1) := by decide +kernel
theorem dX4_init_53 : decode cX4_init 53 = .ok (.putfield 34, 3) := by decide +kernel
theorem dX4_init_56 : decode cX4_init 56 = .ok (.return_, 1) := by decide +kernel
theorem dX4_hasRoom_0 : decode cX4_hasRoom 0 = .ok (.aload_n 0, 1) := by decide +kernel
theorem dX4_hasRoom_1 : decode cX4_hasRoom 1 = .ok (.getfield 21, 3) := by decide +kernel
theorem dX4_hasRoom_4 : decode cX4_hasRoom 4 = .ok (.aload_n 0, 1) := by decide +kernel
theorem dX4_hasRoom_5 : decode cX4_hasRoom 5 = .ok (.getfield 17, 3) := by decide +kernel
theorem dX4_hasRoom_8 : decode cX4_hasRoom 8 = .ok (.arraylength, 1) := by decide +kernel
theorem dX4_hasRoom_9 : decode cX4_hasRoom 9 = .ok (.if_icmp .ge 7, 3) := by decide +kernel
theorem dX4_hasRoom_12 : decode cX4_hasRoom 12 = .ok (.iconst 1, 1) := by decide +kernel
theorem dX4_hasRoom_13 : decode cX4_hasRoom 13 = .ok (.goto 4, 3) := by decide +kernel
theorem dX4_hasRoom_16 : decode cX4_hasRoom 16 = .ok (.iconst 0, 1) := by decide +kernel
theorem dX4_hasRoom_17 : decode cX4_hasRoom 17 = .ok (.ireturn, 1) := by decide +kernel
theorem dX4_put_0 : decode cX4_put 0 = .ok (.aload_n 0, 1) := by decide +kernel
theorem dX4_put_1 : decode cX4_put 1 = .ok (.getfield 21, 3) := by decide +kernel
theorem dX4_put_4 : decode cX4_put 4 = .ok (.istore_n 2, 1) := by decide +kernel
theorem dX4_put_5 : decode cX4_put 5 = .ok (.iload_n 2, 1) := by decide +kernel
theorem dX4_put_6 : decode cX4_put 6 = .ok (.ifCond .lt 26, 3) := by decide +kernel
theorem dX4_put_9 : decode cX4_put 9 = .ok (.iload_n 2, 1) := by decide +kernel
theorem dX4_put_10 : decode cX4_put 10 = .ok (.aload_n 0, 1) := by decide +kernel
theorem dX4_put_11 : decode cX4_put 11 = .ok (.getfield 17, 3) := by decide +kernel
theorem dX4_put_14 : decode cX4_put 14 = .ok (.arraylength, 1) := by decide +kernel
theorem dX4_put_15 : decode cX4_put 15 = .ok (.if_icmp .ge 17, 3) := by decide +kernel
theorem dX4_put_18 : decode cX4_put 18 = .ok (.aload_n 0, 1) := by decide +kernel
theorem dX4_put_19 : decode cX4_put 19 = .ok (.getfield 17, 3) := by decide +kernel
theorem dX4_put_22 : decode cX4_put 22 = .ok (.iload_n 2, 1) := by decide +kernel
theorem dX4_put_23 : decode cX4_put 23 = .ok (.aload_n 1, 1) := by decide +kernel
theorem dX4_put_24 : decode cX4_put 24 = .ok (.aastore, 1) := by decide +kernel
theorem dX4_put_25 : decode cX4_put 25 = .ok (.aload_n 0, 1) := by decide +kernel
theorem dX4_put_26 : decode cX4_put 26 = .ok (.iload_n 2, 1) := by decide +kernel
theorem dX4_put_27 : decode cX4_put 27 = .ok (.iconst 1, 1) := by decide +kernel
theorem dX4_put_28 : decode cX4_put 28 = .ok (.iadd, 1) := by decide +kernel
theorem dX4_put_29 : decode cX4_put 29 = .ok (.putfield 21, 3) := by decide +kernel
theorem dX4_put_32 : decode cX4_put 32 = .ok (.iload_n 2, 1) := by decide +kernel
theorem dX4_put_33 : decode cX4_put 33 = .ok (.ireturn, 1) := by decide +kernel
theorem dX4_findPieces_0 : decode cX4_findPieces 0 = .ok (.aload_n 0, 1) := by decide +kernel
theorem dX4_findPieces_1 : decode cX4_findPieces 1 = .ok (.iconst 0, 1) := by decide +kernel
theorem dX4_findPieces_2 : decode cX4_findPieces 2 = .ok (.putfield 34, 3) := by decide +kernel
theorem dX4_findPieces_5 : decode cX4_findPieces 5 = .ok (.aload_n 0, 1) := by decide +kernel
theorem dX4_findPieces_6 : decode cX4_findPieces 6 = .ok (.iconst 0, 1) := by decide +kernel
theorem dX4_findPieces_7 : decode cX4_findPieces 7 = .ok (.iconst 0, 1) := by decide +kernel
theorem dX4_findPieces_8 : decode cX4_findPieces 8 = .ok (.invokevirtual 37, 3) := by decide +kernel
theorem dX4_findPieces_11 : decode cX4_findPieces 11 = .ok (.sipush (-1020), 3) := by decide +kernel
theorem dX4_findPieces_14 : decode cX4_findPieces 14 = .ok (.istore_n 1, 1) := by decide +kernel
theorem dX4_findPieces_15 : decode cX4_findPieces 15 = .ok (.iconst 0, 1) := by decide +kernel
theorem dX4_findPieces_16 : decode cX4_findPieces 16 = .ok (.istore_n 2, 1) := by decide +kernel
theorem dX4_findPieces_17 : decode cX4_findPieces 17 = .ok (.sipush 1900, 3) := by decide +kernel
theorem dX4_findPieces_20 : decode cX4_findPieces 20 = .ok (.istore_n 3, 1) := by decide +kernel
theorem dX4_findPieces_21 : decode cX4_findPieces 21 = .ok (.iload_n 3, 1) := by decide +kernel
theorem dX4_findPieces_22 : decode cX4_findPieces 22 = .ok (.sipush 2099, 3) := by decide +kernel
theorem dX4_findPieces_25 : decode cX4_findPieces 25 = .ok (.if_icmp .gt 105, 3) := by decide +kernel
theorem dX4_findPieces_28 : decode cX4_findPieces 28 = .ok (.aload_n 0, 1) := by decide +kernel
theorem dX4_findPieces_29 : decode cX4_findPieces 29 = .ok (.iload_n 3, 1) := by decide +kernel
theorem dX4_findPieces_30 : decode cX4_findPieces 30 = .ok (.invokevirtual 41, 3) := by decide +kernel
theorem dX4_findPieces_33 : decode cX4_findPieces 33 = .ok (.iconst 0, 1) := by decide +kernel
theorem dX4_findPieces_34 : decode cX4_findPieces 34 = .ok (.istore 4, 2) := by decide +kernel
theorem dX4_findPieces_36 : decode cX4_findPieces 36 = .ok (.iload 4, 2) := by decide +kernel
theorem dX4_findPieces_38 : decode cX4_findPieces 38 = .ok (.bipush 6, 2) := by decide +kernel
theorem dX4_findPieces_40 : decode cX4_findPieces 40 = .ok (.if_icmp .ge 84, 3) := by decide +kernel
theorem dX4_findPieces_43 : decode cX4_findPieces 43 = .ok (.aload_n 0, 1) := by decide +kernel
theorem dX4_findPieces_44 : decode cX4_findPieces 44 = .ok (.invokevirtual 45, 3) := by decide +kernel
theorem dX4_findPieces_47 : decode cX4_findPieces 47 = .ok (.istore 5, 2) := by decide +kernel
theorem dX4_findPieces_49 : decode cX4_findPieces 49 = .ok (.iload 5, 2) := by decide +kernel
theorem dX4_findPieces_51 : decode cX4_findPieces 51 = .ok (.ifCond .lt 13, 3) := by decide +kernel
theorem dX4_findPieces_54 : decode cX4_findPieces 54 = .ok (.iload 5, 2) := by decide +kernel
theorem dX4_findPieces_56 : decode cX4_findPieces 56 = .ok (.aload_n 0, 1) := by decide +kernel
theorem dX4_findPieces_57 : decode cX4_findPieces 57 = .ok (.getfield 17, 3) := by decide +kernel
theorem dX4_findPieces_60 : decode cX4_findPieces 60 = .ok (.arraylength, 1) := by decide +kernel
theorem dX4_findPieces_61 : decode cX4_findPieces 61 = .ok (.if_icmp .lt 7, 3) := by decide +kernel
theorem dX4_findPieces_64 : decode cX4_findPieces 64 = .ok (.aconst_null, 1) := by decide +kernel
theorem dX4_findPieces_65 : decode cX4_findPieces 65 = .ok (.goto 10, 3) := by decide +kernel
theorem dX4_findPieces_68 : decode cX4_findPieces 68 = .ok (.aload_n 0, 1) := by decide +kernel
theorem dX4_findPieces_69 : decode cX4_findPieces 69 = .ok (.getfield 17, 3) := by decide +kernel
theorem dX4_findPieces_72 : decode cX4_findPieces 72 = .ok (.iload 5, 2) := by decide +kernel
theorem dX4_findPieces_74 : decode cX4_findPieces 74 = .ok (.aaload, 1) := by decide +kernel
theorem dX4_findPieces_75 : decode cX4_findPieces 75 = .ok (.astore 6, 2) := by decide +kernel
theorem dX4_findPieces_77 : decode cX4_findPieces 77 = .ok (.aload 6, 2) := by decide +kernel
theorem dX4_findPieces_79 : decode cX4_findPieces 79 = .ok (.ifnonnull 6, 3) := by decide +kernel
theorem dX4_findPieces_82 : decode cX4_findPieces 82 = .ok (.goto 42, 3) := by decide +kernel
theorem dX4_findPieces_85 : decode cX4_findPieces 85 = .ok (.iload_n 1, 1) := by decide +kernel
theorem dX4_findPieces_86 : decode cX4_findPieces 86 = .ok (.aload 6, 2) := by decide +kernel
theorem dX4_findPieces_88 : decode cX4_findPieces 88 = .ok (.aload 6, 2) := by decide +kernel
theorem dX4_findPieces_90 : decode cX4_findPieces 90 = .ok (.iload_n 3, 1) := by decide +kernel
theorem dX4_findPieces_91 : decode cX4_findPieces 91 = .ok (.invokevirtual 49, 3) := by decide +kernel
theorem dX4_findPieces_94 : decode cX4_findPieces 94 = .ok (.aload_n 0, 1) := by decide +kernel
theorem dX4_findPieces_95 : decode cX4_findPieces 95 = .ok (.getfield 9, 3) := by decide +kernel
theorem dX4_findPieces_98 : decode cX4_findPieces 98 = .ok (.iload_n 2, 1) := by decide +kernel
theorem dX4_findPieces_99 : decode cX4_findPieces 99 = .ok (.invokevirtual 53, 3) := by decide +kernel
theorem dX4_findPieces_102 : decode cX4_findPieces 102 = .ok (.invokestatic 57, 3) := by decide +kernel
theorem dX4_findPieces_105 : decode cX4_findPieces 105 = .ok (.istore_n 1, 1) := by decide +kernel
theorem dX4_findPieces_106 : decode cX4_findPieces 106 = .ok (.aload 6, 2) := by decide +kernel
theorem dX4_findPieces_108 : decode cX4_findPieces 108 = .ok (.getfield 63, 3) := by decide +kernel
theorem dX4_findPieces_111 : decode cX4_findPieces 111 = .ok (.istore_n 2, 1) := by decide +kernel
theorem dX4_findPieces_112 : decode cX4_findPieces 112 = .ok (.aload_n 0, 1) := by decide +kernel
theorem dX4_findPieces_113 : decode cX4_findPieces 113 = .ok (.iload_n 1, 1) := by decide +kernel
theorem dX4_findPieces_114 : decode cX4_findPieces 114 = .ok (.iload_n 2, 1) := by decide +kernel
theorem dX4_findPieces_115 : decode cX4_findPieces 115 = .ok (.invokevirtual 37, 3) := by decide +kernel
theorem dX4_findPieces_118 : decode cX4_findPieces 118 = .ok (.iinc 4 1, 3) := by decide +kernel
theorem dX4_findPieces_121 : decode cX4_findPieces 121 = .ok (.goto (-85), 3) := by decide +kernel
theorem dX4_findPieces_124 : decode cX4_findPieces 124 = .ok (.iinc 3 1, 3) := by decide +kernel
theorem dX4_findPieces_127 : decode cX4_findPieces 127 = .ok (.goto (-106), 3) := by decide +kernel
theorem dX4_findPieces_130 : decode cX4_findPieces 130 = .ok (.return_, 1) := by decide +kernel
theorem dX4_tellTurns_0 : decode cX4_tellTurns 0 = .ok (.iconst 0, 1) := by decide +kernel
theorem dX4_tellTurns_1 : decode cX4_tellTurns 1 = .ok (.istore_n 2, 1) := by decide +kernel
theorem dX4_tellTurns_2 : decode cX4_tellTurns 2 = .ok (.iload_n 2, 1) := by decide +kernel
theorem dX4_tellTurns_3 : decode cX4_tellTurns 3 = .ok (.aload_n 0, 1) := by decide +kernel
theorem dX4_tellTurns_4 : decode cX4_tellTurns 4 = .ok (.getfield 24, 3) := by decide +kernel
theorem dX4_tellTurns_7 : decode cX4_tellTurns 7 = .ok (.arraylength, 1) := by decide +kernel
theorem dX4_tellTurns_8 : decode cX4_tellTurns 8 = .ok (.if_icmp .ge 44, 3) := by decide +kernel
theorem dX4_tellTurns_11 : decode cX4_tellTurns 11 = .ok (.iload_n 2, 1) := by decide +kernel
theorem dX4_tellTurns_12 : decode cX4_tellTurns 12 = .ok (.aload_n 0, 1) := by decide +kernel
theorem dX4_tellTurns_13 : decode cX4_tellTurns 13 = .ok (.getfield 17, 3) := by decide +kernel
theorem dX4_tellTurns_16 : decode cX4_tellTurns 16 = .ok (.arraylength, 1) := by decide +kernel
theorem dX4_tellTurns_17 : decode cX4_tellTurns 17 = .ok (.if_icmp .ge 35, 3) := by decide +kernel
theorem dX4_tellTurns_20 : decode cX4_tellTurns 20 = .ok (.aload_n 0, 1) := by decide +kernel
theorem dX4_tellTurns_21 : decode cX4_tellTurns 21 = .ok (.getfield 17, 3) := by decide +kernel
theorem dX4_tellTurns_24 : decode cX4_tellTurns 24 = .ok (.iload_n 2, 1) := by decide +kernel
theorem dX4_tellTurns_25 : decode cX4_tellTurns 25 = .ok (.aaload, 1) := by decide +kernel
theorem dX4_tellTurns_26 : decode cX4_tellTurns 26 = .ok (.astore_n 3, 1) := by decide +kernel
theorem dX4_tellTurns_27 : decode cX4_tellTurns 27 = .ok (.aload_n 0, 1) := by decide +kernel
theorem dX4_tellTurns_28 : decode cX4_tellTurns 28 = .ok (.getfield 24, 3) := by decide +kernel
theorem dX4_tellTurns_31 : decode cX4_tellTurns 31 = .ok (.iload_n 2, 1) := by decide +kernel
theorem dX4_tellTurns_32 : decode cX4_tellTurns 32 = .ok (.aload_n 3, 1) := by decide +kernel
theorem dX4_tellTurns_33 : decode cX4_tellTurns 33 = .ok (.ifnonnull 7, 3) := by decide +kernel
theorem dX4_tellTurns_36 : decode cX4_tellTurns 36 = .ok (.iconst (-1), 1) := by decide +kernel
theorem dX4_tellTurns_37 : decode cX4_tellTurns 37 = .ok (.goto 8, 3) := by decide +kernel
theorem dX4_tellTurns_40 : decode cX4_tellTurns 40 = .ok (.aload_n 3, 1) := by decide +kernel
theorem dX4_tellTurns_41 : decode cX4_tellTurns 41 = .ok (.iload_n 1, 1) := by decide +kernel
theorem dX4_tellTurns_42 : decode cX4_tellTurns 42 = .ok (.invokevirtual 49, 3) := by decide +kernel
theorem dX4_tellTurns_45 : decode cX4_tellTurns 45 = .ok (.iastore, 1) := by decide +kernel
theorem dX4_tellTurns_46 : decode cX4_tellTurns 46 = .ok (.iinc 2 1, 3) := by decide +kernel
theorem dX4_tellTurns_49 : decode cX4_tellTurns 49 = .ok (.goto (-47), 3) := by decide +kernel
theorem dX4_tellTurns_52 : decode cX4_tellTurns 52 = .ok (.return_, 1) := by decide +kernel
theorem dX4_takeEarliest_0 : decode cX4_takeEarliest 0 = .ok (.iconst (-1), 1) := by decide +kernel
theorem dX4_takeEarliest_1 : decode cX4_takeEarliest 1 = .ok (.istore_n 1, 1) := by decide +kernel
theorem dX4_takeEarliest_2 : decode cX4_takeEarliest 2 = .ok (.ldc 66, 2) := by decide +kernel
theorem dX4_takeEarliest_4 : decode cX4_takeEarliest 4 = .ok (.istore_n 2, 1) := by decide +kernel
theorem dX4_takeEarliest_5 : decode cX4_takeEarliest 5 = .ok (.iconst 0, 1) := by decide +kernel
theorem dX4_takeEarliest_6 : decode cX4_takeEarliest 6 = .ok (.istore_n 3, 1) := by decide +kernel
theorem dX4_takeEarliest_7 : decode cX4_takeEarliest 7 = .ok (.iload_n 3, 1) := by decide +kernel
theorem dX4_takeEarliest_8 : decode cX4_takeEarliest 8 = .ok (.aload_n 0, 1) := by decide +kernel
theorem dX4_takeEarliest_9 : decode cX4_takeEarliest 9 = .ok (.getfield 24, 3) := by decide +kernel
theorem dX4_takeEarliest_12 : decode cX4_takeEarliest 12 = .ok (.arraylength, 1) := by decide +kernel
theorem dX4_takeEarliest_13 : decode cX4_takeEarliest 13 = .ok (.if_icmp .ge 37, 3) := by decide +kernel
theorem dX4_takeEarliest_16 : decode cX4_takeEarliest 16 = .ok (.aload_n 0, 1) := by decide +kernel
theorem dX4_takeEarliest_17 : decode cX4_takeEarliest 17 = .ok (.getfield 24, 3) := by decide +kernel
theorem dX4_takeEarliest_20 : decode cX4_takeEarliest 20 = .ok (.iload_n 3, 1) := by decide +kernel
theorem dX4_takeEarliest_21 : decode cX4_takeEarliest 21 = .ok (.iaload, 1) := by decide +kernel
theorem dX4_takeEarliest_22 : decode cX4_takeEarliest 22 = .ok (.ifCond .lt 22, 3) := by decide +kernel
theorem dX4_takeEarliest_25 : decode cX4_takeEarliest 25 = .ok (.aload_n 0, 1) := by decide +kernel
theorem dX4_takeEarliest_26 : decode cX4_takeEarliest 26 = .ok (.getfield 24, 3) := by decide +kernel
theorem dX4_takeEarliest_29 : decode cX4_takeEarliest 29 = .ok (.iload_n 3, 1) := by decide +kernel
theorem dX4_takeEarliest_30 : decode cX4_takeEarliest 30 = .ok (.iaload, 1) := by decide +kernel
theorem dX4_takeEarliest_31 : decode cX4_takeEarliest 31 = .ok (.iload_n 2, 1) := by decide +kernel
theorem dX4_takeEarliest_32 : decode cX4_takeEarliest 32 = .ok (.if_icmp .ge 12, 3) := by decide +kernel
theorem dX4_takeEarliest_35 : decode cX4_takeEarliest 35 = .ok (.iload_n 3, 1) := by decide +kernel
theorem dX4_takeEarliest_36 : decode cX4_takeEarliest 36 = .ok (.istore_n 1, 1) := by decide +kernel
theorem dX4_takeEarliest_37 : decode cX4_takeEarliest 37 = .ok (.aload_n 0, 1) := by decide +kernel
theorem dX4_takeEarliest_38 : decode cX4_takeEarliest 38 = .ok (.getfield 24, 3) := by decide +kernel
theorem dX4_takeEarliest_41 : decode cX4_takeEarliest 41 = .ok (.iload_n 3, 1) := by decide +kernel
theorem dX4_takeEarliest_42 : decode cX4_takeEarliest 42 = .ok (.iaload, 1) := by decide +kernel
theorem dX4_takeEarliest_43 : decode cX4_takeEarliest 43 = .ok (.istore_n 2, 1) := by decide +kernel
theorem dX4_takeEarliest_44 : decode cX4_takeEarliest 44 = .ok (.iinc 3 1, 3) := by decide +kernel
theorem dX4_takeEarliest_47 : decode cX4_takeEarliest 47 = .ok (.goto (-40), 3) := by decide +kernel
theorem dX4_takeEarliest_50 : decode cX4_takeEarliest 50 = .ok (.iload_n 1, 1) := by decide +kernel
theorem dX4_takeEarliest_51 : decode cX4_takeEarliest 51 = .ok (.ifCond .lt 19, 3) := by decide +kernel
theorem dX4_takeEarliest_54 : decode cX4_takeEarliest 54 = .ok (.iload_n 1, 1) := by decide +kernel
theorem dX4_takeEarliest_55 : decode cX4_takeEarliest 55 = .ok (.aload_n 0, 1) := by decide +kernel
theorem dX4_takeEarliest_56 : decode cX4_takeEarliest 56 = .ok (.getfield 24, 3) := by decide +kernel
theorem dX4_takeEarliest_59 : decode cX4_takeEarliest 59 = .ok (.arraylength, 1) := by decide +kernel
theorem dX4_takeEarliest_60 : decode cX4_takeEarliest 60 = .ok (.if_icmp .ge 10, 3) := by decide +kernel
theorem dX4_takeEarliest_63 : decode cX4_takeEarliest 63 = .ok (.aload_n 0, 1) := by decide +kernel
theorem dX4_takeEarliest_64 : decode cX4_takeEarliest 64 = .ok (.getfield 24, 3) := by decide +kernel
theorem dX4_takeEarliest_67 : decode cX4_takeEarliest 67 = .ok (.iload_n 1, 1) := by decide +kernel
theorem dX4_takeEarliest_68 : decode cX4_takeEarliest 68 = .ok (.iconst (-1), 1) := by decide +kernel
theorem dX4_takeEarliest_69 : decode cX4_takeEarliest 69 = .ok (.iastore, 1) := by decide +kernel
theorem dX4_takeEarliest_70 : decode cX4_takeEarliest 70 = .ok (.iload_n 1, 1) := by decide +kernel
theorem dX4_takeEarliest_71 : decode cX4_takeEarliest 71 = .ok (.ireturn, 1) := by decide +kernel
theorem dX4_addPiece_0 : decode cX4_addPiece 0 = .ok (.iload_n 1, 1) := by decide +kernel
theorem dX4_addPiece_1 : decode cX4_addPiece 1 = .ok (.ldc 67, 2) := by decide +kernel
theorem dX4_addPiece_3 : decode cX4_addPiece 3 = .ok (.if_icmp .le 4, 3) := by decide +kernel
theorem dX4_addPiece_6 : decode cX4_addPiece 6 = .ok (.return_, 1) := by decide +kernel
theorem dX4_addPiece_7 : decode cX4_addPiece 7 = .ok (.iload_n 1, 1) := by decide +kernel
theorem dX4_addPiece_8 : decode cX4_addPiece 8 = .ok (.iconst 0, 1) := by decide +kernel
theorem dX4_addPiece_9 : decode cX4_addPiece 9 = .ok (.invokestatic 57, 3) := by decide +kernel
theorem dX4_addPiece_12 : decode cX4_addPiece 12 = .ok (.istore_n 3, 1) := by decide +kernel
theorem dX4_addPiece_13 : decode cX4_addPiece 13 = .ok (.aload_n 0, 1) := by decide +kernel
theorem dX4_addPiece_14 : decode cX4_addPiece 14 = .ok (.getfield 34, 3) := by decide +kernel
theorem dX4_addPiece_17 : decode cX4_addPiece 17 = .ok (.iconst 1, 1) := by decide +kernel
theorem dX4_addPiece_18 : decode cX4_addPiece 18 = .ok (.isub, 1) := by decide +kernel
theorem dX4_addPiece_19 : decode cX4_addPiece 19 = .ok (.istore 4, 2) := by decide +kernel
theorem dX4_addPiece_21 : decode cX4_addPiece 21 = .ok (.iload 4, 2) := by decide +kernel
theorem dX4_addPiece_23 : decode cX4_addPiece 23 = .ok (.ifCond .lt 28, 3) := by decide +kernel
theorem dX4_addPiece_26 : decode cX4_addPiece 26 = .ok (.iload 4, 2) := by decide +kernel
theorem dX4_addPiece_28 : decode cX4_addPiece 28 = .ok (.aload_n 0, 1) := by decide +kernel
theorem dX4_addPiece_29 : decode cX4_addPiece 29 = .ok (.getfield 28, 3) := by decide +kernel
theorem dX4_addPiece_32 : decode cX4_addPiece 32 = .ok (.arraylength, 1) := by decide +kernel
theorem dX4_addPiece_33 : decode cX4_addPiece 33 = .ok (.if_icmp .ge 18, 3) := by decide +kernel
theorem dX4_addPiece_36 : decode cX4_addPiece 36 = .ok (.aload_n 0, 1) := by decide +kernel
theorem dX4_addPiece_37 : decode cX4_addPiece 37 = .ok (.getfield 28, 3) := by decide +kernel
theorem dX4_addPiece_40 : decode cX4_addPiece 40 = .ok (.iload 4, 2) := by decide +kernel
theorem dX4_addPiece_42 : decode cX4_addPiece 42 = .ok (.iaload, 1) := by decide +kernel
theorem dX4_addPiece_43 : decode cX4_addPiece 43 = .ok (.iload_n 3, 1) := by decide +kernel
theorem dX4_addPiece_44 : decode cX4_addPiece 44 = .ok (.if_icmp .ne 7, 3) := by decide +kernel
theorem dX4_addPiece_47 : decode cX4_addPiece 47 = .ok (.iconst 1, 1) := by decide +kernel
theorem dX4_addPiece_48 : decode cX4_addPiece 48 = .ok (.goto 4, 3) := by decide +kernel
theorem dX4_addPiece_51 : decode cX4_addPiece 51 = .ok (.iconst 0, 1) := by decide +kernel
theorem dX4_addPiece_52 : decode cX4_addPiece 52 = .ok (.istore 5, 2) := by decide +kernel
theorem dX4_addPiece_54 : decode cX4_addPiece 54 = .ok (.iload 5, 2) := by decide +kernel
theorem dX4_addPiece_56 : decode cX4_addPiece 56 = .ok (.ifCond .eq 8, 3) := by decide +kernel
theorem dX4_addPiece_59 : decode cX4_addPiece 59 = .ok (.iload 4, 2) := by decide +kernel
theorem dX4_addPiece_61 : decode cX4_addPiece 61 = .ok (.goto 7, 3) := by decide +kernel
theorem dX4_addPiece_64 : decode cX4_addPiece 64 = .ok (.aload_n 0, 1) := by decide +kernel
theorem dX4_addPiece_65 : decode cX4_addPiece 65 = .ok (.getfield 34, 3) := by decide +kernel
theorem dX4_addPiece_68 : decode cX4_addPiece 68 = .ok (.istore 6, 2) := by decide +kernel
theorem dX4_addPiece_70 : decode cX4_addPiece 70 = .ok (.iload 6, 2) := by decide +kernel
theorem dX4_addPiece_72 : decode cX4_addPiece 72 = .ok (.ifCond .lt 47, 3) := by decide +kernel
theorem dX4_addPiece_75 : decode cX4_addPiece 75 = .ok (.iload 6, 2) := by decide +kernel
theorem dX4_addPiece_77 : decode cX4_addPiece 77 = .ok (.aload_n 0, 1) := by decide +kernel
theorem dX4_addPiece_78 : decode cX4_addPiece 78 = .ok (.getfield 28, 3) := by decide +kernel
theorem dX4_addPiece_81 : decode cX4_addPiece 81 = .ok (.arraylength, 1) := by decide +kernel
theorem dX4_addPiece_82 : decode cX4_addPiece 82 = .ok (.if_icmp .ge 37, 3) := by decide +kernel
theorem dX4_addPiece_85 : decode cX4_addPiece 85 = .ok (.iload 6, 2) := by decide +kernel
theorem dX4_addPiece_87 : decode cX4_addPiece 87 = .ok (.aload_n 0, 1) := by decide +kernel
theorem dX4_addPiece_88 : decode cX4_addPiece 88 = .ok (.getfield 31, 3) := by decide +kernel
theorem dX4_addPiece_91 : decode cX4_addPiece 91 = .ok (.arraylength, 1) := by decide +kernel
theorem dX4_addPiece_92 : decode cX4_addPiece 92 = .ok (.if_icmp .ge 27, 3) := by decide +kernel
theorem dX4_addPiece_95 : decode cX4_addPiece 95 = .ok (.aload_n 0, 1) := by decide +kernel
theorem dX4_addPiece_96 : decode cX4_addPiece 96 = .ok (.getfield 28, 3) := by decide +kernel
theorem dX4_addPiece_99 : decode cX4_addPiece 99 = .ok (.iload 6, 2) := by decide +kernel
theorem dX4_addPiece_101 : decode cX4_addPiece 101 = .ok (.iload_n 3, 1) := by decide +kernel
theorem dX4_addPiece_102 : decode cX4_addPiece 102 = .ok (.iastore, 1) := by decide +kernel
theorem dX4_addPiece_103 : decode cX4_addPiece 103 = .ok (.aload_n 0, 1) := by decide +kernel
theorem dX4_addPiece_104 : decode cX4_addPiece 104 = .ok (.getfield 31, 3) := by decide +kernel
theorem dX4_addPiece_107 : decode cX4_addPiece 107 = .ok (.iload 6, 2) := by decide +kernel
theorem dX4_addPiece_109 : decode cX4_addPiece 109 = .ok (.iload_n 2, 1) := by decide +kernel
theorem dX4_addPiece_110 : decode cX4_addPiece 110 = .ok (.iastore, 1) := by decide +kernel
theorem dX4_addPiece_111 : decode cX4_addPiece 111 = .ok (.aload_n 0, 1) := by decide +kernel
theorem dX4_addPiece_112 : decode cX4_addPiece 112 = .ok (.iload 6, 2) := by decide +kernel
theorem dX4_addPiece_114 : decode cX4_addPiece 114 = .ok (.iconst 1, 1) := by decide +kernel
theorem dX4_addPiece_115 : decode cX4_addPiece 115 = .ok (.iadd, 1) := by decide +kernel
theorem dX4_addPiece_116 : decode cX4_addPiece 116 = .ok (.putfield 34, 3) := by decide +kernel
theorem dX4_addPiece_119 : decode cX4_addPiece 119 = .ok (.return_, 1) := by decide +kernel
theorem dX4_pieceBegin_0 : decode cX4_pieceBegin 0 = .ok (.iload_n 1, 1) := by decide +kernel
theorem dX4_pieceBegin_1 : decode cX4_pieceBegin 1 = .ok (.ifCond .lt 20, 3) := by decide +kernel
theorem dX4_pieceBegin_4 : decode cX4_pieceBegin 4 = .ok (.iload_n 1, 1) := by decide +kernel
theorem dX4_pieceBegin_5 : decode cX4_pieceBegin 5 = .ok (.aload_n 0, 1) := by decide +kernel
theorem dX4_pieceBegin_6 : decode cX4_pieceBegin 6 = .ok (.getfield 34, 3) := by decide +kernel
theorem dX4_pieceBegin_9 : decode cX4_pieceBegin 9 = .ok (.if_icmp .ge 12, 3) := by decide +kernel
theorem dX4_pieceBegin_12 : decode cX4_pieceBegin 12 = .ok (.iload_n 1, 1) := by decide +kernel
theorem dX4_pieceBegin_13 : decode cX4_pieceBegin 13 = .ok (.aload_n 0, 1) := by decide +kernel
theorem dX4_pieceBegin_14 : decode cX4_pieceBegin 14 = .ok (.getfield 28, 3) := by decide +kernel
theorem dX4_pieceBegin_17 : decode cX4_pieceBegin 17 = .ok (.arraylength, 1) := by decide +kernel
theorem dX4_pieceBegin_18 : decode cX4_pieceBegin 18 = .ok (.if_icmp .lt 8, 3) := by decide +kernel
theorem dX4_pieceBegin_21 : decode cX4_pieceBegin 21 = .ok (.ldc 66, 2) := by decide +kernel
theorem dX4_pieceBegin_23 : decode cX4_pieceBegin 23 = .ok (.goto 9, 3) := by decide +kernel
theorem dX4_pieceBegin_26 : decode cX4_pieceBegin 26 = .ok (.aload_n 0, 1) := by decide +kernel
theorem dX4_pieceBegin_27 : decode cX4_pieceBegin 27 = .ok (.getfield 28, 3) := by decide +kernel
theorem dX4_pieceBegin_30 : decode cX4_pieceBegin 30 = .ok (.iload_n 1, 1) := by decide +kernel
theorem dX4_pieceBegin_31 : decode cX4_pieceBegin 31 = .ok (.iaload, 1) := by decide +kernel
theorem dX4_pieceBegin_32 : decode cX4_pieceBegin 32 = .ok (.ireturn, 1) := by decide +kernel
theorem dX4_pieceSaving_0 : decode cX4_pieceSaving 0 = .ok (.iload_n 1, 1) := by decide +kernel
theorem dX4_pieceSaving_1 : decode cX4_pieceSaving 1 = .ok (.ifCond .lt 20, 3) := by decide +kernel
theorem dX4_pieceSaving_4 : decode cX4_pieceSaving 4 = .ok (.iload_n 1, 1) := by decide +kernel
theorem dX4_pieceSaving_5 : decode cX4_pieceSaving 5 = .ok (.aload_n 0, 1) := by decide +kernel
theorem dX4_pieceSaving_6 : decode cX4_pieceSaving 6 = .ok (.getfield 34, 3) := by decide +kernel
theorem dX4_pieceSaving_9 : decode cX4_pieceSaving 9 = .ok (.if_icmp .ge 12, 3) := by decide +kernel
theorem dX4_pieceSaving_12 : decode cX4_pieceSaving 12 = .ok (.iload_n 1, 1) := by decide +kernel
theorem dX4_pieceSaving_13 : decode cX4_pieceSaving 13 = .ok (.aload_n 0, 1) := by decide +kernel
theorem dX4_pieceSaving_14 : decode cX4_pieceSaving 14 = .ok (.getfield 31, 3) := by decide +kernel
theorem dX4_pieceSaving_17 : decode cX4_pieceSaving 17 = .ok (.arraylength, 1) := by decide +kernel
theorem dX4_pieceSaving_18 : decode cX4_pieceSaving 18 = .ok (.if_icmp .lt 7, 3) := by decide +kernel
theorem dX4_pieceSaving_21 : decode cX4_pieceSaving 21 = .ok (.iconst 0, 1) := by decide +kernel
theorem dX4_pieceSaving_22 : decode cX4_pieceSaving 22 = .ok (.goto 9, 3) := by decide +kernel
theorem dX4_pieceSaving_25 : decode cX4_pieceSaving 25 = .ok (.aload_n 0, 1) := by decide +kernel
theorem dX4_pieceSaving_26 : decode cX4_pieceSaving 26 = .ok (.getfield 31, 3) := by decide +kernel
theorem dX4_pieceSaving_29 : decode cX4_pieceSaving 29 = .ok (.iload_n 1, 1) := by decide +kernel
theorem dX4_pieceSaving_30 : decode cX4_pieceSaving 30 = .ok (.iaload, 1) := by decide +kernel
theorem dX4_pieceSaving_31 : decode cX4_pieceSaving 31 = .ok (.ireturn, 1) := by decide +kernel
theorem dX4_pieceShift_0 : decode cX4_pieceShift 0 = .ok (.aload_n 0, 1) := by decide +kernel
theorem dX4_pieceShift_1 : decode cX4_pieceShift 1 = .ok (.getfield 9, 3) := by decide +kernel
theorem dX4_pieceShift_4 : decode cX4_pieceShift 4 = .ok (.aload_n 0, 1) := by decide +kernel
theorem dX4_pieceShift_5 : decode cX4_pieceShift 5 = .ok (.iload_n 1, 1) := by decide +kernel
theorem dX4_pieceShift_6 : decode cX4_pieceShift 6 = .ok (.invokevirtual 68, 3) := by decide +kernel
theorem dX4_pieceShift_9 : decode cX4_pieceShift 9 = .ok (.iadd, 1) := by decide +kernel
theorem dX4_pieceShift_10 : decode cX4_pieceShift 10 = .ok (.ireturn, 1) := by decide +kernel
theorem dX4_pieceWith_0 : decode cX4_pieceWith 0 = .ok (.iconst 0, 1) := by decide +kernel
theorem dX4_pieceWith_1 : decode cX4_pieceWith 1 = .ok (.istore_n 3, 1) := by decide +kernel
theorem dX4_pieceWith_2 : decode cX4_pieceWith 2 = .ok (.aload_n 0, 1) := by decide +kernel
theorem dX4_pieceWith_3 : decode cX4_pieceWith 3 = .ok (.getfield 34, 3) := by decide +kernel
theorem dX4_pieceWith_6 : decode cX4_pieceWith 6 = .ok (.iconst 1, 1) := by decide +kernel
theorem dX4_pieceWith_7 : decode cX4_pieceWith 7 = .ok (.isub, 1) := by decide +kernel
theorem dX4_pieceWith_8 : decode cX4_pieceWith 8 = .ok (.istore 4, 2) := by decide +kernel
theorem dX4_pieceWith_10 : decode cX4_pieceWith 10 = .ok (.iconst 0, 1) := by decide +kernel
theorem dX4_pieceWith_11 : decode cX4_pieceWith 11 = .ok (.istore 5, 2) := by decide +kernel
theorem dX4_pieceWith_13 : decode cX4_pieceWith 13 = .ok (.iload 5, 2) := by decide +kernel
theorem dX4_pieceWith_15 : decode cX4_pieceWith 15 = .ok (.bipush 32, 2) := by decide +kernel
theorem dX4_pieceWith_17 : decode cX4_pieceWith 17 = .ok (.if_icmp .ge 49, 3) := by decide +kernel
theorem dX4_pieceWith_20 : decode cX4_pieceWith 20 = .ok (.iload_n 3, 1) := by decide +kernel
theorem dX4_pieceWith_21 : decode cX4_pieceWith 21 = .ok (.iload 4, 2) := by decide +kernel
theorem dX4_pieceWith_23 : decode cX4_pieceWith 23 = .ok (.if_icmp .ge 43, 3) := by decide +kernel
theorem dX4_pieceWith_26 : decode cX4_pieceWith 26 = .ok (.iload_n 3, 1) := by decide +kernel
theorem dX4_pieceWith_27 : decode cX4_pieceWith 27 = .ok (.iload 4, 2) := by decide +kernel
theorem dX4_pieceWith_29 : decode cX4_pieceWith 29 = .ok (.iadd, 1) := by decide +kernel
theorem dX4_pieceWith_30 : decode cX4_pieceWith 30 = .ok (.iconst 1, 1) := by decide +kernel
theorem dX4_pieceWith_31 : decode cX4_pieceWith 31 = .ok (.iadd, 1) := by decide +kernel
theorem dX4_pieceWith_32 : decode cX4_pieceWith 32 = .ok (.iconst 2, 1) := by decide +kernel
theorem dX4_pieceWith_33 : decode cX4_pieceWith 33 = .ok (.idiv, 1) := by decide +kernel
theorem dX4_pieceWith_34 : decode cX4_pieceWith 34 = .ok (.istore 6, 2) := by decide +kernel
theorem dX4_pieceWith_36 : decode cX4_pieceWith 36 = .ok (.aload_n 0, 1) := by decide +kernel
theorem dX4_pieceWith_37 : decode cX4_pieceWith 37 = .ok (.iload 6, 2) := by decide +kernel
theorem dX4_pieceWith_39 : decode cX4_pieceWith 39 = .ok (.invokevirtual 71, 3) := by decide +kernel
theorem dX4_pieceWith_42 : decode cX4_pieceWith 42 = .ok (.i2l, 1) := by decide +kernel
theorem dX4_pieceWith_43 : decode cX4_pieceWith 43 = .ok (.lload_n 1, 1) := by decide +kernel
theorem dX4_pieceWith_44 : decode cX4_pieceWith 44 = .ok (.lcmp, 1) := by decide +kernel
theorem dX4_pieceWith_45 : decode cX4_pieceWith 45 = .ok (.ifCond .gt 9, 3) := by decide +kernel
theorem dX4_pieceWith_48 : decode cX4_pieceWith 48 = .ok (.iload 6, 2) := by decide +kernel
theorem dX4_pieceWith_50 : decode cX4_pieceWith 50 = .ok (.istore_n 3, 1) := by decide +kernel
theorem dX4_pieceWith_51 : decode cX4_pieceWith 51 = .ok (.goto 9, 3) := by decide +kernel
theorem dX4_pieceWith_54 : decode cX4_pieceWith 54 = .ok (.iload 6, 2) := by decide +kernel
theorem dX4_pieceWith_56 : decode cX4_pieceWith 56 = .ok (.iconst 1, 1) := by decide +kernel
theorem dX4_pieceWith_57 : decode cX4_pieceWith 57 = .ok (.isub, 1) := by decide +kernel
theorem dX4_pieceWith_58 : decode cX4_pieceWith 58 = .ok (.istore 4, 2) := by decide +kernel
theorem dX4_pieceWith_60 : decode cX4_pieceWith 60 = .ok (.iinc 5 1, 3) := by decide +kernel
theorem dX4_pieceWith_63 : decode cX4_pieceWith 63 = .ok (.goto (-50), 3) := by decide +kernel
theorem dX4_pieceWith_66 : decode cX4_pieceWith 66 = .ok (.iload_n 3, 1) := by decide +kernel
theorem dX4_pieceWith_67 : decode cX4_pieceWith 67 = .ok (.ireturn, 1) := by decide +kernel
theorem dX4_savingThen_0 : decode cX4_savingThen 0 = .ok (.aload_n 0, 1) := by decide +kernel
theorem dX4_savingThen_1 : decode cX4_savingThen 1 = .ok (.aload_n 0, 1) := by decide +kernel
theorem dX4_savingThen_2 : decode cX4_savingThen 2 = .ok (.iload_n 1, 1) := by decide +kernel
theorem dX4_savingThen_3 : decode cX4_savingThen 3 = .ok (.i2l, 1) := by decide +kernel
theorem dX4_savingThen_4 : decode cX4_savingThen 4 = .ok (.invokevirtual 74, 3) := by decide +kernel
theorem dX4_savingThen_7 : decode cX4_savingThen 7 = .ok (.invokevirtual 68, 3) := by decide +kernel
theorem dX4_savingThen_10 : decode cX4_savingThen 10 = .ok (.ireturn, 1) := by decide +kernel
theorem dX4_show_0 : decode cX4_show 0 = .ok (.iload_n 1, 1) := by decide +kernel
theorem dX4_show_1 : decode cX4_show 1 = .ok (.aload_n 0, 1) := by decide +kernel
theorem dX4_show_2 : decode cX4_show 2 = .ok (.getfield 9, 3) := by decide +kernel
theorem dX4_show_5 : decode cX4_show 5 = .ok (.iadd, 1) := by decide +kernel
theorem dX4_show_6 : decode cX4_show 6 = .ok (.aload_n 0, 1) := by decide +kernel
theorem dX4_show_7 : decode cX4_show 7 = .ok (.iload_n 1, 1) := by decide +kernel
theorem dX4_show_8 : decode cX4_show 8 = .ok (.invokevirtual 78, 3) := by decide +kernel
theorem dX4_show_11 : decode cX4_show 11 = .ok (.iadd, 1) := by decide +kernel
theorem dX4_show_12 : decode cX4_show 12 = .ok (.ireturn, 1) := by decide +kernel
theorem dX4_changeBehind_0 : decode cX4_changeBehind 0 = .ok (.aload_n 0, 1) := by decide +kernel
theorem dX4_changeBehind_1 : decode cX4_changeBehind 1 = .ok (.iload_n 1, 1) := by decide +kernel
theorem dX4_changeBehind_2 : decode cX4_changeBehind 2 = .ok (.i2l, 1) := by decide +kernel
theorem dX4_changeBehind_3 : decode cX4_changeBehind 3 = .ok (.invokevirtual 74, 3) := by decide +kernel
theorem dX4_changeBehind_6 : decode cX4_changeBehind 6 = .ok (.iconst 1, 1) := by decide +kernel
theorem dX4_changeBehind_7 : decode cX4_changeBehind 7 = .ok (.iadd, 1) := by decide +kernel
theorem dX4_changeBehind_8 : decode cX4_changeBehind 8 = .ok (.istore_n 2, 1) := by decide +kernel
theorem dX4_changeBehind_9 : decode cX4_changeBehind 9 = .ok (.iload_n 2, 1) := by decide +kernel
theorem dX4_changeBehind_10 : decode cX4_changeBehind 10 = .ok (.aload_n 0, 1) := by decide +kernel
theorem dX4_changeBehind_11 : decode cX4_changeBehind 11 = .ok (.getfield 34, 3) := by decide +kernel
theorem dX4_changeBehind_14 : decode cX4_changeBehind 14 = .ok (.if_icmp .ge 30, 3) := by decide +kernel
theorem dX4_changeBehind_17 : decode cX4_changeBehind 17 = .ok (.aload_n 0, 1) := by decide +kernel
theorem dX4_changeBehind_18 : decode cX4_changeBehind 18 = .ok (.iload_n 2, 1) := by decide +kernel
theorem dX4_changeBehind_19 : decode cX4_changeBehind 19 = .ok (.invokevirtual 68, 3) := by decide +kernel
theorem dX4_changeBehind_22 : decode cX4_changeBehind 22 = .ok (.aload_n 0, 1) := by decide +kernel
theorem dX4_changeBehind_23 : decode cX4_changeBehind 23 = .ok (.iload_n 2, 1) := by decide +kernel
theorem dX4_changeBehind_24 : decode cX4_changeBehind 24 = .ok (.iconst 1, 1) := by decide +kernel
theorem dX4_changeBehind_25 : decode cX4_changeBehind 25 = .ok (.isub, 1) := by decide +kernel
theorem dX4_changeBehind_26 : decode cX4_changeBehind 26 = .ok (.invokevirtual 68, 3) := by decide +kernel
theorem dX4_changeBehind_29 : decode cX4_changeBehind 29 = .ok (.if_icmp .eq 9, 3) := by decide +kernel
theorem dX4_changeBehind_32 : decode cX4_changeBehind 32 = .ok (.aload_n 0, 1) := by decide +kernel
theorem dX4_changeBehind_33 : decode cX4_changeBehind 33 = .ok (.iload_n 2, 1) := by decide +kernel
theorem dX4_changeBehind_34 : decode cX4_changeBehind 34 = .ok (.invokevirtual 71, 3) := by decide +kernel
theorem dX4_changeBehind_37 : decode cX4_changeBehind 37 = .ok (.ireturn, 1) := by decide +kernel
theorem dX4_changeBehind_38 : decode cX4_changeBehind 38 = .ok (.iinc 2 1, 3) := by decide +kernel
theorem dX4_changeBehind_41 : decode cX4_changeBehind 41 = .ok (.goto (-32), 3) := by decide +kernel
theorem dX4_changeBehind_44 : decode cX4_changeBehind 44 = .ok (.iconst (-1), 1) := by decide +kernel
theorem dX4_changeBehind_45 : decode cX4_changeBehind 45 = .ok (.ireturn, 1) := by decide +kernel
theorem dX4_shownIn_0 : decode cX4_shownIn 0 = .ok (.iload_n 2, 1) := by decide +kernel
theorem dX4_shownIn_1 : decode cX4_shownIn 1 = .ok (.i2l, 1) := by decide +kernel
theorem dX4_shownIn_2 : decode cX4_shownIn 2 = .ok (.aload_n 0, 1) := by decide +kernel
theorem dX4_shownIn_3 : decode cX4_shownIn 3 = .ok (.iload_n 1, 1) := by decide +kernel
theorem dX4_shownIn_4 : decode cX4_shownIn 4 = .ok (.invokevirtual 81, 3) := by decide +kernel
theorem dX4_shownIn_7 : decode cX4_shownIn 7 = .ok (.i2l, 1) := by decide +kernel
theorem dX4_shownIn_8 : decode cX4_shownIn 8 = .ok (.lsub, 1) := by decide +kernel
theorem dX4_shownIn_9 : decode cX4_shownIn 9 = .ok (.lstore_n 3, 1) := by decide +kernel
theorem dX4_shownIn_10 : decode cX4_shownIn 10 = .ok (.lload_n 3, 1) := by decide +kernel
theorem dX4_shownIn_11 : decode cX4_shownIn 11 = .ok (.aload_n 0, 1) := by decide +kernel
theorem dX4_shownIn_12 : decode cX4_shownIn 12 = .ok (.iload_n 1, 1) := by decide +kernel
theorem dX4_shownIn_13 : decode cX4_shownIn 13 = .ok (.invokevirtual 71, 3) := by decide +kernel
theorem dX4_shownIn_16 : decode cX4_shownIn 16 = .ok (.i2l, 1) := by decide +kernel
theorem dX4_shownIn_17 : decode cX4_shownIn 17 = .ok (.lcmp, 1) := by decide +kernel
theorem dX4_shownIn_18 : decode cX4_shownIn 18 = .ok (.ifCond .lt 21, 3) := by decide +kernel
theorem dX4_shownIn_21 : decode cX4_shownIn 21 = .ok (.lload_n 3, 1) := by decide +kernel
theorem dX4_shownIn_22 : decode cX4_shownIn 22 = .ok (.aload_n 0, 1) := by decide +kernel
theorem dX4_shownIn_23 : decode cX4_shownIn 23 = .ok (.iload_n 1, 1) := by decide +kernel
theorem dX4_shownIn_24 : decode cX4_shownIn 24 = .ok (.iconst 1, 1) := by decide +kernel
theorem dX4_shownIn_25 : decode cX4_shownIn 25 = .ok (.iadd, 1) := by decide +kernel
theorem dX4_shownIn_26 : decode cX4_shownIn 26 = .ok (.invokevirtual 71, 3) := by decide +kernel
theorem dX4_shownIn_29 : decode cX4_shownIn 29 = .ok (.i2l, 1) := by decide +kernel
theorem dX4_shownIn_30 : decode cX4_shownIn 30 = .ok (.lcmp, 1) := by decide +kernel
theorem dX4_shownIn_31 : decode cX4_shownIn 31 = .ok (.ifCond .ge 8, 3) := by decide +kernel
theorem dX4_shownIn_34 : decode cX4_shownIn 34 = .ok (.lload_n 3, 1) := by decide +kernel
theorem dX4_shownIn_35 : decode cX4_shownIn 35 = .ok (.l2i, 1) := by decide +kernel
theorem dX4_shownIn_36 : decode cX4_shownIn 36 = .ok (.goto 4, 3) := by decide +kernel
theorem dX4_shownIn_39 : decode cX4_shownIn 39 = .ok (.iconst (-1), 1) := by decide +kernel
theorem dX4_shownIn_40 : decode cX4_shownIn 40 = .ok (.ireturn, 1) := by decide +kernel
theorem dX4_earliest_0 : decode cX4_earliest 0 = .ok (.iload_n 1, 1) := by decide +kernel
theorem dX4_earliest_1 : decode cX4_earliest 1 = .ok (.i2l, 1) := by decide +kernel
theorem dX4_earliest_2 : decode cX4_earliest 2 = .ok (.aload_n 0, 1) := by decide +kernel
theorem dX4_earliest_3 : decode cX4_earliest 3 = .ok (.getfield 9, 3) := by decide +kernel
theorem dX4_earliest_6 : decode cX4_earliest 6 = .ok (.i2l, 1) := by decide +kernel
theorem dX4_earliest_7 : decode cX4_earliest 7 = .ok (.lsub, 1) := by decide +kernel
theorem dX4_earliest_8 : decode cX4_earliest 8 = .ok (.ldc2_w 84, 3) := by decide +kernel
theorem dX4_earliest_11 : decode cX4_earliest 11 = .ok (.lsub, 1) := by decide +kernel
theorem dX4_earliest_12 : decode cX4_earliest 12 = .ok (.lreturn, 1) := by decide +kernel
theorem dX4_latest_0 : decode cX4_latest 0 = .ok (.iload_n 1, 1) := by decide +kernel
theorem dX4_latest_1 : decode cX4_latest 1 = .ok (.i2l, 1) := by decide +kernel
theorem dX4_latest_2 : decode cX4_latest 2 = .ok (.aload_n 0, 1) := by decide +kernel
theorem dX4_latest_3 : decode cX4_latest 3 = .ok (.getfield 9, 3) := by decide +kernel
theorem dX4_latest_6 : decode cX4_latest 6 = .ok (.i2l, 1) := by decide +kernel
theorem dX4_latest_7 : decode cX4_latest 7 = .ok (.lsub, 1) := by decide +kernel
theorem dX4_latest_8 : decode cX4_latest 8 = .ok (.lreturn, 1) := by decide +kernel
theorem dX4_countShown_0 : decode cX4_countShown 0 = .ok (.aload_n 0, 1) := by decide +kernel
theorem dX4_countShown_1 : decode cX4_countShown 1 = .ok (.aload_n 0, 1) := by decide +kernel
theorem dX4_countShown_2 : decode cX4_countShown 2 = .ok (.iload_n 1, 1) := by decide +kernel
theorem dX4_countShown_3 : decode cX4_countShown 3 = .ok (.invokevirtual 86, 3) := by decide +kernel
theorem dX4_countShown_6 : decode cX4_countShown 6 = .ok (.invokevirtual 74, 3) := by decide +kernel
theorem dX4_countShown_9 : decode cX4_countShown 9 = .ok (.istore_n 2, 1) := by decide +kernel
theorem dX4_countShown_10 : decode cX4_countShown 10 = .ok (.iconst 0, 1) := by decide +kernel
theorem dX4_countShown_11 : decode cX4_countShown 11 = .ok (.istore_n 3, 1) := by decide +kernel
theorem dX4_countShown_12 : decode cX4_countShown 12 = .ok (.aload_n 0, 1) := by decide +kernel
theorem dX4_countShown_13 : decode cX4_countShown 13 = .ok (.aload_n 0, 1) := by decide +kernel
theorem dX4_countShown_14 : decode cX4_countShown 14 = .ok (.iload_n 1, 1) := by decide +kernel
theorem dX4_countShown_15 : decode cX4_countShown 15 = .ok (.invokevirtual 90, 3) := by decide +kernel
theorem dX4_countShown_18 : decode cX4_countShown 18 = .ok (.invokevirtual 74, 3) := by decide +kernel
theorem dX4_countShown_21 : decode cX4_countShown 21 = .ok (.istore 4, 2) := by decide +kernel
theorem dX4_countShown_23 : decode cX4_countShown 23 = .ok (.iload 4, 2) := by decide +kernel
theorem dX4_countShown_25 : decode cX4_countShown 25 = .ok (.iload_n 2, 1) := by decide +kernel
theorem dX4_countShown_26 : decode cX4_countShown 26 = .ok (.if_icmp .gt 22, 3) := by decide +kernel
theorem dX4_countShown_29 : decode cX4_countShown 29 = .ok (.aload_n 0, 1) := by decide +kernel
theorem dX4_countShown_30 : decode cX4_countShown 30 = .ok (.iload 4, 2) := by decide +kernel
theorem dX4_countShown_32 : decode cX4_countShown 32 = .ok (.iload_n 1, 1) := by decide +kernel
theorem dX4_countShown_33 : decode cX4_countShown 33 = .ok (.invokevirtual 93, 3) := by decide +kernel
theorem dX4_countShown_36 : decode cX4_countShown 36 = .ok (.ifCond .lt 6, 3) := by decide +kernel
theorem dX4_countShown_39 : decode cX4_countShown 39 = .ok (.iinc 3 1, 3) := by decide +kernel
theorem dX4_countShown_42 : decode cX4_countShown 42 = .ok (.iinc 4 1, 3) := by decide +kernel
theorem dX4_countShown_45 : decode cX4_countShown 45 = .ok (.goto (-22), 3) := by decide +kernel
theorem dX4_countShown_48 : decode cX4_countShown 48 = .ok (.iload_n 3, 1) := by decide +kernel
theorem dX4_countShown_49 : decode cX4_countShown 49 = .ok (.ireturn, 1) := by decide +kernel
theorem dX4_lastShown_0 : decode cX4_lastShown 0 = .ok (.aload_n 0, 1) := by decide +kernel
theorem dX4_lastShown_1 : decode cX4_lastShown 1 = .ok (.aload_n 0, 1) := by decide +kernel
theorem dX4_lastShown_2 : decode cX4_lastShown 2 = .ok (.iload_n 1, 1) := by decide +kernel
theorem dX4_lastShown_3 : decode cX4_lastShown 3 = .ok (.invokevirtual 90, 3) := by decide +kernel
theorem dX4_lastShown_6 : decode cX4_lastShown 6 = .ok (.invokevirtual 74, 3) := by decide +kernel
theorem dX4_lastShown_9 : decode cX4_lastShown 9 = .ok (.istore_n 2, 1) := by decide +kernel
theorem dX4_lastShown_10 : decode cX4_lastShown 10 = .ok (.aload_n 0, 1) := by decide +kernel
theorem dX4_lastShown_11 : decode cX4_lastShown 11 = .ok (.aload_n 0, 1) := by decide +kernel
theorem dX4_lastShown_12 : decode cX4_lastShown 12 = .ok (.iload_n 1, 1) := by decide +kernel
theorem dX4_lastShown_13 : decode cX4_lastShown 13 = .ok (.invokevirtual 86, 3) := by decide +kernel
theorem dX4_lastShown_16 : decode cX4_lastShown 16 = .ok (.invokevirtual 74, 3) := by decide +kernel
theorem dX4_lastShown_19 : decode cX4_lastShown 19 = .ok (.istore_n 3, 1) := by decide +kernel
theorem dX4_lastShown_20 : decode cX4_lastShown 20 = .ok (.iload_n 3, 1) := by decide +kernel
theorem dX4_lastShown_21 : decode cX4_lastShown 21 = .ok (.iload_n 2, 1) := by decide +kernel
theorem dX4_lastShown_22 : decode cX4_lastShown 22 = .ok (.if_icmp .lt 25, 3) := by decide +kernel
theorem dX4_lastShown_25 : decode cX4_lastShown 25 = .ok (.aload_n 0, 1) := by decide +kernel
theorem dX4_lastShown_26 : decode cX4_lastShown 26 = .ok (.iload_n 3, 1) := by decide +kernel
theorem dX4_lastShown_27 : decode cX4_lastShown 27 = .ok (.iload_n 1, 1) := by decide +kernel
theorem dX4_lastShown_28 : decode cX4_lastShown 28 = .ok (.invokevirtual 93, 3) := by decide +kernel
theorem dX4_lastShown_31 : decode cX4_lastShown 31 = .ok (.istore 4, 2) := by decide +kernel
theorem dX4_lastShown_33 : decode cX4_lastShown 33 = .ok (.iload 4, 2) := by decide +kernel
theorem dX4_lastShown_35 : decode cX4_lastShown 35 = .ok (.ifCond .lt 6, 3) := by decide +kernel
theorem dX4_lastShown_38 : decode cX4_lastShown 38 = .ok (.iload 4, 2) := by decide +kernel
theorem dX4_lastShown_40 : decode cX4_lastShown 40 = .ok (.ireturn, 1) := by decide +kernel
theorem dX4_lastShown_41 : decode cX4_lastShown 41 = .ok (.iinc 3 (-1), 3) := by decide +kernel
theorem dX4_lastShown_44 : decode cX4_lastShown 44 = .ok (.goto (-24), 3) := by decide +kernel
theorem dX4_lastShown_47 : decode cX4_lastShown 47 = .ok (.iconst (-1), 1) := by decide +kernel
theorem dX4_lastShown_48 : decode cX4_lastShown 48 = .ok (.ireturn, 1) := by decide +kernel
theorem dX4_momentFor_0 : decode cX4_momentFor 0 = .ok (.aload_n 0, 1) := by decide +kernel
theorem dX4_momentFor_1 : decode cX4_momentFor 1 = .ok (.aload_n 0, 1) := by decide +kernel
theorem dX4_momentFor_2 : decode cX4_momentFor 2 = .ok (.iload_n 1, 1) := by decide +kernel
theorem dX4_momentFor_3 : decode cX4_momentFor 3 = .ok (.invokevirtual 90, 3) := by decide +kernel
theorem dX4_momentFor_6 : decode cX4_momentFor 6 = .ok (.invokevirtual 74, 3) := by decide +kernel
theorem dX4_momentFor_9 : decode cX4_momentFor 9 = .ok (.istore_n 2, 1) := by decide +kernel
theorem dX4_momentFor_10 : decode cX4_momentFor 10 = .ok (.aload_n 0, 1) := by decide +kernel
theorem dX4_momentFor_11 : decode cX4_momentFor 11 = .ok (.aload_n 0, 1) := by decide +kernel
theorem dX4_momentFor_12 : decode cX4_momentFor 12 = .ok (.iload_n 1, 1) := by decide +kernel
theorem dX4_momentFor_13 : decode cX4_momentFor 13 = .ok (.invokevirtual 86, 3) := by decide +kernel
theorem dX4_momentFor_16 : decode cX4_momentFor 16 = .ok (.invokevirtual 74, 3) := by decide +kernel
theorem dX4_momentFor_19 : decode cX4_momentFor 19 = .ok (.istore_n 3, 1) := by decide +kernel
theorem dX4_momentFor_20 : decode cX4_momentFor 20 = .ok (.iload_n 2, 1) := by decide +kernel
theorem dX4_momentFor_21 : decode cX4_momentFor 21 = .ok (.istore 4, 2) := by decide +kernel
theorem dX4_momentFor_23 : decode cX4_momentFor 23 = .ok (.iload 4, 2) := by decide +kernel
theorem dX4_momentFor_25 : decode cX4_momentFor 25 = .ok (.iload_n 3, 1) := by decide +kernel
theorem dX4_momentFor_26 : decode cX4_momentFor 26 = .ok (.if_icmp .gt 26, 3) := by decide +kernel
theorem dX4_momentFor_29 : decode cX4_momentFor 29 = .ok (.aload_n 0, 1) := by decide +kernel
theorem dX4_momentFor_30 : decode cX4_momentFor 30 = .ok (.iload 4, 2) := by decide +kernel
theorem dX4_momentFor_32 : decode cX4_momentFor 32 = .ok (.iload_n 1, 1) := by decide +kernel
theorem dX4_momentFor_33 : decode cX4_momentFor 33 = .ok (.invokevirtual 93, 3) := by decide +kernel
theorem dX4_momentFor_36 : decode cX4_momentFor 36 = .ok (.istore 5, 2) := by decide +kernel
theorem dX4_momentFor_38 : decode cX4_momentFor 38 = .ok (.iload 5, 2) := by decide +kernel
theorem dX4_momentFor_40 : decode cX4_momentFor 40 = .ok (.ifCond .lt 6, 3) := by decide +kernel
theorem dX4_momentFor_43 : decode cX4_momentFor 43 = .ok (.iload 5, 2) := by decide +kernel
theorem dX4_momentFor_45 : decode cX4_momentFor 45 = .ok (.ireturn, 1) := by decide +kernel
theorem dX4_momentFor_46 : decode cX4_momentFor 46 = .ok (.iinc 4 1, 3) := by decide +kernel
theorem dX4_momentFor_49 : decode cX4_momentFor 49 = .ok (.goto (-26), 3) := by decide +kernel
theorem dX4_momentFor_52 : decode cX4_momentFor 52 = .ok (.aload_n 0, 1) := by decide +kernel
theorem dX4_momentFor_53 : decode cX4_momentFor 53 = .ok (.iload_n 1, 1) := by decide +kernel
theorem dX4_momentFor_54 : decode cX4_momentFor 54 = .ok (.iload_n 2, 1) := by decide +kernel
theorem dX4_momentFor_55 : decode cX4_momentFor 55 = .ok (.iload_n 3, 1) := by decide +kernel
theorem dX4_momentFor_56 : decode cX4_momentFor 56 = .ok (.invokevirtual 96, 3) := by decide +kernel
theorem dX4_momentFor_59 : decode cX4_momentFor 59 = .ok (.ireturn, 1) := by decide +kernel
theorem dX4_momentPassing_0 : decode cX4_momentPassing 0 = .ok (.iconst 1, 1) := by decide +kernel
theorem dX4_momentPassing_1 : decode cX4_momentPassing 1 = .ok (.iload_n 2, 1) := by decide +kernel
theorem dX4_momentPassing_2 : decode cX4_momentPassing 2 = .ok (.invokestatic 57, 3) := by decide +kernel
theorem dX4_momentPassing_5 : decode cX4_momentPassing 5 = .ok (.istore 4, 2) := by decide +kernel
theorem dX4_momentPassing_7 : decode cX4_momentPassing 7 = .ok (.iload 4, 2) := by decide +kernel
theorem dX4_momentPassing_9 : decode cX4_momentPassing 9 = .ok (.iload_n 3, 1) := by decide +kernel
theorem dX4_momentPassing_10 : decode cX4_momentPassing 10 = .ok (.if_icmp .gt 62, 3) := by decide +kernel
theorem dX4_momentPassing_13 : decode cX4_momentPassing 13 = .ok (.aload_n 0, 1) := by decide +kernel
theorem dX4_momentPassing_14 : decode cX4_momentPassing 14 = .ok (.iload 4, 2) := by decide +kernel
theorem dX4_momentPassing_16 : decode cX4_momentPassing 16 = .ok (.invokevirtual 71, 3) := by decide +kernel
theorem dX4_momentPassing_19 : decode cX4_momentPassing 19 = .ok (.istore 5, 2) := by decide +kernel
theorem dX4_momentPassing_21 : decode cX4_momentPassing 21 = .ok (.iload 5, 2) := by decide +kernel
theorem dX4_momentPassing_23 : decode cX4_momentPassing 23 = .ok (.iconst 1, 1) := by decide +kernel
theorem dX4_momentPassing_24 : decode cX4_momentPassing 24 = .ok (.isub, 1) := by decide +kernel
theorem dX4_momentPassing_25 : decode cX4_momentPassing 25 = .ok (.aload_n 0, 1) := by decide +kernel
theorem dX4_momentPassing_26 : decode cX4_momentPassing 26 = .ok (.iload 4, 2) := by decide +kernel
theorem dX4_momentPassing_28 : decode cX4_momentPassing 28 = .ok (.iconst 1, 1) := by decide +kernel
theorem dX4_momentPassing_29 : decode cX4_momentPassing 29 = .ok (.isub, 1) := by decide +kernel
theorem dX4_momentPassing_30 : decode cX4_momentPassing 30 = .ok (.invokevirtual 81, 3) := by decide +kernel
theorem dX4_momentPassing_33 : decode cX4_momentPassing 33 = .ok (.iadd, 1) := by decide +kernel
theorem dX4_momentPassing_34 : decode cX4_momentPassing 34 = .ok (.iload_n 1, 1) := by decide +kernel
theorem dX4_momentPassing_35 : decode cX4_momentPassing 35 = .ok (.if_icmp .ge 7, 3) := by decide +kernel
theorem dX4_momentPassing_38 : decode cX4_momentPassing 38 = .ok (.iconst 1, 1) := by decide +kernel
theorem dX4_momentPassing_39 : decode cX4_momentPassing 39 = .ok (.goto 4, 3) := by decide +kernel
theorem dX4_momentPassing_42 : decode cX4_momentPassing 42 = .ok (.iconst 0, 1) := by decide +kernel
theorem dX4_momentPassing_43 : decode cX4_momentPassing 43 = .ok (.istore 6, 2) := by decide +kernel
theorem dX4_momentPassing_45 : decode cX4_momentPassing 45 = .ok (.iload 6, 2) := by decide +kernel
theorem dX4_momentPassing_47 : decode cX4_momentPassing 47 = .ok (.ifCond .eq 19, 3) := by decide +kernel
theorem dX4_momentPassing_50 : decode cX4_momentPassing 50 = .ok (.iload 5, 2) := by decide +kernel
theorem dX4_momentPassing_52 : decode cX4_momentPassing 52 = .ok (.aload_n 0, 1) := by decide +kernel
theorem dX4_momentPassing_53 : decode cX4_momentPassing 53 = .ok (.iload 4, 2) := by decide +kernel
theorem dX4_momentPassing_55 : decode cX4_momentPassing 55 = .ok (.invokevirtual 81, 3) := by decide +kernel
theorem dX4_momentPassing_58 : decode cX4_momentPassing 58 = .ok (.iadd, 1) := by decide +kernel
theorem dX4_momentPassing_59 : decode cX4_momentPassing 59 = .ok (.iload_n 1, 1) := by decide +kernel
theorem dX4_momentPassing_60 : decode cX4_momentPassing 60 = .ok (.if_icmp .le 6, 3) := by decide +kernel
theorem dX4_momentPassing_63 : decode cX4_momentPassing 63 = .ok (.iload 5, 2) := by decide +kernel
theorem dX4_momentPassing_65 : decode cX4_momentPassing 65 = .ok (.ireturn, 1) := by decide +kernel
theorem dX4_momentPassing_66 : decode cX4_momentPassing 66 = .ok (.iinc 4 1, 3) := by decide +kernel
theorem dX4_momentPassing_69 : decode cX4_momentPassing 69 = .ok (.goto (-62), 3) := by decide +kernel
theorem dX4_momentPassing_72 : decode cX4_momentPassing 72 = .ok (.iconst (-1), 1) := by decide +kernel
theorem dX4_momentPassing_73 : decode cX4_momentPassing 73 = .ok (.ireturn, 1) := by decide +kernel
theorem dX5_init_0 : decode cX5_init 0 = .ok (.aload_n 0, 1) := by decide +kernel
theorem dX5_init_1 : decode cX5_init 1 = .ok (.invokespecial 5, 3) := by decide +kernel
theorem dX5_init_4 : decode cX5_init 4 = .ok (.aload_n 0, 1) := by decide +kernel
theorem dX5_init_5 : decode cX5_init 5 = .ok (.aload_n 1, 1) := by decide +kernel
theorem dX5_init_6 : decode cX5_init 6 = .ok (.putfield 11, 3) := by decide +kernel
theorem dX5_init_9 : decode cX5_init 9 = .ok (.aload_n 0, 1) := by decide +kernel
theorem dX5_init_10 : decode cX5_init 10 = .ok (.iload_n 2, 1) := by decide +kernel
theorem dX5_init_11 : decode cX5_init 11 = .ok (.putfield 15, 3) := by decide +kernel
theorem dX5_init_14 : decode cX5_init 14 = .ok (.aload_n 0, 1) := by decide +kernel
theorem dX5_init_15 : decode cX5_init 15 = .ok (.iload_n 3, 1) := by decide +kernel
theorem dX5_init_16 : decode cX5_init 16 = .ok (.putfield 19, 3) := by decide +kernel
theorem dX5_init_19 : decode cX5_init 19 = .ok (.aload_n 0, 1) := by decide +kernel
theorem dX5_init_20 : decode cX5_init 20 = .ok (.iload 4, 2) := by decide +kernel
theorem dX5_init_22 : decode cX5_init 22 = .ok (.putfield 22, 3) := by decide +kernel
theorem dX5_init_25 : decode cX5_init 25 = .ok (.aload_n 0, 1) := by decide +kernel
theorem dX5_init_26 : decode cX5_init 26 = .ok (.iload 5, 2) := by decide +kernel
theorem dX5_init_28 : decode cX5_init 28 = .ok (.putfield 25, 3) := by decide +kernel
theorem dX5_init_31 : decode cX5_init 31 = .ok (.aload_n 0, 1) := by decide +kernel
theorem dX5_init_32 : decode cX5_init 32 = .ok (.iload_n 2, 1) := by decide +kernel
theorem dX5_init_33 : decode cX5_init 33 = .ok (.sipush 1440, 3) := by decide +kernel
theorem dX5_init_36 : decode cX5_init 36 = .ok (.idiv, 1) := by decide +kernel
theorem dX5_init_37 : decode cX5_init 37 = .ok (.putfield 28, 3) := by decide +kernel
theorem dX5_init_40 : decode cX5_init 40 = .ok (.aload_n 0, 1) := by decide +kernel
theorem dX5_init_41 : decode cX5_init 41 = .ok (.aload_n 0, 1) := by decide +kernel
theorem dX5_init_42 : decode cX5_init 42 = .ok (.getfield 28, 3) := by decide +kernel
theorem dX5_init_45 : decode cX5_init 45 = .ok (.sipush 4000, 3) := by decide +kernel
theorem dX5_init_48 : decode cX5_init 48 = .ok (.iadd, 1) := by decide +kernel
theorem dX5_init_49 : decode cX5_init 49 = .ok (.ldc 31, 2) := by decide +kernel
theorem dX5_init_51 : decode cX5_init 51 = .ok (.invokestatic 32, 3) := by decide +kernel
theorem dX5_init_54 : decode cX5_init 54 = .ok (.putfield 38, 3) := by decide +kernel
theorem dX5_init_57 : decode cX5_init 57 = .ok (.iload_n 3, 1) := by decide +kernel
theorem dX5_init_58 : decode cX5_init 58 = .ok (.iconst 3, 1) := by decide +kernel
theorem dX5_init_59 : decode cX5_init 59 = .ok (.if_icmp .ne 18, 3) := by decide +kernel
theorem dX5_init_62 : decode cX5_init 62 = .ok (.aload_n 0, 1) := by decide +kernel
theorem dX5_init_63 : decode cX5_init 63 = .ok (.getfield 28, 3) := by decide +kernel
theorem dX5_init_66 : decode cX5_init 66 = .ok (.invokestatic 41, 3) := by decide +kernel
theorem dX5_init_69 : decode cX5_init 69 = .ok (.bipush 12, 2) := by decide +kernel
theorem dX5_init_71 : decode cX5_init 71 = .ok (.irem, 1) := by decide +kernel
theorem dX5_init_72 : decode cX5_init 72 = .ok (.iconst 1, 1) := by decide +kernel
theorem dX5_init_73 : decode cX5_init 73 = .ok (.iadd, 1) := by decide +kernel
theorem dX5_init_74 : decode cX5_init 74 = .ok (.goto 4, 3) := by decide +kernel
theorem dX5_init_77 : decode cX5_init 77 = .ok (.iconst 0, 1) := by decide +kernel
theorem dX5_init_78 : decode cX5_init 78 = .ok (.istore 6, 2) := by decide +kernel
theorem dX5_init_80 : decode cX5_init 80 = .ok (.aload_n 0, 1) := by decide +kernel
theorem dX5_init_81 : decode cX5_init 81 = .ok (.iload_n 3, 1) := by decide +kernel
theorem dX5_init_82 : decode cX5_init 82 = .ok (.iconst 2, 1) := by decide +kernel
theorem dX5_init_83 : decode cX5_init 83 = .ok (.if_icmp .ge 7, 3) := by decide +kernel
theorem dX5_init_86 : decode cX5_init 86 = .ok (.aconst_null, 1) := by decide +kernel
theorem dX5_init_87 : decode cX5_init 87 = .ok (.goto 20, 3) := by decide +kernel
theorem dX5_init_90 : decode cX5_init 90 = .ok (.new 47, 3) := by decide +kernel
theorem dX5_init_93 : decode cX5_init 93 = .ok (.dup, 1) := by decide +kernel
theorem dX5_init_94 : decode cX5_init 94 = .ok (.iload 6, 2) := by decide +kernel
theorem dX5_init_96 : decode cX5_init 96 = .ok (.iconst 0, 1) := by decide +kernel
theorem dX5_init_97 : decode cX5_init 97 = .ok (.aload_n 0, 1) := by decide +kernel
theorem dX5_init_98 : decode cX5_init 98 = .ok (.getfield 28, 3) := by decide +kernel
theorem dX5_init_101 : decode cX5_init 101 = .ok (.invokestatic 49, 3) := by decide +kernel
theorem dX5_init_104 : decode cX5_init 104 = .ok (.invokespecial 52, 3) := by decide +kernel
theorem dX5_init_107 : decode cX5_init 107 = .ok (.putfield 55, 3) := by decide +kernel
theorem dX5_init_110 : decode cX5_init 110 = .ok (.aload_n 0, 1) := by decide +kernel
theorem dX5_init_111 : decode cX5_init 111 = .ok (.iconst 4, 1) := by decide +kernel
theorem dX5_init_112 : decode cX5_init 112 = .ok (.anewarray 47, 3) := by decide +kernel
theorem dX5_init_115 : decode cX5_init 115 = .ok (.putfield 59, 3) := by decide +kernel
theorem dX5_init_118 : decode cX5_init 118 = .ok (.aload_n 0, 1) := by decide +kernel
theorem dX5_init_119 : decode cX5_init 119 = .ok (.iconst 0, 1) := by decide +kernel
theorem dX5_init_120 : decode cX5_init 120 = .ok (.putfield 63, 3) := by decide +kernel
theorem dX5_init_123 : decode cX5_init 123 = .ok (.aload_n 0, 1) := by decide +kernel
theorem dX5_init_124 : decode cX5_init 124 = .ok (.iconst 0, 1) := by decide +kernel
theorem dX5_init_125 : decode cX5_init 125 = .ok (.putfield 66, 3) := by decide +kernel
theorem dX5_init_128 : decode cX5_init 128 = .ok (.aload_n 0, 1) := by decide +kernel
theorem dX5_init_129 : decode cX5_init 129 = .ok (.iconst 0, 1) := by decide +kernel
theorem dX5_init_130 : decode cX5_init 130 = .ok (.putfield 69, 3) := by decide +kernel
theorem dX5_init_133 : decode cX5_init 133 = .ok (.aload_n 0, 1) := by decide +kernel
theorem dX5_init_134 : decode cX5_init 134 = .ok (.aload_n 0, 1) := by decide +kernel
theorem dX5_init_135 : decode cX5_init 135 = .ok (.getfield 38, 3) := by decide +kernel
theorem dX5_init_138 : decode cX5_init 138 = .ok (.putfield 72, 3) := by decide +kernel
theorem dX5_init_141 : decode cX5_init 141 = .ok (.aload_n 0, 1) := by decide +kernel
theorem dX5_init_142 : decode cX5_init 142 = .ok (.bipush 8, 2) := by decide +kernel
theorem dX5_init_144 : decode cX5_init 144 = .ok (.newarray .int, 2) := by decide +kernel
theorem dX5_init_146 : decode cX5_init 146 = .ok (.putfield 75, 3) := by decide +kernel
theorem dX5_init_149 : decode cX5_init 149 = .ok (.aload_n 0, 1) := by decide +kernel
theorem dX5_init_150 : decode cX5_init 150 = .ok (.iconst 0, 1) := by decide +kernel
theorem dX5_init_151 : decode cX5_init 151 = .ok (.putfield 79, 3) := by decide +kernel
theorem dX5_init_154 : decode cX5_init 154 = .ok (.aload_n 0, 1) := by decide +kernel
theorem dX5_init_155 : decode cX5_init 155 = .ok (.sipush 4001, 3) := by decide +kernel
theorem dX5_init_158 : decode cX5_init 158 = .ok (.newarray .int, 2) := by decide +kernel
theorem dX5_init_160 : decode cX5_init 160 = .ok (.putfield 82, 3) := by decide +kernel
theorem dX5_init_163 : decode cX5_init 163 = .ok (.aload_n 0, 1) := by decide +kernel
theorem dX5_init_164 : decode cX5_init 164 = .ok (.iconst 0, 1) := by decide +kernel
theorem dX5_init_165 : decode cX5_init 165 = .ok (.putfield 85, 3) := by decide +kernel
theorem dX5_init_168 : decode cX5_init 168 = .ok (.aload_n 0, 1) := by decide +kernel
theorem dX5_init_169 : decode cX5_init 169 = .ok (.iconst 0, 1) := by decide +kernel
theorem dX5_init_170 : decode cX5_init 170 = .ok (.putfield 88, 3) := by decide +kernel
theorem dX5_init_173 : decode cX5_init 173 = .ok (.return_, 1) := by decide +kernel
theorem dX5_findDates_0 : decode cX5_findDates 0 = .ok (.aload_n 0, 1) := by decide +kernel
theorem dX5_findDates_1 : decode cX5_findDates 1 = .ok (.iconst 0, 1) := by decide +kernel
theorem dX5_findDates_2 : decode cX5_findDates 2 = .ok (.putfield 85, 3) := by decide +kernel
theorem dX5_findDates_5 : decode cX5_findDates 5 = .ok (.aload_n 0, 1) := by decide +kernel
theorem dX5_findDates_6 : decode cX5_findDates 6 = .ok (.iconst 0, 1) := by decide +kernel
theorem dX5_findDates_7 : decode cX5_findDates 7 = .ok (.putfield 88, 3) := by decide +kernel
theorem dX5_findDates_10 : decode cX5_findDates 10 = .ok (.aload_n 0, 1) := by decide +kernel
theorem dX5_findDates_11 : decode cX5_findDates 11 = .ok (.aload_n 1, 1) := by decide +kernel
theorem dX5_findDates_12 : decode cX5_findDates 12 = .ok (.invokevirtual 91, 3) := by decide +kernel
theorem dX5_findDates_15 : decode cX5_findDates 15 = .ok (.iconst 0, 1) := by decide +kernel
theorem dX5_findDates_16 : decode cX5_findDates 16 = .ok (.istore_n 2, 1) := by decide +kernel
theorem dX5_findDates_17 : decode cX5_findDates 17 = .ok (.iload_n 2, 1) := by decide +kernel
theorem dX5_findDates_18 : decode cX5_findDates 18 = .ok (.sipush 4000, 3) := by decide +kernel
theorem dX5_findDates_21 : decode cX5_findDates 21 = .ok (.if_icmp .gt 56, 3) := by decide +kernel
theorem dX5_findDates_24 : decode cX5_findDates 24 = .ok (.aload_n 0, 1) := by decide +kernel
theorem dX5_findDates_25 : decode cX5_findDates 25 = .ok (.iload_n 2, 1) := by decide +kernel
theorem dX5_findDates_26 : decode cX5_findDates 26 = .ok (.aload_n 0, 1) := by decide +kernel
theorem dX5_findDates_27 : decode cX5_findDates 27 = .ok (.getfield 22, 3) := by decide +kernel
theorem dX5_findDates_30 : decode cX5_findDates 30 = .ok (.imul, 1) := by decide +kernel
theorem dX5_findDates_31 : decode cX5_findDates 31 = .ok (.invokevirtual 95, 3) := by decide +kernel
theorem dX5_findDates_34 : decode cX5_findDates 34 = .ok (.istore_n 3, 1) := by decide +kernel
theorem dX5_findDates_35 : decode cX5_findDates 35 = .ok (.iload_n 3, 1) := by decide +kernel
theorem dX5_findDates_36 : decode cX5_findDates 36 = .ok (.aload_n 0, 1) := by decide +kernel
theorem dX5_findDates_37 : decode cX5_findDates 37 = .ok (.getfield 72, 3) := by decide +kernel
theorem dX5_findDates_40 : decode cX5_findDates 40 = .ok (.if_icmp .le 6, 3) := by decide +kernel
theorem dX5_findDates_43 : decode cX5_findDates 43 = .ok (.goto 34, 3) := by decide +kernel
theorem dX5_findDates_46 : decode cX5_findDates 46 = .ok (.aload_n 0, 1) := by decide +kernel
theorem dX5_findDates_47 : decode cX5_findDates 47 = .ok (.aload_n 1, 1) := by decide +kernel
theorem dX5_findDates_48 : decode cX5_findDates 48 = .ok (.iload_n 3, 1) := by decide +kernel
theorem dX5_findDates_49 : decode cX5_findDates 49 = .ok (.aload_n 0, 1) := by decide +kernel
theorem dX5_findDates_50 : decode cX5_findDates 50 = .ok (.iload_n 2, 1) := by decide +kernel
theorem dX5_findDates_51 : decode cX5_findDates 51 = .ok (.aload_n 0, 1) := by decide +kernel
theorem dX5_findDates_52 : decode cX5_findDates 52 = .ok (.getfield 22, 3) := by decide +kernel
theorem dX5_findDates_55 : decode cX5_findDates 55 = .ok (.imul, 1) := by decide +kernel
theorem dX5_findDates_56 : decode cX5_findDates 56 = .ok (.iconst 1, 1) := by decide +kernel
theorem dX5_findDates_57 : decode cX5_findDates 57 = .ok (.iadd, 1) := by decide +kernel
theorem dX5_findDates_58 : decode cX5_findDates 58 = .ok (.invokevirtual 95, 3) := by decide +kernel
theorem dX5_findDates_61 : decode cX5_findDates 61 = .ok (.iconst 1, 1) := by decide +kernel
theorem dX5_findDates_62 : decode cX5_findDates 62 = .ok (.isub, 1) := by decide +kernel
theorem dX5_findDates_63 : decode cX5_findDates 63 = .ok (.ldc 31, 2) := by decide +kernel
theorem dX5_findDates_65 : decode cX5_findDates 65 = .ok (.invokestatic 32, 3) := by decide +kernel
theorem dX5_findDates_68 : decode cX5_findDates 68 = .ok (.invokevirtual 98, 3) := by decide +kernel
theorem dX5_findDates_71 : decode cX5_findDates 71 = .ok (.iinc 2 1, 3) := by decide +kernel
theorem dX5_findDates_74 : decode cX5_findDates 74 = .ok (.goto (-57), 3) := by decide +kernel
theorem dX5_findDates_77 : decode cX5_findDates 77 = .ok (.return_, 1) := by decide +kernel
theorem dX5_spanBegin_0 : decode cX5_spanBegin 0 = .ok (.aload_n 0, 1) := by decide +kernel
theorem dX5_spanBegin_1 : decode cX5_spanBegin 1 = .ok (.getfield 19, 3) := by decide +kernel
theorem dX5_spanBegin_4 : decode cX5_spanBegin 4 = .ok (.tableswitch 66 0 2 #[28, 35, 53], 28) := by decide +kernel
theorem dX5_spanBegin_32 : decode cX5_spanBegin 32 = .ok (.aload_n 0, 1) := by decide +kernel
theorem dX5_spanBegin_33 : decode cX5_spanBegin 33 = .ok (.getfield 28, 3) := by decide +kernel
theorem dX5_spanBegin_36 : decode cX5_spanBegin 36 = .ok (.iload_n 1, 1) := by decide +kernel
theorem dX5_spanBegin_37 : decode cX5_spanBegin 37 = .ok (.iadd, 1) := by decide +kernel
theorem dX5_spanBegin_38 : decode cX5_spanBegin 38 = .ok (.ireturn, 1) := by decide +kernel
theorem dX5_spanBegin_39 : decode cX5_spanBegin 39 = .ok (.aload_n 0, 1) := by decide +kernel
theorem dX5_spanBegin_40 : decode cX5_spanBegin 40 = .ok (.getfield 28, 3) := by decide +kernel
theorem dX5_spanBegin_43 : decode cX5_spanBegin 43 = .ok (.aload_n 0, 1) := by decide +kernel
theorem dX5_spanBegin_44 : decode cX5_spanBegin 44 = .ok (.getfield 28, 3) := by decide +kernel
theorem dX5_spanBegin_47 : decode cX5_spanBegin 47 = .ok (.invokestatic 102, 3) := by decide +kernel
theorem dX5_spanBegin_50 : decode cX5_spanBegin 50 = .ok (.isub, 1) := by decide +kernel
theorem dX5_spanBegin_51 : decode cX5_spanBegin 51 = .ok (.bipush 7, 2) := by decide +kernel
theorem dX5_spanBegin_53 : decode cX5_spanBegin 53 = .ok (.iload_n 1, 1) := by decide +kernel
theorem dX5_spanBegin_54 : decode cX5_spanBegin 54 = .ok (.imul, 1) := by decide +kernel
theorem dX5_spanBegin_55 : decode cX5_spanBegin 55 = .ok (.iadd, 1) := by decide +kernel
theorem dX5_spanBegin_56 : decode cX5_spanBegin 56 = .ok (.ireturn, 1) := by decide +kernel
theorem dX5_spanBegin_57 : decode cX5_spanBegin 57 = .ok (.aload_n 0, 1) := by decide +kernel
theorem dX5_spanBegin_58 : decode cX5_spanBegin 58 = .ok (.getfield 28, 3) := by decide +kernel
theorem dX5_spanBegin_61 : decode cX5_spanBegin 61 = .ok (.invokestatic 41, 3) := by decide +kernel
theorem dX5_spanBegin_64 : decode cX5_spanBegin 64 = .ok (.iload_n 1, 1) := by decide +kernel
theorem dX5_spanBegin_65 : decode cX5_spanBegin 65 = .ok (.iadd, 1) := by decide +kernel
theorem dX5_spanBegin_66 : decode cX5_spanBegin 66 = .ok (.invokestatic 105, 3) := by decide +kernel
theorem dX5_spanBegin_69 : decode cX5_spanBegin 69 = .ok (.ireturn, 1) := by decide +kernel
theorem dX5_spanBegin_70 : decode cX5_spanBegin 70 = .ok (.aload_n 0, 1) := by decide +kernel
theorem dX5_spanBegin_71 : decode cX5_spanBegin 71 = .ok (.getfield 28, 3) := by decide +kernel
theorem dX5_spanBegin_74 : decode cX5_spanBegin 74 = .ok (.invokestatic 108, 3) := by decide +kernel
theorem dX5_spanBegin_77 : decode cX5_spanBegin 77 = .ok (.iload_n 1, 1) := by decide +kernel
theorem dX5_spanBegin_78 : decode cX5_spanBegin 78 = .ok (.iadd, 1) := by decide +kernel
theorem dX5_spanBegin_79 : decode cX5_spanBegin 79 = .ok (.invokestatic 111, 3) := by decide +kernel
theorem dX5_spanBegin_82 : decode cX5_spanBegin 82 = .ok (.invokestatic 105, 3) := by decide +kernel
theorem dX5_spanBegin_85 : decode cX5_spanBegin 85 = .ok (.ireturn, 1) := by decide +kernel
theorem dX5_findCounting_0 : decode cX5_findCounting 0 = .ok (.aload_n 1, 1) := by decide +kernel
theorem dX5_findCounting_1 : decode cX5_findCounting 1 = .ok (.aload_n 0, 1) := by decide +kernel
theorem dX5_findCounting_2 : decode cX5_findCounting 2 = .ok (.iconst 0, 1) := by decide +kernel
theorem dX5_findCounting_3 : decode cX5_findCounting 3 = .ok (.invokevirtual 95, 3) := by decide +kernel
theorem dX5_findCounting_6 : decode cX5_findCounting 6 = .ok (.aload_n 0, 1) := by decide +kernel
theorem dX5_findCounting_7 : decode cX5_findCounting 7 = .ok (.getfield 72, 3) := by decide +kernel
theorem dX5_findCounting_10 : decode cX5_findCounting 10 = .ok (.sipush 366, 3) := by decide +kernel
theorem dX5_findCounting_13 : decode cX5_findCounting 13 = .ok (.iadd, 1) := by decide +kernel
theorem dX5_findCounting_14 : decode cX5_findCounting 14 = .ok (.ldc 31, 2) := by decide +kernel
theorem dX5_findCounting_16 : decode cX5_findCounting 16 = .ok (.invokestatic 32, 3) := by decide +kernel
theorem dX5_findCounting_19 : decode cX5_findCounting 19 = .ok (.invokevirtual 114, 3) := by decide +kernel
theorem dX5_findCounting_22 : decode cX5_findCounting 22 = .ok (.aload_n 0, 1) := by decide +kernel
theorem dX5_findCounting_23 : decode cX5_findCounting 23 = .ok (.getfield 63, 3) := by decide +kernel
theorem dX5_findCounting_26 : decode cX5_findCounting 26 = .ok (.ifCond .ne 12, 3) := by decide +kernel
theorem dX5_findCounting_29 : decode cX5_findCounting 29 = .ok (.aload_n 0, 1) := by decide +kernel
theorem dX5_findCounting_30 : decode cX5_findCounting 30 = .ok (.aload_n 1, 1) := by decide +kernel
theorem dX5_findCounting_31 : decode cX5_findCounting 31 = .ok (.aload_n 0, 1) := by decide +kernel
theorem dX5_findCounting_32 : decode cX5_findCounting 32 = .ok (.getfield 55, 3) := by decide +kernel
theorem dX5_findCounting_35 : decode cX5_findCounting 35 = .ok (.invokevirtual 120, 3) := by decide +kernel
theorem dX5_findCounting_38 : decode cX5_findCounting 38 = .ok (.iconst 0, 1) := by decide +kernel
theorem dX5_findCounting_39 : decode cX5_findCounting 39 = .ok (.istore_n 2, 1) := by decide +kernel
theorem dX5_findCounting_40 : decode cX5_findCounting 40 = .ok (.iload_n 2, 1) := by decide +kernel
theorem dX5_findCounting_41 : decode cX5_findCounting 41 = .ok (.aload_n 0, 1) := by decide +kernel
theorem dX5_findCounting_42 : decode cX5_findCounting 42 = .ok (.getfield 63, 3) := by decide +kernel
theorem dX5_findCounting_45 : decode cX5_findCounting 45 = .ok (.if_icmp .ge 29, 3) := by decide +kernel
theorem dX5_findCounting_48 : decode cX5_findCounting 48 = .ok (.iload_n 2, 1) := by decide +kernel
theorem dX5_findCounting_49 : decode cX5_findCounting 49 = .ok (.aload_n 0, 1) := by decide +kernel
theorem dX5_findCounting_50 : decode cX5_findCounting 50 = .ok (.getfield 59, 3) := by decide +kernel
theorem dX5_findCounting_53 : decode cX5_findCounting 53 = .ok (.arraylength, 1) := by decide +kernel
theorem dX5_findCounting_54 : decode cX5_findCounting 54 = .ok (.if_icmp .ge 20, 3) := by decide +kernel
theorem dX5_findCounting_57 : decode cX5_findCounting 57 = .ok (.aload_n 0, 1) := by decide +kernel
theorem dX5_findCounting_58 : decode cX5_findCounting 58 = .ok (.aload_n 1, 1) := by decide +kernel
theorem dX5_findCounting_59 : decode cX5_findCounting 59 = .ok (.aload_n 0, 1) := by decide +kernel
theorem dX5_findCounting_60 : decode cX5_findCounting 60 = .ok (.getfield 59, 3) := by decide +kernel
theorem dX5_findCounting_63 : decode cX5_findCounting 63 = .ok (.iload_n 2, 1) := by decide +kernel
theorem dX5_findCounting_64 : decode cX5_findCounting 64 = .ok (.aaload, 1) := by decide +kernel
theorem dX5_findCounting_65 : decode cX5_findCounting 65 = .ok (.invokevirtual 120, 3) := by decide +kernel
theorem dX5_findCounting_68 : decode cX5_findCounting 68 = .ok (.iinc 2 1, 3) := by decide +kernel
theorem dX5_findCounting_71 : decode cX5_findCounting 71 = .ok (.goto (-31), 3) := by decide +kernel
theorem dX5_findCounting_74 : decode cX5_findCounting 74 = .ok (.return_, 1) := by decide +kernel
theorem dX5_markTold_0 : decode cX5_markTold 0 = .ok (.aload_n 0, 1) := by decide +kernel
theorem dX5_markTold_1 : decode cX5_markTold 1 = .ok (.invokevirtual 124, 3) := by decide +kernel
theorem dX5_markTold_4 : decode cX5_markTold 4 = .ok (.istore_n 3, 1) := by decide +kernel
theorem dX5_markTold_5 : decode cX5_markTold 5 = .ok (.aload_n 2, 1) := by decide +kernel
theorem dX5_markTold_6 : decode cX5_markTold 6 = .ok (.ifnonnull 32, 3) := by decide +kernel
theorem dX5_markTold_9 : decode cX5_markTold 9 = .ok (.aload_n 1, 1) := by decide +kernel
theorem dX5_markTold_10 : decode cX5_markTold 10 = .ok (.invokevirtual 128, 3) := by decide +kernel
theorem dX5_markTold_13 : decode cX5_markTold 13 = .ok (.istore 4, 2) := by decide +kernel
theorem dX5_markTold_15 : decode cX5_markTold 15 = .ok (.iload 4, 2) := by decide +kernel
theorem dX5_markTold_17 : decode cX5_markTold 17 = .ok (.aload_n 1, 1) := by decide +kernel
theorem dX5_markTold_18 : decode cX5_markTold 18 = .ok (.invokevirtual 131, 3) := by decide +kernel
theorem dX5_markTold_21 : decode cX5_markTold 21 = .ok (.if_icmp .gt 16, 3) := by decide +kernel
theorem dX5_markTold_24 : decode cX5_markTold 24 = .ok (.aload_n 1, 1) := by decide +kernel
theorem dX5_markTold_25 : decode cX5_markTold 25 = .ok (.iload 4, 2) := by decide +kernel
theorem dX5_markTold_27 : decode cX5_markTold 27 = .ok (.iload_n 3, 1) := by decide +kernel
theorem dX5_markTold_28 : decode cX5_markTold 28 = .ok (.invokestatic 134, 3) := by decide +kernel
theorem dX5_markTold_31 : decode cX5_markTold 31 = .ok (.iinc 4 1, 3) := by decide +kernel
theorem dX5_markTold_34 : decode cX5_markTold 34 = .ok (.goto (-19), 3) := by decide +kernel
theorem dX5_markTold_37 : decode cX5_markTold 37 = .ok (.return_, 1) := by decide +kernel
theorem dX5_markTold_38 : decode cX5_markTold 38 = .ok (.aload_n 1, 1) := by decide +kernel
theorem dX5_markTold_39 : decode cX5_markTold 39 = .ok (.invokevirtual 131, 3) := by decide +kernel
theorem dX5_markTold_42 : decode cX5_markTold 42 = .ok (.invokestatic 41, 3) := by decide +kernel
theorem dX5_markTold_45 : decode cX5_markTold 45 = .ok (.istore 4, 2) := by decide +kernel
theorem dX5_markTold_47 : decode cX5_markTold 47 = .ok (.aload_n 1, 1) := by decide +kernel
theorem dX5_markTold_48 : decode cX5_markTold 48 = .ok (.invokevirtual 128, 3) := by decide +kernel
theorem dX5_markTold_51 : decode cX5_markTold 51 = .ok (.invokestatic 41, 3) := by decide +kernel
theorem dX5_markTold_54 : decode cX5_markTold 54 = .ok (.istore 5, 2) := by decide +kernel
theorem dX5_markTold_56 : decode cX5_markTold 56 = .ok (.iload 5, 2) := by decide +kernel
theorem dX5_markTold_58 : decode cX5_markTold 58 = .ok (.iload 4, 2) := by decide +kernel
theorem dX5_markTold_60 : decode cX5_markTold 60 = .ok (.if_icmp .gt 29, 3) := by decide +kernel
theorem dX5_markTold_63 : decode cX5_markTold 63 = .ok (.aload_n 2, 1) := by decide +kernel
theorem dX5_markTold_64 : decode cX5_markTold 64 = .ok (.iload 5, 2) := by decide +kernel
theorem dX5_markTold_66 : decode cX5_markTold 66 = .ok (.invokevirtual 137, 3) := by decide +kernel
theorem dX5_markTold_69 : decode cX5_markTold 69 = .ok (.istore 6, 2) := by decide +kernel
theorem dX5_markTold_71 : decode cX5_markTold 71 = .ok (.iload 6, 2) := by decide +kernel
theorem dX5_markTold_73 : decode cX5_markTold 73 = .ok (.ifCond .lt 10, 3) := by decide +kernel
theorem dX5_markTold_76 : decode cX5_markTold 76 = .ok (.aload_n 1, 1) := by decide +kernel
theorem dX5_markTold_77 : decode cX5_markTold 77 = .ok (.iload 6, 2) := by decide +kernel
theorem dX5_markTold_79 : decode cX5_markTold 79 = .ok (.iload_n 3, 1) := by decide +kernel
theorem dX5_markTold_80 : decode cX5_markTold 80 = .ok (.invokestatic 134, 3) := by decide +kernel
theorem dX5_markTold_83 : decode cX5_markTold 83 = .ok (.iinc 5 1, 3) := by decide +kernel
theorem dX5_markTold_86 : decode cX5_markTold 86 = .ok (.goto (-30), 3) := by decide +kernel
theorem dX5_markTold_89 : decode cX5_markTold 89 = .ok (.return_, 1) := by decide +kernel
theorem dX5_markDay_0 : decode cX5_markDay 0 = .ok (.iload_n 2, 1) := by decide +kernel
theorem dX5_markDay_1 : decode cX5_markDay 1 = .ok (.iload_n 1, 1) := by decide +kernel
theorem dX5_markDay_2 : decode cX5_markDay 2 = .ok (.invokestatic 140, 3) := by decide +kernel
theorem dX5_markDay_5 : decode cX5_markDay 5 = .ok (.ifCond .eq 9, 3) := by decide +kernel
theorem dX5_markDay_8 : decode cX5_markDay 8 = .ok (.aload_n 0, 1) := by decide +kernel
theorem dX5_markDay_9 : decode cX5_markDay 9 = .ok (.iload_n 1, 1) := by decide +kernel
theorem dX5_markDay_10 : decode cX5_markDay 10 = .ok (.iconst 1, 1) := by decide +kernel
theorem dX5_markDay_11 : decode cX5_markDay 11 = .ok (.invokevirtual 144, 3) := by decide +kernel
theorem dX5_markDay_14 : decode cX5_markDay 14 = .ok (.return_, 1) := by decide +kernel
theorem dX5_rightWeekdays_0 : decode cX5_rightWeekdays 0 = .ok (.aload_n 0, 1) := by decide +kernel
theorem dX5_rightWeekdays_1 : decode cX5_rightWeekdays 1 = .ok (.getfield 25, 3) := by decide +kernel
theorem dX5_rightWeekdays_4 : decode cX5_rightWeekdays 4 = .ok (.ifCond .eq 8, 3) := by decide +kernel
theorem dX5_rightWeekdays_7 : decode cX5_rightWeekdays 7 = .ok (.aload_n 0, 1) := by decide +kernel
theorem dX5_rightWeekdays_8 : decode cX5_rightWeekdays 8 = .ok (.getfield 25, 3) := by decide +kernel
theorem dX5_rightWeekdays_11 : decode cX5_rightWeekdays 11 = .ok (.ireturn, 1) := by decide +kernel
theorem dX5_rightWeekdays_12 : decode cX5_rightWeekdays 12 = .ok (.aload_n 0, 1) := by decide +kernel
theorem dX5_rightWeekdays_13 : decode cX5_rightWeekdays 13 = .ok (.getfield 19, 3) := by decide +kernel
theorem dX5_rightWeekdays_16 : decode cX5_rightWeekdays 16 = .ok (.iconst 1, 1) := by decide +kernel
theorem dX5_rightWeekdays_17 : decode cX5_rightWeekdays 17 = .ok (.if_icmp .ne 22, 3) := by decide +kernel
theorem dX5_rightWeekdays_20 : decode cX5_rightWeekdays 20 = .ok (.aload_n 0, 1) := by decide +kernel
theorem dX5_rightWeekdays_21 : decode cX5_rightWeekdays 21 = .ok (.getfield 63, 3) := by decide +kernel
theorem dX5_rightWeekdays_24 : decode cX5_rightWeekdays 24 = .ok (.ifCond .ne 15, 3) := by decide +kernel
theorem dX5_rightWeekdays_27 : decode cX5_rightWeekdays 27 = .ok (.iconst 1, 1) := by decide +kernel
theorem dX5_rightWeekdays_28 : decode cX5_rightWeekdays 28 = .ok (.aload_n 0, 1) := by decide +kernel
theorem dX5_rightWeekdays_29 : decode cX5_rightWeekdays 29 = .ok (.getfield 28, 3) := by decide +kernel
theorem dX5_rightWeekdays_32 : decode cX5_rightWeekdays 32 = .ok (.invokestatic 102, 3) := by decide +kernel
theorem dX5_rightWeekdays_35 : decode cX5_rightWeekdays 35 = .ok (.ishl, 1) := by decide +kernel
theorem dX5_rightWeekdays_36 : decode cX5_rightWeekdays 36 = .ok (.goto 5, 3) := by decide +kernel
theorem dX5_rightWeekdays_39 : decode cX5_rightWeekdays 39 = .ok (.bipush 127, 2) := by decide +kernel
theorem dX5_rightWeekdays_41 : decode cX5_rightWeekdays 41 = .ok (.ireturn, 1) := by decide +kernel
theorem dX5_takeSpan_0 : decode cX5_takeSpan 0 = .ok (.aload_n 0, 1) := by decide +kernel
theorem dX5_takeSpan_1 : decode cX5_takeSpan 1 = .ok (.getfield 66, 3) := by decide +kernel
theorem dX5_takeSpan_4 : decode cX5_takeSpan 4 = .ok (.ifCond .eq 15, 3) := by decide +kernel
theorem dX5_takeSpan_7 : decode cX5_takeSpan 7 = .ok (.aload_n 0, 1) := by decide +kernel
theorem dX5_takeSpan_8 : decode cX5_takeSpan 8 = .ok (.aload_n 0, 1) := by decide +kernel
theorem dX5_takeSpan_9 : decode cX5_takeSpan 9 = .ok (.aload_n 1, 1) := by decide +kernel
theorem dX5_takeSpan_10 : decode cX5_takeSpan 10 = .ok (.iload_n 2, 1) := by decide +kernel
theorem dX5_takeSpan_11 : decode cX5_takeSpan 11 = .ok (.iload_n 3, 1) := by decide +kernel
theorem dX5_takeSpan_12 : decode cX5_takeSpan 12 = .ok (.invokevirtual 147, 3) := by decide +kernel
theorem dX5_takeSpan_15 : decode cX5_takeSpan 15 = .ok (.invokevirtual 151, 3) := by decide +kernel
theorem dX5_takeSpan_18 : decode cX5_takeSpan 18 = .ok (.return_, 1) := by decide +kernel
theorem dX5_takeSpan_19 : decode cX5_takeSpan 19 = .ok (.iload_n 2, 1) := by decide +kernel
theorem dX5_takeSpan_20 : decode cX5_takeSpan 20 = .ok (.istore 4, 2) := by decide +kernel
theorem dX5_takeSpan_22 : decode cX5_takeSpan 22 = .ok (.iload 4, 2) := by decide +kernel
theorem dX5_takeSpan_24 : decode cX5_takeSpan 24 = .ok (.iload_n 3, 1) := by decide +kernel
theorem dX5_takeSpan_25 : decode cX5_takeSpan 25 = .ok (.if_icmp .gt 24, 3) := by decide +kernel
theorem dX5_takeSpan_28 : decode cX5_takeSpan 28 = .ok (.aload_n 1, 1) := by decide +kernel
theorem dX5_takeSpan_29 : decode cX5_takeSpan 29 = .ok (.iload 4, 2) := by decide +kernel
theorem dX5_takeSpan_31 : decode cX5_takeSpan 31 = .ok (.invokevirtual 155, 3) := by decide +kernel
theorem dX5_takeSpan_34 : decode cX5_takeSpan 34 = .ok (.ifCond .le 9, 3) := by decide +kernel
theorem dX5_takeSpan_37 : decode cX5_takeSpan 37 = .ok (.aload_n 0, 1) := by decide +kernel
theorem dX5_takeSpan_38 : decode cX5_takeSpan 38 = .ok (.iload 4, 2) := by decide +kernel
theorem dX5_takeSpan_40 : decode cX5_takeSpan 40 = .ok (.invokevirtual 151, 3) := by decide +kernel
theorem dX5_takeSpan_43 : decode cX5_takeSpan 43 = .ok (.iinc 4 1, 3) := by decide +kernel
theorem dX5_takeSpan_46 : decode cX5_takeSpan 46 = .ok (.goto (-24), 3) := by decide +kernel
theorem dX5_takeSpan_49 : decode cX5_takeSpan 49 = .ok (.return_, 1) := by decide +kernel
theorem dX5_chosen_0 : decode cX5_chosen 0 = .ok (.aload_n 0, 1) := by decide +kernel
theorem dX5_chosen_1 : decode cX5_chosen 1 = .ok (.getfield 66, 3) := by decide +kernel
theorem dX5_chosen_4 : decode cX5_chosen 4 = .ok (.invokestatic 158, 3) := by decide +kernel
theorem dX5_chosen_7 : decode cX5_chosen 7 = .ok (.istore 4, 2) := by decide +kernel
theorem dX5_chosen_9 : decode cX5_chosen 9 = .ok (.iconst 0, 1) := by decide +kernel
theorem dX5_chosen_10 : decode cX5_chosen 10 = .ok (.istore 5, 2) := by decide +kernel
theorem dX5_chosen_12 : decode cX5_chosen 12 = .ok (.iload 5, 2) := by decide +kernel
theorem dX5_chosen_14 : decode cX5_chosen 14 = .ok (.iload_n 3, 1) := by decide +kernel
theorem dX5_chosen_15 : decode cX5_chosen 15 = .ok (.iload_n 2, 1) := by decide +kernel
theorem dX5_chosen_16 : decode cX5_chosen 16 = .ok (.isub, 1) := by decide +kernel
theorem dX5_chosen_17 : decode cX5_chosen 17 = .ok (.if_icmp .gt 49, 3) := by decide +kernel
theorem dX5_chosen_20 : decode cX5_chosen 20 = .ok (.aload_n 0, 1) := by decide +kernel
theorem dX5_chosen_21 : decode cX5_chosen 21 = .ok (.getfield 66, 3) := by decide +kernel
theorem dX5_chosen_24 : decode cX5_chosen 24 = .ok (.ifCond .le 10, 3) := by decide +kernel
theorem dX5_chosen_27 : decode cX5_chosen 27 = .ok (.iload_n 2, 1) := by decide +kernel
theorem dX5_chosen_28 : decode cX5_chosen 28 = .ok (.iload 5, 2) := by decide +kernel
theorem dX5_chosen_30 : decode cX5_chosen 30 = .ok (.iadd, 1) := by decide +kernel
theorem dX5_chosen_31 : decode cX5_chosen 31 = .ok (.goto 7, 3) := by decide +kernel
theorem dX5_chosen_34 : decode cX5_chosen 34 = .ok (.iload_n 3, 1) := by decide +kernel
theorem dX5_chosen_35 : decode cX5_chosen 35 = .ok (.iload 5, 2) := by decide +kernel
theorem dX5_chosen_37 : decode cX5_chosen 37 = .ok (.isub, 1) := by decide +kernel
theorem dX5_chosen_38 : decode cX5_chosen 38 = .ok (.istore 6, 2) := by decide +kernel
theorem dX5_chosen_40 : decode cX5_chosen 40 = .ok (.aload_n 1, 1) := by decide +kernel
theorem dX5_chosen_41 : decode cX5_chosen 41 = .ok (.iload 6, 2) := by decide +kernel
theorem dX5_chosen_43 : decode cX5_chosen 43 = .ok (.invokevirtual 155, 3) := by decide +kernel
theorem dX5_chosen_46 : decode cX5_chosen 46 = .ok (.ifCond .le 14, 3) := by decide +kernel
theorem dX5_chosen_49 : decode cX5_chosen 49 = .ok (.iinc 4 (-1), 3) := by decide +kernel
theorem dX5_chosen_52 : decode cX5_chosen 52 = .ok (.iload 4, 2) := by decide +kernel
theorem dX5_chosen_54 : decode cX5_chosen 54 = .ok (.ifCond .ne 6, 3) := by decide +kernel
theorem dX5_chosen_57 : decode cX5_chosen 57 = .ok (.iload 6, 2) := by decide +kernel
theorem dX5_chosen_59 : decode cX5_chosen 59 = .ok (.ireturn, 1) := by decide +kernel
theorem dX5_chosen_60 : decode cX5_chosen 60 = .ok (.iinc 5 1, 3) := by decide +kernel
theorem dX5_chosen_63 : decode cX5_chosen 63 = .ok (.goto (-51), 3) := by decide +kernel
theorem dX5_chosen_66 : decode cX5_chosen 66 = .ok (.iconst (-1), 1) := by decide +kernel
theorem dX5_chosen_67 : decode cX5_chosen 67 = .ok (.ireturn, 1) := by decide +kernel
theorem dX5_takeDay_0 : decode cX5_takeDay 0 = .ok (.aload_n 0, 1) := by decide +kernel
theorem dX5_takeDay_1 : decode cX5_takeDay 1 = .ok (.getfield 69, 3) := by decide +kernel
theorem dX5_takeDay_4 : decode cX5_takeDay 4 = .ok (.ifCond .eq 18, 3) := by decide +kernel
theorem dX5_takeDay_7 : decode cX5_takeDay 7 = .ok (.aload_n 0, 1) := by decide +kernel
theorem dX5_takeDay_8 : decode cX5_takeDay 8 = .ok (.getfield 88, 3) := by decide +kernel
theorem dX5_takeDay_11 : decode cX5_takeDay 11 = .ok (.aload_n 0, 1) := by decide +kernel
theorem dX5_takeDay_12 : decode cX5_takeDay 12 = .ok (.getfield 69, 3) := by decide +kernel
theorem dX5_takeDay_15 : decode cX5_takeDay 15 = .ok (.if_icmp .lt 7, 3) := by decide +kernel
theorem dX5_takeDay_18 : decode cX5_takeDay 18 = .ok (.iconst 1, 1) := by decide +kernel
theorem dX5_takeDay_19 : decode cX5_takeDay 19 = .ok (.goto 4, 3) := by decide +kernel
theorem dX5_takeDay_22 : decode cX5_takeDay 22 = .ok (.iconst 0, 1) := by decide +kernel
theorem dX5_takeDay_23 : decode cX5_takeDay 23 = .ok (.istore_n 2, 1) := by decide +kernel
theorem dX5_takeDay_24 : decode cX5_takeDay 24 = .ok (.iload_n 1, 1) := by decide +kernel
theorem dX5_takeDay_25 : decode cX5_takeDay 25 = .ok (.aload_n 0, 1) := by decide +kernel
theorem dX5_takeDay_26 : decode cX5_takeDay 26 = .ok (.getfield 28, 3) := by decide +kernel
theorem dX5_takeDay_29 : decode cX5_takeDay 29 = .ok (.if_icmp .lt 15, 3) := by decide +kernel
theorem dX5_takeDay_32 : decode cX5_takeDay 32 = .ok (.iload_n 1, 1) := by decide +kernel
theorem dX5_takeDay_33 : decode cX5_takeDay 33 = .ok (.aload_n 0, 1) := by decide +kernel
theorem dX5_takeDay_34 : decode cX5_takeDay 34 = .ok (.getfield 72, 3) := by decide +kernel
theorem dX5_takeDay_37 : decode cX5_takeDay 37 = .ok (.if_icmp .gt 7, 3) := by decide +kernel
theorem dX5_takeDay_40 : decode cX5_takeDay 40 = .ok (.iload_n 2, 1) := by decide +kernel
theorem dX5_takeDay_41 : decode cX5_takeDay 41 = .ok (.ifCond .eq 4, 3) := by decide +kernel
theorem dX5_takeDay_44 : decode cX5_takeDay 44 = .ok (.return_, 1) := by decide +kernel
theorem dX5_takeDay_45 : decode cX5_takeDay 45 = .ok (.aload_n 0, 1) := by decide +kernel
theorem dX5_takeDay_46 : decode cX5_takeDay 46 = .ok (.dup, 1) := by decide +kernel
theorem dX5_takeDay_47 : decode cX5_takeDay 47 = .ok (.getfield 88, 3) := by decide +kernel
theorem dX5_takeDay_50 : decode cX5_takeDay 50 = .ok (.iconst 1, 1) := by decide +kernel
theorem dX5_takeDay_51 : decode cX5_takeDay 51 = .ok (.iadd, 1) := by decide +kernel
theorem dX5_takeDay_52 : decode cX5_takeDay 52 = .ok (.putfield 88, 3) := by decide +kernel
theorem dX5_takeDay_55 : decode cX5_takeDay 55 = .ok (.aload_n 0, 1) := by decide +kernel
theorem dX5_takeDay_56 : decode cX5_takeDay 56 = .ok (.getfield 85, 3) := by decide +kernel
theorem dX5_takeDay_59 : decode cX5_takeDay 59 = .ok (.istore_n 3, 1) := by decide +kernel
theorem dX5_takeDay_60 : decode cX5_takeDay 60 = .ok (.aload_n 0, 1) := by decide +kernel
theorem dX5_takeDay_61 : decode cX5_takeDay 61 = .ok (.iload_n 1, 1) := by decide +kernel
theorem dX5_takeDay_62 : decode cX5_takeDay 62 = .ok (.invokevirtual 161, 3) := by decide +kernel
theorem dX5_takeDay_65 : decode cX5_takeDay 65 = .ok (.ifCond .ne 30, 3) := by decide +kernel
theorem dX5_takeDay_68 : decode cX5_takeDay 68 = .ok (.iload_n 3, 1) := by decide +kernel
theorem dX5_takeDay_69 : decode cX5_takeDay 69 = .ok (.ifCond .lt 26, 3) := by decide +kernel
theorem dX5_takeDay_72 : decode cX5_takeDay 72 = .ok (.iload_n 3, 1) := by decide +kernel
theorem dX5_takeDay_73 : decode cX5_takeDay 73 = .ok (.aload_n 0, 1) := by decide +kernel
theorem dX5_takeDay_74 : decode cX5_takeDay 74 = .ok (.getfield 82, 3) := by decide +kernel
theorem dX5_takeDay_77 : decode cX5_takeDay 77 = .ok (.arraylength, 1) := by decide +kernel
theorem dX5_takeDay_78 : decode cX5_takeDay 78 = .ok (.if_icmp .ge 17, 3) := by decide +kernel
theorem dX5_takeDay_81 : decode cX5_takeDay 81 = .ok (.aload_n 0, 1) := by decide +kernel
theorem dX5_takeDay_82 : decode cX5_takeDay 82 = .ok (.getfield 82, 3) := by decide +kernel
theorem dX5_takeDay_85 : decode cX5_takeDay 85 = .ok (.iload_n 3, 1) := by decide +kernel
theorem dX5_takeDay_86 : decode cX5_takeDay 86 = .ok (.iload_n 1, 1) := by decide +kernel
theorem dX5_takeDay_87 : decode cX5_takeDay 87 = .ok (.iastore, 1) := by decide +kernel
theorem dX5_takeDay_88 : decode cX5_takeDay 88 = .ok (.aload_n 0, 1) := by decide +kernel
theorem dX5_takeDay_89 : decode cX5_takeDay 89 = .ok (.iload_n 3, 1) := by decide +kernel
theorem dX5_takeDay_90 : decode cX5_takeDay 90 = .ok (.iconst 1, 1) := by decide +kernel
theorem dX5_takeDay_91 : decode cX5_takeDay 91 = .ok (.iadd, 1) := by decide +kernel
theorem dX5_takeDay_92 : decode cX5_takeDay 92 = .ok (.putfield 85, 3) := by decide +kernel
theorem dX5_takeDay_95 : decode cX5_takeDay 95 = .ok (.return_, 1) := by decide +kernel
theorem dX5_isException_0 : decode cX5_isException 0 = .ok (.iconst 0, 1) := by decide +kernel
theorem dX5_isException_1 : decode cX5_isException 1 = .ok (.istore_n 2, 1) := by decide +kernel
theorem dX5_isException_2 : decode cX5_isException 2 = .ok (.iload_n 2, 1) := by decide +kernel
theorem dX5_isException_3 : decode cX5_isException 3 = .ok (.aload_n 0, 1) := by decide +kernel
theorem dX5_isException_4 : decode cX5_isException 4 = .ok (.getfield 79, 3) := by decide +kernel
theorem dX5_isException_7 : decode cX5_isException 7 = .ok (.if_icmp .ge 30, 3) := by decide +kernel
theorem dX5_isException_10 : decode cX5_isException 10 = .ok (.iload_n 2, 1) := by decide +kernel
theorem dX5_isException_11 : decode cX5_isException 11 = .ok (.aload_n 0, 1) := by decide +kernel
theorem dX5_isException_12 : decode cX5_isException 12 = .ok (.getfield 75, 3) := by decide +kernel
theorem dX5_isException_15 : decode cX5_isException 15 = .ok (.arraylength, 1) := by decide +kernel
theorem dX5_isException_16 : decode cX5_isException 16 = .ok (.if_icmp .ge 21, 3) := by decide +kernel
theorem dX5_isException_19 : decode cX5_isException 19 = .ok (.aload_n 0, 1) := by decide +kernel
theorem dX5_isException_20 : decode cX5_isException 20 = .ok (.getfield 75, 3) := by decide +kernel
theorem dX5_isException_23 : decode cX5_isException 23 = .ok (.iload_n 2, 1) := by decide +kernel
theorem dX5_isException_24 : decode cX5_isException 24 = .ok (.iaload, 1) := by decide +kernel
theorem dX5_isException_25 : decode cX5_isException 25 = .ok (.iload_n 1, 1) := by decide +kernel
theorem dX5_isException_26 : decode cX5_isException 26 = .ok (.if_icmp .ne 5, 3) := by decide +kernel
theorem dX5_isException_29 : decode cX5_isException 29 = .ok (.iconst 1, 1) := by decide +kernel
theorem dX5_isException_30 : decode cX5_isException 30 = .ok (.ireturn, 1) := by decide +kernel
theorem dX5_isException_31 : decode cX5_isException 31 = .ok (.iinc 2 1, 3) := by decide +kernel
theorem dX5_isException_34 : decode cX5_isException 34 = .ok (.goto (-32), 3) := by decide +kernel
theorem dX5_isException_37 : decode cX5_isException 37 = .ok (.iconst 0, 1) := by decide +kernel
theorem dX5_isException_38 : decode cX5_isException 38 = .ok (.ireturn, 1) := by decide +kernel
theorem dX5_date_0 : decode cX5_date 0 = .ok (.iload_n 1, 1) := by decide +kernel
theorem dX5_date_1 : decode cX5_date 1 = .ok (.ifCond .lt 20, 3) := by decide +kernel
theorem dX5_date_4 : decode cX5_date 4 = .ok (.iload_n 1, 1) := by decide +kernel
theorem dX5_date_5 : decode cX5_date 5 = .ok (.aload_n 0, 1) := by decide +kernel
theorem dX5_date_6 : decode cX5_date 6 = .ok (.getfield 85, 3) := by decide +kernel
theorem dX5_date_9 : decode cX5_date 9 = .ok (.if_icmp .ge 12, 3) := by decide +kernel
theorem dX5_date_12 : decode cX5_date 12 = .ok (.iload_n 1, 1) := by decide +kernel
theorem dX5_date_13 : decode cX5_date 13 = .ok (.aload_n 0, 1) := by decide +kernel
theorem dX5_date_14 : decode cX5_date 14 = .ok (.getfield 82, 3) := by decide +kernel
theorem dX5_date_17 : decode cX5_date 17 = .ok (.arraylength, 1) := by decide +kernel
theorem dX5_date_18 : decode cX5_date 18 = .ok (.if_icmp .lt 7, 3) := by decide +kernel
theorem dX5_date_21 : decode cX5_date 21 = .ok (.iconst (-1), 1) := by decide +kernel
theorem dX5_date_22 : decode cX5_date 22 = .ok (.goto 9, 3) := by decide +kernel
theorem dX5_date_25 : decode cX5_date 25 = .ok (.aload_n 0, 1) := by decide +kernel
theorem dX5_date_26 : decode cX5_date 26 = .ok (.getfield 82, 3) := by decide +kernel
theorem dX5_date_29 : decode cX5_date 29 = .ok (.iload_n 1, 1) := by decide +kernel
theorem dX5_date_30 : decode cX5_date 30 = .ok (.iaload, 1) := by decide +kernel
theorem dX5_date_31 : decode cX5_date 31 = .ok (.ireturn, 1) := by decide +kernel
theorem dX5_firstFrom_0 : decode cX5_firstFrom 0 = .ok (.iconst 0, 1) := by decide +kernel
theorem dX5_firstFrom_1 : decode cX5_firstFrom 1 = .ok (.istore_n 2, 1) := by decide +kernel
theorem dX5_firstFrom_2 : decode cX5_firstFrom 2 = .ok (.iload_n 2, 1) := by decide +kernel
theorem dX5_firstFrom_3 : decode cX5_firstFrom 3 = .ok (.aload_n 0, 1) := by decide +kernel
theorem dX5_firstFrom_4 : decode cX5_firstFrom 4 = .ok (.getfield 85, 3) := by decide +kernel
theorem dX5_firstFrom_7 : decode cX5_firstFrom 7 = .ok (.if_icmp .ge 20, 3) := by decide +kernel
theorem dX5_firstFrom_10 : decode cX5_firstFrom 10 = .ok (.aload_n 0, 1) := by decide +kernel
theorem dX5_firstFrom_11 : decode cX5_firstFrom 11 = .ok (.iload_n 2, 1) := by decide +kernel
theorem dX5_firstFrom_12 : decode cX5_firstFrom 12 = .ok (.invokevirtual 165, 3) := by decide +kernel
theorem dX5_firstFrom_15 : decode cX5_firstFrom 15 = .ok (.iload_n 1, 1) := by decide +kernel
theorem dX5_firstFrom_16 : decode cX5_firstFrom 16 = .ok (.if_icmp .lt 5, 3) := by decide +kernel
theorem dX5_firstFrom_19 : decode cX5_firstFrom 19 = .ok (.iload_n 2, 1) := by decide +kernel
theorem dX5_firstFrom_20 : decode cX5_firstFrom 20 = .ok (.ireturn, 1) := by decide +kernel
theorem dX5_firstFrom_21 : decode cX5_firstFrom 21 = .ok (.iinc 2 1, 3) := by decide +kernel
theorem dX5_firstFrom_24 : decode cX5_firstFrom 24 = .ok (.goto (-22), 3) := by decide +kernel
theorem dX5_firstFrom_27 : decode cX5_firstFrom 27 = .ok (.iconst (-1), 1) := by decide +kernel
theorem dX5_firstFrom_28 : decode cX5_firstFrom 28 = .ok (.ireturn, 1) := by decide +kernel
theorem dX5_momentOfDate_0 : decode cX5_momentOfDate 0 = .ok (.aload_n 0, 1) := by decide +kernel
theorem dX5_momentOfDate_1 : decode cX5_momentOfDate 1 = .ok (.getfield 11, 3) := by decide +kernel
theorem dX5_momentOfDate_4 : decode cX5_momentOfDate 4 = .ok (.sipush 1440, 3) := by decide +kernel
theorem dX5_momentOfDate_7 : decode cX5_momentOfDate 7 = .ok (.aload_n 0, 1) := by decide +kernel
theorem dX5_momentOfDate_8 : decode cX5_momentOfDate 8 = .ok (.iload_n 1, 1) := by decide +kernel
theorem dX5_momentOfDate_9 : decode cX5_momentOfDate 9 = .ok (.invokevirtual 165, 3) := by decide +kernel
theorem dX5_momentOfDate_12 : decode cX5_momentOfDate 12 = .ok (.imul, 1) := by decide +kernel
theorem dX5_momentOfDate_13 : decode cX5_momentOfDate 13 = .ok (.aload_n 0, 1) := by decide +kernel
theorem dX5_momentOfDate_14 : decode cX5_momentOfDate 14 = .ok (.getfield 15, 3) := by decide +kernel
theorem dX5_momentOfDate_17 : decode cX5_momentOfDate 17 = .ok (.sipush 1440, 3) := by decide +kernel
theorem dX5_momentOfDate_20 : decode cX5_momentOfDate 20 = .ok (.irem, 1) := by decide +kernel
theorem dX5_momentOfDate_21 : decode cX5_momentOfDate 21 = .ok (.iadd, 1) := by decide +kernel
theorem dX5_momentOfDate_22 : decode cX5_momentOfDate 22 = .ok (.invokevirtual 168, 3) := by decide +kernel
theorem dX5_momentOfDate_25 : decode cX5_momentOfDate 25 = .ok (.ireturn, 1) := by decide +kernel
theorem dX5_countShared_0 : decode cX5_countShared 0 = .ok (.iconst 0, 1) := by decide +kernel
theorem dX5_countShared_1 : decode cX5_countShared 1 = .ok (.istore_n 2, 1) := by decide +kernel
theorem dX5_countShared_2 : decode cX5_countShared 2 = .ok (.iconst 0, 1) := by decide +kernel
theorem dX5_countShared_3 : decode cX5_countShared 3 = .ok (.istore_n 3, 1) := by decide +kernel
theorem dX5_countShared_4 : decode cX5_countShared 4 = .ok (.iconst 0, 1) := by decide +kernel
theorem dX5_countShared_5 : decode cX5_countShared 5 = .ok (.istore 4, 2) := by decide +kernel
theorem dX5_countShared_7 : decode cX5_countShared 7 = .ok (.iload 4, 2) := by decide +kernel
theorem dX5_countShared_9 : decode cX5_countShared 9 = .ok (.aload_n 0, 1) := by decide +kernel
theorem dX5_countShared_10 : decode cX5_countShared 10 = .ok (.getfield 85, 3) := by decide +kernel
theorem dX5_countShared_13 : decode cX5_countShared 13 = .ok (.if_icmp .ge 54, 3) := by decide +kernel
theorem dX5_countShared_16 : decode cX5_countShared 16 = .ok (.aload_n 0, 1) := by decide +kernel
theorem dX5_countShared_17 : decode cX5_countShared 17 = .ok (.iload 4, 2) := by decide +kernel
theorem dX5_countShared_19 : decode cX5_countShared 19 = .ok (.invokevirtual 165, 3) := by decide +kernel
theorem dX5_countShared_22 : decode cX5_countShared 22 = .ok (.istore 5, 2) := by decide +kernel
theorem dX5_countShared_24 : decode cX5_countShared 24 = .ok (.iload_n 3, 1) := by decide +kernel
theorem dX5_countShared_25 : decode cX5_countShared 25 = .ok (.aload_n 1, 1) := by decide +kernel
theorem dX5_countShared_26 : decode cX5_countShared 26 = .ok (.getfield 85, 3) := by decide +kernel
theorem dX5_countShared_29 : decode cX5_countShared 29 = .ok (.if_icmp .ge 19, 3) := by decide +kernel
theorem dX5_countShared_32 : decode cX5_countShared 32 = .ok (.aload_n 1, 1) := by decide +kernel
theorem dX5_countShared_33 : decode cX5_countShared 33 = .ok (.iload_n 3, 1) := by decide +kernel
theorem dX5_countShared_34 : decode cX5_countShared 34 = .ok (.invokevirtual 165, 3) := by decide +kernel
theorem dX5_countShared_37 : decode cX5_countShared 37 = .ok (.iload 5, 2) := by decide +kernel
theorem dX5_countShared_39 : decode cX5_countShared 39 = .ok (.if_icmp .ge 9, 3) := by decide +kernel
theorem dX5_countShared_42 : decode cX5_countShared 42 = .ok (.iinc 3 1, 3) := by decide +kernel
theorem dX5_countShared_45 : decode cX5_countShared 45 = .ok (.goto (-21), 3) := by decide +kernel
theorem dX5_countShared_48 : decode cX5_countShared 48 = .ok (.aload_n 1, 1) := by decide +kernel
theorem dX5_countShared_49 : decode cX5_countShared 49 = .ok (.iload_n 3, 1) := by decide +kernel
theorem dX5_countShared_50 : decode cX5_countShared 50 = .ok (.invokevirtual 165, 3) := by decide +kernel
theorem dX5_countShared_53 : decode cX5_countShared 53 = .ok (.iload 5, 2) := by decide +kernel
theorem dX5_countShared_55 : decode cX5_countShared 55 = .ok (.if_icmp .ne 6, 3) := by decide +kernel
theorem dX5_countShared_58 : decode cX5_countShared 58 = .ok (.iinc 2 1, 3) := by decide +kernel
theorem dX5_countShared_61 : decode cX5_countShared 61 = .ok (.iinc 4 1, 3) := by decide +kernel
theorem dX5_countShared_64 : decode cX5_countShared 64 = .ok (.goto (-57), 3) := by decide +kernel
theorem dX5_countShared_67 : decode cX5_countShared 67 = .ok (.iload_n 2, 1) := by decide +kernel
theorem dX5_countShared_68 : decode cX5_countShared 68 = .ok (.ireturn, 1) := by decide +kernel
theorem dX5_greatestGap_0 : decode cX5_greatestGap 0 = .ok (.iconst 0, 1) := by decide +kernel
theorem dX5_greatestGap_1 : decode cX5_greatestGap 1 = .ok (.istore_n 1, 1) := by decide +kernel
theorem dX5_greatestGap_2 : decode cX5_greatestGap 2 = .ok (.iconst 1, 1) := by decide +kernel
theorem dX5_greatestGap_3 : decode cX5_greatestGap 3 = .ok (.istore_n 2, 1) := by decide +kernel
theorem dX5_greatestGap_4 : decode cX5_greatestGap 4 = .ok (.iload_n 2, 1) := by decide +kernel
theorem dX5_greatestGap_5 : decode cX5_greatestGap 5 = .ok (.aload_n 0, 1) := by decide +kernel
theorem dX5_greatestGap_6 : decode cX5_greatestGap 6 = .ok (.getfield 85, 3) := by decide +kernel
theorem dX5_greatestGap_9 : decode cX5_greatestGap 9 = .ok (.if_icmp .ge 27, 3) := by decide +kernel
theorem dX5_greatestGap_12 : decode cX5_greatestGap 12 = .ok (.iload_n 1, 1) := by decide +kernel
theorem dX5_greatestGap_13 : decode cX5_greatestGap 13 = .ok (.aload_n 0, 1) := by decide +kernel
theorem dX5_greatestGap_14 : decode cX5_greatestGap 14 = .ok (.iload_n 2, 1) := by decide +kernel
theorem dX5_greatestGap_15 : decode cX5_greatestGap 15 = .ok (.invokevirtual 165, 3) := by decide +kernel
theorem dX5_greatestGap_18 : decode cX5_greatestGap 18 = .ok (.aload_n 0, 1) := by decide +kernel
theorem dX5_greatestGap_19 : decode cX5_greatestGap 19 = .ok (.iload_n 2, 1) := by decide +kernel
theorem dX5_greatestGap_20 : decode cX5_greatestGap 20 = .ok (.iconst 1, 1) := by decide +kernel
theorem dX5_greatestGap_21 : decode cX5_greatestGap 21 = .ok (.isub, 1) := by decide +kernel
theorem dX5_greatestGap_22 : decode cX5_greatestGap 22 = .ok (.invokevirtual 165, 3) := by decide +kernel
theorem dX5_greatestGap_25 : decode cX5_greatestGap 25 = .ok (.isub, 1) := by decide +kernel
theorem dX5_greatestGap_26 : decode cX5_greatestGap 26 = .ok (.invokestatic 173, 3) := by decide +kernel
theorem dX5_greatestGap_29 : decode cX5_greatestGap 29 = .ok (.istore_n 1, 1) := by decide +kernel
theorem dX5_greatestGap_30 : decode cX5_greatestGap 30 = .ok (.iinc 2 1, 3) := by decide +kernel
theorem dX5_greatestGap_33 : decode cX5_greatestGap 33 = .ok (.goto (-29), 3) := by decide +kernel
theorem dX5_greatestGap_36 : decode cX5_greatestGap 36 = .ok (.iload_n 1, 1) := by decide +kernel
theorem dX5_greatestGap_37 : decode cX5_greatestGap 37 = .ok (.ireturn, 1) := by decide +kernel
theorem dX5_meanOfGaps_0 : decode cX5_meanOfGaps 0 = .ok (.aload_n 0, 1) := by decide +kernel
theorem dX5_meanOfGaps_1 : decode cX5_meanOfGaps 1 = .ok (.getfield 85, 3) := by decide +kernel
theorem dX5_meanOfGaps_4 : decode cX5_meanOfGaps 4 = .ok (.iconst 1, 1) := by decide +kernel
theorem dX5_meanOfGaps_5 : decode cX5_meanOfGaps 5 = .ok (.isub, 1) := by decide +kernel
theorem dX5_meanOfGaps_6 : decode cX5_meanOfGaps 6 = .ok (.istore_n 1, 1) := by decide +kernel
theorem dX5_meanOfGaps_7 : decode cX5_meanOfGaps 7 = .ok (.iload_n 1, 1) := by decide +kernel
theorem dX5_meanOfGaps_8 : decode cX5_meanOfGaps 8 = .ok (.iconst 1, 1) := by decide +kernel
theorem dX5_meanOfGaps_9 : decode cX5_meanOfGaps 9 = .ok (.if_icmp .ge 5, 3) := by decide +kernel
theorem dX5_meanOfGaps_12 : decode cX5_meanOfGaps 12 = .ok (.dconst 0, 1) := by decide +kernel
theorem dX5_meanOfGaps_13 : decode cX5_meanOfGaps 13 = .ok (.dreturn, 1) := by decide +kernel
theorem dX5_meanOfGaps_14 : decode cX5_meanOfGaps 14 = .ok (.aload_n 0, 1) := by decide +kernel
theorem dX5_meanOfGaps_15 : decode cX5_meanOfGaps 15 = .ok (.iload_n 1, 1) := by decide +kernel
theorem dX5_meanOfGaps_16 : decode cX5_meanOfGaps 16 = .ok (.invokevirtual 165, 3) := by decide +kernel
theorem dX5_meanOfGaps_19 : decode cX5_meanOfGaps 19 = .ok (.aload_n 0, 1) := by decide +kernel
theorem dX5_meanOfGaps_20 : decode cX5_meanOfGaps 20 = .ok (.iconst 0, 1) := by decide +kernel
theorem dX5_meanOfGaps_21 : decode cX5_meanOfGaps 21 = .ok (.invokevirtual 165, 3) := by decide +kernel
theorem dX5_meanOfGaps_24 : decode cX5_meanOfGaps 24 = .ok (.isub, 1) := by decide +kernel
theorem dX5_meanOfGaps_25 : decode cX5_meanOfGaps 25 = .ok (.i2d, 1) := by decide +kernel
theorem dX5_meanOfGaps_26 : decode cX5_meanOfGaps 26 = .ok (.iload_n 1, 1) := by decide +kernel
theorem dX5_meanOfGaps_27 : decode cX5_meanOfGaps 27 = .ok (.i2d, 1) := by decide +kernel
theorem dX5_meanOfGaps_28 : decode cX5_meanOfGaps 28 = .ok (.ddiv, 1) := by decide +kernel
theorem dX5_meanOfGaps_29 : decode cX5_meanOfGaps 29 = .ok (.dreturn, 1) := by decide +kernel
theorem dX6_init_0 : decode cX6_init 0 = .ok (.aload_n 0, 1) := by decide +kernel
theorem dX6_init_1 : decode cX6_init 1 = .ok (.invokespecial 3, 3) := by decide +kernel
theorem dX6_init_4 : decode cX6_init 4 = .ok (.aload_n 0, 1) := by decide +kernel
theorem dX6_init_5 : decode cX6_init 5 = .ok (.iload_n 1, 1) := by decide +kernel
theorem dX6_init_6 : decode cX6_init 6 = .ok (.putfield 9, 3) := by decide +kernel
theorem dX6_init_9 : decode cX6_init 9 = .ok (.aload_n 0, 1) := by decide +kernel
theorem dX6_init_10 : decode cX6_init 10 = .ok (.iload_n 2, 1) := by decide +kernel
theorem dX6_init_11 : decode cX6_init 11 = .ok (.putfield 15, 3) := by decide +kernel
theorem dX6_init_14 : decode cX6_init 14 = .ok (.aload_n 0, 1) := by decide +kernel
theorem dX6_init_15 : decode cX6_init 15 = .ok (.aload_n 3, 1) := by decide +kernel
theorem dX6_init_16 : decode cX6_init 16 = .ok (.putfield 18, 3) := by decide +kernel
theorem dX6_init_19 : decode cX6_init 19 = .ok (.aload_n 0, 1) := by decide +kernel
theorem dX6_init_20 : decode cX6_init 20 = .ok (.iload 4, 2) := by decide +kernel
theorem dX6_init_22 : decode cX6_init 22 = .ok (.putfield 22, 3) := by decide +kernel
theorem dX6_init_25 : decode cX6_init 25 = .ok (.aload_n 0, 1) := by decide +kernel
theorem dX6_init_26 : decode cX6_init 26 = .ok (.iload 5, 2) := by decide +kernel
theorem dX6_init_28 : decode cX6_init 28 = .ok (.putfield 25, 3) := by decide +kernel
theorem dX6_init_31 : decode cX6_init 31 = .ok (.aload_n 0, 1) := by decide +kernel
theorem dX6_init_32 : decode cX6_init 32 = .ok (.iload 6, 2) := by decide +kernel
theorem dX6_init_34 : decode cX6_init 34 = .ok (.putfield 28, 3) := by decide +kernel
theorem dX6_init_37 : decode cX6_init 37 = .ok (.return_, 1) := by decide +kernel
theorem dX6_toldIn_0 : decode cX6_toldIn 0 = .ok (.iload_n 1, 1) := by decide +kernel
theorem dX6_toldIn_1 : decode cX6_toldIn 1 = .ok (.aload_n 0, 1) := by decide +kernel
theorem dX6_toldIn_2 : decode cX6_toldIn 2 = .ok (.getfield 9, 3) := by decide +kernel
theorem dX6_toldIn_5 : decode cX6_toldIn 5 = .ok (.if_icmp .lt 11, 3) := by decide +kernel
theorem dX6_toldIn_8 : decode cX6_toldIn 8 = .ok (.iload_n 1, 1) := by decide +kernel
theorem dX6_toldIn_9 : decode cX6_toldIn 9 = .ok (.aload_n 0, 1) := by decide +kernel
theorem dX6_toldIn_10 : decode cX6_toldIn 10 = .ok (.getfield 15, 3) := by decide +kernel
theorem dX6_toldIn_13 : decode cX6_toldIn 13 = .ok (.if_icmp .le 5, 3) := by decide +kernel
theorem dX6_toldIn_16 : decode cX6_toldIn 16 = .ok (.iconst (-1), 1) := by decide +kernel
theorem dX6_toldIn_17 : decode cX6_toldIn 17 = .ok (.ireturn, 1) := by decide +kernel
theorem dX6_toldIn_18 : decode cX6_toldIn 18 = .ok (.iload_n 1, 1) := by decide +kernel
theorem dX6_toldIn_19 : decode cX6_toldIn 19 = .ok (.invokestatic 31, 3) := by decide +kernel
theorem dX6_toldIn_22 : decode cX6_toldIn 22 = .ok (.istore_n 2, 1) := by decide +kernel
theorem dX6_toldIn_23 : decode cX6_toldIn 23 = .ok (.iload_n 2, 1) := by decide +kernel
theorem dX6_toldIn_24 : decode cX6_toldIn 24 = .ok (.istore_n 3, 1) := by decide +kernel
theorem dX6_toldIn_25 : decode cX6_toldIn 25 = .ok (.iload_n 3, 1) := by decide +kernel
theorem dX6_toldIn_26 : decode cX6_toldIn 26 = .ok (.iload_n 2, 1) := by decide +kernel
theorem dX6_toldIn_27 : decode cX6_toldIn 27 = .ok (.bipush 12, 2) := by decide +kernel
theorem dX6_toldIn_29 : decode cX6_toldIn 29 = .ok (.iadd, 1) := by decide +kernel
theorem dX6_toldIn_30 : decode cX6_toldIn 30 = .ok (.if_icmp .ge 36, 3) := by decide +kernel
theorem dX6_toldIn_33 : decode cX6_toldIn 33 = .ok (.aload_n 0, 1) := by decide +kernel
theorem dX6_toldIn_34 : decode cX6_toldIn 34 = .ok (.getfield 18, 3) := by decide +kernel
theorem dX6_toldIn_37 : decode cX6_toldIn 37 = .ok (.iload_n 3, 1) := by decide +kernel
theorem dX6_toldIn_38 : decode cX6_toldIn 38 = .ok (.invokevirtual 37, 3) := by decide +kernel
theorem dX6_toldIn_41 : decode cX6_toldIn 41 = .ok (.istore 4, 2) := by decide +kernel
theorem dX6_toldIn_43 : decode cX6_toldIn 43 = .ok (.iload 4, 2) := by decide +kernel
theorem dX6_toldIn_45 : decode cX6_toldIn 45 = .ok (.ifCond .lt 15, 3) := by decide +kernel
theorem dX6_toldIn_48 : decode cX6_toldIn 48 = .ok (.sipush 1440, 3) := by decide +kernel
theorem dX6_toldIn_51 : decode cX6_toldIn 51 = .ok (.iload 4, 2) := by decide +kernel
theorem dX6_toldIn_53 : decode cX6_toldIn 53 = .ok (.imul, 1) := by decide +kernel
theorem dX6_toldIn_54 : decode cX6_toldIn 54 = .ok (.aload_n 0, 1) := by decide +kernel
theorem dX6_toldIn_55 : decode cX6_toldIn 55 = .ok (.getfield 22, 3) := by decide +kernel
theorem dX6_toldIn_58 : decode cX6_toldIn 58 = .ok (.iadd, 1) := by decide +kernel
theorem dX6_toldIn_59 : decode cX6_toldIn 59 = .ok (.ireturn, 1) := by decide +kernel
theorem dX6_toldIn_60 : decode cX6_toldIn 60 = .ok (.iinc 3 1, 3) := by decide +kernel
theorem dX6_toldIn_63 : decode cX6_toldIn 63 = .ok (.goto (-38), 3) := by decide +kernel
theorem dX6_toldIn_66 : decode cX6_toldIn 66 = .ok (.iconst (-1), 1) := by decide +kernel
theorem dX6_toldIn_67 : decode cX6_toldIn 67 = .ok (.ireturn, 1) := by decide +kernel
theorem dX6_momentOfTold_0 : decode cX6_momentOfTold 0 = .ok (.iload_n 1, 1) := by decide +kernel
theorem dX6_momentOfTold_1 : decode cX6_momentOfTold 1 = .ok (.istore 4, 2) := by decide +kernel
theorem dX6_momentOfTold_3 : decode cX6_momentOfTold 3 = .ok (.aload_n 0, 1) := by decide +kernel
theorem dX6_momentOfTold_4 : decode cX6_momentOfTold 4 = .ok (.getfield 25, 3) := by decide +kernel
theorem dX6_momentOfTold_7 : decode cX6_momentOfTold 7 = .ok (.iconst 2, 1) := by decide +kernel
theorem dX6_momentOfTold_8 : decode cX6_momentOfTold 8 = .ok (.if_icmp .eq 9, 3) := by decide +kernel
theorem dX6_momentOfTold_11 : decode cX6_momentOfTold 11 = .ok (.iload 4, 2) := by decide +kernel
theorem dX6_momentOfTold_13 : decode cX6_momentOfTold 13 = .ok (.iload_n 2, 1) := by decide +kernel
theorem dX6_momentOfTold_14 : decode cX6_momentOfTold 14 = .ok (.isub, 1) := by decide +kernel
theorem dX6_momentOfTold_15 : decode cX6_momentOfTold 15 = .ok (.istore 4, 2) := by decide +kernel
theorem dX6_momentOfTold_17 : decode cX6_momentOfTold 17 = .ok (.aload_n 0, 1) := by decide +kernel
theorem dX6_momentOfTold_18 : decode cX6_momentOfTold 18 = .ok (.getfield 25, 3) := by decide +kernel
theorem dX6_momentOfTold_21 : decode cX6_momentOfTold 21 = .ok (.ifCond .ne 9, 3) := by decide +kernel
theorem dX6_momentOfTold_24 : decode cX6_momentOfTold 24 = .ok (.iload 4, 2) := by decide +kernel
theorem dX6_momentOfTold_26 : decode cX6_momentOfTold 26 = .ok (.iload_n 3, 1) := by decide +kernel
theorem dX6_momentOfTold_27 : decode cX6_momentOfTold 27 = .ok (.isub, 1) := by decide +kernel
theorem dX6_momentOfTold_28 : decode cX6_momentOfTold 28 = .ok (.istore 4, 2) := by decide +kernel
theorem dX6_momentOfTold_30 : decode cX6_momentOfTold 30 = .ok (.iload 4, 2) := by decide +kernel
theorem dX6_momentOfTold_32 : decode cX6_momentOfTold 32 = .ok (.ireturn, 1) := by decide +kernel
theorem dX7_init_0 : decode cX7_init 0 = .ok (.aload_n 0, 1) := by decide +kernel
theorem dX7_init_1 : decode cX7_init 1 = .ok (.invokespecial 3, 3) := by decide +kernel
theorem dX7_init_4 : decode cX7_init 4 = .ok (.aload_n 0, 1) := by decide +kernel
theorem dX7_init_5 : decode cX7_init 5 = .ok (.iconst (-1), 1) := by decide +kernel
theorem dX7_init_6 : decode cX7_init 6 = .ok (.putfield 9, 3) := by decide +kernel
theorem dX7_init_9 : decode cX7_init 9 = .ok (.aload_n 0, 1) := by decide +kernel
theorem dX7_init_10 : decode cX7_init 10 = .ok (.new 15, 3) := by decide +kernel
theorem dX7_init_13 : decode cX7_init 13 = .ok (.dup, 1) := by decide +kernel
theorem dX7_init_14 : decode cX7_init 14 = .ok (.iconst 0, 1) := by decide +kernel
theorem dX7_init_15 : decode cX7_init 15 = .ok (.invokespecial 17, 3) := by decide +kernel
theorem dX7_init_18 : decode cX7_init 18 = .ok (.putfield 20, 3) := by decide +kernel
theorem dX7_init_21 : decode cX7_init 21 = .ok (.aload_n 0, 1) := by decide +kernel
theorem dX7_init_22 : decode cX7_init 22 = .ok (.bipush 31, 2) := by decide +kernel
theorem dX7_init_24 : decode cX7_init 24 = .ok (.putfield 24, 3) := by decide +kernel
theorem dX7_init_27 : decode cX7_init 27 = .ok (.aload_n 0, 1) := by decide +kernel
theorem dX7_init_28 : decode cX7_init 28 = .ok (.sipush 540, 3) := by decide +kernel
theorem dX7_init_31 : decode cX7_init 31 = .ok (.putfield 27, 3) := by decide +kernel
theorem dX7_init_34 : decode cX7_init 34 = .ok (.aload_n 0, 1) := by decide +kernel
theorem dX7_init_35 : decode cX7_init 35 = .ok (.sipush 1020, 3) := by decide +kernel
theorem dX7_init_38 : decode cX7_init 38 = .ok (.putfield 30, 3) := by decide +kernel
theorem dX7_init_41 : decode cX7_init 41 = .ok (.aload_n 0, 1) := by decide +kernel
theorem dX7_init_42 : decode cX7_init 42 = .ok (.bipush 20, 2) := by decide +kernel
theorem dX7_init_44 : decode cX7_init 44 = .ok (.anewarray 33, 3) := by decide +kernel
theorem dX7_init_47 : decode cX7_init 47 = .ok (.putfield 35, 3) := by decide +kernel
theorem dX7_init_50 : decode cX7_init 50 = .ok (.aload_n 0, 1) := by decide +kernel
theorem dX7_init_51 : decode cX7_init 51 = .ok (.iconst 0, 1) := by decide +kernel
theorem dX7_init_52 : decode cX7_init 52 = .ok (.putfield 39, 3) := by decide +kernel
theorem dX7_init_55 : decode cX7_init 55 = .ok (.aload_n 0, 1) := by decide +kernel
theorem dX7_init_56 : decode cX7_init 56 = .ok (.new 42, 3) := by decide +kernel
theorem dX7_init_59 : decode cX7_init 59 = .ok (.dup, 1) := by decide +kernel
theorem dX7_init_60 : decode cX7_init 60 = .ok (.sipush 1701, 3) := by decide +kernel
theorem dX7_init_63 : decode cX7_init 63 = .ok (.invokespecial 44, 3) := by decide +kernel
theorem dX7_init_66 : decode cX7_init 66 = .ok (.putfield 45, 3) := by decide +kernel
theorem dX7_init_69 : decode cX7_init 69 = .ok (.return_, 1) := by decide +kernel
theorem dX7_findFeasts_0 : decode cX7_findFeasts 0 = .ok (.aload_n 0, 1) := by decide +kernel
theorem dX7_findFeasts_1 : decode cX7_findFeasts 1 = .ok (.getfield 45, 3) := by decide +kernel
theorem dX7_findFeasts_4 : decode cX7_findFeasts 4 = .ok (.iconst 0, 1) := by decide +kernel
theorem dX7_findFeasts_5 : decode cX7_findFeasts 5 = .ok (.iload_n 1, 1) := by decide +kernel
theorem dX7_findFeasts_6 : decode cX7_findFeasts 6 = .ok (.bipush 60, 2) := by decide +kernel
theorem dX7_findFeasts_8 : decode cX7_findFeasts 8 = .ok (.aload_n 0, 1) := by decide +kernel
theorem dX7_findFeasts_9 : decode cX7_findFeasts 9 = .ok (.getfield 39, 3) := by decide +kernel
theorem dX7_findFeasts_12 : decode cX7_findFeasts 12 = .ok (.imul, 1) := by decide +kernel
theorem dX7_findFeasts_13 : decode cX7_findFeasts 13 = .ok (.isub, 1) := by decide +kernel
theorem dX7_findFeasts_14 : decode cX7_findFeasts 14 = .ok (.invokestatic 49, 3) := by decide +kernel
theorem dX7_findFeasts_17 : decode cX7_findFeasts 17 = .ok (.iload_n 2, 1) := by decide +kernel
theorem dX7_findFeasts_18 : decode cX7_findFeasts 18 = .ok (.ldc 55, 2) := by decide +kernel
theorem dX7_findFeasts_20 : decode cX7_findFeasts 20 = .ok (.invokestatic 56, 3) := by decide +kernel
theorem dX7_findFeasts_23 : decode cX7_findFeasts 23 = .ok (.invokevirtual 59, 3) := by decide +kernel
theorem dX7_findFeasts_26 : decode cX7_findFeasts 26 = .ok (.iconst 0, 1) := by decide +kernel
theorem dX7_findFeasts_27 : decode cX7_findFeasts 27 = .ok (.aload_n 0, 1) := by decide +kernel
theorem dX7_findFeasts_28 : decode cX7_findFeasts 28 = .ok (.getfield 45, 3) := by decide +kernel
theorem dX7_findFeasts_31 : decode cX7_findFeasts 31 = .ok (.invokevirtual 63, 3) := by decide +kernel
theorem dX7_findFeasts_34 : decode cX7_findFeasts 34 = .ok (.bipush 60, 2) := by decide +kernel
theorem dX7_findFeasts_36 : decode cX7_findFeasts 36 = .ok (.isub, 1) := by decide +kernel
theorem dX7_findFeasts_37 : decode cX7_findFeasts 37 = .ok (.invokestatic 49, 3) := by decide +kernel
theorem dX7_findFeasts_40 : decode cX7_findFeasts 40 = .ok (.invokestatic 67, 3) := by decide +kernel
theorem dX7_findFeasts_43 : decode cX7_findFeasts 43 = .ok (.istore_n 3, 1) := by decide +kernel
theorem dX7_findFeasts_44 : decode cX7_findFeasts 44 = .ok (.iconst 0, 1) := by decide +kernel
theorem dX7_findFeasts_45 : decode cX7_findFeasts 45 = .ok (.aload_n 0, 1) := by decide +kernel
theorem dX7_findFeasts_46 : decode cX7_findFeasts 46 = .ok (.getfield 45, 3) := by decide +kernel
theorem dX7_findFeasts_49 : decode cX7_findFeasts 49 = .ok (.invokevirtual 73, 3) := by decide +kernel
theorem dX7_findFeasts_52 : decode cX7_findFeasts 52 = .ok (.bipush 60, 2) := by decide +kernel
theorem dX7_findFeasts_54 : decode cX7_findFeasts 54 = .ok (.iadd, 1) := by decide +kernel
theorem dX7_findFeasts_55 : decode cX7_findFeasts 55 = .ok (.ldc 55, 2) := by decide +kernel
theorem dX7_findFeasts_57 : decode cX7_findFeasts 57 = .ok (.invokestatic 56, 3) := by decide +kernel
theorem dX7_findFeasts_60 : decode cX7_findFeasts 60 = .ok (.invokestatic 49, 3) := by decide +kernel
theorem dX7_findFeasts_63 : decode cX7_findFeasts 63 = .ok (.invokestatic 67, 3) := by decide +kernel
theorem dX7_findFeasts_66 : decode cX7_findFeasts 66 = .ok (.istore 4, 2) := by decide +kernel
theorem dX7_findFeasts_68 : decode cX7_findFeasts 68 = .ok (.iconst 0, 1) := by decide +kernel
theorem dX7_findFeasts_69 : decode cX7_findFeasts 69 = .ok (.istore 5, 2) := by decide +kernel
theorem dX7_findFeasts_71 : decode cX7_findFeasts 71 = .ok (.iload 5, 2) := by decide +kernel
theorem dX7_findFeasts_73 : decode cX7_findFeasts 73 = .ok (.aload_n 0, 1) := by decide +kernel
theorem dX7_findFeasts_74 : decode cX7_findFeasts 74 = .ok (.getfield 39, 3) := by decide +kernel
theorem dX7_findFeasts_77 : decode cX7_findFeasts 77 = .ok (.if_icmp .ge 73, 3) := by decide +kernel
theorem dX7_findFeasts_80 : decode cX7_findFeasts 80 = .ok (.iload 5, 2) := by decide +kernel
theorem dX7_findFeasts_82 : decode cX7_findFeasts 82 = .ok (.aload_n 0, 1) := by decide +kernel
theorem dX7_findFeasts_83 : decode cX7_findFeasts 83 = .ok (.getfield 35, 3) := by decide +kernel
theorem dX7_findFeasts_86 : decode cX7_findFeasts 86 = .ok (.arraylength, 1) := by decide +kernel
theorem dX7_findFeasts_87 : decode cX7_findFeasts 87 = .ok (.if_icmp .ge 63, 3) := by decide +kernel
theorem dX7_findFeasts_90 : decode cX7_findFeasts 90 = .ok (.aload_n 0, 1) := by decide +kernel
theorem dX7_findFeasts_91 : decode cX7_findFeasts 91 = .ok (.getfield 35, 3) := by decide +kernel
theorem dX7_findFeasts_94 : decode cX7_findFeasts 94 = .ok (.iload 5, 2) := by decide +kernel
theorem dX7_findFeasts_96 : decode cX7_findFeasts 96 = .ok (.aaload, 1) := by decide +kernel
theorem dX7_findFeasts_97 : decode cX7_findFeasts 97 = .ok (.astore 6, 2) := by decide +kernel
theorem dX7_findFeasts_99 : decode cX7_findFeasts 99 = .ok (.aload 6, 2) := by decide +kernel
theorem dX7_findFeasts_101 : decode cX7_findFeasts 101 = .ok (.ifnull 43, 3) := by decide +kernel
theorem dX7_findFeasts_104 : decode cX7_findFeasts 104 = .ok (.iload_n 3, 1) := by decide +kernel
theorem dX7_findFeasts_105 : decode cX7_findFeasts 105 = .ok (.aload 6, 2) := by decide +kernel
theorem dX7_findFeasts_107 : decode cX7_findFeasts 107 = .ok (.getfield 76, 3) := by decide +kernel
theorem dX7_findFeasts_110 : decode cX7_findFeasts 110 = .ok (.invokestatic 79, 3) := by decide +kernel
theorem dX7_findFeasts_113 : decode cX7_findFeasts 113 = .ok (.invokestatic 49, 3) := by decide +kernel
theorem dX7_findFeasts_116 : decode cX7_findFeasts 116 = .ok (.istore 7, 2) := by decide +kernel
theorem dX7_findFeasts_118 : decode cX7_findFeasts 118 = .ok (.aload_n 0, 1) := by decide +kernel
theorem dX7_findFeasts_119 : decode cX7_findFeasts 119 = .ok (.aload 6, 2) := by decide +kernel
theorem dX7_findFeasts_121 : decode cX7_findFeasts 121 = .ok (.iload 5, 2) := by decide +kernel
theorem dX7_findFeasts_123 : decode cX7_findFeasts 123 = .ok (.iload 7, 2) := by decide +kernel
theorem dX7_findFeasts_125 : decode cX7_findFeasts 125 = .ok (.iload 4, 2) := by decide +kernel
theorem dX7_findFeasts_127 : decode cX7_findFeasts 127 = .ok (.aload 6, 2) := by decide +kernel
theorem dX7_findFeasts_129 : decode cX7_findFeasts 129 = .ok (.getfield 82, 3) := by decide +kernel
theorem dX7_findFeasts_132 : decode cX7_findFeasts 132 = .ok (.invokestatic 79, 3) := by decide +kernel
theorem dX7_findFeasts_135 : decode cX7_findFeasts 135 = .ok (.bipush 11, 2) := by decide +kernel
theorem dX7_findFeasts_137 : decode cX7_findFeasts 137 = .ok (.iadd, 1) := by decide +kernel
theorem dX7_findFeasts_138 : decode cX7_findFeasts 138 = .ok (.invokestatic 56, 3) := by decide +kernel
theorem dX7_findFeasts_141 : decode cX7_findFeasts 141 = .ok (.invokevirtual 85, 3) := by decide +kernel
theorem dX7_findFeasts_144 : decode cX7_findFeasts 144 = .ok (.iinc 5 1, 3) := by decide +kernel
theorem dX7_findFeasts_147 : decode cX7_findFeasts 147 = .ok (.goto (-76), 3) := by decide +kernel
theorem dX7_findFeasts_150 : decode cX7_findFeasts 150 = .ok (.return_, 1) := by decide +kernel
theorem dX7_findFeast_0 : decode cX7_findFeast 0 = .ok (.iload_n 3, 1) := by decide +kernel
theorem dX7_findFeast_1 : decode cX7_findFeast 1 = .ok (.istore 5, 2) := by decide +kernel
theorem dX7_findFeast_3 : decode cX7_findFeast 3 = .ok (.iload 5, 2) := by decide +kernel
theorem dX7_findFeast_5 : decode cX7_findFeast 5 = .ok (.iload 4, 2) := by decide +kernel
theorem dX7_findFeast_7 : decode cX7_findFeast 7 = .ok (.if_icmp .gt 64, 3) := by decide +kernel
theorem dX7_findFeast_10 : decode cX7_findFeast 10 = .ok (.aload_n 1, 1) := by decide +kernel
theorem dX7_findFeast_11 : decode cX7_findFeast 11 = .ok (.getfield 89, 3) := by decide +kernel
theorem dX7_findFeast_14 : decode cX7_findFeast 14 = .ok (.iload 5, 2) := by decide +kernel
theorem dX7_findFeast_16 : decode cX7_findFeast 16 = .ok (.invokevirtual 93, 3) := by decide +kernel
theorem dX7_findFeast_19 : decode cX7_findFeast 19 = .ok (.istore 6, 2) := by decide +kernel
theorem dX7_findFeast_21 : decode cX7_findFeast 21 = .ok (.iload 6, 2) := by decide +kernel
theorem dX7_findFeast_23 : decode cX7_findFeast 23 = .ok (.ifCond .ge 7, 3) := by decide +kernel
theorem dX7_findFeast_26 : decode cX7_findFeast 26 = .ok (.iconst (-1), 1) := by decide +kernel
theorem dX7_findFeast_27 : decode cX7_findFeast 27 = .ok (.goto 14, 3) := by decide +kernel
theorem dX7_findFeast_30 : decode cX7_findFeast 30 = .ok (.aload_n 0, 1) := by decide +kernel
theorem dX7_findFeast_31 : decode cX7_findFeast 31 = .ok (.iload 6, 2) := by decide +kernel
theorem dX7_findFeast_33 : decode cX7_findFeast 33 = .ok (.aload_n 1, 1) := by decide +kernel
theorem dX7_findFeast_34 : decode cX7_findFeast 34 = .ok (.getfield 98, 3) := by decide +kernel
theorem dX7_findFeast_37 : decode cX7_findFeast 37 = .ok (.iload_n 2, 1) := by decide +kernel
theorem dX7_findFeast_38 : decode cX7_findFeast 38 = .ok (.invokevirtual 101, 3) := by decide +kernel
theorem dX7_findFeast_41 : decode cX7_findFeast 41 = .ok (.istore 7, 2) := by decide +kernel
theorem dX7_findFeast_43 : decode cX7_findFeast 43 = .ok (.aload_n 0, 1) := by decide +kernel
theorem dX7_findFeast_44 : decode cX7_findFeast 44 = .ok (.getfield 45, 3) := by decide +kernel
theorem dX7_findFeast_47 : decode cX7_findFeast 47 = .ok (.iload 7, 2) := by decide +kernel
theorem dX7_findFeast_49 : decode cX7_findFeast 49 = .ok (.invokevirtual 105, 3) := by decide +kernel
theorem dX7_findFeast_52 : decode cX7_findFeast 52 = .ok (.ifCond .ge 13, 3) := by decide +kernel
theorem dX7_findFeast_55 : decode cX7_findFeast 55 = .ok (.aload_n 0, 1) := by decide +kernel
theorem dX7_findFeast_56 : decode cX7_findFeast 56 = .ok (.getfield 45, 3) := by decide +kernel
theorem dX7_findFeast_59 : decode cX7_findFeast 59 = .ok (.iload 7, 2) := by decide +kernel
theorem dX7_findFeast_61 : decode cX7_findFeast 61 = .ok (.iload_n 2, 1) := by decide +kernel
theorem dX7_findFeast_62 : decode cX7_findFeast 62 = .ok (.invokevirtual 108, 3) := by decide +kernel
theorem dX7_findFeast_65 : decode cX7_findFeast 65 = .ok (.iinc 5 1, 3) := by decide +kernel
theorem dX7_findFeast_68 : decode cX7_findFeast 68 = .ok (.goto (-65), 3) := by decide +kernel
theorem dX7_findFeast_71 : decode cX7_findFeast 71 = .ok (.return_, 1) := by decide +kernel
theorem dX7_moved_0 : decode cX7_moved 0 = .ok (.iload_n 2, 1) := by decide +kernel
theorem dX7_moved_1 : decode cX7_moved 1 = .ok (.ifCond .eq 13, 3) := by decide +kernel
theorem dX7_moved_4 : decode cX7_moved 4 = .ok (.aload_n 0, 1) := by decide +kernel
theorem dX7_moved_5 : decode cX7_moved 5 = .ok (.iload_n 1, 1) := by decide +kernel
theorem dX7_moved_6 : decode cX7_moved 6 = .ok (.iload_n 2, 1) := by decide +kernel
theorem dX7_moved_7 : decode cX7_moved 7 = .ok (.iload_n 3, 1) := by decide +kernel
theorem dX7_moved_8 : decode cX7_moved 8 = .ok (.invokevirtual 111, 3) := by decide +kernel
theorem dX7_moved_11 : decode cX7_moved 11 = .ok (.ifCond .eq 5, 3) := by decide +kernel
theorem dX7_moved_14 : decode cX7_moved 14 = .ok (.iload_n 1, 1) := by decide +kernel
theorem dX7_moved_15 : decode cX7_moved 15 = .ok (.ireturn, 1) := by decide +kernel
theorem dX7_moved_16 : decode cX7_moved 16 = .ok (.iconst 1, 1) := by decide +kernel
theorem dX7_moved_17 : decode cX7_moved 17 = .ok (.istore 4, 2) := by decide +kernel
theorem dX7_moved_19 : decode cX7_moved 19 = .ok (.iload 4, 2) := by decide +kernel
theorem dX7_moved_21 : decode cX7_moved 21 = .ok (.bipush 60, 2) := by decide +kernel
theorem dX7_moved_23 : decode cX7_moved 23 = .ok (.if_icmp .gt 50, 3) := by decide +kernel
theorem dX7_moved_26 : decode cX7_moved 26 = .ok (.aload_n 0, 1) := by decide +kernel
theorem dX7_moved_27 : decode cX7_moved 27 = .ok (.iload_n 1, 1) := by decide +kernel
theorem dX7_moved_28 : decode cX7_moved 28 = .ok (.iload 4, 2) := by decide +kernel
theorem dX7_moved_30 : decode cX7_moved 30 = .ok (.iadd, 1) := by decide +kernel
theorem dX7_moved_31 : decode cX7_moved 31 = .ok (.iload_n 2, 1) := by decide +kernel
theorem dX7_moved_32 : decode cX7_moved 32 = .ok (.iload_n 3, 1) := by decide +kernel
theorem dX7_moved_33 : decode cX7_moved 33 = .ok (.invokevirtual 111, 3) := by decide +kernel
theorem dX7_moved_36 : decode cX7_moved 36 = .ok (.ifCond .eq 8, 3) := by decide +kernel
theorem dX7_moved_39 : decode cX7_moved 39 = .ok (.iload_n 1, 1) := by decide +kernel
theorem dX7_moved_40 : decode cX7_moved 40 = .ok (.iload 4, 2) := by decide +kernel
theorem dX7_moved_42 : decode cX7_moved 42 = .ok (.iadd, 1) := by decide +kernel
theorem dX7_moved_43 : decode cX7_moved 43 = .ok (.ireturn, 1) := by decide +kernel
theorem dX7_moved_44 : decode cX7_moved 44 = .ok (.iload_n 2, 1) := by decide +kernel
theorem dX7_moved_45 : decode cX7_moved 45 = .ok (.iconst 2, 1) := by decide +kernel
theorem dX7_moved_46 : decode cX7_moved 46 = .ok (.if_icmp .ne 21, 3) := by decide +kernel
theorem dX7_moved_49 : decode cX7_moved 49 = .ok (.aload_n 0, 1) := by decide +kernel
theorem dX7_moved_50 : decode cX7_moved 50 = .ok (.iload_n 1, 1) := by decide +kernel
theorem dX7_moved_51 : decode cX7_moved 51 = .ok (.iload 4, 2) := by decide +kernel
theorem dX7_moved_53 : decode cX7_moved 53 = .ok (.isub, 1) := by decide +kernel
theorem dX7_moved_54 : decode cX7_moved 54 = .ok (.iload_n 2, 1) := by decide +kernel
theorem dX7_moved_55 : decode cX7_moved 55 = .ok (.iload_n 3, 1) := by decide +kernel
theorem dX7_moved_56 : decode cX7_moved 56 = .ok (.invokevirtual 111, 3) := by decide +kernel
theorem dX7_moved_59 : decode cX7_moved 59 = .ok (.ifCond .eq 8, 3) := by decide +kernel
theorem dX7_moved_62 : decode cX7_moved 62 = .ok (.iload_n 1, 1) := by decide +kernel
theorem dX7_moved_63 : decode cX7_moved 63 = .ok (.iload 4, 2) := by decide +kernel
theorem dX7_moved_65 : decode cX7_moved 65 = .ok (.isub, 1) := by decide +kernel
theorem dX7_moved_66 : decode cX7_moved 66 = .ok (.ireturn, 1) := by decide +kernel
theorem dX7_moved_67 : decode cX7_moved 67 = .ok (.iinc 4 1, 3) := by decide +kernel
theorem dX7_moved_70 : decode cX7_moved 70 = .ok (.goto (-51), 3) := by decide +kernel
theorem dX7_moved_73 : decode cX7_moved 73 = .ok (.iconst (-1), 1) := by decide +kernel
theorem dX7_moved_74 : decode cX7_moved 74 = .ok (.ireturn, 1) := by decide +kernel
theorem dX7_takes_0 : decode cX7_takes 0 = .ok (.aload_n 0, 1) := by decide +kernel
theorem dX7_takes_1 : decode cX7_takes 1 = .ok (.getfield 24, 3) := by decide +kernel
theorem dX7_takes_4 : decode cX7_takes 4 = .ok (.iload_n 1, 1) := by decide +kernel
theorem dX7_takes_5 : decode cX7_takes 5 = .ok (.bipush 7, 2) := by decide +kernel
theorem dX7_takes_7 : decode cX7_takes 7 = .ok (.invokestatic 115, 3) := by decide +kernel
theorem dX7_takes_10 : decode cX7_takes 10 = .ok (.ishr, 1) := by decide +kernel
theorem dX7_takes_11 : decode cX7_takes 11 = .ok (.iconst 1, 1) := by decide +kernel
theorem dX7_takes_12 : decode cX7_takes 12 = .ok (.iand, 1) := by decide +kernel
theorem dX7_takes_13 : decode cX7_takes 13 = .ok (.ifCond .ne 5, 3) := by decide +kernel
theorem dX7_takes_16 : decode cX7_takes 16 = .ok (.iconst 0, 1) := by decide +kernel
theorem dX7_takes_17 : decode cX7_takes 17 = .ok (.ireturn, 1) := by decide +kernel
theorem dX7_takes_18 : decode cX7_takes 18 = .ok (.aload_n 0, 1) := by decide +kernel
theorem dX7_takes_19 : decode cX7_takes 19 = .ok (.getfield 45, 3) := by decide +kernel
theorem dX7_takes_22 : decode cX7_takes 22 = .ok (.iload_n 1, 1) := by decide +kernel
theorem dX7_takes_23 : decode cX7_takes 23 = .ok (.invokevirtual 105, 3) := by decide +kernel
theorem dX7_takes_26 : decode cX7_takes 26 = .ok (.istore 4, 2) := by decide +kernel
theorem dX7_takes_28 : decode cX7_takes 28 = .ok (.iload_n 2, 1) := by decide +kernel
theorem dX7_takes_29 : decode cX7_takes 29 = .ok (.iconst 3, 1) := by decide +kernel
theorem dX7_takes_30 : decode cX7_takes 30 = .ok (.if_icmp .ne 14, 3) := by decide +kernel
theorem dX7_takes_33 : decode cX7_takes 33 = .ok (.iload 4, 2) := by decide +kernel
theorem dX7_takes_35 : decode cX7_takes 35 = .ok (.ifCond .lt 9, 3) := by decide +kernel
theorem dX7_takes_38 : decode cX7_takes 38 = .ok (.iload 4, 2) := by decide +kernel
theorem dX7_takes_40 : decode cX7_takes 40 = .ok (.iload_n 3, 1) := by decide +kernel
theorem dX7_takes_41 : decode cX7_takes 41 = .ok (.if_icmp .lt 7, 3) := by decide +kernel
theorem dX7_takes_44 : decode cX7_takes 44 = .ok (.iconst 1, 1) := by decide +kernel
theorem dX7_takes_45 : decode cX7_takes 45 = .ok (.goto 4, 3) := by decide +kernel
theorem dX7_takes_48 : decode cX7_takes 48 = .ok (.iconst 0, 1) := by decide +kernel
theorem dX7_takes_49 : decode cX7_takes 49 = .ok (.ireturn, 1) := by decide +kernel
theorem dX7_feastFound_0 : decode cX7_feastFound 0 = .ok (.aload_n 0, 1) := by decide +kernel
theorem dX7_feastFound_1 : decode cX7_feastFound 1 = .ok (.getfield 45, 3) := by decide +kernel
theorem dX7_feastFound_4 : decode cX7_feastFound 4 = .ok (.iload_n 1, 1) := by decide +kernel
theorem dX7_feastFound_5 : decode cX7_feastFound 5 = .ok (.invokevirtual 105, 3) := by decide +kernel
theorem dX7_feastFound_8 : decode cX7_feastFound 8 = .ok (.ireturn, 1) := by decide +kernel
theorem dX7_worksOn_0 : decode cX7_worksOn 0 = .ok (.aload_n 0, 1) := by decide +kernel
theorem dX7_worksOn_1 : decode cX7_worksOn 1 = .ok (.getfield 24, 3) := by decide +kernel
theorem dX7_worksOn_4 : decode cX7_worksOn 4 = .ok (.iload_n 1, 1) := by decide +kernel
theorem dX7_worksOn_5 : decode cX7_worksOn 5 = .ok (.invokestatic 118, 3) := by decide +kernel
theorem dX7_worksOn_8 : decode cX7_worksOn 8 = .ok (.ifCond .eq 18, 3) := by decide +kernel
theorem dX7_worksOn_11 : decode cX7_worksOn 11 = .ok (.aload_n 0, 1) := by decide +kernel
theorem dX7_worksOn_12 : decode cX7_worksOn 12 = .ok (.getfield 45, 3) := by decide +kernel
theorem dX7_worksOn_15 : decode cX7_worksOn 15 = .ok (.iload_n 1, 1) := by decide +kernel
theorem dX7_worksOn_16 : decode cX7_worksOn 16 = .ok (.invokevirtual 105, 3) := by decide +kernel
theorem dX7_worksOn_19 : decode cX7_worksOn 19 = .ok (.ifCond .ge 7, 3) := by decide +kernel
theorem dX7_worksOn_22 : decode cX7_worksOn 22 = .ok (.iconst 1, 1) := by decide +kernel
theorem dX7_worksOn_23 : decode cX7_worksOn 23 = .ok (.goto 4, 3) := by decide +kernel
theorem dX7_worksOn_26 : decode cX7_worksOn 26 = .ok (.iconst 0, 1) := by decide +kernel
theorem dX7_worksOn_27 : decode cX7_worksOn 27 = .ok (.ireturn, 1) := by decide +kernel
theorem dX7_countDays_0 : decode cX7_countDays 0 = .ok (.aload_n 0, 1) := by decide +kernel
theorem dX7_countDays_1 : decode cX7_countDays 1 = .ok (.iload_n 1, 1) := by decide +kernel
theorem dX7_countDays_2 : decode cX7_countDays 2 = .ok (.iload_n 1, 1) := by decide +kernel
theorem dX7_countDays_3 : decode cX7_countDays 3 = .ok (.iload_n 2, 1) := by decide +kernel
theorem dX7_countDays_4 : decode cX7_countDays 4 = .ok (.iadd, 1) := by decide +kernel
theorem dX7_countDays_5 : decode cX7_countDays 5 = .ok (.invokevirtual 122, 3) := by decide +kernel
theorem dX7_countDays_8 : decode cX7_countDays 8 = .ok (.iconst 0, 1) := by decide +kernel
theorem dX7_countDays_9 : decode cX7_countDays 9 = .ok (.istore_n 3, 1) := by decide +kernel
theorem dX7_countDays_10 : decode cX7_countDays 10 = .ok (.iload_n 1, 1) := by decide +kernel
theorem dX7_countDays_11 : decode cX7_countDays 11 = .ok (.istore 4, 2) := by decide +kernel
theorem dX7_countDays_13 : decode cX7_countDays 13 = .ok (.iload 4, 2) := by decide +kernel
theorem dX7_countDays_15 : decode cX7_countDays 15 = .ok (.iload_n 1, 1) := by decide +kernel
theorem dX7_countDays_16 : decode cX7_countDays 16 = .ok (.iload_n 2, 1) := by decide +kernel
theorem dX7_countDays_17 : decode cX7_countDays 17 = .ok (.iadd, 1) := by decide +kernel
theorem dX7_countDays_18 : decode cX7_countDays 18 = .ok (.if_icmp .ge 21, 3) := by decide +kernel
theorem dX7_countDays_21 : decode cX7_countDays 21 = .ok (.aload_n 0, 1) := by decide +kernel
theorem dX7_countDays_22 : decode cX7_countDays 22 = .ok (.iload 4, 2) := by decide +kernel
theorem dX7_countDays_24 : decode cX7_countDays 24 = .ok (.invokevirtual 125, 3) := by decide +kernel
theorem dX7_countDays_27 : decode cX7_countDays 27 = .ok (.ifCond .eq 6, 3) := by decide +kernel
theorem dX7_countDays_30 : decode cX7_countDays 30 = .ok (.iinc 3 1, 3) := by decide +kernel
theorem dX7_countDays_33 : decode cX7_countDays 33 = .ok (.iinc 4 1, 3) := by decide +kernel
theorem dX7_countDays_36 : decode cX7_countDays 36 = .ok (.goto (-23), 3) := by decide +kernel
theorem dX7_countDays_39 : decode cX7_countDays 39 = .ok (.iload_n 3, 1) := by decide +kernel
theorem dX7_countDays_40 : decode cX7_countDays 40 = .ok (.ireturn, 1) := by decide +kernel
theorem dX7_dayBehind_0 : decode cX7_dayBehind 0 = .ok (.iload_n 2, 1) := by decide +kernel
theorem dX7_dayBehind_1 : decode cX7_dayBehind 1 = .ok (.ifCond .ne 5, 3) := by decide +kernel
theorem dX7_dayBehind_4 : decode cX7_dayBehind 4 = .ok (.iload_n 1, 1) := by decide +kernel
theorem dX7_dayBehind_5 : decode cX7_dayBehind 5 = .ok (.ireturn, 1) := by decide +kernel
theorem dX7_dayBehind_6 : decode cX7_dayBehind 6 = .ok (.iload_n 2, 1) := by decide +kernel
theorem dX7_dayBehind_7 : decode cX7_dayBehind 7 = .ok (.ifCond .le 7, 3) := by decide +kernel
theorem dX7_dayBehind_10 : decode cX7_dayBehind 10 = .ok (.iconst 1, 1) := by decide +kernel
theorem dX7_dayBehind_11 : decode cX7_dayBehind 11 = .ok (.goto 4, 3) := by decide +kernel
theorem dX7_dayBehind_14 : decode cX7_dayBehind 14 = .ok (.iconst (-1), 1) := by decide +kernel
theorem dX7_dayBehind_15 : decode cX7_dayBehind 15 = .ok (.istore_n 3, 1) := by decide +kernel
theorem dX7_dayBehind_16 : decode cX7_dayBehind 16 = .ok (.iconst 0, 1) := by decide +kernel
theorem dX7_dayBehind_17 : decode cX7_dayBehind 17 = .ok (.iload_n 1, 1) := by decide +kernel
theorem dX7_dayBehind_18 : decode cX7_dayBehind 18 = .ok (.iload_n 3, 1) := by decide +kernel
theorem dX7_dayBehind_19 : decode cX7_dayBehind 19 = .ok (.sipush 500, 3) := by decide +kernel
theorem dX7_dayBehind_22 : decode cX7_dayBehind 22 = .ok (.imul, 1) := by decide +kernel
theorem dX7_dayBehind_23 : decode cX7_dayBehind 23 = .ok (.iadd, 1) := by decide +kernel
theorem dX7_dayBehind_24 : decode cX7_dayBehind 24 = .ok (.ldc 55, 2) := by decide +kernel
theorem dX7_dayBehind_26 : decode cX7_dayBehind 26 = .ok (.invokestatic 56, 3) := by decide +kernel
theorem dX7_dayBehind_29 : decode cX7_dayBehind 29 = .ok (.invokestatic 49, 3) := by decide +kernel
theorem dX7_dayBehind_32 : decode cX7_dayBehind 32 = .ok (.istore 4, 2) := by decide +kernel
theorem dX7_dayBehind_34 : decode cX7_dayBehind 34 = .ok (.aload_n 0, 1) := by decide +kernel
theorem dX7_dayBehind_35 : decode cX7_dayBehind 35 = .ok (.iload_n 1, 1) := by decide +kernel
theorem dX7_dayBehind_36 : decode cX7_dayBehind 36 = .ok (.iload 4, 2) := by decide +kernel
theorem dX7_dayBehind_38 : decode cX7_dayBehind 38 = .ok (.invokestatic 56, 3) := by decide +kernel
theorem dX7_dayBehind_41 : decode cX7_dayBehind 41 = .ok (.iload_n 1, 1) := by decide +kernel
theorem dX7_dayBehind_42 : decode cX7_dayBehind 42 = .ok (.iload 4, 2) := by decide +kernel
theorem dX7_dayBehind_44 : decode cX7_dayBehind 44 = .ok (.invokestatic 49, 3) := by decide +kernel
theorem dX7_dayBehind_47 : decode cX7_dayBehind 47 = .ok (.invokevirtual 122, 3) := by decide +kernel
theorem dX7_dayBehind_50 : decode cX7_dayBehind 50 = .ok (.iload_n 2, 1) := by decide +kernel
theorem dX7_dayBehind_51 : decode cX7_dayBehind 51 = .ok (.invokestatic 129, 3) := by decide +kernel
theorem dX7_dayBehind_54 : decode cX7_dayBehind 54 = .ok (.istore 5, 2) := by decide +kernel
theorem dX7_dayBehind_56 : decode cX7_dayBehind 56 = .ok (.iconst 1, 1) := by decide +kernel
theorem dX7_dayBehind_57 : decode cX7_dayBehind 57 = .ok (.istore 6, 2) := by decide +kernel
theorem dX7_dayBehind_59 : decode cX7_dayBehind 59 = .ok (.iload 6, 2) := by decide +kernel
theorem dX7_dayBehind_61 : decode cX7_dayBehind 61 = .ok (.iload 4, 2) := by decide +kernel
theorem dX7_dayBehind_63 : decode cX7_dayBehind 63 = .ok (.iload_n 1, 1) := by decide +kernel
theorem dX7_dayBehind_64 : decode cX7_dayBehind 64 = .ok (.isub, 1) := by decide +kernel
theorem dX7_dayBehind_65 : decode cX7_dayBehind 65 = .ok (.invokestatic 129, 3) := by decide +kernel
theorem dX7_dayBehind_68 : decode cX7_dayBehind 68 = .ok (.if_icmp .gt 37, 3) := by decide +kernel
theorem dX7_dayBehind_71 : decode cX7_dayBehind 71 = .ok (.aload_n 0, 1) := by decide +kernel
theorem dX7_dayBehind_72 : decode cX7_dayBehind 72 = .ok (.iload_n 1, 1) := by decide +kernel
theorem dX7_dayBehind_73 : decode cX7_dayBehind 73 = .ok (.iload_n 3, 1) := by decide +kernel
theorem dX7_dayBehind_74 : decode cX7_dayBehind 74 = .ok (.iload 6, 2) := by decide +kernel
theorem dX7_dayBehind_76 : decode cX7_dayBehind 76 = .ok (.imul, 1) := by decide +kernel
theorem dX7_dayBehind_77 : decode cX7_dayBehind 77 = .ok (.iadd, 1) := by decide +kernel
theorem dX7_dayBehind_78 : decode cX7_dayBehind 78 = .ok (.invokevirtual 125, 3) := by decide +kernel
theorem dX7_dayBehind_81 : decode cX7_dayBehind 81 = .ok (.ifCond .eq 18, 3) := by decide +kernel
theorem dX7_dayBehind_84 : decode cX7_dayBehind 84 = .ok (.iinc 5 (-1), 3) := by decide +kernel
theorem dX7_dayBehind_87 : decode cX7_dayBehind 87 = .ok (.iload 5, 2) := by decide +kernel
theorem dX7_dayBehind_89 : decode cX7_dayBehind 89 = .ok (.ifCond .ne 10, 3) := by decide +kernel
theorem dX7_dayBehind_92 : decode cX7_dayBehind 92 = .ok (.iload_n 1, 1) := by decide +kernel
theorem dX7_dayBehind_93 : decode cX7_dayBehind 93 = .ok (.iload_n 3, 1) := by decide +kernel
theorem dX7_dayBehind_94 : decode cX7_dayBehind 94 = .ok (.iload 6, 2) := by decide +kernel
theorem dX7_dayBehind_96 : decode cX7_dayBehind 96 = .ok (.imul, 1) := by decide +kernel
theorem dX7_dayBehind_97 : decode cX7_dayBehind 97 = .ok (.iadd, 1) := by decide +kernel
theorem dX7_dayBehind_98 : decode cX7_dayBehind 98 = .ok (.ireturn, 1) := by decide +kernel
theorem dX7_dayBehind_99 : decode cX7_dayBehind 99 = .ok (.iinc 6 1, 3) := by decide +kernel
theorem dX7_dayBehind_102 : decode cX7_dayBehind 102 = .ok (.goto (-43), 3) := by decide +kernel
theorem dX7_dayBehind_105 : decode cX7_dayBehind 105 = .ok (.iconst (-1), 1) := by decide +kernel
theorem dX7_dayBehind_106 : decode cX7_dayBehind 106 = .ok (.ireturn, 1) := by decide +kernel
theorem dX7_findFeastsWithin_0 : decode cX7_findFeastsWithin 0 = .ok (.iload_n 1, 1) := by decide +kernel
theorem dX7_findFeastsWithin_1 : decode cX7_findFeastsWithin 1 = .ok (.aload_n 0, 1) := by decide +kernel
theorem dX7_findFeastsWithin_2 : decode cX7_findFeastsWithin 2 = .ok (.getfield 20, 3) := by decide +kernel
theorem dX7_findFeastsWithin_5 : decode cX7_findFeastsWithin 5 = .ok (.getfield 132, 3) := by decide +kernel
theorem dX7_findFeastsWithin_8 : decode cX7_findFeastsWithin 8 = .ok (.iadd, 1) := by decide +kernel
theorem dX7_findFeastsWithin_9 : decode cX7_findFeastsWithin 9 = .ok (.sipush 1440, 3) := by decide +kernel
theorem dX7_findFeastsWithin_12 : decode cX7_findFeastsWithin 12 = .ok (.invokestatic 135, 3) := by decide +kernel
theorem dX7_findFeastsWithin_15 : decode cX7_findFeastsWithin 15 = .ok (.istore_n 3, 1) := by decide +kernel
theorem dX7_findFeastsWithin_16 : decode cX7_findFeastsWithin 16 = .ok (.iload_n 2, 1) := by decide +kernel
theorem dX7_findFeastsWithin_17 : decode cX7_findFeastsWithin 17 = .ok (.aload_n 0, 1) := by decide +kernel
theorem dX7_findFeastsWithin_18 : decode cX7_findFeastsWithin 18 = .ok (.getfield 20, 3) := by decide +kernel
theorem dX7_findFeastsWithin_21 : decode cX7_findFeastsWithin 21 = .ok (.getfield 132, 3) := by decide +kernel
theorem dX7_findFeastsWithin_24 : decode cX7_findFeastsWithin 24 = .ok (.iadd, 1) := by decide +kernel
theorem dX7_findFeastsWithin_25 : decode cX7_findFeastsWithin 25 = .ok (.sipush 180, 3) := by decide +kernel
theorem dX7_findFeastsWithin_28 : decode cX7_findFeastsWithin 28 = .ok (.iadd, 1) := by decide +kernel
theorem dX7_findFeastsWithin_29 : decode cX7_findFeastsWithin 29 = .ok (.sipush 1440, 3) := by decide +kernel
theorem dX7_findFeastsWithin_32 : decode cX7_findFeastsWithin 32 = .ok (.invokestatic 135, 3) := by decide +kernel
theorem dX7_findFeastsWithin_35 : decode cX7_findFeastsWithin 35 = .ok (.istore 4, 2) := by decide +kernel
theorem dX7_findFeastsWithin_37 : decode cX7_findFeastsWithin 37 = .ok (.aload_n 0, 1) := by decide +kernel
theorem dX7_findFeastsWithin_38 : decode cX7_findFeastsWithin 38 = .ok (.iconst 0, 1) := by decide +kernel
theorem dX7_findFeastsWithin_39 : decode cX7_findFeastsWithin 39 = .ok (.iload_n 3, 1) := by decide +kernel
theorem dX7_findFeastsWithin_40 : decode cX7_findFeastsWithin 40 = .ok (.ldc 55, 2) := by decide +kernel
theorem dX7_findFeastsWithin_42 : decode cX7_findFeastsWithin 42 = .ok (.invokestatic 56, 3) := by decide +kernel
theorem dX7_findFeastsWithin_45 : decode cX7_findFeastsWithin 45 = .ok (.invokestatic 49, 3) := by decide +kernel
theorem dX7_findFeastsWithin_48 : decode cX7_findFeastsWithin 48 = .ok (.iload 4, 2) := by decide +kernel
theorem dX7_findFeastsWithin_50 : decode cX7_findFeastsWithin 50 = .ok (.invokevirtual 122, 3) := by decide +kernel
theorem dX7_findFeastsWithin_53 : decode cX7_findFeastsWithin 53 = .ok (.return_, 1) := by decide +kernel
theorem dX7_minutesWithin_0 : decode cX7_minutesWithin 0 = .ok (.aload_n 0, 1) := by decide +kernel
theorem dX7_minutesWithin_1 : decode cX7_minutesWithin 1 = .ok (.getfield 20, 3) := by decide +kernel
theorem dX7_minutesWithin_4 : decode cX7_minutesWithin 4 = .ok (.iload_n 2, 1) := by decide +kernel
theorem dX7_minutesWithin_5 : decode cX7_minutesWithin 5 = .ok (.i2l, 1) := by decide +kernel
theorem dX7_minutesWithin_6 : decode cX7_minutesWithin 6 = .ok (.invokevirtual 138, 3) := by decide +kernel
theorem dX7_minutesWithin_9 : decode cX7_minutesWithin 9 = .ok (.istore_n 3, 1) := by decide +kernel
theorem dX7_minutesWithin_10 : decode cX7_minutesWithin 10 = .ok (.iconst 0, 1) := by decide +kernel
theorem dX7_minutesWithin_11 : decode cX7_minutesWithin 11 = .ok (.istore 4, 2) := by decide +kernel
theorem dX7_minutesWithin_13 : decode cX7_minutesWithin 13 = .ok (.aload_n 0, 1) := by decide +kernel
theorem dX7_minutesWithin_14 : decode cX7_minutesWithin 14 = .ok (.getfield 20, 3) := by decide +kernel
theorem dX7_minutesWithin_17 : decode cX7_minutesWithin 17 = .ok (.iload_n 1, 1) := by decide +kernel
theorem dX7_minutesWithin_18 : decode cX7_minutesWithin 18 = .ok (.i2l, 1) := by decide +kernel
theorem dX7_minutesWithin_19 : decode cX7_minutesWithin 19 = .ok (.invokevirtual 138, 3) := by decide +kernel
theorem dX7_minutesWithin_22 : decode cX7_minutesWithin 22 = .ok (.istore 5, 2) := by decide +kernel
theorem dX7_minutesWithin_24 : decode cX7_minutesWithin 24 = .ok (.iload 5, 2) := by decide +kernel
theorem dX7_minutesWithin_26 : decode cX7_minutesWithin 26 = .ok (.iload_n 3, 1) := by decide +kernel
theorem dX7_minutesWithin_27 : decode cX7_minutesWithin 27 = .ok (.if_icmp .gt 71, 3) := by decide +kernel
theorem dX7_minutesWithin_30 : decode cX7_minutesWithin 30 = .ok (.aload_n 0, 1) := by decide +kernel
theorem dX7_minutesWithin_31 : decode cX7_minutesWithin 31 = .ok (.getfield 20, 3) := by decide +kernel
theorem dX7_minutesWithin_34 : decode cX7_minutesWithin 34 = .ok (.iload 5, 2) := by decide +kernel
theorem dX7_minutesWithin_36 : decode cX7_minutesWithin 36 = .ok (.invokevirtual 142, 3) := by decide +kernel
theorem dX7_minutesWithin_39 : decode cX7_minutesWithin 39 = .ok (.istore 6, 2) := by decide +kernel
theorem dX7_minutesWithin_41 : decode cX7_minutesWithin 41 = .ok (.iload_n 1, 1) := by decide +kernel
theorem dX7_minutesWithin_42 : decode cX7_minutesWithin 42 = .ok (.aload_n 0, 1) := by decide +kernel
theorem dX7_minutesWithin_43 : decode cX7_minutesWithin 43 = .ok (.getfield 20, 3) := by decide +kernel
theorem dX7_minutesWithin_46 : decode cX7_minutesWithin 46 = .ok (.iload 5, 2) := by decide +kernel
theorem dX7_minutesWithin_48 : decode cX7_minutesWithin 48 = .ok (.invokevirtual 145, 3) := by decide +kernel
theorem dX7_minutesWithin_51 : decode cX7_minutesWithin 51 = .ok (.invokestatic 49, 3) := by decide +kernel
theorem dX7_minutesWithin_54 : decode cX7_minutesWithin 54 = .ok (.istore 7, 2) := by decide +kernel
theorem dX7_minutesWithin_56 : decode cX7_minutesWithin 56 = .ok (.iload_n 2, 1) := by decide +kernel
theorem dX7_minutesWithin_57 : decode cX7_minutesWithin 57 = .ok (.aload_n 0, 1) := by decide +kernel
theorem dX7_minutesWithin_58 : decode cX7_minutesWithin 58 = .ok (.getfield 20, 3) := by decide +kernel
theorem dX7_minutesWithin_61 : decode cX7_minutesWithin 61 = .ok (.iload 5, 2) := by decide +kernel
theorem dX7_minutesWithin_63 : decode cX7_minutesWithin 63 = .ok (.iconst 1, 1) := by decide +kernel
theorem dX7_minutesWithin_64 : decode cX7_minutesWithin 64 = .ok (.iadd, 1) := by decide +kernel
theorem dX7_minutesWithin_65 : decode cX7_minutesWithin 65 = .ok (.invokevirtual 145, 3) := by decide +kernel
theorem dX7_minutesWithin_68 : decode cX7_minutesWithin 68 = .ok (.invokestatic 56, 3) := by decide +kernel
theorem dX7_minutesWithin_71 : decode cX7_minutesWithin 71 = .ok (.istore 8, 2) := by decide +kernel
theorem dX7_minutesWithin_73 : decode cX7_minutesWithin 73 = .ok (.iload 4, 2) := by decide +kernel
theorem dX7_minutesWithin_75 : decode cX7_minutesWithin 75 = .ok (.aload_n 0, 1) := by decide +kernel
theorem dX7_minutesWithin_76 : decode cX7_minutesWithin 76 = .ok (.iload 7, 2) := by decide +kernel
theorem dX7_minutesWithin_78 : decode cX7_minutesWithin 78 = .ok (.iload 6, 2) := by decide +kernel
theorem dX7_minutesWithin_80 : decode cX7_minutesWithin 80 = .ok (.iadd, 1) := by decide +kernel
theorem dX7_minutesWithin_81 : decode cX7_minutesWithin 81 = .ok (.iload 8, 2) := by decide +kernel
theorem dX7_minutesWithin_83 : decode cX7_minutesWithin 83 = .ok (.iload 6, 2) := by decide +kernel
theorem dX7_minutesWithin_85 : decode cX7_minutesWithin 85 = .ok (.iadd, 1) := by decide +kernel
theorem dX7_minutesWithin_86 : decode cX7_minutesWithin 86 = .ok (.invokevirtual 148, 3) := by decide +kernel
theorem dX7_minutesWithin_89 : decode cX7_minutesWithin 89 = .ok (.iadd, 1) := by decide +kernel
theorem dX7_minutesWithin_90 : decode cX7_minutesWithin 90 = .ok (.istore 4, 2) := by decide +kernel
theorem dX7_minutesWithin_92 : decode cX7_minutesWithin 92 = .ok (.iinc 5 1, 3) := by decide +kernel
theorem dX7_minutesWithin_95 : decode cX7_minutesWithin 95 = .ok (.goto (-71), 3) := by decide +kernel
theorem dX7_minutesWithin_98 : decode cX7_minutesWithin 98 = .ok (.iload 4, 2) := by decide +kernel
theorem dX7_minutesWithin_100 : decode cX7_minutesWithin 100 = .ok (.ireturn, 1) := by decide +kernel
theorem dX7_localMinutes_0 : decode cX7_localMinutes 0 = .ok (.iconst 0, 1) := by decide +kernel
theorem dX7_localMinutes_1 : decode cX7_localMinutes 1 = .ok (.iload_n 1, 1) := by decide +kernel
theorem dX7_localMinutes_2 : decode cX7_localMinutes 2 = .ok (.sipush 1440, 3) := by decide +kernel
theorem dX7_localMinutes_5 : decode cX7_localMinutes 5 = .ok (.invokestatic 135, 3) := by decide +kernel
theorem dX7_localMinutes_8 : decode cX7_localMinutes 8 = .ok (.invokestatic 49, 3) := by decide +kernel
theorem dX7_localMinutes_11 : decode cX7_localMinutes 11 = .ok (.istore_n 3, 1) := by decide +kernel
theorem dX7_localMinutes_12 : decode cX7_localMinutes 12 = .ok (.ldc 55, 2) := by decide +kernel
theorem dX7_localMinutes_14 : decode cX7_localMinutes 14 = .ok (.iload_n 2, 1) := by decide +kernel
theorem dX7_localMinutes_15 : decode cX7_localMinutes 15 = .ok (.sipush 1440, 3) := by decide +kernel
theorem dX7_localMinutes_18 : decode cX7_localMinutes 18 = .ok (.invokestatic 135, 3) := by decide +kernel
theorem dX7_localMinutes_21 : decode cX7_localMinutes 21 = .ok (.invokestatic 56, 3) := by decide +kernel
theorem dX7_localMinutes_24 : decode cX7_localMinutes 24 = .ok (.istore 4, 2) := by decide +kernel
theorem dX7_localMinutes_26 : decode cX7_localMinutes 26 = .ok (.iconst 0, 1) := by decide +kernel
theorem dX7_localMinutes_27 : decode cX7_localMinutes 27 = .ok (.istore 5, 2) := by decide +kernel
theorem dX7_localMinutes_29 : decode cX7_localMinutes 29 = .ok (.iload_n 3, 1) := by decide +kernel
theorem dX7_localMinutes_30 : decode cX7_localMinutes 30 = .ok (.istore 6, 2) := by decide +kernel
theorem dX7_localMinutes_32 : decode cX7_localMinutes 32 = .ok (.iload 6, 2) := by decide +kernel
theorem dX7_localMinutes_34 : decode cX7_localMinutes 34 = .ok (.iload 4, 2) := by decide +kernel
theorem dX7_localMinutes_36 : decode cX7_localMinutes 36 = .ok (.if_icmp .gt 66, 3) := by decide +kernel
theorem dX7_localMinutes_39 : decode cX7_localMinutes 39 = .ok (.aload_n 0, 1) := by decide +kernel
theorem dX7_localMinutes_40 : decode cX7_localMinutes 40 = .ok (.iload 6, 2) := by decide +kernel
theorem dX7_localMinutes_42 : decode cX7_localMinutes 42 = .ok (.invokevirtual 125, 3) := by decide +kernel
theorem dX7_localMinutes_45 : decode cX7_localMinutes 45 = .ok (.ifCond .eq 51, 3) := by decide +kernel
theorem dX7_localMinutes_48 : decode cX7_localMinutes 48 = .ok (.iload_n 1, 1) := by decide +kernel
theorem dX7_localMinutes_49 : decode cX7_localMinutes 49 = .ok (.sipush 1440, 3) := by decide +kernel
theorem dX7_localMinutes_52 : decode cX7_localMinutes 52 = .ok (.iload 6, 2) := by decide +kernel
theorem dX7_localMinutes_54 : decode cX7_localMinutes 54 = .ok (.imul, 1) := by decide +kernel
theorem dX7_localMinutes_55 : decode cX7_localMinutes 55 = .ok (.aload_n 0, 1) := by decide +kernel
theorem dX7_localMinutes_56 : decode cX7_localMinutes 56 = .ok (.getfield 27, 3) := by decide +kernel
theorem dX7_localMinutes_59 : decode cX7_localMinutes 59 = .ok (.iadd, 1) := by decide +kernel
theorem dX7_localMinutes_60 : decode cX7_localMinutes 60 = .ok (.invokestatic 49, 3) := by decide +kernel
theorem dX7_localMinutes_63 : decode cX7_localMinutes 63 = .ok (.istore 7, 2) := by decide +kernel
theorem dX7_localMinutes_65 : decode cX7_localMinutes 65 = .ok (.iload_n 2, 1) := by decide +kernel
theorem dX7_localMinutes_66 : decode cX7_localMinutes 66 = .ok (.sipush 1440, 3) := by decide +kernel
theorem dX7_localMinutes_69 : decode cX7_localMinutes 69 = .ok (.iload 6, 2) := by decide +kernel
theorem dX7_localMinutes_71 : decode cX7_localMinutes 71 = .ok (.imul, 1) := by decide +kernel
theorem dX7_localMinutes_72 : decode cX7_localMinutes 72 = .ok (.aload_n 0, 1) := by decide +kernel
theorem dX7_localMinutes_73 : decode cX7_localMinutes 73 = .ok (.getfield 30, 3) := by decide +kernel
theorem dX7_localMinutes_76 : decode cX7_localMinutes 76 = .ok (.iadd, 1) := by decide +kernel
theorem dX7_localMinutes_77 : decode cX7_localMinutes 77 = .ok (.invokestatic 56, 3) := by decide +kernel
theorem dX7_localMinutes_80 : decode cX7_localMinutes 80 = .ok (.istore 8, 2) := by decide +kernel
theorem dX7_localMinutes_82 : decode cX7_localMinutes 82 = .ok (.iload 5, 2) := by decide +kernel
theorem dX7_localMinutes_84 : decode cX7_localMinutes 84 = .ok (.iconst 0, 1) := by decide +kernel
theorem dX7_localMinutes_85 : decode cX7_localMinutes 85 = .ok (.iload 8, 2) := by decide +kernel
theorem dX7_localMinutes_87 : decode cX7_localMinutes 87 = .ok (.iload 7, 2) := by decide +kernel
theorem dX7_localMinutes_89 : decode cX7_localMinutes 89 = .ok (.isub, 1) := by decide +kernel
theorem dX7_localMinutes_90 : decode cX7_localMinutes 90 = .ok (.invokestatic 49, 3) := by decide +kernel
theorem dX7_localMinutes_93 : decode cX7_localMinutes 93 = .ok (.iadd, 1) := by decide +kernel
theorem dX7_localMinutes_94 : decode cX7_localMinutes 94 = .ok (.istore 5, 2) := by decide +kernel
theorem dX7_localMinutes_96 : decode cX7_localMinutes 96 = .ok (.iinc 6 1, 3) := by decide +kernel
theorem dX7_localMinutes_99 : decode cX7_localMinutes 99 = .ok (.goto (-67), 3) := by decide +kernel
theorem dX7_localMinutes_102 : decode cX7_localMinutes 102 = .ok (.iload 5, 2) := by decide +kernel
theorem dX7_localMinutes_104 : decode cX7_localMinutes 104 = .ok (.ireturn, 1) := by decide +kernel
theorem dX7_finish_0 : decode cX7_finish 0 = .ok (.aload_n 0, 1) := by decide +kernel
theorem dX7_finish_1 : decode cX7_finish 1 = .ok (.iload_n 1, 1) := by decide +kernel
theorem dX7_finish_2 : decode cX7_finish 2 = .ok (.iload_n 3, 1) := by decide +kernel
theorem dX7_finish_3 : decode cX7_finish 3 = .ok (.invokevirtual 151, 3) := by decide +kernel
theorem dX7_finish_6 : decode cX7_finish 6 = .ok (.iload_n 2, 1) := by decide +kernel
theorem dX7_finish_7 : decode cX7_finish 7 = .ok (.if_icmp .ge 5, 3) := by decide +kernel
theorem dX7_finish_10 : decode cX7_finish 10 = .ok (.iconst (-1), 1) := by decide +kernel
theorem dX7_finish_11 : decode cX7_finish 11 = .ok (.ireturn, 1) := by decide +kernel
theorem dX7_finish_12 : decode cX7_finish 12 = .ok (.iload_n 1, 1) := by decide +kernel
theorem dX7_finish_13 : decode cX7_finish 13 = .ok (.iconst 1, 1) := by decide +kernel
theorem dX7_finish_14 : decode cX7_finish 14 = .ok (.iadd, 1) := by decide +kernel
theorem dX7_finish_15 : decode cX7_finish 15 = .ok (.istore 4, 2) := by decide +kernel
theorem dX7_finish_17 : decode cX7_finish 17 = .ok (.iload_n 3, 1) := by decide +kernel
theorem dX7_finish_18 : decode cX7_finish 18 = .ok (.istore 5, 2) := by decide +kernel
theorem dX7_finish_20 : decode cX7_finish 20 = .ok (.iconst 0, 1) := by decide +kernel
theorem dX7_finish_21 : decode cX7_finish 21 = .ok (.istore 6, 2) := by decide +kernel
theorem dX7_finish_23 : decode cX7_finish 23 = .ok (.iload 6, 2) := by decide +kernel
theorem dX7_finish_25 : decode cX7_finish 25 = .ok (.bipush 32, 2) := by decide +kernel
theorem dX7_finish_27 : decode cX7_finish 27 = .ok (.if_icmp .ge 52, 3) := by decide +kernel
theorem dX7_finish_30 : decode cX7_finish 30 = .ok (.iload 4, 2) := by decide +kernel
theorem dX7_finish_32 : decode cX7_finish 32 = .ok (.iload 5, 2) := by decide +kernel
theorem dX7_finish_34 : decode cX7_finish 34 = .ok (.if_icmp .ge 45, 3) := by decide +kernel
theorem dX7_finish_37 : decode cX7_finish 37 = .ok (.iload 4, 2) := by decide +kernel
theorem dX7_finish_39 : decode cX7_finish 39 = .ok (.iload 5, 2) := by decide +kernel
theorem dX7_finish_41 : decode cX7_finish 41 = .ok (.iload 4, 2) := by decide +kernel
theorem dX7_finish_43 : decode cX7_finish 43 = .ok (.isub, 1) := by decide +kernel
theorem dX7_finish_44 : decode cX7_finish 44 = .ok (.iconst 2, 1) := by decide +kernel
theorem dX7_finish_45 : decode cX7_finish 45 = .ok (.idiv, 1) := by decide +kernel
theorem dX7_finish_46 : decode cX7_finish 46 = .ok (.iadd, 1) := by decide +kernel
theorem dX7_finish_47 : decode cX7_finish 47 = .ok (.istore 7, 2) := by decide +kernel
theorem dX7_finish_49 : decode cX7_finish 49 = .ok (.aload_n 0, 1) := by decide +kernel
theorem dX7_finish_50 : decode cX7_finish 50 = .ok (.iload_n 1, 1) := by decide +kernel
theorem dX7_finish_51 : decode cX7_finish 51 = .ok (.iload 7, 2) := by decide +kernel
theorem dX7_finish_53 : decode cX7_finish 53 = .ok (.invokevirtual 151, 3) := by decide +kernel
theorem dX7_finish_56 : decode cX7_finish 56 = .ok (.iload_n 2, 1) := by decide +kernel
theorem dX7_finish_57 : decode cX7_finish 57 = .ok (.if_icmp .lt 10, 3) := by decide +kernel
theorem dX7_finish_60 : decode cX7_finish 60 = .ok (.iload 7, 2) := by decide +kernel
theorem dX7_finish_62 : decode cX7_finish 62 = .ok (.istore 5, 2) := by decide +kernel
theorem dX7_finish_64 : decode cX7_finish 64 = .ok (.goto 9, 3) := by decide +kernel
theorem dX7_finish_67 : decode cX7_finish 67 = .ok (.iload 7, 2) := by decide +kernel
theorem dX7_finish_69 : decode cX7_finish 69 = .ok (.iconst 1, 1) := by decide +kernel
theorem dX7_finish_70 : decode cX7_finish 70 = .ok (.iadd, 1) := by decide +kernel
theorem dX7_finish_71 : decode cX7_finish 71 = .ok (.istore 4, 2) := by decide +kernel
theorem dX7_finish_73 : decode cX7_finish 73 = .ok (.iinc 6 1, 3) := by decide +kernel
theorem dX7_finish_76 : decode cX7_finish 76 = .ok (.goto (-53), 3) := by decide +kernel
theorem dX7_finish_79 : decode cX7_finish 79 = .ok (.iload 4, 2) := by decide +kernel
theorem dX7_finish_81 : decode cX7_finish 81 = .ok (.ireturn, 1) := by decide +kernel
theorem dX8_init_0 : decode cX8_init 0 = .ok (.aload_n 0, 1) := by decide +kernel
theorem dX8_init_1 : decode cX8_init 1 = .ok (.invokespecial 1, 3) := by decide +kernel
theorem dX8_init_4 : decode cX8_init 4 = .ok (.aload_n 0, 1) := by decide +kernel
theorem dX8_init_5 : decode cX8_init 5 = .ok (.bipush 24, 2) := by decide +kernel
theorem dX8_init_7 : decode cX8_init 7 = .ok (.anewarray 7, 3) := by decide +kernel
theorem dX8_init_10 : decode cX8_init 10 = .ok (.putfield 9, 3) := by decide +kernel
theorem dX8_init_13 : decode cX8_init 13 = .ok (.aload_n 0, 1) := by decide +kernel
theorem dX8_init_14 : decode cX8_init 14 = .ok (.iconst 0, 1) := by decide +kernel
theorem dX8_init_15 : decode cX8_init 15 = .ok (.putfield 15, 3) := by decide +kernel
theorem dX8_init_18 : decode cX8_init 18 = .ok (.aload_n 0, 1) := by decide +kernel
theorem dX8_init_19 : decode cX8_init 19 = .ok (.bipush 6, 2) := by decide +kernel
theorem dX8_init_21 : decode cX8_init 21 = .ok (.anewarray 19, 3) := by decide +kernel
theorem dX8_init_24 : decode cX8_init 24 = .ok (.putfield 21, 3) := by decide +kernel
theorem dX8_init_27 : decode cX8_init 27 = .ok (.aload_n 0, 1) := by decide +kernel
theorem dX8_init_28 : decode cX8_init 28 = .ok (.iconst 0, 1) := by decide +kernel
theorem dX8_init_29 : decode cX8_init 29 = .ok (.putfield 25, 3) := by decide +kernel
theorem dX8_init_32 : decode cX8_init 32 = .ok (.aload_n 0, 1) := by decide +kernel
theorem dX8_init_33 : decode cX8_init 33 = .ok (.bipush 6, 2) := by decide +kernel
theorem dX8_init_35 : decode cX8_init 35 = .ok (.anewarray 28, 3) := by decide +kernel
theorem dX8_init_38 : decode cX8_init 38 = .ok (.putfield 30, 3) := by decide +kernel
theorem dX8_init_41 : decode cX8_init 41 = .ok (.aload_n 0, 1) := by decide +kernel
theorem dX8_init_42 : decode cX8_init 42 = .ok (.iconst 0, 1) := by decide +kernel
theorem dX8_init_43 : decode cX8_init 43 = .ok (.putfield 34, 3) := by decide +kernel
theorem dX8_init_46 : decode cX8_init 46 = .ok (.aload_n 0, 1) := by decide +kernel
theorem dX8_init_47 : decode cX8_init 47 = .ok (.new 37, 3) := by decide +kernel
theorem dX8_init_50 : decode cX8_init 50 = .ok (.dup, 1) := by decide +kernel
theorem dX8_init_51 : decode cX8_init 51 = .ok (.sipush 4733, 3) := by decide +kernel
theorem dX8_init_54 : decode cX8_init 54 = .ok (.invokespecial 39, 3) := by decide +kernel
theorem dX8_init_57 : decode cX8_init 57 = .ok (.putfield 42, 3) := by decide +kernel
theorem dX8_init_60 : decode cX8_init 60 = .ok (.aload_n 0, 1) := by decide +kernel
theorem dX8_init_61 : decode cX8_init 61 = .ok (.new 46, 3) := by decide +kernel
theorem dX8_init_64 : decode cX8_init 64 = .ok (.dup, 1) := by decide +kernel
theorem dX8_init_65 : decode cX8_init 65 = .ok (.invokespecial 48, 3) := by decide +kernel
theorem dX8_init_68 : decode cX8_init 68 = .ok (.putfield 49, 3) := by decide +kernel
theorem dX8_init_71 : decode cX8_init 71 = .ok (.return_, 1) := by decide +kernel
theorem dX8_dayOf_0 : decode cX8_dayOf 0 = .ok (.iload_n 1, 1) := by decide +kernel
theorem dX8_dayOf_1 : decode cX8_dayOf 1 = .ok (.invokestatic 53, 3) := by decide +kernel
theorem dX8_dayOf_4 : decode cX8_dayOf 4 = .ok (.iload_n 2, 1) := by decide +kernel
theorem dX8_dayOf_5 : decode cX8_dayOf 5 = .ok (.iconst 1, 1) := by decide +kernel
theorem dX8_dayOf_6 : decode cX8_dayOf 6 = .ok (.if_icmp .lt 9, 3) := by decide +kernel
theorem dX8_dayOf_9 : decode cX8_dayOf 9 = .ok (.iload_n 2, 1) := by decide +kernel
theorem dX8_dayOf_10 : decode cX8_dayOf 10 = .ok (.bipush 12, 2) := by decide +kernel
theorem dX8_dayOf_12 : decode cX8_dayOf 12 = .ok (.if_icmp .le 13, 3) := by decide +kernel
theorem dX8_dayOf_15 : decode cX8_dayOf 15 = .ok (.new 56, 3) := by decide +kernel
theorem dX8_dayOf_18 : decode cX8_dayOf 18 = .ok (.dup, 1) := by decide +kernel
theorem dX8_dayOf_19 : decode cX8_dayOf 19 = .ok (.ldc 58, 2) := by decide +kernel
theorem dX8_dayOf_21 : decode cX8_dayOf 21 = .ok (.invokespecial 60, 3) := by decide +kernel
theorem dX8_dayOf_24 : decode cX8_dayOf 24 = .ok (.athrow, 1) := by decide +kernel
theorem dX8_dayOf_25 : decode cX8_dayOf 25 = .ok (.iload_n 1, 1) := by decide +kernel
theorem dX8_dayOf_26 : decode cX8_dayOf 26 = .ok (.invokestatic 63, 3) := by decide +kernel
theorem dX8_dayOf_29 : decode cX8_dayOf 29 = .ok (.iload_n 2, 1) := by decide +kernel
theorem dX8_dayOf_30 : decode cX8_dayOf 30 = .ok (.iadd, 1) := by decide +kernel
theorem dX8_dayOf_31 : decode cX8_dayOf 31 = .ok (.iconst 1, 1) := by decide +kernel
theorem dX8_dayOf_32 : decode cX8_dayOf 32 = .ok (.isub, 1) := by decide +kernel
theorem dX8_dayOf_33 : decode cX8_dayOf 33 = .ok (.istore 4, 2) := by decide +kernel
theorem dX8_dayOf_35 : decode cX8_dayOf 35 = .ok (.iload_n 3, 1) := by decide +kernel
theorem dX8_dayOf_36 : decode cX8_dayOf 36 = .ok (.iconst 1, 1) := by decide +kernel
theorem dX8_dayOf_37 : decode cX8_dayOf 37 = .ok (.if_icmp .lt 12, 3) := by decide +kernel
theorem dX8_dayOf_40 : decode cX8_dayOf 40 = .ok (.iload_n 3, 1) := by decide +kernel
theorem dX8_dayOf_41 : decode cX8_dayOf 41 = .ok (.iload 4, 2) := by decide +kernel
theorem dX8_dayOf_43 : decode cX8_dayOf 43 = .ok (.invokestatic 69, 3) := by decide +kernel
theorem dX8_dayOf_46 : decode cX8_dayOf 46 = .ok (.if_icmp .le 13, 3) := by decide +kernel
theorem dX8_dayOf_49 : decode cX8_dayOf 49 = .ok (.new 56, 3) := by decide +kernel
theorem dX8_dayOf_52 : decode cX8_dayOf 52 = .ok (.dup, 1) := by decide +kernel
theorem dX8_dayOf_53 : decode cX8_dayOf 53 = .ok (.ldc 72, 2) := by decide +kernel
theorem dX8_dayOf_55 : decode cX8_dayOf 55 = .ok (.invokespecial 60, 3) := by decide +kernel
theorem dX8_dayOf_58 : decode cX8_dayOf 58 = .ok (.athrow, 1) := by decide +kernel
theorem dX8_dayOf_59 : decode cX8_dayOf 59 = .ok (.iload 4, 2) := by decide +kernel
theorem dX8_dayOf_61 : decode cX8_dayOf 61 = .ok (.invokestatic 74, 3) := by decide +kernel
theorem dX8_dayOf_64 : decode cX8_dayOf 64 = .ok (.iload_n 3, 1) := by decide +kernel
theorem dX8_dayOf_65 : decode cX8_dayOf 65 = .ok (.iadd, 1) := by decide +kernel
theorem dX8_dayOf_66 : decode cX8_dayOf 66 = .ok (.iconst 1, 1) := by decide +kernel
theorem dX8_dayOf_67 : decode cX8_dayOf 67 = .ok (.isub, 1) := by decide +kernel
theorem dX8_dayOf_68 : decode cX8_dayOf 68 = .ok (.ireturn, 1) := by decide +kernel
theorem dX8_yearOf_0 : decode cX8_yearOf 0 = .ok (.iload_n 1, 1) := by decide +kernel
theorem dX8_yearOf_1 : decode cX8_yearOf 1 = .ok (.invokestatic 77, 3) := by decide +kernel
theorem dX8_yearOf_4 : decode cX8_yearOf 4 = .ok (.iload_n 1, 1) := by decide +kernel
theorem dX8_yearOf_5 : decode cX8_yearOf 5 = .ok (.invokestatic 80, 3) := by decide +kernel
theorem dX8_yearOf_8 : decode cX8_yearOf 8 = .ok (.ireturn, 1) := by decide +kernel
theorem dX8_monthOf_0 : decode cX8_monthOf 0 = .ok (.iload_n 1, 1) := by decide +kernel
theorem dX8_monthOf_1 : decode cX8_monthOf 1 = .ok (.invokestatic 77, 3) := by decide +kernel
theorem dX8_monthOf_4 : decode cX8_monthOf 4 = .ok (.iload_n 1, 1) := by decide +kernel
theorem dX8_monthOf_5 : decode cX8_monthOf 5 = .ok (.invokestatic 83, 3) := by decide +kernel
theorem dX8_monthOf_8 : decode cX8_monthOf 8 = .ok (.bipush 12, 2) := by decide +kernel
theorem dX8_monthOf_10 : decode cX8_monthOf 10 = .ok (.irem, 1) := by decide +kernel
theorem dX8_monthOf_11 : decode cX8_monthOf 11 = .ok (.iconst 1, 1) := by decide +kernel
theorem dX8_monthOf_12 : decode cX8_monthOf 12 = .ok (.iadd, 1) := by decide +kernel
theorem dX8_monthOf_13 : decode cX8_monthOf 13 = .ok (.ireturn, 1) := by decide +kernel
theorem dX8_dayOfMonth_0 : decode cX8_dayOfMonth 0 = .ok (.iload_n 1, 1) := by decide +kernel
theorem dX8_dayOfMonth_1 : decode cX8_dayOfMonth 1 = .ok (.invokestatic 77, 3) := by decide +kernel
theorem dX8_dayOfMonth_4 : decode cX8_dayOfMonth 4 = .ok (.iload_n 1, 1) := by decide +kernel
theorem dX8_dayOfMonth_5 : decode cX8_dayOfMonth 5 = .ok (.invokestatic 86, 3) := by decide +kernel
theorem dX8_dayOfMonth_8 : decode cX8_dayOfMonth 8 = .ok (.ireturn, 1) := by decide +kernel
theorem dX8_addPattern_0 : decode cX8_addPattern 0 = .ok (.iload_n 1, 1) := by decide +kernel
theorem dX8_addPattern_1 : decode cX8_addPattern 1 = .ok (.ifCond .lt 19, 3) := by decide +kernel
theorem dX8_addPattern_4 : decode cX8_addPattern 4 = .ok (.iload_n 1, 1) := by decide +kernel
theorem dX8_addPattern_5 : decode cX8_addPattern 5 = .ok (.bipush 12, 2) := by decide +kernel
theorem dX8_addPattern_7 : decode cX8_addPattern 7 = .ok (.if_icmp .gt 13, 3) := by decide +kernel
theorem dX8_addPattern_10 : decode cX8_addPattern 10 = .ok (.iload_n 2, 1) := by decide +kernel
theorem dX8_addPattern_11 : decode cX8_addPattern 11 = .ok (.ifCond .lt 9, 3) := by decide +kernel
theorem dX8_addPattern_14 : decode cX8_addPattern 14 = .ok (.iload_n 2, 1) := by decide +kernel
theorem dX8_addPattern_15 : decode cX8_addPattern 15 = .ok (.bipush 16, 2) := by decide +kernel
theorem dX8_addPattern_17 : decode cX8_addPattern 17 = .ok (.if_icmp .le 13, 3) := by decide +kernel
theorem dX8_addPattern_20 : decode cX8_addPattern 20 = .ok (.new 56, 3) := by decide +kernel
theorem dX8_addPattern_23 : decode cX8_addPattern 23 = .ok (.dup, 1) := by decide +kernel
theorem dX8_addPattern_24 : decode cX8_addPattern 24 = .ok (.ldc 108, 2) := by decide +kernel
theorem dX8_addPattern_26 : decode cX8_addPattern 26 = .ok (.invokespecial 60, 3) := by decide +kernel
theorem dX8_addPattern_29 : decode cX8_addPattern 29 = .ok (.athrow, 1) := by decide +kernel
theorem dX8_addPattern_30 : decode cX8_addPattern 30 = .ok (.iload_n 3, 1) := by decide +kernel
theorem dX8_addPattern_31 : decode cX8_addPattern 31 = .ok (.iconst 1, 1) := by decide +kernel
theorem dX8_addPattern_32 : decode cX8_addPattern 32 = .ok (.if_icmp .lt 11, 3) := by decide +kernel
theorem dX8_addPattern_35 : decode cX8_addPattern 35 = .ok (.iload_n 3, 1) := by decide +kernel
theorem dX8_addPattern_36 : decode cX8_addPattern 36 = .ok (.iload_n 2, 1) := by decide +kernel
theorem dX8_addPattern_37 : decode cX8_addPattern 37 = .ok (.invokestatic 110, 3) := by decide +kernel
theorem dX8_addPattern_40 : decode cX8_addPattern 40 = .ok (.if_icmp .le 13, 3) := by decide +kernel
theorem dX8_addPattern_43 : decode cX8_addPattern 43 = .ok (.new 56, 3) := by decide +kernel
theorem dX8_addPattern_46 : decode cX8_addPattern 46 = .ok (.dup, 1) := by decide +kernel
theorem dX8_addPattern_47 : decode cX8_addPattern 47 = .ok (.ldc 113, 2) := by decide +kernel
theorem dX8_addPattern_49 : decode cX8_addPattern 49 = .ok (.invokespecial 60, 3) := by decide +kernel
theorem dX8_addPattern_52 : decode cX8_addPattern 52 = .ok (.athrow, 1) := by decide +kernel
theorem dX8_addPattern_53 : decode cX8_addPattern 53 = .ok (.iload_n 2, 1) := by decide +kernel
theorem dX8_addPattern_54 : decode cX8_addPattern 54 = .ok (.bipush 16, 2) := by decide +kernel
theorem dX8_addPattern_56 : decode cX8_addPattern 56 = .ok (.if_icmp .ne 17, 3) := by decide +kernel
theorem dX8_addPattern_59 : decode cX8_addPattern 59 = .ok (.iload_n 1, 1) := by decide +kernel
theorem dX8_addPattern_60 : decode cX8_addPattern 60 = .ok (.ifCond .eq 13, 3) := by decide +kernel
theorem dX8_addPattern_63 : decode cX8_addPattern 63 = .ok (.new 56, 3) := by decide +kernel
theorem dX8_addPattern_66 : decode cX8_addPattern 66 = .ok (.dup, 1) := by decide +kernel
theorem dX8_addPattern_67 : decode cX8_addPattern 67 = .ok (.ldc 115, 2) := by decide +kernel
theorem dX8_addPattern_69 : decode cX8_addPattern 69 = .ok (.invokespecial 60, 3) := by decide +kernel
theorem dX8_addPattern_72 : decode cX8_addPattern 72 = .ok (.athrow, 1) := by decide +kernel
theorem dX8_addPattern_73 : decode cX8_addPattern 73 = .ok (.aload_n 0, 1) := by decide +kernel
theorem dX8_addPattern_74 : decode cX8_addPattern 74 = .ok (.getfield 15, 3) := by decide +kernel
theorem dX8_addPattern_77 : decode cX8_addPattern 77 = .ok (.istore 4, 2) := by decide +kernel
theorem dX8_addPattern_79 : decode cX8_addPattern 79 = .ok (.iload 4, 2) := by decide +kernel
theorem dX8_addPattern_81 : decode cX8_addPattern 81 = .ok (.ifCond .lt 13, 3) := by decide +kernel
theorem dX8_addPattern_84 : decode cX8_addPattern 84 = .ok (.iload 4, 2) := by decide +kernel
theorem dX8_addPattern_86 : decode cX8_addPattern 86 = .ok (.aload_n 0, 1) := by decide +kernel
theorem dX8_addPattern_87 : decode cX8_addPattern 87 = .ok (.getfield 9, 3) := by decide +kernel
theorem dX8_addPattern_90 : decode cX8_addPattern 90 = .ok (.arraylength, 1) := by decide +kernel
theorem dX8_addPattern_91 : decode cX8_addPattern 91 = .ok (.if_icmp .lt 13, 3) := by decide +kernel
theorem dX8_addPattern_94 : decode cX8_addPattern 94 = .ok (.new 117, 3) := by decide +kernel
theorem dX8_addPattern_97 : decode cX8_addPattern 97 = .ok (.dup, 1) := by decide +kernel
theorem dX8_addPattern_98 : decode cX8_addPattern 98 = .ok (.ldc 119, 2) := by decide +kernel
theorem dX8_addPattern_100 : decode cX8_addPattern 100 = .ok (.invokespecial 121, 3) := by decide +kernel
theorem dX8_addPattern_103 : decode cX8_addPattern 103 = .ok (.athrow, 1) := by decide +kernel
theorem dX8_addPattern_104 : decode cX8_addPattern 104 = .ok (.aload_n 0, 1) := by decide +kernel
theorem dX8_addPattern_105 : decode cX8_addPattern 105 = .ok (.getfield 9, 3) := by decide +kernel
theorem dX8_addPattern_108 : decode cX8_addPattern 108 = .ok (.iload 4, 2) := by decide +kernel
theorem dX8_addPattern_110 : decode cX8_addPattern 110 = .ok (.new 7, 3) := by decide +kernel
theorem dX8_addPattern_113 : decode cX8_addPattern 113 = .ok (.dup, 1) := by decide +kernel
theorem dX8_addPattern_114 : decode cX8_addPattern 114 = .ok (.iload_n 1, 1) := by decide +kernel
theorem dX8_addPattern_115 : decode cX8_addPattern 115 = .ok (.iload_n 2, 1) := by decide +kernel
theorem dX8_addPattern_116 : decode cX8_addPattern 116 = .ok (.iload_n 3, 1) := by decide +kernel
theorem dX8_addPattern_117 : decode cX8_addPattern 117 = .ok (.invokespecial 122, 3) := by decide +kernel
theorem dX8_addPattern_120 : decode cX8_addPattern 120 = .ok (.aastore, 1) := by decide +kernel
theorem dX8_addPattern_121 : decode cX8_addPattern 121 = .ok (.aload_n 0, 1) := by decide +kernel
theorem dX8_addPattern_122 : decode cX8_addPattern 122 = .ok (.iload 4, 2) := by decide +kernel
theorem dX8_addPattern_124 : decode cX8_addPattern 124 = .ok (.iconst 1, 1) := by decide +kernel
theorem dX8_addPattern_125 : decode cX8_addPattern 125 = .ok (.iadd, 1) := by decide +kernel
theorem dX8_addPattern_126 : decode cX8_addPattern 126 = .ok (.putfield 15, 3) := by decide +kernel
theorem dX8_addPattern_129 : decode cX8_addPattern 129 = .ok (.iload 4, 2) := by decide +kernel
theorem dX8_addPattern_131 : decode cX8_addPattern 131 = .ok (.ireturn, 1) := by decide +kernel
theorem dX8_tells_0 : decode cX8_tells 0 = .ok (.aload_n 0, 1) := by decide +kernel
theorem dX8_tells_1 : decode cX8_tells 1 = .ok (.iload_n 1, 1) := by decide +kernel
theorem dX8_tells_2 : decode cX8_tells 2 = .ok (.invokevirtual 125, 3) := by decide +kernel
theorem dX8_tells_5 : decode cX8_tells 5 = .ok (.astore_n 3, 1) := by decide +kernel
theorem dX8_tells_6 : decode cX8_tells 6 = .ok (.iload_n 2, 1) := by decide +kernel
theorem dX8_tells_7 : decode cX8_tells 7 = .ok (.invokestatic 77, 3) := by decide +kernel
theorem dX8_tells_10 : decode cX8_tells 10 = .ok (.aload_n 3, 1) := by decide +kernel
theorem dX8_tells_11 : decode cX8_tells 11 = .ok (.iload_n 2, 1) := by decide +kernel
theorem dX8_tells_12 : decode cX8_tells 12 = .ok (.invokestatic 83, 3) := by decide +kernel
theorem dX8_tells_15 : decode cX8_tells 15 = .ok (.invokevirtual 132, 3) := by decide +kernel
theorem dX8_tells_18 : decode cX8_tells 18 = .ok (.iload_n 2, 1) := by decide +kernel
theorem dX8_tells_19 : decode cX8_tells 19 = .ok (.if_icmp .ne 7, 3) := by decide +kernel
theorem dX8_tells_22 : decode cX8_tells 22 = .ok (.iconst 1, 1) := by decide +kernel
theorem dX8_tells_23 : decode cX8_tells 23 = .ok (.goto 4, 3) := by decide +kernel
theorem dX8_tells_26 : decode cX8_tells 26 = .ok (.iconst 0, 1) := by decide +kernel
theorem dX8_tells_27 : decode cX8_tells 27 = .ok (.ireturn, 1) := by decide +kernel
theorem dX8_nextTold_0 : decode cX8_nextTold 0 = .ok (.aload_n 0, 1) := by decide +kernel
theorem dX8_nextTold_1 : decode cX8_nextTold 1 = .ok (.iload_n 1, 1) := by decide +kernel
theorem dX8_nextTold_2 : decode cX8_nextTold 2 = .ok (.invokevirtual 125, 3) := by decide +kernel
theorem dX8_nextTold_5 : decode cX8_nextTold 5 = .ok (.astore_n 3, 1) := by decide +kernel
theorem dX8_nextTold_6 : decode cX8_nextTold 6 = .ok (.iload_n 2, 1) := by decide +kernel
theorem dX8_nextTold_7 : decode cX8_nextTold 7 = .ok (.invokestatic 77, 3) := by decide +kernel
theorem dX8_nextTold_10 : decode cX8_nextTold 10 = .ok (.aload_n 3, 1) := by decide +kernel
theorem dX8_nextTold_11 : decode cX8_nextTold 11 = .ok (.iload_n 2, 1) := by decide +kernel
theorem dX8_nextTold_12 : decode cX8_nextTold 12 = .ok (.invokevirtual 135, 3) := by decide +kernel
theorem dX8_nextTold_15 : decode cX8_nextTold 15 = .ok (.ireturn, 1) := by decide +kernel
theorem dX8_addPlace_0 : decode cX8_addPlace 0 = .ok (.iload_n 1, 1) := by decide +kernel
theorem dX8_addPlace_1 : decode cX8_addPlace 1 = .ok (.sipush (-840), 3) := by decide +kernel
theorem dX8_addPlace_4 : decode cX8_addPlace 4 = .ok (.if_icmp .lt 10, 3) := by decide +kernel
theorem dX8_addPlace_7 : decode cX8_addPlace 7 = .ok (.iload_n 1, 1) := by decide +kernel
theorem dX8_addPlace_8 : decode cX8_addPlace 8 = .ok (.sipush 840, 3) := by decide +kernel
theorem dX8_addPlace_11 : decode cX8_addPlace 11 = .ok (.if_icmp .le 13, 3) := by decide +kernel
theorem dX8_addPlace_14 : decode cX8_addPlace 14 = .ok (.new 56, 3) := by decide +kernel
theorem dX8_addPlace_17 : decode cX8_addPlace 17 = .ok (.dup, 1) := by decide +kernel
theorem dX8_addPlace_18 : decode cX8_addPlace 18 = .ok (.ldc 138, 2) := by decide +kernel
theorem dX8_addPlace_20 : decode cX8_addPlace 20 = .ok (.invokespecial 60, 3) := by decide +kernel
theorem dX8_addPlace_23 : decode cX8_addPlace 23 = .ok (.athrow, 1) := by decide +kernel
theorem dX8_addPlace_24 : decode cX8_addPlace 24 = .ok (.aload_n 0, 1) := by decide +kernel
theorem dX8_addPlace_25 : decode cX8_addPlace 25 = .ok (.getfield 25, 3) := by decide +kernel
theorem dX8_addPlace_28 : decode cX8_addPlace 28 = .ok (.istore_n 2, 1) := by decide +kernel
theorem dX8_addPlace_29 : decode cX8_addPlace 29 = .ok (.iload_n 2, 1) := by decide +kernel
theorem dX8_addPlace_30 : decode cX8_addPlace 30 = .ok (.ifCond .lt 12, 3) := by decide +kernel
theorem dX8_addPlace_33 : decode cX8_addPlace 33 = .ok (.iload_n 2, 1) := by decide +kernel
theorem dX8_addPlace_34 : decode cX8_addPlace 34 = .ok (.aload_n 0, 1) := by decide +kernel
theorem dX8_addPlace_35 : decode cX8_addPlace 35 = .ok (.getfield 21, 3) := by decide +kernel
theorem dX8_addPlace_38 : decode cX8_addPlace 38 = .ok (.arraylength, 1) := by decide +kernel
theorem dX8_addPlace_39 : decode cX8_addPlace 39 = .ok (.if_icmp .lt 13, 3) := by decide +kernel
theorem dX8_addPlace_42 : decode cX8_addPlace 42 = .ok (.new 117, 3) := by decide +kernel
theorem dX8_addPlace_45 : decode cX8_addPlace 45 = .ok (.dup, 1) := by decide +kernel
theorem dX8_addPlace_46 : decode cX8_addPlace 46 = .ok (.ldc 140, 2) := by decide +kernel
theorem dX8_addPlace_48 : decode cX8_addPlace 48 = .ok (.invokespecial 121, 3) := by decide +kernel
theorem dX8_addPlace_51 : decode cX8_addPlace 51 = .ok (.athrow, 1) := by decide +kernel
theorem dX8_addPlace_52 : decode cX8_addPlace 52 = .ok (.aload_n 0, 1) := by decide +kernel
theorem dX8_addPlace_53 : decode cX8_addPlace 53 = .ok (.getfield 21, 3) := by decide +kernel
theorem dX8_addPlace_56 : decode cX8_addPlace 56 = .ok (.iload_n 2, 1) := by decide +kernel
theorem dX8_addPlace_57 : decode cX8_addPlace 57 = .ok (.new 19, 3) := by decide +kernel
theorem dX8_addPlace_60 : decode cX8_addPlace 60 = .ok (.dup, 1) := by decide +kernel
theorem dX8_addPlace_61 : decode cX8_addPlace 61 = .ok (.iload_n 1, 1) := by decide +kernel
theorem dX8_addPlace_62 : decode cX8_addPlace 62 = .ok (.invokespecial 142, 3) := by decide +kernel
theorem dX8_addPlace_65 : decode cX8_addPlace 65 = .ok (.aastore, 1) := by decide +kernel
theorem dX8_addPlace_66 : decode cX8_addPlace 66 = .ok (.aload_n 0, 1) := by decide +kernel
theorem dX8_addPlace_67 : decode cX8_addPlace 67 = .ok (.iload_n 2, 1) := by decide +kernel
theorem dX8_addPlace_68 : decode cX8_addPlace 68 = .ok (.iconst 1, 1) := by decide +kernel
theorem dX8_addPlace_69 : decode cX8_addPlace 69 = .ok (.iadd, 1) := by decide +kernel
theorem dX8_addPlace_70 : decode cX8_addPlace 70 = .ok (.putfield 25, 3) := by decide +kernel
theorem dX8_addPlace_73 : decode cX8_addPlace 73 = .ok (.iload_n 2, 1) := by decide +kernel
theorem dX8_addPlace_74 : decode cX8_addPlace 74 = .ok (.ireturn, 1) := by decide +kernel
theorem dX8_addTurn_0 : decode cX8_addTurn 0 = .ok (.aload_n 0, 1) := by decide +kernel
theorem dX8_addTurn_1 : decode cX8_addTurn 1 = .ok (.iload_n 1, 1) := by decide +kernel
theorem dX8_addTurn_2 : decode cX8_addTurn 2 = .ok (.invokevirtual 143, 3) := by decide +kernel
theorem dX8_addTurn_5 : decode cX8_addTurn 5 = .ok (.astore 8, 2) := by decide +kernel
theorem dX8_addTurn_7 : decode cX8_addTurn 7 = .ok (.aload_n 0, 1) := by decide +kernel
theorem dX8_addTurn_8 : decode cX8_addTurn 8 = .ok (.iload 4, 2) := by decide +kernel
theorem dX8_addTurn_10 : decode cX8_addTurn 10 = .ok (.invokevirtual 125, 3) := by decide +kernel
theorem dX8_addTurn_13 : decode cX8_addTurn 13 = .ok (.astore 9, 2) := by decide +kernel
theorem dX8_addTurn_15 : decode cX8_addTurn 15 = .ok (.iload_n 2, 1) := by decide +kernel
theorem dX8_addTurn_16 : decode cX8_addTurn 16 = .ok (.iload_n 3, 1) := by decide +kernel
theorem dX8_addTurn_17 : decode cX8_addTurn 17 = .ok (.invokestatic 147, 3) := by decide +kernel
theorem dX8_addTurn_20 : decode cX8_addTurn 20 = .ok (.iload 5, 2) := by decide +kernel
theorem dX8_addTurn_22 : decode cX8_addTurn 22 = .ok (.ifCond .lt 35, 3) := by decide +kernel
theorem dX8_addTurn_25 : decode cX8_addTurn 25 = .ok (.iload 5, 2) := by decide +kernel
theorem dX8_addTurn_27 : decode cX8_addTurn 27 = .ok (.sipush 1440, 3) := by decide +kernel
theorem dX8_addTurn_30 : decode cX8_addTurn 30 = .ok (.if_icmp .ge 27, 3) := by decide +kernel
theorem dX8_addTurn_33 : decode cX8_addTurn 33 = .ok (.iload 6, 2) := by decide +kernel
theorem dX8_addTurn_35 : decode cX8_addTurn 35 = .ok (.ifCond .lt 22, 3) := by decide +kernel
theorem dX8_addTurn_38 : decode cX8_addTurn 38 = .ok (.iload 6, 2) := by decide +kernel
theorem dX8_addTurn_40 : decode cX8_addTurn 40 = .ok (.iconst 2, 1) := by decide +kernel
theorem dX8_addTurn_41 : decode cX8_addTurn 41 = .ok (.if_icmp .gt 16, 3) := by decide +kernel
theorem dX8_addTurn_44 : decode cX8_addTurn 44 = .ok (.iload 7, 2) := by decide +kernel
theorem dX8_addTurn_46 : decode cX8_addTurn 46 = .ok (.ifCond .lt 11, 3) := by decide +kernel
theorem dX8_addTurn_49 : decode cX8_addTurn 49 = .ok (.iload 7, 2) := by decide +kernel
theorem dX8_addTurn_51 : decode cX8_addTurn 51 = .ok (.sipush 180, 3) := by decide +kernel
theorem dX8_addTurn_54 : decode cX8_addTurn 54 = .ok (.if_icmp .le 13, 3) := by decide +kernel
theorem dX8_addTurn_57 : decode cX8_addTurn 57 = .ok (.new 56, 3) := by decide +kernel
theorem dX8_addTurn_60 : decode cX8_addTurn 60 = .ok (.dup, 1) := by decide +kernel
theorem dX8_addTurn_61 : decode cX8_addTurn 61 = .ok (.ldc 151, 2) := by decide +kernel
theorem dX8_addTurn_63 : decode cX8_addTurn 63 = .ok (.invokespecial 60, 3) := by decide +kernel
theorem dX8_addTurn_66 : decode cX8_addTurn 66 = .ok (.athrow, 1) := by decide +kernel
theorem dX8_addTurn_67 : decode cX8_addTurn 67 = .ok (.aload 9, 2) := by decide +kernel
theorem dX8_addTurn_69 : decode cX8_addTurn 69 = .ok (.getfield 153, 3) := by decide +kernel
theorem dX8_addTurn_72 : decode cX8_addTurn 72 = .ok (.ifCond .ne 23, 3) := by decide +kernel
theorem dX8_addTurn_75 : decode cX8_addTurn 75 = .ok (.aload 9, 2) := by decide +kernel
theorem dX8_addTurn_77 : decode cX8_addTurn 77 = .ok (.getfield 156, 3) := by decide +kernel
theorem dX8_addTurn_80 : decode cX8_addTurn 80 = .ok (.bipush 16, 2) := by decide +kernel
theorem dX8_addTurn_82 : decode cX8_addTurn 82 = .ok (.if_icmp .eq 13, 3) := by decide +kernel
theorem dX8_addTurn_85 : decode cX8_addTurn 85 = .ok (.new 56, 3) := by decide +kernel
theorem dX8_addTurn_88 : decode cX8_addTurn 88 = .ok (.dup, 1) := by decide +kernel
theorem dX8_addTurn_89 : decode cX8_addTurn 89 = .ok (.ldc 159, 2) := by decide +kernel
theorem dX8_addTurn_91 : decode cX8_addTurn 91 = .ok (.invokespecial 60, 3) := by decide +kernel
theorem dX8_addTurn_94 : decode cX8_addTurn 94 = .ok (.athrow, 1) := by decide +kernel
theorem dX8_addTurn_95 : decode cX8_addTurn 95 = .ok (.aload 8, 2) := by decide +kernel
theorem dX8_addTurn_97 : decode cX8_addTurn 97 = .ok (.invokevirtual 161, 3) := by decide +kernel
theorem dX8_addTurn_100 : decode cX8_addTurn 100 = .ok (.ifCond .ne 13, 3) := by decide +kernel
theorem dX8_addTurn_103 : decode cX8_addTurn 103 = .ok (.new 117, 3) := by decide +kernel
theorem dX8_addTurn_106 : decode cX8_addTurn 106 = .ok (.dup, 1) := by decide +kernel
theorem dX8_addTurn_107 : decode cX8_addTurn 107 = .ok (.ldc 165, 2) := by decide +kernel
theorem dX8_addTurn_109 : decode cX8_addTurn 109 = .ok (.invokespecial 121, 3) := by decide +kernel
theorem dX8_addTurn_112 : decode cX8_addTurn 112 = .ok (.athrow, 1) := by decide +kernel
theorem dX8_addTurn_113 : decode cX8_addTurn 113 = .ok (.aload 8, 2) := by decide +kernel
theorem dX8_addTurn_115 : decode cX8_addTurn 115 = .ok (.new 167, 3) := by decide +kernel
theorem dX8_addTurn_118 : decode cX8_addTurn 118 = .ok (.dup, 1) := by decide +kernel
theorem dX8_addTurn_119 : decode cX8_addTurn 119 = .ok (.iload_n 2, 1) := by decide +kernel
theorem dX8_addTurn_120 : decode cX8_addTurn 120 = .ok (.iload_n 3, 1) := by decide +kernel
theorem dX8_addTurn_121 : decode cX8_addTurn 121 = .ok (.aload 9, 2) := by decide +kernel
theorem dX8_addTurn_123 : decode cX8_addTurn 123 = .ok (.iload 5, 2) := by decide +kernel
theorem dX8_addTurn_125 : decode cX8_addTurn 125 = .ok (.iload 6, 2) := by decide +kernel
theorem dX8_addTurn_127 : decode cX8_addTurn 127 = .ok (.iload 7, 2) := by decide +kernel
theorem dX8_addTurn_129 : decode cX8_addTurn 129 = .ok (.invokespecial 169, 3) := by decide +kernel
theorem dX8_addTurn_132 : decode cX8_addTurn 132 = .ok (.invokevirtual 172, 3) := by decide +kernel
theorem dX8_addTurn_135 : decode cX8_addTurn 135 = .ok (.istore 10, 2) := by decide +kernel
theorem dX8_addTurn_137 : decode cX8_addTurn 137 = .ok (.aload 8, 2) := by decide +kernel
theorem dX8_addTurn_139 : decode cX8_addTurn 139 = .ok (.invokevirtual 176, 3) := by decide +kernel
theorem dX8_addTurn_142 : decode cX8_addTurn 142 = .ok (.iload 10, 2) := by decide +kernel
theorem dX8_addTurn_144 : decode cX8_addTurn 144 = .ok (.ireturn, 1) := by decide +kernel
theorem dX8_savingAt_0 : decode cX8_savingAt 0 = .ok (.aload_n 0, 1) := by decide +kernel
theorem dX8_savingAt_1 : decode cX8_savingAt 1 = .ok (.iload_n 1, 1) := by decide +kernel
theorem dX8_savingAt_2 : decode cX8_savingAt 2 = .ok (.invokevirtual 143, 3) := by decide +kernel
theorem dX8_savingAt_5 : decode cX8_savingAt 5 = .ok (.astore_n 3, 1) := by decide +kernel
theorem dX8_savingAt_6 : decode cX8_savingAt 6 = .ok (.iload_n 2, 1) := by decide +kernel
theorem dX8_savingAt_7 : decode cX8_savingAt 7 = .ok (.invokestatic 179, 3) := by decide +kernel
theorem dX8_savingAt_10 : decode cX8_savingAt 10 = .ok (.aload_n 3, 1) := by decide +kernel
theorem dX8_savingAt_11 : decode cX8_savingAt 11 = .ok (.iload_n 2, 1) := by decide +kernel
theorem dX8_savingAt_12 : decode cX8_savingAt 12 = .ok (.invokevirtual 182, 3) := by decide +kernel
theorem dX8_savingAt_15 : decode cX8_savingAt 15 = .ok (.ireturn, 1) := by decide +kernel
theorem dX8_localAt_0 : decode cX8_localAt 0 = .ok (.aload_n 0, 1) := by decide +kernel
theorem dX8_localAt_1 : decode cX8_localAt 1 = .ok (.iload_n 1, 1) := by decide +kernel
theorem dX8_localAt_2 : decode cX8_localAt 2 = .ok (.invokevirtual 143, 3) := by decide +kernel
theorem dX8_localAt_5 : decode cX8_localAt 5 = .ok (.astore_n 3, 1) := by decide +kernel
theorem dX8_localAt_6 : decode cX8_localAt 6 = .ok (.iload_n 2, 1) := by decide +kernel
theorem dX8_localAt_7 : decode cX8_localAt 7 = .ok (.invokestatic 179, 3) := by decide +kernel
theorem dX8_localAt_10 : decode cX8_localAt 10 = .ok (.aload_n 3, 1) := by decide +kernel
theorem dX8_localAt_11 : decode cX8_localAt 11 = .ok (.iload_n 2, 1) := by decide +kernel
theorem dX8_localAt_12 : decode cX8_localAt 12 = .ok (.invokevirtual 185, 3) := by decide +kernel
theorem dX8_localAt_15 : decode cX8_localAt 15 = .ok (.ireturn, 1) := by decide +kernel
theorem dX8_nextChange_0 : decode cX8_nextChange 0 = .ok (.aload_n 0, 1) := by decide +kernel
theorem dX8_nextChange_1 : decode cX8_nextChange 1 = .ok (.iload_n 1, 1) := by decide +kernel
theorem dX8_nextChange_2 : decode cX8_nextChange 2 = .ok (.invokevirtual 143, 3) := by decide +kernel
theorem dX8_nextChange_5 : decode cX8_nextChange 5 = .ok (.astore_n 3, 1) := by decide +kernel
theorem dX8_nextChange_6 : decode cX8_nextChange 6 = .ok (.iload_n 2, 1) := by decide +kernel
theorem dX8_nextChange_7 : decode cX8_nextChange 7 = .ok (.invokestatic 179, 3) := by decide +kernel
theorem dX8_nextChange_10 : decode cX8_nextChange 10 = .ok (.aload_n 3, 1) := by decide +kernel
theorem dX8_nextChange_11 : decode cX8_nextChange 11 = .ok (.iload_n 2, 1) := by decide +kernel
theorem dX8_nextChange_12 : decode cX8_nextChange 12 = .ok (.invokevirtual 188, 3) := by decide +kernel
theorem dX8_nextChange_15 : decode cX8_nextChange 15 = .ok (.ireturn, 1) := by decide +kernel
theorem dX8_showsOften_0 : decode cX8_showsOften 0 = .ok (.aload_n 0, 1) := by decide +kernel
theorem dX8_showsOften_1 : decode cX8_showsOften 1 = .ok (.iload_n 1, 1) := by decide +kernel
theorem dX8_showsOften_2 : decode cX8_showsOften 2 = .ok (.invokevirtual 143, 3) := by decide +kernel
theorem dX8_showsOften_5 : decode cX8_showsOften 5 = .ok (.iload_n 2, 1) := by decide +kernel
theorem dX8_showsOften_6 : decode cX8_showsOften 6 = .ok (.invokevirtual 191, 3) := by decide +kernel
theorem dX8_showsOften_9 : decode cX8_showsOften 9 = .ok (.ireturn, 1) := by decide +kernel
theorem dX8_momentOf_0 : decode cX8_momentOf 0 = .ok (.aload_n 0, 1) := by decide +kernel
theorem dX8_momentOf_1 : decode cX8_momentOf 1 = .ok (.iload_n 1, 1) := by decide +kernel
theorem dX8_momentOf_2 : decode cX8_momentOf 2 = .ok (.invokevirtual 143, 3) := by decide +kernel
theorem dX8_momentOf_5 : decode cX8_momentOf 5 = .ok (.iload_n 2, 1) := by decide +kernel
theorem dX8_momentOf_6 : decode cX8_momentOf 6 = .ok (.invokevirtual 194, 3) := by decide +kernel
theorem dX8_momentOf_9 : decode cX8_momentOf 9 = .ok (.ireturn, 1) := by decide +kernel
theorem dX8_lastMomentOf_0 : decode cX8_lastMomentOf 0 = .ok (.aload_n 0, 1) := by decide +kernel
theorem dX8_lastMomentOf_1 : decode cX8_lastMomentOf 1 = .ok (.iload_n 1, 1) := by decide +kernel
theorem dX8_lastMomentOf_2 : decode cX8_lastMomentOf 2 = .ok (.invokevirtual 143, 3) := by decide +kernel
theorem dX8_lastMomentOf_5 : decode cX8_lastMomentOf 5 = .ok (.iload_n 2, 1) := by decide +kernel
theorem dX8_lastMomentOf_6 : decode cX8_lastMomentOf 6 = .ok (.invokevirtual 197, 3) := by decide +kernel
theorem dX8_lastMomentOf_9 : decode cX8_lastMomentOf 9 = .ok (.ireturn, 1) := by decide +kernel
theorem dX8_ahead_0 : decode cX8_ahead 0 = .ok (.aload_n 0, 1) := by decide +kernel
theorem dX8_ahead_1 : decode cX8_ahead 1 = .ok (.iload_n 1, 1) := by decide +kernel
theorem dX8_ahead_2 : decode cX8_ahead 2 = .ok (.invokevirtual 143, 3) := by decide +kernel
theorem dX8_ahead_5 : decode cX8_ahead 5 = .ok (.astore 4, 2) := by decide +kernel
theorem dX8_ahead_7 : decode cX8_ahead 7 = .ok (.aload_n 0, 1) := by decide +kernel
theorem dX8_ahead_8 : decode cX8_ahead 8 = .ok (.iload_n 2, 1) := by decide +kernel
theorem dX8_ahead_9 : decode cX8_ahead 9 = .ok (.invokevirtual 143, 3) := by decide +kernel
theorem dX8_ahead_12 : decode cX8_ahead 12 = .ok (.astore 5, 2) := by decide +kernel
theorem dX8_ahead_14 : decode cX8_ahead 14 = .ok (.iload_n 3, 1) := by decide +kernel
theorem dX8_ahead_15 : decode cX8_ahead 15 = .ok (.invokestatic 179, 3) := by decide +kernel
theorem dX8_ahead_18 : decode cX8_ahead 18 = .ok (.aload 4, 2) := by decide +kernel
theorem dX8_ahead_20 : decode cX8_ahead 20 = .ok (.iload_n 3, 1) := by decide +kernel
theorem dX8_ahead_21 : decode cX8_ahead 21 = .ok (.invokevirtual 185, 3) := by decide +kernel
theorem dX8_ahead_24 : decode cX8_ahead 24 = .ok (.aload 5, 2) := by decide +kernel
theorem dX8_ahead_26 : decode cX8_ahead 26 = .ok (.iload_n 3, 1) := by decide +kernel
theorem dX8_ahead_27 : decode cX8_ahead 27 = .ok (.invokevirtual 185, 3) := by decide +kernel
theorem dX8_ahead_30 : decode cX8_ahead 30 = .ok (.isub, 1) := by decide +kernel
theorem dX8_ahead_31 : decode cX8_ahead 31 = .ok (.ireturn, 1) := by decide +kernel
theorem dX8_addSeries_0 : decode cX8_addSeries 0 = .ok (.aload_n 0, 1) := by decide +kernel
theorem dX8_addSeries_1 : decode cX8_addSeries 1 = .ok (.iload_n 1, 1) := by decide +kernel
theorem dX8_addSeries_2 : decode cX8_addSeries 2 = .ok (.invokevirtual 143, 3) := by decide +kernel
theorem dX8_addSeries_5 : decode cX8_addSeries 5 = .ok (.astore 6, 2) := by decide +kernel
theorem dX8_addSeries_7 : decode cX8_addSeries 7 = .ok (.iload_n 2, 1) := by decide +kernel
theorem dX8_addSeries_8 : decode cX8_addSeries 8 = .ok (.ifCond .lt 9, 3) := by decide +kernel
theorem dX8_addSeries_11 : decode cX8_addSeries 11 = .ok (.iload_n 2, 1) := by decide +kernel
theorem dX8_addSeries_12 : decode cX8_addSeries 12 = .ok (.ldc 200, 2) := by decide +kernel
theorem dX8_addSeries_14 : decode cX8_addSeries 14 = .ok (.if_icmp .le 13, 3) := by decide +kernel
theorem dX8_addSeries_17 : decode cX8_addSeries 17 = .ok (.new 56, 3) := by decide +kernel
theorem dX8_addSeries_20 : decode cX8_addSeries 20 = .ok (.dup, 1) := by decide +kernel
theorem dX8_addSeries_21 : decode cX8_addSeries 21 = .ok (.ldc 201, 2) := by decide +kernel
theorem dX8_addSeries_23 : decode cX8_addSeries 23 = .ok (.invokespecial 60, 3) := by decide +kernel
theorem dX8_addSeries_26 : decode cX8_addSeries 26 = .ok (.athrow, 1) := by decide +kernel
theorem dX8_addSeries_27 : decode cX8_addSeries 27 = .ok (.iload_n 3, 1) := by decide +kernel
theorem dX8_addSeries_28 : decode cX8_addSeries 28 = .ok (.ifCond .lt 33, 3) := by decide +kernel
theorem dX8_addSeries_31 : decode cX8_addSeries 31 = .ok (.iload_n 3, 1) := by decide +kernel
theorem dX8_addSeries_32 : decode cX8_addSeries 32 = .ok (.iconst 3, 1) := by decide +kernel
theorem dX8_addSeries_33 : decode cX8_addSeries 33 = .ok (.if_icmp .gt 28, 3) := by decide +kernel
theorem dX8_addSeries_36 : decode cX8_addSeries 36 = .ok (.iload 4, 2) := by decide +kernel
theorem dX8_addSeries_38 : decode cX8_addSeries 38 = .ok (.iconst 1, 1) := by decide +kernel
theorem dX8_addSeries_39 : decode cX8_addSeries 39 = .ok (.if_icmp .lt 22, 3) := by decide +kernel
theorem dX8_addSeries_42 : decode cX8_addSeries 42 = .ok (.iload 4, 2) := by decide +kernel
theorem dX8_addSeries_44 : decode cX8_addSeries 44 = .ok (.bipush 60, 2) := by decide +kernel
theorem dX8_addSeries_46 : decode cX8_addSeries 46 = .ok (.if_icmp .gt 15, 3) := by decide +kernel
theorem dX8_addSeries_49 : decode cX8_addSeries 49 = .ok (.iload 5, 2) := by decide +kernel
theorem dX8_addSeries_51 : decode cX8_addSeries 51 = .ok (.ifCond .lt 10, 3) := by decide +kernel
theorem dX8_addSeries_54 : decode cX8_addSeries 54 = .ok (.iload 5, 2) := by decide +kernel
theorem dX8_addSeries_56 : decode cX8_addSeries 56 = .ok (.bipush 127, 2) := by decide +kernel
theorem dX8_addSeries_58 : decode cX8_addSeries 58 = .ok (.if_icmp .le 13, 3) := by decide +kernel
theorem dX8_addSeries_61 : decode cX8_addSeries 61 = .ok (.new 56, 3) := by decide +kernel
theorem dX8_addSeries_64 : decode cX8_addSeries 64 = .ok (.dup, 1) := by decide +kernel
theorem dX8_addSeries_65 : decode cX8_addSeries 65 = .ok (.ldc 203, 2) := by decide +kernel
theorem dX8_addSeries_67 : decode cX8_addSeries 67 = .ok (.invokespecial 60, 3) := by decide +kernel
theorem dX8_addSeries_70 : decode cX8_addSeries 70 = .ok (.athrow, 1) := by decide +kernel
theorem dX8_addSeries_71 : decode cX8_addSeries 71 = .ok (.aload_n 0, 1) := by decide +kernel
theorem dX8_addSeries_72 : decode cX8_addSeries 72 = .ok (.getfield 34, 3) := by decide +kernel
theorem dX8_addSeries_75 : decode cX8_addSeries 75 = .ok (.istore 7, 2) := by decide +kernel
theorem dX8_addSeries_77 : decode cX8_addSeries 77 = .ok (.iload 7, 2) := by decide +kernel
theorem dX8_addSeries_79 : decode cX8_addSeries 79 = .ok (.ifCond .lt 13, 3) := by decide +kernel
theorem dX8_addSeries_82 : decode cX8_addSeries 82 = .ok (.iload 7, 2) := by decide +kernel
theorem dX8_addSeries_84 : decode cX8_addSeries 84 = .ok (.aload_n 0, 1) := by decide +kernel
theorem dX8_addSeries_85 : decode cX8_addSeries 85 = .ok (.getfield 30, 3) := by decide +kernel
theorem dX8_addSeries_88 : decode cX8_addSeries 88 = .ok (.arraylength, 1) := by decide +kernel
theorem dX8_addSeries_89 : decode cX8_addSeries 89 = .ok (.if_icmp .lt 13, 3) := by decide +kernel
theorem dX8_addSeries_92 : decode cX8_addSeries 92 = .ok (.new 117, 3) := by decide +kernel
theorem dX8_addSeries_95 : decode cX8_addSeries 95 = .ok (.dup, 1) := by decide +kernel
theorem dX8_addSeries_96 : decode cX8_addSeries 96 = .ok (.ldc 205, 2) := by decide +kernel
theorem dX8_addSeries_98 : decode cX8_addSeries 98 = .ok (.invokespecial 121, 3) := by decide +kernel
theorem dX8_addSeries_101 : decode cX8_addSeries 101 = .ok (.athrow, 1) := by decide +kernel
theorem dX8_addSeries_102 : decode cX8_addSeries 102 = .ok (.new 28, 3) := by decide +kernel
theorem dX8_addSeries_105 : decode cX8_addSeries 105 = .ok (.dup, 1) := by decide +kernel
theorem dX8_addSeries_106 : decode cX8_addSeries 106 = .ok (.aload 6, 2) := by decide +kernel
theorem dX8_addSeries_108 : decode cX8_addSeries 108 = .ok (.iload_n 2, 1) := by decide +kernel
theorem dX8_addSeries_109 : decode cX8_addSeries 109 = .ok (.iload_n 3, 1) := by decide +kernel
theorem dX8_addSeries_110 : decode cX8_addSeries 110 = .ok (.iload 4, 2) := by decide +kernel
theorem dX8_addSeries_112 : decode cX8_addSeries 112 = .ok (.iload 5, 2) := by decide +kernel
theorem dX8_addSeries_114 : decode cX8_addSeries 114 = .ok (.invokespecial 207, 3) := by decide +kernel
theorem dX8_addSeries_117 : decode cX8_addSeries 117 = .ok (.astore 8, 2) := by decide +kernel
theorem dX8_addSeries_119 : decode cX8_addSeries 119 = .ok (.aload 8, 2) := by decide +kernel
theorem dX8_addSeries_121 : decode cX8_addSeries 121 = .ok (.aload_n 0, 1) := by decide +kernel
theorem dX8_addSeries_122 : decode cX8_addSeries 122 = .ok (.getfield 42, 3) := by decide +kernel
theorem dX8_addSeries_125 : decode cX8_addSeries 125 = .ok (.invokevirtual 210, 3) := by decide +kernel
theorem dX8_addSeries_128 : decode cX8_addSeries 128 = .ok (.aload_n 0, 1) := by decide +kernel
theorem dX8_addSeries_129 : decode cX8_addSeries 129 = .ok (.getfield 30, 3) := by decide +kernel
theorem dX8_addSeries_132 : decode cX8_addSeries 132 = .ok (.iload 7, 2) := by decide +kernel
theorem dX8_addSeries_134 : decode cX8_addSeries 134 = .ok (.aload 8, 2) := by decide +kernel
theorem dX8_addSeries_136 : decode cX8_addSeries 136 = .ok (.aastore, 1) := by decide +kernel
theorem dX8_addSeries_137 : decode cX8_addSeries 137 = .ok (.aload_n 0, 1) := by decide +kernel
theorem dX8_addSeries_138 : decode cX8_addSeries 138 = .ok (.iload 7, 2) := by decide +kernel
theorem dX8_addSeries_140 : decode cX8_addSeries 140 = .ok (.iconst 1, 1) := by decide +kernel
theorem dX8_addSeries_141 : decode cX8_addSeries 141 = .ok (.iadd, 1) := by decide +kernel
theorem dX8_addSeries_142 : decode cX8_addSeries 142 = .ok (.putfield 34, 3) := by decide +kernel
theorem dX8_addSeries_145 : decode cX8_addSeries 145 = .ok (.iload 7, 2) := by decide +kernel
theorem dX8_addSeries_147 : decode cX8_addSeries 147 = .ok (.ireturn, 1) := by decide +kernel
theorem dX8_usePattern_0 : decode cX8_usePattern 0 = .ok (.aload_n 0, 1) := by decide +kernel
theorem dX8_usePattern_1 : decode cX8_usePattern 1 = .ok (.iload_n 1, 1) := by decide +kernel
theorem dX8_usePattern_2 : decode cX8_usePattern 2 = .ok (.invokevirtual 214, 3) := by decide +kernel
theorem dX8_usePattern_5 : decode cX8_usePattern 5 = .ok (.astore_n 3, 1) := by decide +kernel
theorem dX8_usePattern_6 : decode cX8_usePattern 6 = .ok (.aload_n 0, 1) := by decide +kernel
theorem dX8_usePattern_7 : decode cX8_usePattern 7 = .ok (.iload_n 2, 1) := by decide +kernel
theorem dX8_usePattern_8 : decode cX8_usePattern 8 = .ok (.invokevirtual 125, 3) := by decide +kernel
theorem dX8_usePattern_11 : decode cX8_usePattern 11 = .ok (.astore 4, 2) := by decide +kernel
theorem dX8_usePattern_13 : decode cX8_usePattern 13 = .ok (.aload_n 3, 1) := by decide +kernel
theorem dX8_usePattern_14 : decode cX8_usePattern 14 = .ok (.getfield 218, 3) := by decide +kernel
theorem dX8_usePattern_17 : decode cX8_usePattern 17 = .ok (.istore 5, 2) := by decide +kernel
theorem dX8_usePattern_19 : decode cX8_usePattern 19 = .ok (.iload 5, 2) := by decide +kernel
theorem dX8_usePattern_21 : decode cX8_usePattern 21 = .ok (.ifCond .lt 13, 3) := by decide +kernel
theorem dX8_usePattern_24 : decode cX8_usePattern 24 = .ok (.iload 5, 2) := by decide +kernel
theorem dX8_usePattern_26 : decode cX8_usePattern 26 = .ok (.aload_n 3, 1) := by decide +kernel
theorem dX8_usePattern_27 : decode cX8_usePattern 27 = .ok (.getfield 219, 3) := by decide +kernel
theorem dX8_usePattern_30 : decode cX8_usePattern 30 = .ok (.arraylength, 1) := by decide +kernel
theorem dX8_usePattern_31 : decode cX8_usePattern 31 = .ok (.if_icmp .lt 13, 3) := by decide +kernel
theorem dX8_usePattern_34 : decode cX8_usePattern 34 = .ok (.new 117, 3) := by decide +kernel
theorem dX8_usePattern_37 : decode cX8_usePattern 37 = .ok (.dup, 1) := by decide +kernel
theorem dX8_usePattern_38 : decode cX8_usePattern 38 = .ok (.ldc 220, 2) := by decide +kernel
theorem dX8_usePattern_40 : decode cX8_usePattern 40 = .ok (.invokespecial 121, 3) := by decide +kernel
theorem dX8_usePattern_43 : decode cX8_usePattern 43 = .ok (.athrow, 1) := by decide +kernel
theorem dX8_usePattern_44 : decode cX8_usePattern 44 = .ok (.aload_n 3, 1) := by decide +kernel
theorem dX8_usePattern_45 : decode cX8_usePattern 45 = .ok (.getfield 219, 3) := by decide +kernel
theorem dX8_usePattern_48 : decode cX8_usePattern 48 = .ok (.iload 5, 2) := by decide +kernel
theorem dX8_usePattern_50 : decode cX8_usePattern 50 = .ok (.aload 4, 2) := by decide +kernel
theorem dX8_usePattern_52 : decode cX8_usePattern 52 = .ok (.aastore, 1) := by decide +kernel
theorem dX8_usePattern_53 : decode cX8_usePattern 53 = .ok (.aload_n 3, 1) := by decide +kernel
theorem dX8_usePattern_54 : decode cX8_usePattern 54 = .ok (.iload 5, 2) := by decide +kernel
theorem dX8_usePattern_56 : decode cX8_usePattern 56 = .ok (.iconst 1, 1) := by decide +kernel
theorem dX8_usePattern_57 : decode cX8_usePattern 57 = .ok (.iadd, 1) := by decide +kernel
theorem dX8_usePattern_58 : decode cX8_usePattern 58 = .ok (.putfield 218, 3) := by decide +kernel
theorem dX8_usePattern_61 : decode cX8_usePattern 61 = .ok (.aload_n 3, 1) := by decide +kernel
theorem dX8_usePattern_62 : decode cX8_usePattern 62 = .ok (.aload_n 0, 1) := by decide +kernel
theorem dX8_usePattern_63 : decode cX8_usePattern 63 = .ok (.getfield 42, 3) := by decide +kernel
theorem dX8_usePattern_66 : decode cX8_usePattern 66 = .ok (.invokevirtual 210, 3) := by decide +kernel
theorem dX8_usePattern_69 : decode cX8_usePattern 69 = .ok (.iload 5, 2) := by decide +kernel
theorem dX8_usePattern_71 : decode cX8_usePattern 71 = .ok (.iconst 1, 1) := by decide +kernel
theorem dX8_usePattern_72 : decode cX8_usePattern 72 = .ok (.iadd, 1) := by decide +kernel
theorem dX8_usePattern_73 : decode cX8_usePattern 73 = .ok (.ireturn, 1) := by decide +kernel
theorem dX8_setMost_0 : decode cX8_setMost 0 = .ok (.aload_n 0, 1) := by decide +kernel
theorem dX8_setMost_1 : decode cX8_setMost 1 = .ok (.iload_n 1, 1) := by decide +kernel
theorem dX8_setMost_2 : decode cX8_setMost 2 = .ok (.invokevirtual 214, 3) := by decide +kernel
theorem dX8_setMost_5 : decode cX8_setMost 5 = .ok (.astore_n 3, 1) := by decide +kernel
theorem dX8_setMost_6 : decode cX8_setMost 6 = .ok (.iload_n 2, 1) := by decide +kernel
theorem dX8_setMost_7 : decode cX8_setMost 7 = .ok (.ifCond .lt 10, 3) := by decide +kernel
theorem dX8_setMost_10 : decode cX8_setMost 10 = .ok (.iload_n 2, 1) := by decide +kernel
theorem dX8_setMost_11 : decode cX8_setMost 11 = .ok (.sipush 500, 3) := by decide +kernel
theorem dX8_setMost_14 : decode cX8_setMost 14 = .ok (.if_icmp .le 13, 3) := by decide +kernel
theorem dX8_setMost_17 : decode cX8_setMost 17 = .ok (.new 56, 3) := by decide +kernel
theorem dX8_setMost_20 : decode cX8_setMost 20 = .ok (.dup, 1) := by decide +kernel
theorem dX8_setMost_21 : decode cX8_setMost 21 = .ok (.ldc 227, 2) := by decide +kernel
theorem dX8_setMost_23 : decode cX8_setMost 23 = .ok (.invokespecial 60, 3) := by decide +kernel
theorem dX8_setMost_26 : decode cX8_setMost 26 = .ok (.athrow, 1) := by decide +kernel
theorem dX8_setMost_27 : decode cX8_setMost 27 = .ok (.aload_n 3, 1) := by decide +kernel
theorem dX8_setMost_28 : decode cX8_setMost 28 = .ok (.getfield 229, 3) := by decide +kernel
theorem dX8_setMost_31 : decode cX8_setMost 31 = .ok (.istore 4, 2) := by decide +kernel
theorem dX8_setMost_33 : decode cX8_setMost 33 = .ok (.aload_n 3, 1) := by decide +kernel
theorem dX8_setMost_34 : decode cX8_setMost 34 = .ok (.iload_n 2, 1) := by decide +kernel
theorem dX8_setMost_35 : decode cX8_setMost 35 = .ok (.putfield 229, 3) := by decide +kernel
theorem dX8_setMost_38 : decode cX8_setMost 38 = .ok (.aload_n 3, 1) := by decide +kernel
theorem dX8_setMost_39 : decode cX8_setMost 39 = .ok (.aload_n 0, 1) := by decide +kernel
theorem dX8_setMost_40 : decode cX8_setMost 40 = .ok (.getfield 42, 3) := by decide +kernel
theorem dX8_setMost_43 : decode cX8_setMost 43 = .ok (.invokevirtual 210, 3) := by decide +kernel
theorem dX8_setMost_46 : decode cX8_setMost 46 = .ok (.iload 4, 2) := by decide +kernel
theorem dX8_setMost_48 : decode cX8_setMost 48 = .ok (.ireturn, 1) := by decide +kernel
theorem dX8_dates_0 : decode cX8_dates 0 = .ok (.aload_n 0, 1) := by decide +kernel
theorem dX8_dates_1 : decode cX8_dates 1 = .ok (.iload_n 1, 1) := by decide +kernel
theorem dX8_dates_2 : decode cX8_dates 2 = .ok (.invokevirtual 214, 3) := by decide +kernel
theorem dX8_dates_5 : decode cX8_dates 5 = .ok (.getfield 256, 3) := by decide +kernel
theorem dX8_dates_8 : decode cX8_dates 8 = .ok (.ireturn, 1) := by decide +kernel
theorem dX8_dateAt_0 : decode cX8_dateAt 0 = .ok (.aload_n 0, 1) := by decide +kernel
theorem dX8_dateAt_1 : decode cX8_dateAt 1 = .ok (.iload_n 1, 1) := by decide +kernel
theorem dX8_dateAt_2 : decode cX8_dateAt 2 = .ok (.invokevirtual 214, 3) := by decide +kernel
theorem dX8_dateAt_5 : decode cX8_dateAt 5 = .ok (.astore_n 3, 1) := by decide +kernel
theorem dX8_dateAt_6 : decode cX8_dateAt 6 = .ok (.aload_n 3, 1) := by decide +kernel
theorem dX8_dateAt_7 : decode cX8_dateAt 7 = .ok (.iload_n 2, 1) := by decide +kernel
theorem dX8_dateAt_8 : decode cX8_dateAt 8 = .ok (.invokestatic 259, 3) := by decide +kernel
theorem dX8_dateAt_11 : decode cX8_dateAt 11 = .ok (.aload_n 3, 1) := by decide +kernel
theorem dX8_dateAt_12 : decode cX8_dateAt 12 = .ok (.iload_n 2, 1) := by decide +kernel
theorem dX8_dateAt_13 : decode cX8_dateAt 13 = .ok (.invokevirtual 263, 3) := by decide +kernel
theorem dX8_dateAt_16 : decode cX8_dateAt 16 = .ok (.ireturn, 1) := by decide +kernel
theorem dX8_dateFrom_0 : decode cX8_dateFrom 0 = .ok (.aload_n 0, 1) := by decide +kernel
theorem dX8_dateFrom_1 : decode cX8_dateFrom 1 = .ok (.iload_n 1, 1) := by decide +kernel
theorem dX8_dateFrom_2 : decode cX8_dateFrom 2 = .ok (.invokevirtual 214, 3) := by decide +kernel
theorem dX8_dateFrom_5 : decode cX8_dateFrom 5 = .ok (.astore_n 3, 1) := by decide +kernel
theorem dX8_dateFrom_6 : decode cX8_dateFrom 6 = .ok (.iload_n 2, 1) := by decide +kernel
theorem dX8_dateFrom_7 : decode cX8_dateFrom 7 = .ok (.invokestatic 77, 3) := by decide +kernel
theorem dX8_dateFrom_10 : decode cX8_dateFrom 10 = .ok (.aload_n 3, 1) := by decide +kernel
theorem dX8_dateFrom_11 : decode cX8_dateFrom 11 = .ok (.iload_n 2, 1) := by decide +kernel
theorem dX8_dateFrom_12 : decode cX8_dateFrom 12 = .ok (.invokevirtual 266, 3) := by decide +kernel
theorem dX8_dateFrom_15 : decode cX8_dateFrom 15 = .ok (.ireturn, 1) := by decide +kernel
theorem dX8_common_0 : decode cX8_common 0 = .ok (.aload_n 0, 1) := by decide +kernel
theorem dX8_common_1 : decode cX8_common 1 = .ok (.iload_n 1, 1) := by decide +kernel
theorem dX8_common_2 : decode cX8_common 2 = .ok (.invokevirtual 214, 3) := by decide +kernel
theorem dX8_common_5 : decode cX8_common 5 = .ok (.astore_n 3, 1) := by decide +kernel
theorem dX8_common_6 : decode cX8_common 6 = .ok (.aload_n 0, 1) := by decide +kernel
theorem dX8_common_7 : decode cX8_common 7 = .ok (.iload_n 2, 1) := by decide +kernel
theorem dX8_common_8 : decode cX8_common 8 = .ok (.invokevirtual 214, 3) := by decide +kernel
theorem dX8_common_11 : decode cX8_common 11 = .ok (.astore 4, 2) := by decide +kernel
theorem dX8_common_13 : decode cX8_common 13 = .ok (.aload_n 3, 1) := by decide +kernel
theorem dX8_common_14 : decode cX8_common 14 = .ok (.aload 4, 2) := by decide +kernel
theorem dX8_common_16 : decode cX8_common 16 = .ok (.invokevirtual 270, 3) := by decide +kernel
theorem dX8_common_19 : decode cX8_common 19 = .ok (.ireturn, 1) := by decide +kernel
theorem dX8_widestGap_0 : decode cX8_widestGap 0 = .ok (.aload_n 0, 1) := by decide +kernel
theorem dX8_widestGap_1 : decode cX8_widestGap 1 = .ok (.iload_n 1, 1) := by decide +kernel
theorem dX8_widestGap_2 : decode cX8_widestGap 2 = .ok (.invokevirtual 214, 3) := by decide +kernel
theorem dX8_widestGap_5 : decode cX8_widestGap 5 = .ok (.invokevirtual 274, 3) := by decide +kernel
theorem dX8_widestGap_8 : decode cX8_widestGap 8 = .ok (.ireturn, 1) := by decide +kernel
theorem dX8_setWeek_0 : decode cX8_setWeek 0 = .ok (.iload_n 1, 1) := by decide +kernel
theorem dX8_setWeek_1 : decode cX8_setWeek 1 = .ok (.iconst 1, 1) := by decide +kernel
theorem dX8_setWeek_2 : decode cX8_setWeek 2 = .ok (.if_icmp .lt 9, 3) := by decide +kernel
theorem dX8_setWeek_5 : decode cX8_setWeek 5 = .ok (.iload_n 1, 1) := by decide +kernel
theorem dX8_setWeek_6 : decode cX8_setWeek 6 = .ok (.bipush 127, 2) := by decide +kernel
theorem dX8_setWeek_8 : decode cX8_setWeek 8 = .ok (.if_icmp .le 14, 3) := by decide +kernel
theorem dX8_setWeek_11 : decode cX8_setWeek 11 = .ok (.new 56, 3) := by decide +kernel
theorem dX8_setWeek_14 : decode cX8_setWeek 14 = .ok (.dup, 1) := by decide +kernel
theorem dX8_setWeek_15 : decode cX8_setWeek 15 = .ok (.ldc_w 285, 3) := by decide +kernel
theorem dX8_setWeek_18 : decode cX8_setWeek 18 = .ok (.invokespecial 60, 3) := by decide +kernel
theorem dX8_setWeek_21 : decode cX8_setWeek 21 = .ok (.athrow, 1) := by decide +kernel
theorem dX8_setWeek_22 : decode cX8_setWeek 22 = .ok (.aload_n 0, 1) := by decide +kernel
theorem dX8_setWeek_23 : decode cX8_setWeek 23 = .ok (.getfield 49, 3) := by decide +kernel
theorem dX8_setWeek_26 : decode cX8_setWeek 26 = .ok (.getfield 287, 3) := by decide +kernel
theorem dX8_setWeek_29 : decode cX8_setWeek 29 = .ok (.istore_n 2, 1) := by decide +kernel
theorem dX8_setWeek_30 : decode cX8_setWeek 30 = .ok (.aload_n 0, 1) := by decide +kernel
theorem dX8_setWeek_31 : decode cX8_setWeek 31 = .ok (.getfield 49, 3) := by decide +kernel
theorem dX8_setWeek_34 : decode cX8_setWeek 34 = .ok (.iload_n 1, 1) := by decide +kernel
theorem dX8_setWeek_35 : decode cX8_setWeek 35 = .ok (.putfield 287, 3) := by decide +kernel
theorem dX8_setWeek_38 : decode cX8_setWeek 38 = .ok (.iload_n 2, 1) := by decide +kernel
theorem dX8_setWeek_39 : decode cX8_setWeek 39 = .ok (.ireturn, 1) := by decide +kernel
theorem dX8_addFeast_0 : decode cX8_addFeast 0 = .ok (.aload_n 0, 1) := by decide +kernel
theorem dX8_addFeast_1 : decode cX8_addFeast 1 = .ok (.iload_n 3, 1) := by decide +kernel
theorem dX8_addFeast_2 : decode cX8_addFeast 2 = .ok (.invokevirtual 125, 3) := by decide +kernel
theorem dX8_addFeast_5 : decode cX8_addFeast 5 = .ok (.astore 5, 2) := by decide +kernel
theorem dX8_addFeast_7 : decode cX8_addFeast 7 = .ok (.iload_n 1, 1) := by decide +kernel
theorem dX8_addFeast_8 : decode cX8_addFeast 8 = .ok (.iload_n 2, 1) := by decide +kernel
theorem dX8_addFeast_9 : decode cX8_addFeast 9 = .ok (.invokestatic 147, 3) := by decide +kernel
theorem dX8_addFeast_12 : decode cX8_addFeast 12 = .ok (.iload 4, 2) := by decide +kernel
theorem dX8_addFeast_14 : decode cX8_addFeast 14 = .ok (.ifCond .lt 9, 3) := by decide +kernel
theorem dX8_addFeast_17 : decode cX8_addFeast 17 = .ok (.iload 4, 2) := by decide +kernel
theorem dX8_addFeast_19 : decode cX8_addFeast 19 = .ok (.iconst 3, 1) := by decide +kernel
theorem dX8_addFeast_20 : decode cX8_addFeast 20 = .ok (.if_icmp .le 14, 3) := by decide +kernel
theorem dX8_addFeast_23 : decode cX8_addFeast 23 = .ok (.new 56, 3) := by decide +kernel
theorem dX8_addFeast_26 : decode cX8_addFeast 26 = .ok (.dup, 1) := by decide +kernel
theorem dX8_addFeast_27 : decode cX8_addFeast 27 = .ok (.ldc_w 300, 3) := by decide +kernel
theorem dX8_addFeast_30 : decode cX8_addFeast 30 = .ok (.invokespecial 60, 3) := by decide +kernel
theorem dX8_addFeast_33 : decode cX8_addFeast 33 = .ok (.athrow, 1) := by decide +kernel
theorem dX8_addFeast_34 : decode cX8_addFeast 34 = .ok (.aload_n 0, 1) := by decide +kernel
theorem dX8_addFeast_35 : decode cX8_addFeast 35 = .ok (.getfield 49, 3) := by decide +kernel
theorem dX8_addFeast_38 : decode cX8_addFeast 38 = .ok (.getfield 302, 3) := by decide +kernel
theorem dX8_addFeast_41 : decode cX8_addFeast 41 = .ok (.istore 6, 2) := by decide +kernel
theorem dX8_addFeast_43 : decode cX8_addFeast 43 = .ok (.iload 6, 2) := by decide +kernel
theorem dX8_addFeast_45 : decode cX8_addFeast 45 = .ok (.ifCond .lt 16, 3) := by decide +kernel
theorem dX8_addFeast_48 : decode cX8_addFeast 48 = .ok (.iload 6, 2) := by decide +kernel
theorem dX8_addFeast_50 : decode cX8_addFeast 50 = .ok (.aload_n 0, 1) := by decide +kernel
theorem dX8_addFeast_51 : decode cX8_addFeast 51 = .ok (.getfield 49, 3) := by decide +kernel
theorem dX8_addFeast_54 : decode cX8_addFeast 54 = .ok (.getfield 305, 3) := by decide +kernel
theorem dX8_addFeast_57 : decode cX8_addFeast 57 = .ok (.arraylength, 1) := by decide +kernel
theorem dX8_addFeast_58 : decode cX8_addFeast 58 = .ok (.if_icmp .lt 14, 3) := by decide +kernel
theorem dX8_addFeast_61 : decode cX8_addFeast 61 = .ok (.new 117, 3) := by decide +kernel
theorem dX8_addFeast_64 : decode cX8_addFeast 64 = .ok (.dup, 1) := by decide +kernel
theorem dX8_addFeast_65 : decode cX8_addFeast 65 = .ok (.ldc_w 309, 3) := by decide +kernel
theorem dX8_addFeast_68 : decode cX8_addFeast 68 = .ok (.invokespecial 121, 3) := by decide +kernel
theorem dX8_addFeast_71 : decode cX8_addFeast 71 = .ok (.athrow, 1) := by decide +kernel
theorem dX8_addFeast_72 : decode cX8_addFeast 72 = .ok (.aload_n 0, 1) := by decide +kernel
theorem dX8_addFeast_73 : decode cX8_addFeast 73 = .ok (.getfield 49, 3) := by decide +kernel
theorem dX8_addFeast_76 : decode cX8_addFeast 76 = .ok (.getfield 305, 3) := by decide +kernel
theorem dX8_addFeast_79 : decode cX8_addFeast 79 = .ok (.iload 6, 2) := by decide +kernel
theorem dX8_addFeast_81 : decode cX8_addFeast 81 = .ok (.new 311, 3) := by decide +kernel
theorem dX8_addFeast_84 : decode cX8_addFeast 84 = .ok (.dup, 1) := by decide +kernel
theorem dX8_addFeast_85 : decode cX8_addFeast 85 = .ok (.iload_n 1, 1) := by decide +kernel
theorem dX8_addFeast_86 : decode cX8_addFeast 86 = .ok (.iload_n 2, 1) := by decide +kernel
theorem dX8_addFeast_87 : decode cX8_addFeast 87 = .ok (.aload 5, 2) := by decide +kernel
theorem dX8_addFeast_89 : decode cX8_addFeast 89 = .ok (.iload 4, 2) := by decide +kernel
theorem dX8_addFeast_91 : decode cX8_addFeast 91 = .ok (.invokespecial 313, 3) := by decide +kernel
theorem dX8_addFeast_94 : decode cX8_addFeast 94 = .ok (.aastore, 1) := by decide +kernel
theorem dX8_addFeast_95 : decode cX8_addFeast 95 = .ok (.aload_n 0, 1) := by decide +kernel
theorem dX8_addFeast_96 : decode cX8_addFeast 96 = .ok (.getfield 49, 3) := by decide +kernel
theorem dX8_addFeast_99 : decode cX8_addFeast 99 = .ok (.iload 6, 2) := by decide +kernel
theorem dX8_addFeast_101 : decode cX8_addFeast 101 = .ok (.iconst 1, 1) := by decide +kernel
theorem dX8_addFeast_102 : decode cX8_addFeast 102 = .ok (.iadd, 1) := by decide +kernel
theorem dX8_addFeast_103 : decode cX8_addFeast 103 = .ok (.putfield 302, 3) := by decide +kernel
theorem dX8_addFeast_106 : decode cX8_addFeast 106 = .ok (.iload 6, 2) := by decide +kernel
theorem dX8_addFeast_108 : decode cX8_addFeast 108 = .ok (.ireturn, 1) := by decide +kernel
theorem dX8_feastOn_0 : decode cX8_feastOn 0 = .ok (.iload_n 1, 1) := by decide +kernel
theorem dX8_feastOn_1 : decode cX8_feastOn 1 = .ok (.invokestatic 77, 3) := by decide +kernel
theorem dX8_feastOn_4 : decode cX8_feastOn 4 = .ok (.aload_n 0, 1) := by decide +kernel
theorem dX8_feastOn_5 : decode cX8_feastOn 5 = .ok (.getfield 49, 3) := by decide +kernel
theorem dX8_feastOn_8 : decode cX8_feastOn 8 = .ok (.iload_n 1, 1) := by decide +kernel
theorem dX8_feastOn_9 : decode cX8_feastOn 9 = .ok (.iload_n 1, 1) := by decide +kernel
theorem dX8_feastOn_10 : decode cX8_feastOn 10 = .ok (.invokevirtual 316, 3) := by decide +kernel
theorem dX8_feastOn_13 : decode cX8_feastOn 13 = .ok (.aload_n 0, 1) := by decide +kernel
theorem dX8_feastOn_14 : decode cX8_feastOn 14 = .ok (.getfield 49, 3) := by decide +kernel
theorem dX8_feastOn_17 : decode cX8_feastOn 17 = .ok (.iload_n 1, 1) := by decide +kernel
theorem dX8_feastOn_18 : decode cX8_feastOn 18 = .ok (.invokevirtual 319, 3) := by decide +kernel
theorem dX8_feastOn_21 : decode cX8_feastOn 21 = .ok (.ireturn, 1) := by decide +kernel
theorem dX8_isWorking_0 : decode cX8_isWorking 0 = .ok (.iload_n 1, 1) := by decide +kernel
theorem dX8_isWorking_1 : decode cX8_isWorking 1 = .ok (.invokestatic 77, 3) := by decide +kernel
theorem dX8_isWorking_4 : decode cX8_isWorking 4 = .ok (.aload_n 0, 1) := by decide +kernel
theorem dX8_isWorking_5 : decode cX8_isWorking 5 = .ok (.getfield 49, 3) := by decide +kernel
theorem dX8_isWorking_8 : decode cX8_isWorking 8 = .ok (.iload_n 1, 1) := by decide +kernel
theorem dX8_isWorking_9 : decode cX8_isWorking 9 = .ok (.iload_n 1, 1) := by decide +kernel
theorem dX8_isWorking_10 : decode cX8_isWorking 10 = .ok (.invokevirtual 316, 3) := by decide +kernel
theorem dX8_isWorking_13 : decode cX8_isWorking 13 = .ok (.aload_n 0, 1) := by decide +kernel
theorem dX8_isWorking_14 : decode cX8_isWorking 14 = .ok (.getfield 49, 3) := by decide +kernel
theorem dX8_isWorking_17 : decode cX8_isWorking 17 = .ok (.iload_n 1, 1) := by decide +kernel
theorem dX8_isWorking_18 : decode cX8_isWorking 18 = .ok (.invokevirtual 322, 3) := by decide +kernel
theorem dX8_isWorking_21 : decode cX8_isWorking 21 = .ok (.ireturn, 1) := by decide +kernel
theorem dX8_workingDays_0 : decode cX8_workingDays 0 = .ok (.iload_n 1, 1) := by decide +kernel
theorem dX8_workingDays_1 : decode cX8_workingDays 1 = .ok (.invokestatic 77, 3) := by decide +kernel
theorem dX8_workingDays_4 : decode cX8_workingDays 4 = .ok (.iload_n 2, 1) := by decide +kernel
theorem dX8_workingDays_5 : decode cX8_workingDays 5 = .ok (.ifCond .lt 19, 3) := by decide +kernel
theorem dX8_workingDays_8 : decode cX8_workingDays 8 = .ok (.iload_n 2, 1) := by decide +kernel
theorem dX8_workingDays_9 : decode cX8_workingDays 9 = .ok (.sipush 400, 3) := by decide +kernel
theorem dX8_workingDays_12 : decode cX8_workingDays 12 = .ok (.if_icmp .gt 12, 3) := by decide +kernel
theorem dX8_workingDays_15 : decode cX8_workingDays 15 = .ok (.iload_n 1, 1) := by decide +kernel
theorem dX8_workingDays_16 : decode cX8_workingDays 16 = .ok (.iload_n 2, 1) := by decide +kernel
theorem dX8_workingDays_17 : decode cX8_workingDays 17 = .ok (.iadd, 1) := by decide +kernel
theorem dX8_workingDays_18 : decode cX8_workingDays 18 = .ok (.ldc_w 325, 3) := by decide +kernel
theorem dX8_workingDays_21 : decode cX8_workingDays 21 = .ok (.if_icmp .le 14, 3) := by decide +kernel
theorem dX8_workingDays_24 : decode cX8_workingDays 24 = .ok (.new 56, 3) := by decide +kernel
theorem dX8_workingDays_27 : decode cX8_workingDays 27 = .ok (.dup, 1) := by decide +kernel
theorem dX8_workingDays_28 : decode cX8_workingDays 28 = .ok (.ldc_w 326, 3) := by decide +kernel
theorem dX8_workingDays_31 : decode cX8_workingDays 31 = .ok (.invokespecial 60, 3) := by decide +kernel
theorem dX8_workingDays_34 : decode cX8_workingDays 34 = .ok (.athrow, 1) := by decide +kernel
theorem dX8_workingDays_35 : decode cX8_workingDays 35 = .ok (.aload_n 0, 1) := by decide +kernel
theorem dX8_workingDays_36 : decode cX8_workingDays 36 = .ok (.getfield 49, 3) := by decide +kernel
theorem dX8_workingDays_39 : decode cX8_workingDays 39 = .ok (.iload_n 1, 1) := by decide +kernel
theorem dX8_workingDays_40 : decode cX8_workingDays 40 = .ok (.iload_n 2, 1) := by decide +kernel
theorem dX8_workingDays_41 : decode cX8_workingDays 41 = .ok (.invokevirtual 328, 3) := by decide +kernel
theorem dX8_workingDays_44 : decode cX8_workingDays 44 = .ok (.ireturn, 1) := by decide +kernel
theorem dX8_plusWorking_0 : decode cX8_plusWorking 0 = .ok (.iload_n 1, 1) := by decide +kernel
theorem dX8_plusWorking_1 : decode cX8_plusWorking 1 = .ok (.invokestatic 77, 3) := by decide +kernel
theorem dX8_plusWorking_4 : decode cX8_plusWorking 4 = .ok (.iload_n 2, 1) := by decide +kernel
theorem dX8_plusWorking_5 : decode cX8_plusWorking 5 = .ok (.sipush (-200), 3) := by decide +kernel
theorem dX8_plusWorking_8 : decode cX8_plusWorking 8 = .ok (.if_icmp .lt 10, 3) := by decide +kernel
theorem dX8_plusWorking_11 : decode cX8_plusWorking 11 = .ok (.iload_n 2, 1) := by decide +kernel
theorem dX8_plusWorking_12 : decode cX8_plusWorking 12 = .ok (.sipush 200, 3) := by decide +kernel
theorem dX8_plusWorking_15 : decode cX8_plusWorking 15 = .ok (.if_icmp .le 14, 3) := by decide +kernel
theorem dX8_plusWorking_18 : decode cX8_plusWorking 18 = .ok (.new 56, 3) := by decide +kernel
theorem dX8_plusWorking_21 : decode cX8_plusWorking 21 = .ok (.dup, 1) := by decide +kernel
theorem dX8_plusWorking_22 : decode cX8_plusWorking 22 = .ok (.ldc_w 331, 3) := by decide +kernel
theorem dX8_plusWorking_25 : decode cX8_plusWorking 25 = .ok (.invokespecial 60, 3) := by decide +kernel
theorem dX8_plusWorking_28 : decode cX8_plusWorking 28 = .ok (.athrow, 1) := by decide +kernel
theorem dX8_plusWorking_29 : decode cX8_plusWorking 29 = .ok (.aload_n 0, 1) := by decide +kernel
theorem dX8_plusWorking_30 : decode cX8_plusWorking 30 = .ok (.getfield 49, 3) := by decide +kernel
theorem dX8_plusWorking_33 : decode cX8_plusWorking 33 = .ok (.iload_n 1, 1) := by decide +kernel
theorem dX8_plusWorking_34 : decode cX8_plusWorking 34 = .ok (.iload_n 2, 1) := by decide +kernel
theorem dX8_plusWorking_35 : decode cX8_plusWorking 35 = .ok (.invokevirtual 333, 3) := by decide +kernel
theorem dX8_plusWorking_38 : decode cX8_plusWorking 38 = .ok (.ireturn, 1) := by decide +kernel
theorem dX8_meanGap_0 : decode cX8_meanGap 0 = .ok (.aload_n 0, 1) := by decide +kernel
theorem dX8_meanGap_1 : decode cX8_meanGap 1 = .ok (.iload_n 1, 1) := by decide +kernel
theorem dX8_meanGap_2 : decode cX8_meanGap 2 = .ok (.invokevirtual 214, 3) := by decide +kernel
theorem dX8_meanGap_5 : decode cX8_meanGap 5 = .ok (.invokevirtual 352, 3) := by decide +kernel
theorem dX8_meanGap_8 : decode cX8_meanGap 8 = .ok (.dreturn, 1) := by decide +kernel
theorem dX8_digest_0 : decode cX8_digest 0 = .ok (.aload_n 0, 1) := by decide +kernel
theorem dX8_digest_1 : decode cX8_digest 1 = .ok (.ldc2_w 356, 3) := by decide +kernel
theorem dX8_digest_4 : decode cX8_digest 4 = .ok (.invokevirtual 358, 3) := by decide +kernel
theorem dX8_digest_7 : decode cX8_digest 7 = .ok (.lstore_n 1, 1) := by decide +kernel
theorem dX8_digest_8 : decode cX8_digest 8 = .ok (.aload_n 0, 1) := by decide +kernel
theorem dX8_digest_9 : decode cX8_digest 9 = .ok (.lload_n 1, 1) := by decide +kernel
theorem dX8_digest_10 : decode cX8_digest 10 = .ok (.invokevirtual 362, 3) := by decide +kernel
theorem dX8_digest_13 : decode cX8_digest 13 = .ok (.lstore_n 1, 1) := by decide +kernel
theorem dX8_digest_14 : decode cX8_digest 14 = .ok (.aload_n 0, 1) := by decide +kernel
theorem dX8_digest_15 : decode cX8_digest 15 = .ok (.lload_n 1, 1) := by decide +kernel
theorem dX8_digest_16 : decode cX8_digest 16 = .ok (.invokevirtual 365, 3) := by decide +kernel
theorem dX8_digest_19 : decode cX8_digest 19 = .ok (.lstore_n 1, 1) := by decide +kernel
theorem dX8_digest_20 : decode cX8_digest 20 = .ok (.aload_n 0, 1) := by decide +kernel
theorem dX8_digest_21 : decode cX8_digest 21 = .ok (.lload_n 1, 1) := by decide +kernel
theorem dX8_digest_22 : decode cX8_digest 22 = .ok (.invokevirtual 368, 3) := by decide +kernel
theorem dX8_digest_25 : decode cX8_digest 25 = .ok (.lreturn, 1) := by decide +kernel
theorem dX8_mix_0 : decode cX8_mix 0 = .ok (.lload_n 0, 1) := by decide +kernel
theorem dX8_mix_1 : decode cX8_mix 1 = .ok (.ldc2_w 371, 3) := by decide +kernel
theorem dX8_mix_4 : decode cX8_mix 4 = .ok (.lmul, 1) := by decide +kernel
theorem dX8_mix_5 : decode cX8_mix 5 = .ok (.lload_n 2, 1) := by decide +kernel
theorem dX8_mix_6 : decode cX8_mix 6 = .ok (.ladd, 1) := by decide +kernel
theorem dX8_mix_7 : decode cX8_mix 7 = .ok (.lreturn, 1) := by decide +kernel
theorem dX8_digestPatterns_0 : decode cX8_digestPatterns 0 = .ok (.lload_n 1, 1) := by decide +kernel
theorem dX8_digestPatterns_1 : decode cX8_digestPatterns 1 = .ok (.aload_n 0, 1) := by decide +kernel
theorem dX8_digestPatterns_2 : decode cX8_digestPatterns 2 = .ok (.getfield 15, 3) := by decide +kernel
theorem dX8_digestPatterns_5 : decode cX8_digestPatterns 5 = .ok (.i2l, 1) := by decide +kernel
theorem dX8_digestPatterns_6 : decode cX8_digestPatterns 6 = .ok (.invokestatic 373, 3) := by decide +kernel
theorem dX8_digestPatterns_9 : decode cX8_digestPatterns 9 = .ok (.lstore_n 3, 1) := by decide +kernel
theorem dX8_digestPatterns_10 : decode cX8_digestPatterns 10 = .ok (.iconst 0, 1) := by decide +kernel
theorem dX8_digestPatterns_11 : decode cX8_digestPatterns 11 = .ok (.istore 5, 2) := by decide +kernel
theorem dX8_digestPatterns_13 : decode cX8_digestPatterns 13 = .ok (.iload 5, 2) := by decide +kernel
theorem dX8_digestPatterns_15 : decode cX8_digestPatterns 15 = .ok (.aload_n 0, 1) := by decide +kernel
theorem dX8_digestPatterns_16 : decode cX8_digestPatterns 16 = .ok (.getfield 9, 3) := by decide +kernel
theorem dX8_digestPatterns_19 : decode cX8_digestPatterns 19 = .ok (.arraylength, 1) := by decide +kernel
theorem dX8_digestPatterns_20 : decode cX8_digestPatterns 20 = .ok (.if_icmp .ge 51, 3) := by decide +kernel
theorem dX8_digestPatterns_23 : decode cX8_digestPatterns 23 = .ok (.aload_n 0, 1) := by decide +kernel
theorem dX8_digestPatterns_24 : decode cX8_digestPatterns 24 = .ok (.getfield 9, 3) := by decide +kernel
theorem dX8_digestPatterns_27 : decode cX8_digestPatterns 27 = .ok (.iload 5, 2) := by decide +kernel
theorem dX8_digestPatterns_29 : decode cX8_digestPatterns 29 = .ok (.aaload, 1) := by decide +kernel
theorem dX8_digestPatterns_30 : decode cX8_digestPatterns 30 = .ok (.astore 6, 2) := by decide +kernel
theorem dX8_digestPatterns_32 : decode cX8_digestPatterns 32 = .ok (.aload 6, 2) := by decide +kernel
theorem dX8_digestPatterns_34 : decode cX8_digestPatterns 34 = .ok (.ifnull 31, 3) := by decide +kernel
theorem dX8_digestPatterns_37 : decode cX8_digestPatterns 37 = .ok (.lload_n 3, 1) := by decide +kernel
theorem dX8_digestPatterns_38 : decode cX8_digestPatterns 38 = .ok (.aload 6, 2) := by decide +kernel
theorem dX8_digestPatterns_40 : decode cX8_digestPatterns 40 = .ok (.sipush 2000, 3) := by decide +kernel
theorem dX8_digestPatterns_43 : decode cX8_digestPatterns 43 = .ok (.invokevirtual 129, 3) := by decide +kernel
theorem dX8_digestPatterns_46 : decode cX8_digestPatterns 46 = .ok (.i2l, 1) := by decide +kernel
theorem dX8_digestPatterns_47 : decode cX8_digestPatterns 47 = .ok (.invokestatic 373, 3) := by decide +kernel
theorem dX8_digestPatterns_50 : decode cX8_digestPatterns 50 = .ok (.lstore_n 3, 1) := by decide +kernel
theorem dX8_digestPatterns_51 : decode cX8_digestPatterns 51 = .ok (.lload_n 3, 1) := by decide +kernel
theorem dX8_digestPatterns_52 : decode cX8_digestPatterns 52 = .ok (.aload 6, 2) := by decide +kernel
theorem dX8_digestPatterns_54 : decode cX8_digestPatterns 54 = .ok (.ldc_w 377, 3) := by decide +kernel
theorem dX8_digestPatterns_57 : decode cX8_digestPatterns 57 = .ok (.invokevirtual 135, 3) := by decide +kernel
theorem dX8_digestPatterns_60 : decode cX8_digestPatterns 60 = .ok (.i2l, 1) := by decide +kernel
theorem dX8_digestPatterns_61 : decode cX8_digestPatterns 61 = .ok (.invokestatic 373, 3) := by decide +kernel
theorem dX8_digestPatterns_64 : decode cX8_digestPatterns 64 = .ok (.lstore_n 3, 1) := by decide +kernel
theorem dX8_digestPatterns_65 : decode cX8_digestPatterns 65 = .ok (.iinc 5 1, 3) := by decide +kernel
theorem dX8_digestPatterns_68 : decode cX8_digestPatterns 68 = .ok (.goto (-55), 3) := by decide +kernel
theorem dX8_digestPatterns_71 : decode cX8_digestPatterns 71 = .ok (.lload_n 3, 1) := by decide +kernel
theorem dX8_digestPatterns_72 : decode cX8_digestPatterns 72 = .ok (.lreturn, 1) := by decide +kernel
theorem dX8_digestPlaces_0 : decode cX8_digestPlaces 0 = .ok (.ldc_w 378, 3) := by decide +kernel
theorem dX8_digestPlaces_3 : decode cX8_digestPlaces 3 = .ok (.istore_n 3, 1) := by decide +kernel
theorem dX8_digestPlaces_4 : decode cX8_digestPlaces 4 = .ok (.ldc_w 379, 3) := by decide +kernel
theorem dX8_digestPlaces_7 : decode cX8_digestPlaces 7 = .ok (.istore 4, 2) := by decide +kernel
theorem dX8_digestPlaces_9 : decode cX8_digestPlaces 9 = .ok (.lload_n 1, 1) := by decide +kernel
theorem dX8_digestPlaces_10 : decode cX8_digestPlaces 10 = .ok (.aload_n 0, 1) := by decide +kernel
theorem dX8_digestPlaces_11 : decode cX8_digestPlaces 11 = .ok (.getfield 25, 3) := by decide +kernel
theorem dX8_digestPlaces_14 : decode cX8_digestPlaces 14 = .ok (.i2l, 1) := by decide +kernel
theorem dX8_digestPlaces_15 : decode cX8_digestPlaces 15 = .ok (.invokestatic 373, 3) := by decide +kernel
theorem dX8_digestPlaces_18 : decode cX8_digestPlaces 18 = .ok (.lstore 5, 2) := by decide +kernel
theorem dX8_digestPlaces_20 : decode cX8_digestPlaces 20 = .ok (.iconst 0, 1) := by decide +kernel
theorem dX8_digestPlaces_21 : decode cX8_digestPlaces 21 = .ok (.istore 7, 2) := by decide +kernel
theorem dX8_digestPlaces_23 : decode cX8_digestPlaces 23 = .ok (.iload 7, 2) := by decide +kernel
theorem dX8_digestPlaces_25 : decode cX8_digestPlaces 25 = .ok (.aload_n 0, 1) := by decide +kernel
theorem dX8_digestPlaces_26 : decode cX8_digestPlaces 26 = .ok (.getfield 21, 3) := by decide +kernel
theorem dX8_digestPlaces_29 : decode cX8_digestPlaces 29 = .ok (.arraylength, 1) := by decide +kernel
theorem dX8_digestPlaces_30 : decode cX8_digestPlaces 30 = .ok (.if_icmp .ge 110, 3) := by decide +kernel
theorem dX8_digestPlaces_33 : decode cX8_digestPlaces 33 = .ok (.aload_n 0, 1) := by decide +kernel
theorem dX8_digestPlaces_34 : decode cX8_digestPlaces 34 = .ok (.getfield 21, 3) := by decide +kernel
theorem dX8_digestPlaces_37 : decode cX8_digestPlaces 37 = .ok (.iload 7, 2) := by decide +kernel
theorem dX8_digestPlaces_39 : decode cX8_digestPlaces 39 = .ok (.aaload, 1) := by decide +kernel
theorem dX8_digestPlaces_40 : decode cX8_digestPlaces 40 = .ok (.astore 8, 2) := by decide +kernel
theorem dX8_digestPlaces_42 : decode cX8_digestPlaces 42 = .ok (.aload 8, 2) := by decide +kernel
theorem dX8_digestPlaces_44 : decode cX8_digestPlaces 44 = .ok (.ifnull 90, 3) := by decide +kernel
theorem dX8_digestPlaces_47 : decode cX8_digestPlaces 47 = .ok (.lload 5, 2) := by decide +kernel
theorem dX8_digestPlaces_49 : decode cX8_digestPlaces 49 = .ok (.aload 8, 2) := by decide +kernel
theorem dX8_digestPlaces_51 : decode cX8_digestPlaces 51 = .ok (.iload_n 3, 1) := by decide +kernel
theorem dX8_digestPlaces_52 : decode cX8_digestPlaces 52 = .ok (.invokevirtual 182, 3) := by decide +kernel
theorem dX8_digestPlaces_55 : decode cX8_digestPlaces 55 = .ok (.i2l, 1) := by decide +kernel
theorem dX8_digestPlaces_56 : decode cX8_digestPlaces 56 = .ok (.invokestatic 373, 3) := by decide +kernel
theorem dX8_digestPlaces_59 : decode cX8_digestPlaces 59 = .ok (.lstore 5, 2) := by decide +kernel
theorem dX8_digestPlaces_61 : decode cX8_digestPlaces 61 = .ok (.lload 5, 2) := by decide +kernel
theorem dX8_digestPlaces_63 : decode cX8_digestPlaces 63 = .ok (.aload 8, 2) := by decide +kernel
theorem dX8_digestPlaces_65 : decode cX8_digestPlaces 65 = .ok (.iload_n 3, 1) := by decide +kernel
theorem dX8_digestPlaces_66 : decode cX8_digestPlaces 66 = .ok (.invokevirtual 185, 3) := by decide +kernel
theorem dX8_digestPlaces_69 : decode cX8_digestPlaces 69 = .ok (.i2l, 1) := by decide +kernel
theorem dX8_digestPlaces_70 : decode cX8_digestPlaces 70 = .ok (.invokestatic 373, 3) := by decide +kernel
theorem dX8_digestPlaces_73 : decode cX8_digestPlaces 73 = .ok (.lstore 5, 2) := by decide +kernel
theorem dX8_digestPlaces_75 : decode cX8_digestPlaces 75 = .ok (.lload 5, 2) := by decide +kernel
theorem dX8_digestPlaces_77 : decode cX8_digestPlaces 77 = .ok (.aload 8, 2) := by decide +kernel
theorem dX8_digestPlaces_79 : decode cX8_digestPlaces 79 = .ok (.iload_n 3, 1) := by decide +kernel
theorem dX8_digestPlaces_80 : decode cX8_digestPlaces 80 = .ok (.invokevirtual 188, 3) := by decide +kernel
theorem dX8_digestPlaces_83 : decode cX8_digestPlaces 83 = .ok (.i2l, 1) := by decide +kernel
theorem dX8_digestPlaces_84 : decode cX8_digestPlaces 84 = .ok (.invokestatic 373, 3) := by decide +kernel
theorem dX8_digestPlaces_87 : decode cX8_digestPlaces 87 = .ok (.lstore 5, 2) := by decide +kernel
theorem dX8_digestPlaces_89 : decode cX8_digestPlaces 89 = .ok (.lload 5, 2) := by decide +kernel
theorem dX8_digestPlaces_91 : decode cX8_digestPlaces 91 = .ok (.aload 8, 2) := by decide +kernel
theorem dX8_digestPlaces_93 : decode cX8_digestPlaces 93 = .ok (.iload 4, 2) := by decide +kernel
theorem dX8_digestPlaces_95 : decode cX8_digestPlaces 95 = .ok (.invokevirtual 191, 3) := by decide +kernel
theorem dX8_digestPlaces_98 : decode cX8_digestPlaces 98 = .ok (.i2l, 1) := by decide +kernel
theorem dX8_digestPlaces_99 : decode cX8_digestPlaces 99 = .ok (.invokestatic 373, 3) := by decide +kernel
theorem dX8_digestPlaces_102 : decode cX8_digestPlaces 102 = .ok (.lstore 5, 2) := by decide +kernel
theorem dX8_digestPlaces_104 : decode cX8_digestPlaces 104 = .ok (.lload 5, 2) := by decide +kernel
theorem dX8_digestPlaces_106 : decode cX8_digestPlaces 106 = .ok (.aload 8, 2) := by decide +kernel
theorem dX8_digestPlaces_108 : decode cX8_digestPlaces 108 = .ok (.iload 4, 2) := by decide +kernel
theorem dX8_digestPlaces_110 : decode cX8_digestPlaces 110 = .ok (.invokevirtual 194, 3) := by decide +kernel
theorem dX8_digestPlaces_113 : decode cX8_digestPlaces 113 = .ok (.i2l, 1) := by decide +kernel
theorem dX8_digestPlaces_114 : decode cX8_digestPlaces 114 = .ok (.invokestatic 373, 3) := by decide +kernel
theorem dX8_digestPlaces_117 : decode cX8_digestPlaces 117 = .ok (.lstore 5, 2) := by decide +kernel
theorem dX8_digestPlaces_119 : decode cX8_digestPlaces 119 = .ok (.lload 5, 2) := by decide +kernel
theorem dX8_digestPlaces_121 : decode cX8_digestPlaces 121 = .ok (.aload 8, 2) := by decide +kernel
theorem dX8_digestPlaces_123 : decode cX8_digestPlaces 123 = .ok (.iload 4, 2) := by decide +kernel
theorem dX8_digestPlaces_125 : decode cX8_digestPlaces 125 = .ok (.invokevirtual 197, 3) := by decide +kernel
theorem dX8_digestPlaces_128 : decode cX8_digestPlaces 128 = .ok (.i2l, 1) := by decide +kernel
theorem dX8_digestPlaces_129 : decode cX8_digestPlaces 129 = .ok (.invokestatic 373, 3) := by decide +kernel
theorem dX8_digestPlaces_132 : decode cX8_digestPlaces 132 = .ok (.lstore 5, 2) := by decide +kernel
theorem dX8_digestPlaces_134 : decode cX8_digestPlaces 134 = .ok (.iinc 7 1, 3) := by decide +kernel
theorem dX8_digestPlaces_137 : decode cX8_digestPlaces 137 = .ok (.goto (-114), 3) := by decide +kernel
theorem dX8_digestPlaces_140 : decode cX8_digestPlaces 140 = .ok (.lload 5, 2) := by decide +kernel
theorem dX8_digestPlaces_142 : decode cX8_digestPlaces 142 = .ok (.lreturn, 1) := by decide +kernel
theorem dX8_digestSeries_0 : decode cX8_digestSeries 0 = .ok (.lload_n 1, 1) := by decide +kernel
theorem dX8_digestSeries_1 : decode cX8_digestSeries 1 = .ok (.aload_n 0, 1) := by decide +kernel
theorem dX8_digestSeries_2 : decode cX8_digestSeries 2 = .ok (.getfield 34, 3) := by decide +kernel
theorem dX8_digestSeries_5 : decode cX8_digestSeries 5 = .ok (.i2l, 1) := by decide +kernel
theorem dX8_digestSeries_6 : decode cX8_digestSeries 6 = .ok (.invokestatic 373, 3) := by decide +kernel
theorem dX8_digestSeries_9 : decode cX8_digestSeries 9 = .ok (.lstore_n 3, 1) := by decide +kernel
theorem dX8_digestSeries_10 : decode cX8_digestSeries 10 = .ok (.iconst 0, 1) := by decide +kernel
theorem dX8_digestSeries_11 : decode cX8_digestSeries 11 = .ok (.istore 5, 2) := by decide +kernel
theorem dX8_digestSeries_13 : decode cX8_digestSeries 13 = .ok (.iload 5, 2) := by decide +kernel
theorem dX8_digestSeries_15 : decode cX8_digestSeries 15 = .ok (.aload_n 0, 1) := by decide +kernel
theorem dX8_digestSeries_16 : decode cX8_digestSeries 16 = .ok (.getfield 30, 3) := by decide +kernel
theorem dX8_digestSeries_19 : decode cX8_digestSeries 19 = .ok (.arraylength, 1) := by decide +kernel
theorem dX8_digestSeries_20 : decode cX8_digestSeries 20 = .ok (.if_icmp .ge 61, 3) := by decide +kernel
theorem dX8_digestSeries_23 : decode cX8_digestSeries 23 = .ok (.aload_n 0, 1) := by decide +kernel
theorem dX8_digestSeries_24 : decode cX8_digestSeries 24 = .ok (.getfield 30, 3) := by decide +kernel
theorem dX8_digestSeries_27 : decode cX8_digestSeries 27 = .ok (.iload 5, 2) := by decide +kernel
theorem dX8_digestSeries_29 : decode cX8_digestSeries 29 = .ok (.aaload, 1) := by decide +kernel
theorem dX8_digestSeries_30 : decode cX8_digestSeries 30 = .ok (.astore 6, 2) := by decide +kernel
theorem dX8_digestSeries_32 : decode cX8_digestSeries 32 = .ok (.aload 6, 2) := by decide +kernel
theorem dX8_digestSeries_34 : decode cX8_digestSeries 34 = .ok (.ifnull 41, 3) := by decide +kernel
theorem dX8_digestSeries_37 : decode cX8_digestSeries 37 = .ok (.lload_n 3, 1) := by decide +kernel
theorem dX8_digestSeries_38 : decode cX8_digestSeries 38 = .ok (.aload 6, 2) := by decide +kernel
theorem dX8_digestSeries_40 : decode cX8_digestSeries 40 = .ok (.getfield 256, 3) := by decide +kernel
theorem dX8_digestSeries_43 : decode cX8_digestSeries 43 = .ok (.i2l, 1) := by decide +kernel
theorem dX8_digestSeries_44 : decode cX8_digestSeries 44 = .ok (.invokestatic 373, 3) := by decide +kernel
theorem dX8_digestSeries_47 : decode cX8_digestSeries 47 = .ok (.lstore_n 3, 1) := by decide +kernel
theorem dX8_digestSeries_48 : decode cX8_digestSeries 48 = .ok (.lload_n 3, 1) := by decide +kernel
theorem dX8_digestSeries_49 : decode cX8_digestSeries 49 = .ok (.aload 6, 2) := by decide +kernel
theorem dX8_digestSeries_51 : decode cX8_digestSeries 51 = .ok (.invokevirtual 274, 3) := by decide +kernel
theorem dX8_digestSeries_54 : decode cX8_digestSeries 54 = .ok (.i2l, 1) := by decide +kernel
theorem dX8_digestSeries_55 : decode cX8_digestSeries 55 = .ok (.invokestatic 373, 3) := by decide +kernel
theorem dX8_digestSeries_58 : decode cX8_digestSeries 58 = .ok (.lstore_n 3, 1) := by decide +kernel
theorem dX8_digestSeries_59 : decode cX8_digestSeries 59 = .ok (.aload 6, 2) := by decide +kernel
theorem dX8_digestSeries_61 : decode cX8_digestSeries 61 = .ok (.getfield 256, 3) := by decide +kernel
theorem dX8_digestSeries_64 : decode cX8_digestSeries 64 = .ok (.ifCond .le 11, 3) := by decide +kernel
theorem dX8_digestSeries_67 : decode cX8_digestSeries 67 = .ok (.aload_n 0, 1) := by decide +kernel
theorem dX8_digestSeries_68 : decode cX8_digestSeries 68 = .ok (.lload_n 3, 1) := by decide +kernel
theorem dX8_digestSeries_69 : decode cX8_digestSeries 69 = .ok (.aload 6, 2) := by decide +kernel
theorem dX8_digestSeries_71 : decode cX8_digestSeries 71 = .ok (.invokevirtual 380, 3) := by decide +kernel
theorem dX8_digestSeries_74 : decode cX8_digestSeries 74 = .ok (.lstore_n 3, 1) := by decide +kernel
theorem dX8_digestSeries_75 : decode cX8_digestSeries 75 = .ok (.iinc 5 1, 3) := by decide +kernel
theorem dX8_digestSeries_78 : decode cX8_digestSeries 78 = .ok (.goto (-65), 3) := by decide +kernel
theorem dX8_digestSeries_81 : decode cX8_digestSeries 81 = .ok (.lload_n 3, 1) := by decide +kernel
theorem dX8_digestSeries_82 : decode cX8_digestSeries 82 = .ok (.lreturn, 1) := by decide +kernel
theorem dX8_digestDates_0 : decode cX8_digestDates 0 = .ok (.lload_n 1, 1) := by decide +kernel
theorem dX8_digestDates_1 : decode cX8_digestDates 1 = .ok (.aload_n 3, 1) := by decide +kernel
theorem dX8_digestDates_2 : decode cX8_digestDates 2 = .ok (.iconst 0, 1) := by decide +kernel
theorem dX8_digestDates_3 : decode cX8_digestDates 3 = .ok (.invokevirtual 263, 3) := by decide +kernel
theorem dX8_digestDates_6 : decode cX8_digestDates 6 = .ok (.i2l, 1) := by decide +kernel
theorem dX8_digestDates_7 : decode cX8_digestDates 7 = .ok (.invokestatic 373, 3) := by decide +kernel
theorem dX8_digestDates_10 : decode cX8_digestDates 10 = .ok (.lstore 4, 2) := by decide +kernel
theorem dX8_digestDates_12 : decode cX8_digestDates 12 = .ok (.lload 4, 2) := by decide +kernel
theorem dX8_digestDates_14 : decode cX8_digestDates 14 = .ok (.aload_n 3, 1) := by decide +kernel
theorem dX8_digestDates_15 : decode cX8_digestDates 15 = .ok (.iconst 0, 1) := by decide +kernel
theorem dX8_digestDates_16 : decode cX8_digestDates 16 = .ok (.invokevirtual 267, 3) := by decide +kernel
theorem dX8_digestDates_19 : decode cX8_digestDates 19 = .ok (.i2l, 1) := by decide +kernel
theorem dX8_digestDates_20 : decode cX8_digestDates 20 = .ok (.invokestatic 373, 3) := by decide +kernel
theorem dX8_digestDates_23 : decode cX8_digestDates 23 = .ok (.lstore 4, 2) := by decide +kernel
theorem dX8_digestDates_25 : decode cX8_digestDates 25 = .ok (.aload_n 3, 1) := by decide +kernel
theorem dX8_digestDates_26 : decode cX8_digestDates 26 = .ok (.getfield 256, 3) := by decide +kernel
theorem dX8_digestDates_29 : decode cX8_digestDates 29 = .ok (.iconst 1, 1) := by decide +kernel
theorem dX8_digestDates_30 : decode cX8_digestDates 30 = .ok (.isub, 1) := by decide +kernel
theorem dX8_digestDates_31 : decode cX8_digestDates 31 = .ok (.istore 6, 2) := by decide +kernel
theorem dX8_digestDates_33 : decode cX8_digestDates 33 = .ok (.iload 6, 2) := by decide +kernel
theorem dX8_digestDates_35 : decode cX8_digestDates 35 = .ok (.ifCond .le 31, 3) := by decide +kernel
theorem dX8_digestDates_38 : decode cX8_digestDates 38 = .ok (.lload 4, 2) := by decide +kernel
theorem dX8_digestDates_40 : decode cX8_digestDates 40 = .ok (.aload_n 3, 1) := by decide +kernel
theorem dX8_digestDates_41 : decode cX8_digestDates 41 = .ok (.iload 6, 2) := by decide +kernel
theorem dX8_digestDates_43 : decode cX8_digestDates 43 = .ok (.invokevirtual 263, 3) := by decide +kernel
theorem dX8_digestDates_46 : decode cX8_digestDates 46 = .ok (.i2l, 1) := by decide +kernel
theorem dX8_digestDates_47 : decode cX8_digestDates 47 = .ok (.invokestatic 373, 3) := by decide +kernel
theorem dX8_digestDates_50 : decode cX8_digestDates 50 = .ok (.lstore 4, 2) := by decide +kernel
theorem dX8_digestDates_52 : decode cX8_digestDates 52 = .ok (.lload 4, 2) := by decide +kernel
theorem dX8_digestDates_54 : decode cX8_digestDates 54 = .ok (.aload_n 3, 1) := by decide +kernel
theorem dX8_digestDates_55 : decode cX8_digestDates 55 = .ok (.iload 6, 2) := by decide +kernel
theorem dX8_digestDates_57 : decode cX8_digestDates 57 = .ok (.invokevirtual 267, 3) := by decide +kernel
theorem dX8_digestDates_60 : decode cX8_digestDates 60 = .ok (.i2l, 1) := by decide +kernel
theorem dX8_digestDates_61 : decode cX8_digestDates 61 = .ok (.invokestatic 373, 3) := by decide +kernel
theorem dX8_digestDates_64 : decode cX8_digestDates 64 = .ok (.lstore 4, 2) := by decide +kernel
theorem dX8_digestDates_66 : decode cX8_digestDates 66 = .ok (.iconst 0, 1) := by decide +kernel
theorem dX8_digestDates_67 : decode cX8_digestDates 67 = .ok (.istore 7, 2) := by decide +kernel
theorem dX8_digestDates_69 : decode cX8_digestDates 69 = .ok (.iload 7, 2) := by decide +kernel
theorem dX8_digestDates_71 : decode cX8_digestDates 71 = .ok (.aload_n 0, 1) := by decide +kernel
theorem dX8_digestDates_72 : decode cX8_digestDates 72 = .ok (.getfield 30, 3) := by decide +kernel
theorem dX8_digestDates_75 : decode cX8_digestDates 75 = .ok (.arraylength, 1) := by decide +kernel
theorem dX8_digestDates_76 : decode cX8_digestDates 76 = .ok (.if_icmp .ge 37, 3) := by decide +kernel
theorem dX8_digestDates_79 : decode cX8_digestDates 79 = .ok (.aload_n 0, 1) := by decide +kernel
theorem dX8_digestDates_80 : decode cX8_digestDates 80 = .ok (.getfield 30, 3) := by decide +kernel
theorem dX8_digestDates_83 : decode cX8_digestDates 83 = .ok (.iload 7, 2) := by decide +kernel
theorem dX8_digestDates_85 : decode cX8_digestDates 85 = .ok (.aaload, 1) := by decide +kernel
theorem dX8_digestDates_86 : decode cX8_digestDates 86 = .ok (.astore 8, 2) := by decide +kernel
theorem dX8_digestDates_88 : decode cX8_digestDates 88 = .ok (.aload 8, 2) := by decide +kernel
theorem dX8_digestDates_90 : decode cX8_digestDates 90 = .ok (.ifnull 17, 3) := by decide +kernel
theorem dX8_digestDates_93 : decode cX8_digestDates 93 = .ok (.lload 4, 2) := by decide +kernel
theorem dX8_digestDates_95 : decode cX8_digestDates 95 = .ok (.aload_n 3, 1) := by decide +kernel
theorem dX8_digestDates_96 : decode cX8_digestDates 96 = .ok (.aload 8, 2) := by decide +kernel
theorem dX8_digestDates_98 : decode cX8_digestDates 98 = .ok (.invokevirtual 270, 3) := by decide +kernel
theorem dX8_digestDates_101 : decode cX8_digestDates 101 = .ok (.i2l, 1) := by decide +kernel
theorem dX8_digestDates_102 : decode cX8_digestDates 102 = .ok (.invokestatic 373, 3) := by decide +kernel
theorem dX8_digestDates_105 : decode cX8_digestDates 105 = .ok (.lstore 4, 2) := by decide +kernel
theorem dX8_digestDates_107 : decode cX8_digestDates 107 = .ok (.iinc 7 1, 3) := by decide +kernel
theorem dX8_digestDates_110 : decode cX8_digestDates 110 = .ok (.goto (-41), 3) := by decide +kernel
theorem dX8_digestDates_113 : decode cX8_digestDates 113 = .ok (.lload 4, 2) := by decide +kernel
theorem dX8_digestDates_115 : decode cX8_digestDates 115 = .ok (.lreturn, 1) := by decide +kernel
theorem dX8_digestWork_0 : decode cX8_digestWork 0 = .ok (.ldc_w 384, 3) := by decide +kernel
theorem dX8_digestWork_3 : decode cX8_digestWork 3 = .ok (.istore_n 3, 1) := by decide +kernel
theorem dX8_digestWork_4 : decode cX8_digestWork 4 = .ok (.ldc_w 385, 3) := by decide +kernel
theorem dX8_digestWork_7 : decode cX8_digestWork 7 = .ok (.istore 4, 2) := by decide +kernel
theorem dX8_digestWork_9 : decode cX8_digestWork 9 = .ok (.lload_n 1, 1) := by decide +kernel
theorem dX8_digestWork_10 : decode cX8_digestWork 10 = .ok (.lstore 5, 2) := by decide +kernel
theorem dX8_digestWork_12 : decode cX8_digestWork 12 = .ok (.aload_n 0, 1) := by decide +kernel
theorem dX8_digestWork_13 : decode cX8_digestWork 13 = .ok (.getfield 49, 3) := by decide +kernel
theorem dX8_digestWork_16 : decode cX8_digestWork 16 = .ok (.iload_n 3, 1) := by decide +kernel
theorem dX8_digestWork_17 : decode cX8_digestWork 17 = .ok (.iload_n 3, 1) := by decide +kernel
theorem dX8_digestWork_18 : decode cX8_digestWork 18 = .ok (.bipush 19, 2) := by decide +kernel
theorem dX8_digestWork_20 : decode cX8_digestWork 20 = .ok (.iadd, 1) := by decide +kernel
theorem dX8_digestWork_21 : decode cX8_digestWork 21 = .ok (.invokevirtual 316, 3) := by decide +kernel
theorem dX8_digestWork_24 : decode cX8_digestWork 24 = .ok (.iload_n 3, 1) := by decide +kernel
theorem dX8_digestWork_25 : decode cX8_digestWork 25 = .ok (.istore 7, 2) := by decide +kernel
theorem dX8_digestWork_27 : decode cX8_digestWork 27 = .ok (.iload 7, 2) := by decide +kernel
theorem dX8_digestWork_29 : decode cX8_digestWork 29 = .ok (.iload_n 3, 1) := by decide +kernel
theorem dX8_digestWork_30 : decode cX8_digestWork 30 = .ok (.bipush 20, 2) := by decide +kernel
theorem dX8_digestWork_32 : decode cX8_digestWork 32 = .ok (.iadd, 1) := by decide +kernel
theorem dX8_digestWork_33 : decode cX8_digestWork 33 = .ok (.if_icmp .ge 50, 3) := by decide +kernel
theorem dX8_digestWork_36 : decode cX8_digestWork 36 = .ok (.lload 5, 2) := by decide +kernel
theorem dX8_digestWork_38 : decode cX8_digestWork 38 = .ok (.aload_n 0, 1) := by decide +kernel
theorem dX8_digestWork_39 : decode cX8_digestWork 39 = .ok (.getfield 49, 3) := by decide +kernel
theorem dX8_digestWork_42 : decode cX8_digestWork 42 = .ok (.iload 7, 2) := by decide +kernel
theorem dX8_digestWork_44 : decode cX8_digestWork 44 = .ok (.invokevirtual 319, 3) := by decide +kernel
theorem dX8_digestWork_47 : decode cX8_digestWork 47 = .ok (.i2l, 1) := by decide +kernel
theorem dX8_digestWork_48 : decode cX8_digestWork 48 = .ok (.invokestatic 373, 3) := by decide +kernel
theorem dX8_digestWork_51 : decode cX8_digestWork 51 = .ok (.lstore 5, 2) := by decide +kernel
theorem dX8_digestWork_53 : decode cX8_digestWork 53 = .ok (.lload 5, 2) := by decide +kernel
theorem dX8_digestWork_55 : decode cX8_digestWork 55 = .ok (.aload_n 0, 1) := by decide +kernel
theorem dX8_digestWork_56 : decode cX8_digestWork 56 = .ok (.getfield 49, 3) := by decide +kernel
theorem dX8_digestWork_59 : decode cX8_digestWork 59 = .ok (.iload 7, 2) := by decide +kernel
theorem dX8_digestWork_61 : decode cX8_digestWork 61 = .ok (.invokevirtual 322, 3) := by decide +kernel
theorem dX8_digestWork_64 : decode cX8_digestWork 64 = .ok (.ifCond .eq 7, 3) := by decide +kernel
theorem dX8_digestWork_67 : decode cX8_digestWork 67 = .ok (.lconst 1, 1) := by decide +kernel
theorem dX8_digestWork_68 : decode cX8_digestWork 68 = .ok (.goto 4, 3) := by decide +kernel
theorem dX8_digestWork_71 : decode cX8_digestWork 71 = .ok (.lconst 0, 1) := by decide +kernel
theorem dX8_digestWork_72 : decode cX8_digestWork 72 = .ok (.invokestatic 373, 3) := by decide +kernel
theorem dX8_digestWork_75 : decode cX8_digestWork 75 = .ok (.lstore 5, 2) := by decide +kernel
theorem dX8_digestWork_77 : decode cX8_digestWork 77 = .ok (.iinc 7 1, 3) := by decide +kernel
theorem dX8_digestWork_80 : decode cX8_digestWork 80 = .ok (.goto (-53), 3) := by decide +kernel
theorem dX8_digestWork_83 : decode cX8_digestWork 83 = .ok (.lload 5, 2) := by decide +kernel
theorem dX8_digestWork_85 : decode cX8_digestWork 85 = .ok (.aload_n 0, 1) := by decide +kernel
theorem dX8_digestWork_86 : decode cX8_digestWork 86 = .ok (.getfield 49, 3) := by decide +kernel
theorem dX8_digestWork_89 : decode cX8_digestWork 89 = .ok (.iload_n 3, 1) := by decide +kernel
theorem dX8_digestWork_90 : decode cX8_digestWork 90 = .ok (.sipush 400, 3) := by decide +kernel
theorem dX8_digestWork_93 : decode cX8_digestWork 93 = .ok (.invokevirtual 328, 3) := by decide +kernel
theorem dX8_digestWork_96 : decode cX8_digestWork 96 = .ok (.i2l, 1) := by decide +kernel
theorem dX8_digestWork_97 : decode cX8_digestWork 97 = .ok (.invokestatic 373, 3) := by decide +kernel
theorem dX8_digestWork_100 : decode cX8_digestWork 100 = .ok (.lstore 5, 2) := by decide +kernel
theorem dX8_digestWork_102 : decode cX8_digestWork 102 = .ok (.lload 5, 2) := by decide +kernel
theorem dX8_digestWork_104 : decode cX8_digestWork 104 = .ok (.aload_n 0, 1) := by decide +kernel
theorem dX8_digestWork_105 : decode cX8_digestWork 105 = .ok (.getfield 49, 3) := by decide +kernel
theorem dX8_digestWork_108 : decode cX8_digestWork 108 = .ok (.iload_n 3, 1) := by decide +kernel
theorem dX8_digestWork_109 : decode cX8_digestWork 109 = .ok (.bipush 20, 2) := by decide +kernel
theorem dX8_digestWork_111 : decode cX8_digestWork 111 = .ok (.invokevirtual 333, 3) := by decide +kernel
theorem dX8_digestWork_114 : decode cX8_digestWork 114 = .ok (.i2l, 1) := by decide +kernel
theorem dX8_digestWork_115 : decode cX8_digestWork 115 = .ok (.invokestatic 373, 3) := by decide +kernel
theorem dX8_digestWork_118 : decode cX8_digestWork 118 = .ok (.lstore 5, 2) := by decide +kernel
theorem dX8_digestWork_120 : decode cX8_digestWork 120 = .ok (.aload_n 0, 1) := by decide +kernel
theorem dX8_digestWork_121 : decode cX8_digestWork 121 = .ok (.getfield 49, 3) := by decide +kernel
theorem dX8_digestWork_124 : decode cX8_digestWork 124 = .ok (.iload 4, 2) := by decide +kernel
theorem dX8_digestWork_126 : decode cX8_digestWork 126 = .ok (.iload 4, 2) := by decide +kernel
theorem dX8_digestWork_128 : decode cX8_digestWork 128 = .ok (.ldc_w 342, 3) := by decide +kernel
theorem dX8_digestWork_131 : decode cX8_digestWork 131 = .ok (.iadd, 1) := by decide +kernel
theorem dX8_digestWork_132 : decode cX8_digestWork 132 = .ok (.invokevirtual 336, 3) := by decide +kernel
theorem dX8_digestWork_135 : decode cX8_digestWork 135 = .ok (.lload 5, 2) := by decide +kernel
theorem dX8_digestWork_137 : decode cX8_digestWork 137 = .ok (.aload_n 0, 1) := by decide +kernel
theorem dX8_digestWork_138 : decode cX8_digestWork 138 = .ok (.getfield 49, 3) := by decide +kernel
theorem dX8_digestWork_141 : decode cX8_digestWork 141 = .ok (.iload 4, 2) := by decide +kernel
theorem dX8_digestWork_143 : decode cX8_digestWork 143 = .ok (.iload 4, 2) := by decide +kernel
theorem dX8_digestWork_145 : decode cX8_digestWork 145 = .ok (.sipush 20000, 3) := by decide +kernel
theorem dX8_digestWork_148 : decode cX8_digestWork 148 = .ok (.iadd, 1) := by decide +kernel
theorem dX8_digestWork_149 : decode cX8_digestWork 149 = .ok (.invokevirtual 339, 3) := by decide +kernel
theorem dX8_digestWork_152 : decode cX8_digestWork 152 = .ok (.i2l, 1) := by decide +kernel
theorem dX8_digestWork_153 : decode cX8_digestWork 153 = .ok (.invokestatic 373, 3) := by decide +kernel
theorem dX8_digestWork_156 : decode cX8_digestWork 156 = .ok (.lstore 5, 2) := by decide +kernel
theorem dX8_digestWork_158 : decode cX8_digestWork 158 = .ok (.lload 5, 2) := by decide +kernel
theorem dX8_digestWork_160 : decode cX8_digestWork 160 = .ok (.aload_n 0, 1) := by decide +kernel
theorem dX8_digestWork_161 : decode cX8_digestWork 161 = .ok (.getfield 49, 3) := by decide +kernel
theorem dX8_digestWork_164 : decode cX8_digestWork 164 = .ok (.iload 4, 2) := by decide +kernel
theorem dX8_digestWork_166 : decode cX8_digestWork 166 = .ok (.sipush 3000, 3) := by decide +kernel
theorem dX8_digestWork_169 : decode cX8_digestWork 169 = .ok (.iload 4, 2) := by decide +kernel
theorem dX8_digestWork_171 : decode cX8_digestWork 171 = .ok (.ldc_w 342, 3) := by decide +kernel
theorem dX8_digestWork_174 : decode cX8_digestWork 174 = .ok (.iadd, 1) := by decide +kernel
theorem dX8_digestWork_175 : decode cX8_digestWork 175 = .ok (.invokevirtual 348, 3) := by decide +kernel
theorem dX8_digestWork_178 : decode cX8_digestWork 178 = .ok (.i2l, 1) := by decide +kernel
theorem dX8_digestWork_179 : decode cX8_digestWork 179 = .ok (.invokestatic 373, 3) := by decide +kernel
theorem dX8_digestWork_182 : decode cX8_digestWork 182 = .ok (.lreturn, 1) := by decide +kernel
theorem dX8_needDay_0 : decode cX8_needDay 0 = .ok (.iload_n 0, 1) := by decide +kernel
theorem dX8_needDay_1 : decode cX8_needDay 1 = .ok (.ifCond .lt 10, 3) := by decide +kernel
theorem dX8_needDay_4 : decode cX8_needDay 4 = .ok (.iload_n 0, 1) := by decide +kernel
theorem dX8_needDay_5 : decode cX8_needDay 5 = .ok (.ldc_w 386, 3) := by decide +kernel
theorem dX8_needDay_8 : decode cX8_needDay 8 = .ok (.if_icmp .le 14, 3) := by decide +kernel
theorem dX8_needDay_11 : decode cX8_needDay 11 = .ok (.new 387, 3) := by decide +kernel
theorem dX8_needDay_14 : decode cX8_needDay 14 = .ok (.dup, 1) := by decide +kernel
theorem dX8_needDay_15 : decode cX8_needDay 15 = .ok (.ldc_w 389, 3) := by decide +kernel
theorem dX8_needDay_18 : decode cX8_needDay 18 = .ok (.invokespecial 391, 3) := by decide +kernel
theorem dX8_needDay_21 : decode cX8_needDay 21 = .ok (.athrow, 1) := by decide +kernel
theorem dX8_needDay_22 : decode cX8_needDay 22 = .ok (.return_, 1) := by decide +kernel
theorem dX8_needMoment_0 : decode cX8_needMoment 0 = .ok (.iload_n 0, 1) := by decide +kernel
theorem dX8_needMoment_1 : decode cX8_needMoment 1 = .ok (.ifCond .lt 9, 3) := by decide +kernel
theorem dX8_needMoment_4 : decode cX8_needMoment 4 = .ok (.iload_n 0, 1) := by decide +kernel
theorem dX8_needMoment_5 : decode cX8_needMoment 5 = .ok (.ldc 200, 2) := by decide +kernel
theorem dX8_needMoment_7 : decode cX8_needMoment 7 = .ok (.if_icmp .le 14, 3) := by decide +kernel
theorem dX8_needMoment_10 : decode cX8_needMoment 10 = .ok (.new 387, 3) := by decide +kernel
theorem dX8_needMoment_13 : decode cX8_needMoment 13 = .ok (.dup, 1) := by decide +kernel
theorem dX8_needMoment_14 : decode cX8_needMoment 14 = .ok (.ldc_w 392, 3) := by decide +kernel
theorem dX8_needMoment_17 : decode cX8_needMoment 17 = .ok (.invokespecial 391, 3) := by decide +kernel
theorem dX8_needMoment_20 : decode cX8_needMoment 20 = .ok (.athrow, 1) := by decide +kernel
theorem dX8_needMoment_21 : decode cX8_needMoment 21 = .ok (.return_, 1) := by decide +kernel
theorem dX8_needYear_0 : decode cX8_needYear 0 = .ok (.iload_n 0, 1) := by decide +kernel
theorem dX8_needYear_1 : decode cX8_needYear 1 = .ok (.sipush 1900, 3) := by decide +kernel
theorem dX8_needYear_4 : decode cX8_needYear 4 = .ok (.if_icmp .lt 10, 3) := by decide +kernel
theorem dX8_needYear_7 : decode cX8_needYear 7 = .ok (.iload_n 0, 1) := by decide +kernel
theorem dX8_needYear_8 : decode cX8_needYear 8 = .ok (.sipush 2099, 3) := by decide +kernel
theorem dX8_needYear_11 : decode cX8_needYear 11 = .ok (.if_icmp .le 14, 3) := by decide +kernel
theorem dX8_needYear_14 : decode cX8_needYear 14 = .ok (.new 56, 3) := by decide +kernel
theorem dX8_needYear_17 : decode cX8_needYear 17 = .ok (.dup, 1) := by decide +kernel
theorem dX8_needYear_18 : decode cX8_needYear 18 = .ok (.ldc_w 394, 3) := by decide +kernel
theorem dX8_needYear_21 : decode cX8_needYear 21 = .ok (.invokespecial 60, 3) := by decide +kernel
theorem dX8_needYear_24 : decode cX8_needYear 24 = .ok (.athrow, 1) := by decide +kernel
theorem dX8_needYear_25 : decode cX8_needYear 25 = .ok (.return_, 1) := by decide +kernel
theorem dX8_needYears_0 : decode cX8_needYears 0 = .ok (.iload_n 0, 1) := by decide +kernel
theorem dX8_needYears_1 : decode cX8_needYears 1 = .ok (.invokestatic 53, 3) := by decide +kernel
theorem dX8_needYears_4 : decode cX8_needYears 4 = .ok (.iload_n 1, 1) := by decide +kernel
theorem dX8_needYears_5 : decode cX8_needYears 5 = .ok (.iload_n 0, 1) := by decide +kernel
theorem dX8_needYears_6 : decode cX8_needYears 6 = .ok (.if_icmp .lt 10, 3) := by decide +kernel
theorem dX8_needYears_9 : decode cX8_needYears 9 = .ok (.iload_n 1, 1) := by decide +kernel
theorem dX8_needYears_10 : decode cX8_needYears 10 = .ok (.sipush 2099, 3) := by decide +kernel
theorem dX8_needYears_13 : decode cX8_needYears 13 = .ok (.if_icmp .le 14, 3) := by decide +kernel
theorem dX8_needYears_16 : decode cX8_needYears 16 = .ok (.new 56, 3) := by decide +kernel
theorem dX8_needYears_19 : decode cX8_needYears 19 = .ok (.dup, 1) := by decide +kernel
theorem dX8_needYears_20 : decode cX8_needYears 20 = .ok (.ldc_w 396, 3) := by decide +kernel
theorem dX8_needYears_23 : decode cX8_needYears 23 = .ok (.invokespecial 60, 3) := by decide +kernel
theorem dX8_needYears_26 : decode cX8_needYears 26 = .ok (.athrow, 1) := by decide +kernel
theorem dX8_needYears_27 : decode cX8_needYears 27 = .ok (.return_, 1) := by decide +kernel
theorem dX8_needPattern_0 : decode cX8_needPattern 0 = .ok (.iload_n 1, 1) := by decide +kernel
theorem dX8_needPattern_1 : decode cX8_needPattern 1 = .ok (.ifCond .lt 12, 3) := by decide +kernel
theorem dX8_needPattern_4 : decode cX8_needPattern 4 = .ok (.iload_n 1, 1) := by decide +kernel
theorem dX8_needPattern_5 : decode cX8_needPattern 5 = .ok (.aload_n 0, 1) := by decide +kernel
theorem dX8_needPattern_6 : decode cX8_needPattern 6 = .ok (.getfield 9, 3) := by decide +kernel
theorem dX8_needPattern_9 : decode cX8_needPattern 9 = .ok (.arraylength, 1) := by decide +kernel
theorem dX8_needPattern_10 : decode cX8_needPattern 10 = .ok (.if_icmp .lt 7, 3) := by decide +kernel
theorem dX8_needPattern_13 : decode cX8_needPattern 13 = .ok (.aconst_null, 1) := by decide +kernel
theorem dX8_needPattern_14 : decode cX8_needPattern 14 = .ok (.goto 9, 3) := by decide +kernel
theorem dX8_needPattern_17 : decode cX8_needPattern 17 = .ok (.aload_n 0, 1) := by decide +kernel
theorem dX8_needPattern_18 : decode cX8_needPattern 18 = .ok (.getfield 9, 3) := by decide +kernel
theorem dX8_needPattern_21 : decode cX8_needPattern 21 = .ok (.iload_n 1, 1) := by decide +kernel
theorem dX8_needPattern_22 : decode cX8_needPattern 22 = .ok (.aaload, 1) := by decide +kernel
theorem dX8_needPattern_23 : decode cX8_needPattern 23 = .ok (.astore_n 2, 1) := by decide +kernel
theorem dX8_needPattern_24 : decode cX8_needPattern 24 = .ok (.aload_n 2, 1) := by decide +kernel
theorem dX8_needPattern_25 : decode cX8_needPattern 25 = .ok (.ifnonnull 14, 3) := by decide +kernel
theorem dX8_needPattern_28 : decode cX8_needPattern 28 = .ok (.new 387, 3) := by decide +kernel
theorem dX8_needPattern_31 : decode cX8_needPattern 31 = .ok (.dup, 1) := by decide +kernel
theorem dX8_needPattern_32 : decode cX8_needPattern 32 = .ok (.ldc_w 398, 3) := by decide +kernel
theorem dX8_needPattern_35 : decode cX8_needPattern 35 = .ok (.invokespecial 391, 3) := by decide +kernel
theorem dX8_needPattern_38 : decode cX8_needPattern 38 = .ok (.athrow, 1) := by decide +kernel
theorem dX8_needPattern_39 : decode cX8_needPattern 39 = .ok (.aload_n 2, 1) := by decide +kernel
theorem dX8_needPattern_40 : decode cX8_needPattern 40 = .ok (.areturn, 1) := by decide +kernel
theorem dX8_needPlace_0 : decode cX8_needPlace 0 = .ok (.iload_n 1, 1) := by decide +kernel
theorem dX8_needPlace_1 : decode cX8_needPlace 1 = .ok (.ifCond .lt 12, 3) := by decide +kernel
theorem dX8_needPlace_4 : decode cX8_needPlace 4 = .ok (.iload_n 1, 1) := by decide +kernel
theorem dX8_needPlace_5 : decode cX8_needPlace 5 = .ok (.aload_n 0, 1) := by decide +kernel
theorem dX8_needPlace_6 : decode cX8_needPlace 6 = .ok (.getfield 21, 3) := by decide +kernel
theorem dX8_needPlace_9 : decode cX8_needPlace 9 = .ok (.arraylength, 1) := by decide +kernel
theorem dX8_needPlace_10 : decode cX8_needPlace 10 = .ok (.if_icmp .lt 7, 3) := by decide +kernel
theorem dX8_needPlace_13 : decode cX8_needPlace 13 = .ok (.aconst_null, 1) := by decide +kernel
theorem dX8_needPlace_14 : decode cX8_needPlace 14 = .ok (.goto 9, 3) := by decide +kernel
theorem dX8_needPlace_17 : decode cX8_needPlace 17 = .ok (.aload_n 0, 1) := by decide +kernel
theorem dX8_needPlace_18 : decode cX8_needPlace 18 = .ok (.getfield 21, 3) := by decide +kernel
theorem dX8_needPlace_21 : decode cX8_needPlace 21 = .ok (.iload_n 1, 1) := by decide +kernel
theorem dX8_needPlace_22 : decode cX8_needPlace 22 = .ok (.aaload, 1) := by decide +kernel
theorem dX8_needPlace_23 : decode cX8_needPlace 23 = .ok (.astore_n 2, 1) := by decide +kernel
theorem dX8_needPlace_24 : decode cX8_needPlace 24 = .ok (.aload_n 2, 1) := by decide +kernel
theorem dX8_needPlace_25 : decode cX8_needPlace 25 = .ok (.ifnonnull 14, 3) := by decide +kernel
theorem dX8_needPlace_28 : decode cX8_needPlace 28 = .ok (.new 387, 3) := by decide +kernel
theorem dX8_needPlace_31 : decode cX8_needPlace 31 = .ok (.dup, 1) := by decide +kernel
theorem dX8_needPlace_32 : decode cX8_needPlace 32 = .ok (.ldc_w 400, 3) := by decide +kernel
theorem dX8_needPlace_35 : decode cX8_needPlace 35 = .ok (.invokespecial 391, 3) := by decide +kernel
theorem dX8_needPlace_38 : decode cX8_needPlace 38 = .ok (.athrow, 1) := by decide +kernel
theorem dX8_needPlace_39 : decode cX8_needPlace 39 = .ok (.aload_n 2, 1) := by decide +kernel
theorem dX8_needPlace_40 : decode cX8_needPlace 40 = .ok (.areturn, 1) := by decide +kernel
theorem dX8_needSeries_0 : decode cX8_needSeries 0 = .ok (.iload_n 1, 1) := by decide +kernel
theorem dX8_needSeries_1 : decode cX8_needSeries 1 = .ok (.ifCond .lt 12, 3) := by decide +kernel
theorem dX8_needSeries_4 : decode cX8_needSeries 4 = .ok (.iload_n 1, 1) := by decide +kernel
theorem dX8_needSeries_5 : decode cX8_needSeries 5 = .ok (.aload_n 0, 1) := by decide +kernel
theorem dX8_needSeries_6 : decode cX8_needSeries 6 = .ok (.getfield 30, 3) := by decide +kernel
theorem dX8_needSeries_9 : decode cX8_needSeries 9 = .ok (.arraylength, 1) := by decide +kernel
theorem dX8_needSeries_10 : decode cX8_needSeries 10 = .ok (.if_icmp .lt 7, 3) := by decide +kernel
theorem dX8_needSeries_13 : decode cX8_needSeries 13 = .ok (.aconst_null, 1) := by decide +kernel
theorem dX8_needSeries_14 : decode cX8_needSeries 14 = .ok (.goto 9, 3) := by decide +kernel
theorem dX8_needSeries_17 : decode cX8_needSeries 17 = .ok (.aload_n 0, 1) := by decide +kernel
theorem dX8_needSeries_18 : decode cX8_needSeries 18 = .ok (.getfield 30, 3) := by decide +kernel
theorem dX8_needSeries_21 : decode cX8_needSeries 21 = .ok (.iload_n 1, 1) := by decide +kernel
theorem dX8_needSeries_22 : decode cX8_needSeries 22 = .ok (.aaload, 1) := by decide +kernel
theorem dX8_needSeries_23 : decode cX8_needSeries 23 = .ok (.astore_n 2, 1) := by decide +kernel
theorem dX8_needSeries_24 : decode cX8_needSeries 24 = .ok (.aload_n 2, 1) := by decide +kernel
theorem dX8_needSeries_25 : decode cX8_needSeries 25 = .ok (.ifnonnull 14, 3) := by decide +kernel
theorem dX8_needSeries_28 : decode cX8_needSeries 28 = .ok (.new 387, 3) := by decide +kernel
theorem dX8_needSeries_31 : decode cX8_needSeries 31 = .ok (.dup, 1) := by decide +kernel
theorem dX8_needSeries_32 : decode cX8_needSeries 32 = .ok (.ldc_w 402, 3) := by decide +kernel
theorem dX8_needSeries_35 : decode cX8_needSeries 35 = .ok (.invokespecial 391, 3) := by decide +kernel
theorem dX8_needSeries_38 : decode cX8_needSeries 38 = .ok (.athrow, 1) := by decide +kernel
theorem dX8_needSeries_39 : decode cX8_needSeries 39 = .ok (.aload_n 2, 1) := by decide +kernel
theorem dX8_needSeries_40 : decode cX8_needSeries 40 = .ok (.areturn, 1) := by decide +kernel
theorem dX8_needDate_0 : decode cX8_needDate 0 = .ok (.iload_n 1, 1) := by decide +kernel
theorem dX8_needDate_1 : decode cX8_needDate 1 = .ok (.ifCond .lt 11, 3) := by decide +kernel
theorem dX8_needDate_4 : decode cX8_needDate 4 = .ok (.iload_n 1, 1) := by decide +kernel
theorem dX8_needDate_5 : decode cX8_needDate 5 = .ok (.aload_n 0, 1) := by decide +kernel
theorem dX8_needDate_6 : decode cX8_needDate 6 = .ok (.getfield 256, 3) := by decide +kernel
theorem dX8_needDate_9 : decode cX8_needDate 9 = .ok (.if_icmp .lt 14, 3) := by decide +kernel
theorem dX8_needDate_12 : decode cX8_needDate 12 = .ok (.new 387, 3) := by decide +kernel
theorem dX8_needDate_15 : decode cX8_needDate 15 = .ok (.dup, 1) := by decide +kernel
theorem dX8_needDate_16 : decode cX8_needDate 16 = .ok (.ldc_w 404, 3) := by decide +kernel
theorem dX8_needDate_19 : decode cX8_needDate 19 = .ok (.invokespecial 391, 3) := by decide +kernel
theorem dX8_needDate_22 : decode cX8_needDate 22 = .ok (.athrow, 1) := by decide +kernel
theorem dX8_needDate_23 : decode cX8_needDate 23 = .ok (.return_, 1) := by decide +kernel
