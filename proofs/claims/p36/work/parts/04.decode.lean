theorem dX0_init_0 : decode cX0_init 0 = .ok (.aload_n 0, 1) := by decide +kernel
theorem dX0_init_1 : decode cX0_init 1 = .ok (.invokespecial 3, 3) := by decide +kernel
theorem dX0_init_4 : decode cX0_init 4 = .ok (.aload_n 0, 1) := by decide +kernel
theorem dX0_init_5 : decode cX0_init 5 = .ok (.sipush 200, 3) := by decide +kernel
theorem dX0_init_8 : decode cX0_init 8 = .ok (.newarray .byte, 2) := by decide +kernel
theorem dX0_init_10 : decode cX0_init 10 = .ok (.putfield 9, 3) := by decide +kernel
theorem dX0_init_13 : decode cX0_init 13 = .ok (.return_, 1) := by decide +kernel
theorem dX0_become_0 : decode cX0_become 0 = .ok (.aload_n 0, 1) := by decide +kernel
theorem dX0_become_1 : decode cX0_become 1 = .ok (.aload_n 1, 1) := by decide +kernel
theorem dX0_become_2 : decode cX0_become 2 = .ok (.getfield 15, 3) := by decide +kernel
theorem dX0_become_5 : decode cX0_become 5 = .ok (.putfield 15, 3) := by decide +kernel
theorem dX0_become_8 : decode cX0_become 8 = .ok (.aload_n 1, 1) := by decide +kernel
theorem dX0_become_9 : decode cX0_become 9 = .ok (.getfield 9, 3) := by decide +kernel
theorem dX0_become_12 : decode cX0_become 12 = .ok (.iconst 0, 1) := by decide +kernel
theorem dX0_become_13 : decode cX0_become 13 = .ok (.aload_n 0, 1) := by decide +kernel
theorem dX0_become_14 : decode cX0_become 14 = .ok (.getfield 9, 3) := by decide +kernel
theorem dX0_become_17 : decode cX0_become 17 = .ok (.iconst 0, 1) := by decide +kernel
theorem dX0_become_18 : decode cX0_become 18 = .ok (.aload_n 0, 1) := by decide +kernel
theorem dX0_become_19 : decode cX0_become 19 = .ok (.getfield 9, 3) := by decide +kernel
theorem dX0_become_22 : decode cX0_become 22 = .ok (.arraylength, 1) := by decide +kernel
theorem dX0_become_23 : decode cX0_become 23 = .ok (.invokestatic 19, 3) := by decide +kernel
theorem dX0_become_26 : decode cX0_become 26 = .ok (.return_, 1) := by decide +kernel
theorem dX0_append_0 : decode cX0_append 0 = .ok (.aload_n 0, 1) := by decide +kernel
theorem dX0_append_1 : decode cX0_append 1 = .ok (.getfield 15, 3) := by decide +kernel
theorem dX0_append_4 : decode cX0_append 4 = .ok (.ifCond .lt 15, 3) := by decide +kernel
theorem dX0_append_7 : decode cX0_append 7 = .ok (.aload_n 0, 1) := by decide +kernel
theorem dX0_append_8 : decode cX0_append 8 = .ok (.getfield 15, 3) := by decide +kernel
theorem dX0_append_11 : decode cX0_append 11 = .ok (.aload_n 0, 1) := by decide +kernel
theorem dX0_append_12 : decode cX0_append 12 = .ok (.getfield 9, 3) := by decide +kernel
theorem dX0_append_15 : decode cX0_append 15 = .ok (.arraylength, 1) := by decide +kernel
theorem dX0_append_16 : decode cX0_append 16 = .ok (.if_icmp .lt 5, 3) := by decide +kernel
theorem dX0_append_19 : decode cX0_append 19 = .ok (.iconst 0, 1) := by decide +kernel
theorem dX0_append_20 : decode cX0_append 20 = .ok (.ireturn, 1) := by decide +kernel
theorem dX0_append_21 : decode cX0_append 21 = .ok (.aload_n 0, 1) := by decide +kernel
theorem dX0_append_22 : decode cX0_append 22 = .ok (.getfield 9, 3) := by decide +kernel
theorem dX0_append_25 : decode cX0_append 25 = .ok (.aload_n 0, 1) := by decide +kernel
theorem dX0_append_26 : decode cX0_append 26 = .ok (.getfield 15, 3) := by decide +kernel
theorem dX0_append_29 : decode cX0_append 29 = .ok (.iload_n 1, 1) := by decide +kernel
theorem dX0_append_30 : decode cX0_append 30 = .ok (.i2b, 1) := by decide +kernel
theorem dX0_append_31 : decode cX0_append 31 = .ok (.bastore, 1) := by decide +kernel
theorem dX0_append_32 : decode cX0_append 32 = .ok (.aload_n 0, 1) := by decide +kernel
theorem dX0_append_33 : decode cX0_append 33 = .ok (.dup, 1) := by decide +kernel
theorem dX0_append_34 : decode cX0_append 34 = .ok (.getfield 15, 3) := by decide +kernel
theorem dX0_append_37 : decode cX0_append 37 = .ok (.iconst 1, 1) := by decide +kernel
theorem dX0_append_38 : decode cX0_append 38 = .ok (.iadd, 1) := by decide +kernel
theorem dX0_append_39 : decode cX0_append 39 = .ok (.putfield 15, 3) := by decide +kernel
theorem dX0_append_42 : decode cX0_append 42 = .ok (.iconst 1, 1) := by decide +kernel
theorem dX0_append_43 : decode cX0_append 43 = .ok (.ireturn, 1) := by decide +kernel
theorem dX0_beatAt_0 : decode cX0_beatAt 0 = .ok (.iload_n 1, 1) := by decide +kernel
theorem dX0_beatAt_1 : decode cX0_beatAt 1 = .ok (.ifCond .lt 29, 3) := by decide +kernel
theorem dX0_beatAt_4 : decode cX0_beatAt 4 = .ok (.iload_n 1, 1) := by decide +kernel
theorem dX0_beatAt_5 : decode cX0_beatAt 5 = .ok (.aload_n 0, 1) := by decide +kernel
theorem dX0_beatAt_6 : decode cX0_beatAt 6 = .ok (.getfield 15, 3) := by decide +kernel
theorem dX0_beatAt_9 : decode cX0_beatAt 9 = .ok (.if_icmp .ge 21, 3) := by decide +kernel
theorem dX0_beatAt_12 : decode cX0_beatAt 12 = .ok (.iload_n 1, 1) := by decide +kernel
theorem dX0_beatAt_13 : decode cX0_beatAt 13 = .ok (.aload_n 0, 1) := by decide +kernel
theorem dX0_beatAt_14 : decode cX0_beatAt 14 = .ok (.getfield 9, 3) := by decide +kernel
theorem dX0_beatAt_17 : decode cX0_beatAt 17 = .ok (.arraylength, 1) := by decide +kernel
theorem dX0_beatAt_18 : decode cX0_beatAt 18 = .ok (.if_icmp .ge 12, 3) := by decide +kernel
theorem dX0_beatAt_21 : decode cX0_beatAt 21 = .ok (.aload_n 0, 1) := by decide +kernel
theorem dX0_beatAt_22 : decode cX0_beatAt 22 = .ok (.getfield 9, 3) := by decide +kernel
theorem dX0_beatAt_25 : decode cX0_beatAt 25 = .ok (.iload_n 1, 1) := by decide +kernel
theorem dX0_beatAt_26 : decode cX0_beatAt 26 = .ok (.baload, 1) := by decide +kernel
theorem dX0_beatAt_27 : decode cX0_beatAt 27 = .ok (.goto 5, 3) := by decide +kernel
theorem dX0_beatAt_30 : decode cX0_beatAt 30 = .ok (.bipush 48, 2) := by decide +kernel
theorem dX0_beatAt_32 : decode cX0_beatAt 32 = .ok (.ireturn, 1) := by decide +kernel
theorem dX0_sortOf_0 : decode cX0_sortOf 0 = .ok (.aload_n 0, 1) := by decide +kernel
theorem dX0_sortOf_1 : decode cX0_sortOf 1 = .ok (.iload_n 1, 1) := by decide +kernel
theorem dX0_sortOf_2 : decode cX0_sortOf 2 = .ok (.invokevirtual 25, 3) := by decide +kernel
theorem dX0_sortOf_5 : decode cX0_sortOf 5 = .ok (.iconst 3, 1) := by decide +kernel
theorem dX0_sortOf_6 : decode cX0_sortOf 6 = .ok (.ishr, 1) := by decide +kernel
theorem dX0_sortOf_7 : decode cX0_sortOf 7 = .ok (.ireturn, 1) := by decide +kernel
theorem dX0_numberOf_0 : decode cX0_numberOf 0 = .ok (.aload_n 0, 1) := by decide +kernel
theorem dX0_numberOf_1 : decode cX0_numberOf 1 = .ok (.iload_n 1, 1) := by decide +kernel
theorem dX0_numberOf_2 : decode cX0_numberOf 2 = .ok (.invokevirtual 25, 3) := by decide +kernel
theorem dX0_numberOf_5 : decode cX0_numberOf 5 = .ok (.bipush 7, 2) := by decide +kernel
theorem dX0_numberOf_7 : decode cX0_numberOf 7 = .ok (.iand, 1) := by decide +kernel
theorem dX0_numberOf_8 : decode cX0_numberOf 8 = .ok (.ireturn, 1) := by decide +kernel
theorem dX1_init_0 : decode cX1_init 0 = .ok (.aload_n 0, 1) := by decide +kernel
theorem dX1_init_1 : decode cX1_init 1 = .ok (.invokespecial 3, 3) := by decide +kernel
theorem dX1_init_4 : decode cX1_init 4 = .ok (.aload_n 0, 1) := by decide +kernel
theorem dX1_init_5 : decode cX1_init 5 = .ok (.new 9, 3) := by decide +kernel
theorem dX1_init_8 : decode cX1_init 8 = .ok (.dup, 1) := by decide +kernel
theorem dX1_init_9 : decode cX1_init 9 = .ok (.invokespecial 11, 3) := by decide +kernel
theorem dX1_init_12 : decode cX1_init 12 = .ok (.putfield 12, 3) := by decide +kernel
theorem dX1_init_15 : decode cX1_init 15 = .ok (.aload_n 0, 1) := by decide +kernel
theorem dX1_init_16 : decode cX1_init 16 = .ok (.bipush 13, 2) := by decide +kernel
theorem dX1_init_18 : decode cX1_init 18 = .ok (.anewarray 9, 3) := by decide +kernel
theorem dX1_init_21 : decode cX1_init 21 = .ok (.putfield 18, 3) := by decide +kernel
theorem dX1_init_24 : decode cX1_init 24 = .ok (.iconst 0, 1) := by decide +kernel
theorem dX1_init_25 : decode cX1_init 25 = .ok (.istore_n 1, 1) := by decide +kernel
theorem dX1_init_26 : decode cX1_init 26 = .ok (.iload_n 1, 1) := by decide +kernel
theorem dX1_init_27 : decode cX1_init 27 = .ok (.aload_n 0, 1) := by decide +kernel
theorem dX1_init_28 : decode cX1_init 28 = .ok (.getfield 18, 3) := by decide +kernel
theorem dX1_init_31 : decode cX1_init 31 = .ok (.arraylength, 1) := by decide +kernel
theorem dX1_init_32 : decode cX1_init 32 = .ok (.if_icmp .ge 22, 3) := by decide +kernel
theorem dX1_init_35 : decode cX1_init 35 = .ok (.aload_n 0, 1) := by decide +kernel
theorem dX1_init_36 : decode cX1_init 36 = .ok (.getfield 18, 3) := by decide +kernel
theorem dX1_init_39 : decode cX1_init 39 = .ok (.iload_n 1, 1) := by decide +kernel
theorem dX1_init_40 : decode cX1_init 40 = .ok (.new 9, 3) := by decide +kernel
theorem dX1_init_43 : decode cX1_init 43 = .ok (.dup, 1) := by decide +kernel
theorem dX1_init_44 : decode cX1_init 44 = .ok (.invokespecial 11, 3) := by decide +kernel
theorem dX1_init_47 : decode cX1_init 47 = .ok (.aastore, 1) := by decide +kernel
theorem dX1_init_48 : decode cX1_init 48 = .ok (.iinc 1 1, 3) := by decide +kernel
theorem dX1_init_51 : decode cX1_init 51 = .ok (.goto (-25), 3) := by decide +kernel
theorem dX1_init_54 : decode cX1_init 54 = .ok (.return_, 1) := by decide +kernel
theorem dX1_forget_0 : decode cX1_forget 0 = .ok (.aload_n 0, 1) := by decide +kernel
theorem dX1_forget_1 : decode cX1_forget 1 = .ok (.iconst 0, 1) := by decide +kernel
theorem dX1_forget_2 : decode cX1_forget 2 = .ok (.putfield 22, 3) := by decide +kernel
theorem dX1_forget_5 : decode cX1_forget 5 = .ok (.return_, 1) := by decide +kernel
theorem dX1_rowAt_0 : decode cX1_rowAt 0 = .ok (.iload_n 1, 1) := by decide +kernel
theorem dX1_rowAt_1 : decode cX1_rowAt 1 = .ok (.ifCond .lt 21, 3) := by decide +kernel
theorem dX1_rowAt_4 : decode cX1_rowAt 4 = .ok (.iload_n 1, 1) := by decide +kernel
theorem dX1_rowAt_5 : decode cX1_rowAt 5 = .ok (.aload_n 0, 1) := by decide +kernel
theorem dX1_rowAt_6 : decode cX1_rowAt 6 = .ok (.getfield 18, 3) := by decide +kernel
theorem dX1_rowAt_9 : decode cX1_rowAt 9 = .ok (.arraylength, 1) := by decide +kernel
theorem dX1_rowAt_10 : decode cX1_rowAt 10 = .ok (.if_icmp .ge 12, 3) := by decide +kernel
theorem dX1_rowAt_13 : decode cX1_rowAt 13 = .ok (.aload_n 0, 1) := by decide +kernel
theorem dX1_rowAt_14 : decode cX1_rowAt 14 = .ok (.getfield 18, 3) := by decide +kernel
theorem dX1_rowAt_17 : decode cX1_rowAt 17 = .ok (.iload_n 1, 1) := by decide +kernel
theorem dX1_rowAt_18 : decode cX1_rowAt 18 = .ok (.aaload, 1) := by decide +kernel
theorem dX1_rowAt_19 : decode cX1_rowAt 19 = .ok (.goto 7, 3) := by decide +kernel
theorem dX1_rowAt_22 : decode cX1_rowAt 22 = .ok (.aload_n 0, 1) := by decide +kernel
theorem dX1_rowAt_23 : decode cX1_rowAt 23 = .ok (.getfield 12, 3) := by decide +kernel
theorem dX1_rowAt_26 : decode cX1_rowAt 26 = .ok (.areturn, 1) := by decide +kernel
theorem dX1_attempt_0 : decode cX1_attempt 0 = .ok (.aload_n 0, 1) := by decide +kernel
theorem dX1_attempt_1 : decode cX1_attempt 1 = .ok (.aload_n 0, 1) := by decide +kernel
theorem dX1_attempt_2 : decode cX1_attempt 2 = .ok (.getfield 26, 3) := by decide +kernel
theorem dX1_attempt_5 : decode cX1_attempt 5 = .ok (.invokevirtual 29, 3) := by decide +kernel
theorem dX1_attempt_8 : decode cX1_attempt 8 = .ok (.aload_n 0, 1) := by decide +kernel
theorem dX1_attempt_9 : decode cX1_attempt 9 = .ok (.getfield 12, 3) := by decide +kernel
theorem dX1_attempt_12 : decode cX1_attempt 12 = .ok (.invokevirtual 33, 3) := by decide +kernel
theorem dX1_attempt_15 : decode cX1_attempt 15 = .ok (.aload_n 0, 1) := by decide +kernel
theorem dX1_attempt_16 : decode cX1_attempt 16 = .ok (.getfield 12, 3) := by decide +kernel
theorem dX1_attempt_19 : decode cX1_attempt 19 = .ok (.iload_n 1, 1) := by decide +kernel
theorem dX1_attempt_20 : decode cX1_attempt 20 = .ok (.iload_n 2, 1) := by decide +kernel
theorem dX1_attempt_21 : decode cX1_attempt 21 = .ok (.invokevirtual 37, 3) := by decide +kernel
theorem dX1_attempt_24 : decode cX1_attempt 24 = .ok (.istore_n 3, 1) := by decide +kernel
theorem dX1_attempt_25 : decode cX1_attempt 25 = .ok (.iload_n 3, 1) := by decide +kernel
theorem dX1_attempt_26 : decode cX1_attempt 26 = .ok (.iconst 1, 1) := by decide +kernel
theorem dX1_attempt_27 : decode cX1_attempt 27 = .ok (.if_icmp .ne 46, 3) := by decide +kernel
theorem dX1_attempt_30 : decode cX1_attempt 30 = .ok (.aload_n 0, 1) := by decide +kernel
theorem dX1_attempt_31 : decode cX1_attempt 31 = .ok (.aload_n 0, 1) := by decide +kernel
theorem dX1_attempt_32 : decode cX1_attempt 32 = .ok (.getfield 26, 3) := by decide +kernel
theorem dX1_attempt_35 : decode cX1_attempt 35 = .ok (.iconst 1, 1) := by decide +kernel
theorem dX1_attempt_36 : decode cX1_attempt 36 = .ok (.iadd, 1) := by decide +kernel
theorem dX1_attempt_37 : decode cX1_attempt 37 = .ok (.aload_n 0, 1) := by decide +kernel
theorem dX1_attempt_38 : decode cX1_attempt 38 = .ok (.getfield 18, 3) := by decide +kernel
theorem dX1_attempt_41 : decode cX1_attempt 41 = .ok (.arraylength, 1) := by decide +kernel
theorem dX1_attempt_42 : decode cX1_attempt 42 = .ok (.if_icmp .ge 12, 3) := by decide +kernel
theorem dX1_attempt_45 : decode cX1_attempt 45 = .ok (.aload_n 0, 1) := by decide +kernel
theorem dX1_attempt_46 : decode cX1_attempt 46 = .ok (.getfield 26, 3) := by decide +kernel
theorem dX1_attempt_49 : decode cX1_attempt 49 = .ok (.iconst 1, 1) := by decide +kernel
theorem dX1_attempt_50 : decode cX1_attempt 50 = .ok (.iadd, 1) := by decide +kernel
theorem dX1_attempt_51 : decode cX1_attempt 51 = .ok (.goto 4, 3) := by decide +kernel
theorem dX1_attempt_54 : decode cX1_attempt 54 = .ok (.iconst 0, 1) := by decide +kernel
theorem dX1_attempt_55 : decode cX1_attempt 55 = .ok (.putfield 26, 3) := by decide +kernel
theorem dX1_attempt_58 : decode cX1_attempt 58 = .ok (.aload_n 0, 1) := by decide +kernel
theorem dX1_attempt_59 : decode cX1_attempt 59 = .ok (.aload_n 0, 1) := by decide +kernel
theorem dX1_attempt_60 : decode cX1_attempt 60 = .ok (.getfield 22, 3) := by decide +kernel
theorem dX1_attempt_63 : decode cX1_attempt 63 = .ok (.iconst 1, 1) := by decide +kernel
theorem dX1_attempt_64 : decode cX1_attempt 64 = .ok (.iadd, 1) := by decide +kernel
theorem dX1_attempt_65 : decode cX1_attempt 65 = .ok (.bipush 12, 2) := by decide +kernel
theorem dX1_attempt_67 : decode cX1_attempt 67 = .ok (.invokestatic 41, 3) := by decide +kernel
theorem dX1_attempt_70 : decode cX1_attempt 70 = .ok (.putfield 22, 3) := by decide +kernel
theorem dX1_attempt_73 : decode cX1_attempt 73 = .ok (.iload_n 3, 1) := by decide +kernel
theorem dX1_attempt_74 : decode cX1_attempt 74 = .ok (.ireturn, 1) := by decide +kernel
theorem dX1_run_0 : decode cX1_run 0 = .ok (.aload_n 0, 1) := by decide +kernel
theorem dX1_run_1 : decode cX1_run 1 = .ok (.iconst 0, 1) := by decide +kernel
theorem dX1_run_2 : decode cX1_run 2 = .ok (.putfield 46, 3) := by decide +kernel
theorem dX1_run_5 : decode cX1_run 5 = .ok (.iconst 0, 1) := by decide +kernel
theorem dX1_run_6 : decode cX1_run 6 = .ok (.istore_n 3, 1) := by decide +kernel
theorem dX1_run_7 : decode cX1_run 7 = .ok (.iload_n 3, 1) := by decide +kernel
theorem dX1_run_8 : decode cX1_run 8 = .ok (.aload_n 1, 1) := by decide +kernel
theorem dX1_run_9 : decode cX1_run 9 = .ok (.getfield 49, 3) := by decide +kernel
theorem dX1_run_12 : decode cX1_run 12 = .ok (.if_icmp .ge 134, 3) := by decide +kernel
theorem dX1_run_15 : decode cX1_run 15 = .ok (.iload_n 2, 1) := by decide +kernel
theorem dX1_run_16 : decode cX1_run 16 = .ok (.ifCond .eq 14, 3) := by decide +kernel
theorem dX1_run_19 : decode cX1_run 19 = .ok (.aload_n 1, 1) := by decide +kernel
theorem dX1_run_20 : decode cX1_run 20 = .ok (.getfield 49, 3) := by decide +kernel
theorem dX1_run_23 : decode cX1_run 23 = .ok (.iconst 1, 1) := by decide +kernel
theorem dX1_run_24 : decode cX1_run 24 = .ok (.isub, 1) := by decide +kernel
theorem dX1_run_25 : decode cX1_run 25 = .ok (.iload_n 3, 1) := by decide +kernel
theorem dX1_run_26 : decode cX1_run 26 = .ok (.isub, 1) := by decide +kernel
theorem dX1_run_27 : decode cX1_run 27 = .ok (.goto 4, 3) := by decide +kernel
theorem dX1_run_30 : decode cX1_run 30 = .ok (.iload_n 3, 1) := by decide +kernel
theorem dX1_run_31 : decode cX1_run 31 = .ok (.istore 4, 2) := by decide +kernel
theorem dX1_run_33 : decode cX1_run 33 = .ok (.aload_n 1, 1) := by decide +kernel
theorem dX1_run_34 : decode cX1_run 34 = .ok (.iload 4, 2) := by decide +kernel
theorem dX1_run_36 : decode cX1_run 36 = .ok (.invokevirtual 54, 3) := by decide +kernel
theorem dX1_run_39 : decode cX1_run 39 = .ok (.istore 5, 2) := by decide +kernel
theorem dX1_run_41 : decode cX1_run 41 = .ok (.aload_n 1, 1) := by decide +kernel
theorem dX1_run_42 : decode cX1_run 42 = .ok (.iload 4, 2) := by decide +kernel
theorem dX1_run_44 : decode cX1_run 44 = .ok (.invokevirtual 58, 3) := by decide +kernel
theorem dX1_run_47 : decode cX1_run 47 = .ok (.istore 6, 2) := by decide +kernel
theorem dX1_run_49 : decode cX1_run 49 = .ok (.iconst 1, 1) := by decide +kernel
theorem dX1_run_50 : decode cX1_run 50 = .ok (.istore 7, 2) := by decide +kernel
theorem dX1_run_52 : decode cX1_run 52 = .ok (.iload_n 2, 1) := by decide +kernel
theorem dX1_run_53 : decode cX1_run 53 = .ok (.ifCond .eq 22, 3) := by decide +kernel
theorem dX1_run_56 : decode cX1_run 56 = .ok (.iload 5, 2) := by decide +kernel
theorem dX1_run_58 : decode cX1_run 58 = .ok (.iconst 4, 1) := by decide +kernel
theorem dX1_run_59 : decode cX1_run 59 = .ok (.if_icmp .eq 9, 3) := by decide +kernel
theorem dX1_run_62 : decode cX1_run 62 = .ok (.iload 5, 2) := by decide +kernel
theorem dX1_run_64 : decode cX1_run 64 = .ok (.iconst 5, 1) := by decide +kernel
theorem dX1_run_65 : decode cX1_run 65 = .ok (.if_icmp .ne 10, 3) := by decide +kernel
theorem dX1_run_68 : decode cX1_run 68 = .ok (.bipush (-2), 2) := by decide +kernel
theorem dX1_run_70 : decode cX1_run 70 = .ok (.istore 7, 2) := by decide +kernel
theorem dX1_run_72 : decode cX1_run 72 = .ok (.goto 54, 3) := by decide +kernel
theorem dX1_run_75 : decode cX1_run 75 = .ok (.iload_n 2, 1) := by decide +kernel
theorem dX1_run_76 : decode cX1_run 76 = .ok (.ifCond .eq 33, 3) := by decide +kernel
theorem dX1_run_79 : decode cX1_run 79 = .ok (.iload 5, 2) := by decide +kernel
theorem dX1_run_81 : decode cX1_run 81 = .ok (.bipush 6, 2) := by decide +kernel
theorem dX1_run_83 : decode cX1_run 83 = .ok (.if_icmp .eq 26, 3) := by decide +kernel
theorem dX1_run_86 : decode cX1_run 86 = .ok (.aload_n 0, 1) := by decide +kernel
theorem dX1_run_87 : decode cX1_run 87 = .ok (.aload_n 0, 1) := by decide +kernel
theorem dX1_run_88 : decode cX1_run 88 = .ok (.iload 5, 2) := by decide +kernel
theorem dX1_run_90 : decode cX1_run 90 = .ok (.invokevirtual 61, 3) := by decide +kernel
theorem dX1_run_93 : decode cX1_run 93 = .ok (.aload_n 0, 1) := by decide +kernel
theorem dX1_run_94 : decode cX1_run 94 = .ok (.iload 5, 2) := by decide +kernel
theorem dX1_run_96 : decode cX1_run 96 = .ok (.iload 6, 2) := by decide +kernel
theorem dX1_run_98 : decode cX1_run 98 = .ok (.invokevirtual 64, 3) := by decide +kernel
theorem dX1_run_101 : decode cX1_run 101 = .ok (.invokevirtual 67, 3) := by decide +kernel
theorem dX1_run_104 : decode cX1_run 104 = .ok (.istore 7, 2) := by decide +kernel
theorem dX1_run_106 : decode cX1_run 106 = .ok (.goto 20, 3) := by decide +kernel
theorem dX1_run_109 : decode cX1_run 109 = .ok (.iload 5, 2) := by decide +kernel
theorem dX1_run_111 : decode cX1_run 111 = .ok (.bipush 6, 2) := by decide +kernel
theorem dX1_run_113 : decode cX1_run 113 = .ok (.if_icmp .eq 13, 3) := by decide +kernel
theorem dX1_run_116 : decode cX1_run 116 = .ok (.aload_n 0, 1) := by decide +kernel
theorem dX1_run_117 : decode cX1_run 117 = .ok (.iload 5, 2) := by decide +kernel
theorem dX1_run_119 : decode cX1_run 119 = .ok (.iload 6, 2) := by decide +kernel
theorem dX1_run_121 : decode cX1_run 121 = .ok (.invokevirtual 67, 3) := by decide +kernel
theorem dX1_run_124 : decode cX1_run 124 = .ok (.istore 7, 2) := by decide +kernel
theorem dX1_run_126 : decode cX1_run 126 = .ok (.iload 7, 2) := by decide +kernel
theorem dX1_run_128 : decode cX1_run 128 = .ok (.iconst 1, 1) := by decide +kernel
theorem dX1_run_129 : decode cX1_run 129 = .ok (.if_icmp .eq 11, 3) := by decide +kernel
theorem dX1_run_132 : decode cX1_run 132 = .ok (.aload_n 0, 1) := by decide +kernel
theorem dX1_run_133 : decode cX1_run 133 = .ok (.iload 7, 2) := by decide +kernel
theorem dX1_run_135 : decode cX1_run 135 = .ok (.putfield 46, 3) := by decide +kernel
theorem dX1_run_138 : decode cX1_run 138 = .ok (.iload_n 3, 1) := by decide +kernel
theorem dX1_run_139 : decode cX1_run 139 = .ok (.ireturn, 1) := by decide +kernel
theorem dX1_run_140 : decode cX1_run 140 = .ok (.iinc 3 1, 3) := by decide +kernel
theorem dX1_run_143 : decode cX1_run 143 = .ok (.goto (-136), 3) := by decide +kernel
theorem dX1_run_146 : decode cX1_run 146 = .ok (.aload_n 1, 1) := by decide +kernel
theorem dX1_run_147 : decode cX1_run 147 = .ok (.getfield 49, 3) := by decide +kernel
theorem dX1_run_150 : decode cX1_run 150 = .ok (.ireturn, 1) := by decide +kernel
theorem dX1_sortBack_0 : decode cX1_sortBack 0 = .ok (.iload_n 1, 1) := by decide +kernel
theorem dX1_sortBack_1 : decode cX1_sortBack 1 = .ok (.ifCond .ne 7, 3) := by decide +kernel
theorem dX1_sortBack_4 : decode cX1_sortBack 4 = .ok (.iconst 1, 1) := by decide +kernel
theorem dX1_sortBack_5 : decode cX1_sortBack 5 = .ok (.goto 13, 3) := by decide +kernel
theorem dX1_sortBack_8 : decode cX1_sortBack 8 = .ok (.iload_n 1, 1) := by decide +kernel
theorem dX1_sortBack_9 : decode cX1_sortBack 9 = .ok (.iconst 1, 1) := by decide +kernel
theorem dX1_sortBack_10 : decode cX1_sortBack 10 = .ok (.if_icmp .ne 7, 3) := by decide +kernel
theorem dX1_sortBack_13 : decode cX1_sortBack 13 = .ok (.iconst 0, 1) := by decide +kernel
theorem dX1_sortBack_14 : decode cX1_sortBack 14 = .ok (.goto 4, 3) := by decide +kernel
theorem dX1_sortBack_17 : decode cX1_sortBack 17 = .ok (.iload_n 1, 1) := by decide +kernel
theorem dX1_sortBack_18 : decode cX1_sortBack 18 = .ok (.ireturn, 1) := by decide +kernel
theorem dX1_numberBack_0 : decode cX1_numberBack 0 = .ok (.iload_n 1, 1) := by decide +kernel
theorem dX1_numberBack_1 : decode cX1_numberBack 1 = .ok (.iconst 3, 1) := by decide +kernel
theorem dX1_numberBack_2 : decode cX1_numberBack 2 = .ok (.if_icmp .ne 29, 3) := by decide +kernel
theorem dX1_numberBack_5 : decode cX1_numberBack 5 = .ok (.aload_n 0, 1) := by decide +kernel
theorem dX1_numberBack_6 : decode cX1_numberBack 6 = .ok (.getfield 12, 3) := by decide +kernel
theorem dX1_numberBack_9 : decode cX1_numberBack 9 = .ok (.aload_n 0, 1) := by decide +kernel
theorem dX1_numberBack_10 : decode cX1_numberBack 10 = .ok (.getfield 12, 3) := by decide +kernel
theorem dX1_numberBack_13 : decode cX1_numberBack 13 = .ok (.getfield 70, 3) := by decide +kernel
theorem dX1_numberBack_16 : decode cX1_numberBack 16 = .ok (.aload_n 0, 1) := by decide +kernel
theorem dX1_numberBack_17 : decode cX1_numberBack 17 = .ok (.getfield 12, 3) := by decide +kernel
theorem dX1_numberBack_20 : decode cX1_numberBack 20 = .ok (.iload_n 2, 1) := by decide +kernel
theorem dX1_numberBack_21 : decode cX1_numberBack 21 = .ok (.invokevirtual 73, 3) := by decide +kernel
theorem dX1_numberBack_24 : decode cX1_numberBack 24 = .ok (.isub, 1) := by decide +kernel
theorem dX1_numberBack_25 : decode cX1_numberBack 25 = .ok (.invokevirtual 73, 3) := by decide +kernel
theorem dX1_numberBack_28 : decode cX1_numberBack 28 = .ok (.goto 4, 3) := by decide +kernel
theorem dX1_numberBack_31 : decode cX1_numberBack 31 = .ok (.iload_n 2, 1) := by decide +kernel
theorem dX1_numberBack_32 : decode cX1_numberBack 32 = .ok (.ireturn, 1) := by decide +kernel
theorem dX2_init_0 : decode cX2_init 0 = .ok (.aload_n 0, 1) := by decide +kernel
theorem dX2_init_1 : decode cX2_init 1 = .ok (.invokespecial 3, 3) := by decide +kernel
theorem dX2_init_4 : decode cX2_init 4 = .ok (.aload_n 0, 1) := by decide +kernel
theorem dX2_init_5 : decode cX2_init 5 = .ok (.sipush 1500, 3) := by decide +kernel
theorem dX2_init_8 : decode cX2_init 8 = .ok (.newarray .long, 2) := by decide +kernel
theorem dX2_init_10 : decode cX2_init 10 = .ok (.putfield 9, 3) := by decide +kernel
theorem dX2_init_13 : decode cX2_init 13 = .ok (.aload_n 0, 1) := by decide +kernel
theorem dX2_init_14 : decode cX2_init 14 = .ok (.sipush 1500, 3) := by decide +kernel
theorem dX2_init_17 : decode cX2_init 17 = .ok (.newarray .long, 2) := by decide +kernel
theorem dX2_init_19 : decode cX2_init 19 = .ok (.putfield 15, 3) := by decide +kernel
theorem dX2_init_22 : decode cX2_init 22 = .ok (.aload_n 0, 1) := by decide +kernel
theorem dX2_init_23 : decode cX2_init 23 = .ok (.sipush 1500, 3) := by decide +kernel
theorem dX2_init_26 : decode cX2_init 26 = .ok (.newarray .long, 2) := by decide +kernel
theorem dX2_init_28 : decode cX2_init 28 = .ok (.putfield 18, 3) := by decide +kernel
theorem dX2_init_31 : decode cX2_init 31 = .ok (.aload_n 0, 1) := by decide +kernel
theorem dX2_init_32 : decode cX2_init 32 = .ok (.sipush 1500, 3) := by decide +kernel
theorem dX2_init_35 : decode cX2_init 35 = .ok (.newarray .int, 2) := by decide +kernel
theorem dX2_init_37 : decode cX2_init 37 = .ok (.putfield 21, 3) := by decide +kernel
theorem dX2_init_40 : decode cX2_init 40 = .ok (.aload_n 0, 1) := by decide +kernel
theorem dX2_init_41 : decode cX2_init 41 = .ok (.sipush 1500, 3) := by decide +kernel
theorem dX2_init_44 : decode cX2_init 44 = .ok (.newarray .int, 2) := by decide +kernel
theorem dX2_init_46 : decode cX2_init 46 = .ok (.putfield 25, 3) := by decide +kernel
theorem dX2_init_49 : decode cX2_init 49 = .ok (.aload_n 0, 1) := by decide +kernel
theorem dX2_init_50 : decode cX2_init 50 = .ok (.sipush 4096, 3) := by decide +kernel
theorem dX2_init_53 : decode cX2_init 53 = .ok (.newarray .int, 2) := by decide +kernel
theorem dX2_init_55 : decode cX2_init 55 = .ok (.putfield 28, 3) := by decide +kernel
theorem dX2_init_58 : decode cX2_init 58 = .ok (.aload_n 0, 1) := by decide +kernel
theorem dX2_init_59 : decode cX2_init 59 = .ok (.new 31, 3) := by decide +kernel
theorem dX2_init_62 : decode cX2_init 62 = .ok (.dup, 1) := by decide +kernel
theorem dX2_init_63 : decode cX2_init 63 = .ok (.invokespecial 33, 3) := by decide +kernel
theorem dX2_init_66 : decode cX2_init 66 = .ok (.putfield 34, 3) := by decide +kernel
theorem dX2_init_69 : decode cX2_init 69 = .ok (.aload_n 0, 1) := by decide +kernel
theorem dX2_init_70 : decode cX2_init 70 = .ok (.new 31, 3) := by decide +kernel
theorem dX2_init_73 : decode cX2_init 73 = .ok (.dup, 1) := by decide +kernel
theorem dX2_init_74 : decode cX2_init 74 = .ok (.invokespecial 33, 3) := by decide +kernel
theorem dX2_init_77 : decode cX2_init 77 = .ok (.putfield 38, 3) := by decide +kernel
theorem dX2_init_80 : decode cX2_init 80 = .ok (.aload_n 0, 1) := by decide +kernel
theorem dX2_init_81 : decode cX2_init 81 = .ok (.new 31, 3) := by decide +kernel
theorem dX2_init_84 : decode cX2_init 84 = .ok (.dup, 1) := by decide +kernel
theorem dX2_init_85 : decode cX2_init 85 = .ok (.invokespecial 33, 3) := by decide +kernel
theorem dX2_init_88 : decode cX2_init 88 = .ok (.putfield 41, 3) := by decide +kernel
theorem dX2_init_91 : decode cX2_init 91 = .ok (.return_, 1) := by decide +kernel
theorem dX3_init_0 : decode cX3_init 0 = .ok (.aload_n 0, 1) := by decide +kernel
theorem dX3_init_1 : decode cX3_init 1 = .ok (.invokespecial 3, 3) := by decide +kernel
theorem dX3_init_4 : decode cX3_init 4 = .ok (.aload_n 0, 1) := by decide +kernel
theorem dX3_init_5 : decode cX3_init 5 = .ok (.bipush 17, 2) := by decide +kernel
theorem dX3_init_7 : decode cX3_init 7 = .ok (.bipush 17, 2) := by decide +kernel
theorem dX3_init_9 : decode cX3_init 9 = .ok (.multianewarray 9 2, 4) := by decide +kernel
theorem dX3_init_13 : decode cX3_init 13 = .ok (.putfield 11, 3) := by decide +kernel
theorem dX3_init_16 : decode cX3_init 16 = .ok (.aload_n 0, 1) := by decide +kernel
theorem dX3_init_17 : decode cX3_init 17 = .ok (.new 16, 3) := by decide +kernel
theorem dX3_init_20 : decode cX3_init 20 = .ok (.dup, 1) := by decide +kernel
theorem dX3_init_21 : decode cX3_init 21 = .ok (.invokespecial 18, 3) := by decide +kernel
theorem dX3_init_24 : decode cX3_init 24 = .ok (.putfield 19, 3) := by decide +kernel
theorem dX3_init_27 : decode cX3_init 27 = .ok (.return_, 1) := by decide +kernel
theorem dX3_find_0 : decode cX3_find 0 = .ok (.aload_n 0, 1) := by decide +kernel
theorem dX3_find_1 : decode cX3_find 1 = .ok (.aload_n 1, 1) := by decide +kernel
theorem dX3_find_2 : decode cX3_find 2 = .ok (.aload_n 2, 1) := by decide +kernel
theorem dX3_find_3 : decode cX3_find 3 = .ok (.invokevirtual 23, 3) := by decide +kernel
theorem dX3_find_6 : decode cX3_find 6 = .ok (.aload_n 0, 1) := by decide +kernel
theorem dX3_find_7 : decode cX3_find 7 = .ok (.getfield 19, 3) := by decide +kernel
theorem dX3_find_10 : decode cX3_find 10 = .ok (.iconst 0, 1) := by decide +kernel
theorem dX3_find_11 : decode cX3_find 11 = .ok (.putfield 27, 3) := by decide +kernel
theorem dX3_find_14 : decode cX3_find 14 = .ok (.iconst 0, 1) := by decide +kernel
theorem dX3_find_15 : decode cX3_find 15 = .ok (.istore_n 3, 1) := by decide +kernel
theorem dX3_find_16 : decode cX3_find 16 = .ok (.iconst 0, 1) := by decide +kernel
theorem dX3_find_17 : decode cX3_find 17 = .ok (.istore 4, 2) := by decide +kernel
theorem dX3_find_19 : decode cX3_find 19 = .ok (.aload_n 0, 1) := by decide +kernel
theorem dX3_find_20 : decode cX3_find 20 = .ok (.getfield 11, 3) := by decide +kernel
theorem dX3_find_23 : decode cX3_find 23 = .ok (.iconst 0, 1) := by decide +kernel
theorem dX3_find_24 : decode cX3_find 24 = .ok (.aaload, 1) := by decide +kernel
theorem dX3_find_25 : decode cX3_find 25 = .ok (.iconst 0, 1) := by decide +kernel
theorem dX3_find_26 : decode cX3_find 26 = .ok (.iaload, 1) := by decide +kernel
theorem dX3_find_27 : decode cX3_find 27 = .ok (.istore 5, 2) := by decide +kernel
theorem dX3_find_29 : decode cX3_find 29 = .ok (.iload 5, 2) := by decide +kernel
theorem dX3_find_31 : decode cX3_find 31 = .ok (.ifCond .le 54, 3) := by decide +kernel
theorem dX3_find_34 : decode cX3_find 34 = .ok (.aload_n 0, 1) := by decide +kernel
theorem dX3_find_35 : decode cX3_find 35 = .ok (.aload_n 1, 1) := by decide +kernel
theorem dX3_find_36 : decode cX3_find 36 = .ok (.iload_n 3, 1) := by decide +kernel
theorem dX3_find_37 : decode cX3_find 37 = .ok (.aload_n 2, 1) := by decide +kernel
theorem dX3_find_38 : decode cX3_find 38 = .ok (.iload 4, 2) := by decide +kernel
theorem dX3_find_40 : decode cX3_find 40 = .ok (.iload 5, 2) := by decide +kernel
theorem dX3_find_42 : decode cX3_find 42 = .ok (.invokevirtual 31, 3) := by decide +kernel
theorem dX3_find_45 : decode cX3_find 45 = .ok (.istore 6, 2) := by decide +kernel
theorem dX3_find_47 : decode cX3_find 47 = .ok (.aload_n 1, 1) := by decide +kernel
theorem dX3_find_48 : decode cX3_find 48 = .ok (.iload_n 3, 1) := by decide +kernel
theorem dX3_find_49 : decode cX3_find 49 = .ok (.iload 6, 2) := by decide +kernel
theorem dX3_find_51 : decode cX3_find 51 = .ok (.invokevirtual 35, 3) := by decide +kernel
theorem dX3_find_54 : decode cX3_find 54 = .ok (.iconst 1, 1) := by decide +kernel
theorem dX3_find_55 : decode cX3_find 55 = .ok (.iadd, 1) := by decide +kernel
theorem dX3_find_56 : decode cX3_find 56 = .ok (.istore_n 3, 1) := by decide +kernel
theorem dX3_find_57 : decode cX3_find 57 = .ok (.aload_n 2, 1) := by decide +kernel
theorem dX3_find_58 : decode cX3_find 58 = .ok (.iload 4, 2) := by decide +kernel
theorem dX3_find_60 : decode cX3_find 60 = .ok (.iload 6, 2) := by decide +kernel
theorem dX3_find_62 : decode cX3_find 62 = .ok (.invokevirtual 35, 3) := by decide +kernel
theorem dX3_find_65 : decode cX3_find 65 = .ok (.iconst 1, 1) := by decide +kernel
theorem dX3_find_66 : decode cX3_find 66 = .ok (.iadd, 1) := by decide +kernel
theorem dX3_find_67 : decode cX3_find 67 = .ok (.istore 4, 2) := by decide +kernel
theorem dX3_find_69 : decode cX3_find 69 = .ok (.aload_n 0, 1) := by decide +kernel
theorem dX3_find_70 : decode cX3_find 70 = .ok (.getfield 19, 3) := by decide +kernel
theorem dX3_find_73 : decode cX3_find 73 = .ok (.iload 6, 2) := by decide +kernel
theorem dX3_find_75 : decode cX3_find 75 = .ok (.invokevirtual 39, 3) := by decide +kernel
theorem dX3_find_78 : decode cX3_find 78 = .ok (.pop, 1) := by decide +kernel
theorem dX3_find_79 : decode cX3_find 79 = .ok (.iinc 5 (-1), 3) := by decide +kernel
theorem dX3_find_82 : decode cX3_find 82 = .ok (.goto (-53), 3) := by decide +kernel
theorem dX3_find_85 : decode cX3_find 85 = .ok (.return_, 1) := by decide +kernel
theorem dX3_measure_0 : decode cX3_measure 0 = .ok (.bipush 16, 2) := by decide +kernel
theorem dX3_measure_2 : decode cX3_measure 2 = .ok (.istore_n 3, 1) := by decide +kernel
theorem dX3_measure_3 : decode cX3_measure 3 = .ok (.iload_n 3, 1) := by decide +kernel
theorem dX3_measure_4 : decode cX3_measure 4 = .ok (.ifCond .lt 63, 3) := by decide +kernel
theorem dX3_measure_7 : decode cX3_measure 7 = .ok (.bipush 16, 2) := by decide +kernel
theorem dX3_measure_9 : decode cX3_measure 9 = .ok (.istore 4, 2) := by decide +kernel
theorem dX3_measure_11 : decode cX3_measure 11 = .ok (.iload 4, 2) := by decide +kernel
theorem dX3_measure_13 : decode cX3_measure 13 = .ok (.ifCond .lt 48, 3) := by decide +kernel
theorem dX3_measure_16 : decode cX3_measure 16 = .ok (.aload_n 0, 1) := by decide +kernel
theorem dX3_measure_17 : decode cX3_measure 17 = .ok (.getfield 11, 3) := by decide +kernel
theorem dX3_measure_20 : decode cX3_measure 20 = .ok (.iload_n 3, 1) := by decide +kernel
theorem dX3_measure_21 : decode cX3_measure 21 = .ok (.aaload, 1) := by decide +kernel
theorem dX3_measure_22 : decode cX3_measure 22 = .ok (.iload 4, 2) := by decide +kernel
theorem dX3_measure_24 : decode cX3_measure 24 = .ok (.iload_n 3, 1) := by decide +kernel
theorem dX3_measure_25 : decode cX3_measure 25 = .ok (.aload_n 1, 1) := by decide +kernel
theorem dX3_measure_26 : decode cX3_measure 26 = .ok (.getfield 27, 3) := by decide +kernel
theorem dX3_measure_29 : decode cX3_measure 29 = .ok (.if_icmp .ge 24, 3) := by decide +kernel
theorem dX3_measure_32 : decode cX3_measure 32 = .ok (.iload 4, 2) := by decide +kernel
theorem dX3_measure_34 : decode cX3_measure 34 = .ok (.aload_n 2, 1) := by decide +kernel
theorem dX3_measure_35 : decode cX3_measure 35 = .ok (.getfield 27, 3) := by decide +kernel
theorem dX3_measure_38 : decode cX3_measure 38 = .ok (.if_icmp .ge 15, 3) := by decide +kernel
theorem dX3_measure_41 : decode cX3_measure 41 = .ok (.aload_n 0, 1) := by decide +kernel
theorem dX3_measure_42 : decode cX3_measure 42 = .ok (.aload_n 1, 1) := by decide +kernel
theorem dX3_measure_43 : decode cX3_measure 43 = .ok (.iload_n 3, 1) := by decide +kernel
theorem dX3_measure_44 : decode cX3_measure 44 = .ok (.aload_n 2, 1) := by decide +kernel
theorem dX3_measure_45 : decode cX3_measure 45 = .ok (.iload 4, 2) := by decide +kernel
theorem dX3_measure_47 : decode cX3_measure 47 = .ok (.invokevirtual 43, 3) := by decide +kernel
theorem dX3_measure_50 : decode cX3_measure 50 = .ok (.goto 4, 3) := by decide +kernel
theorem dX3_measure_53 : decode cX3_measure 53 = .ok (.iconst 0, 1) := by decide +kernel
theorem dX3_measure_54 : decode cX3_measure 54 = .ok (.iastore, 1) := by decide +kernel
theorem dX3_measure_55 : decode cX3_measure 55 = .ok (.iinc 4 (-1), 3) := by decide +kernel
theorem dX3_measure_58 : decode cX3_measure 58 = .ok (.goto (-47), 3) := by decide +kernel
theorem dX3_measure_61 : decode cX3_measure 61 = .ok (.iinc 3 (-1), 3) := by decide +kernel
theorem dX3_measure_64 : decode cX3_measure 64 = .ok (.goto (-61), 3) := by decide +kernel
theorem dX3_measure_67 : decode cX3_measure 67 = .ok (.return_, 1) := by decide +kernel
theorem dX3_lengthAt_0 : decode cX3_lengthAt 0 = .ok (.iload_n 2, 1) := by decide +kernel
theorem dX3_lengthAt_1 : decode cX3_lengthAt 1 = .ok (.ifCond .lt 21, 3) := by decide +kernel
theorem dX3_lengthAt_4 : decode cX3_lengthAt 4 = .ok (.iload_n 2, 1) := by decide +kernel
theorem dX3_lengthAt_5 : decode cX3_lengthAt 5 = .ok (.bipush 16, 2) := by decide +kernel
theorem dX3_lengthAt_7 : decode cX3_lengthAt 7 = .ok (.if_icmp .ge 15, 3) := by decide +kernel
theorem dX3_lengthAt_10 : decode cX3_lengthAt 10 = .ok (.iload 4, 2) := by decide +kernel
theorem dX3_lengthAt_12 : decode cX3_lengthAt 12 = .ok (.ifCond .lt 10, 3) := by decide +kernel
theorem dX3_lengthAt_15 : decode cX3_lengthAt 15 = .ok (.iload 4, 2) := by decide +kernel
theorem dX3_lengthAt_17 : decode cX3_lengthAt 17 = .ok (.bipush 16, 2) := by decide +kernel
theorem dX3_lengthAt_19 : decode cX3_lengthAt 19 = .ok (.if_icmp .lt 5, 3) := by decide +kernel
theorem dX3_lengthAt_22 : decode cX3_lengthAt 22 = .ok (.iconst 0, 1) := by decide +kernel
theorem dX3_lengthAt_23 : decode cX3_lengthAt 23 = .ok (.ireturn, 1) := by decide +kernel
theorem dX3_lengthAt_24 : decode cX3_lengthAt 24 = .ok (.aload_n 1, 1) := by decide +kernel
theorem dX3_lengthAt_25 : decode cX3_lengthAt 25 = .ok (.iload_n 2, 1) := by decide +kernel
theorem dX3_lengthAt_26 : decode cX3_lengthAt 26 = .ok (.invokevirtual 47, 3) := by decide +kernel
theorem dX3_lengthAt_29 : decode cX3_lengthAt 29 = .ok (.aload_n 3, 1) := by decide +kernel
theorem dX3_lengthAt_30 : decode cX3_lengthAt 30 = .ok (.iload 4, 2) := by decide +kernel
theorem dX3_lengthAt_32 : decode cX3_lengthAt 32 = .ok (.invokevirtual 47, 3) := by decide +kernel
theorem dX3_lengthAt_35 : decode cX3_lengthAt 35 = .ok (.if_icmp .ne 19, 3) := by decide +kernel
theorem dX3_lengthAt_38 : decode cX3_lengthAt 38 = .ok (.aload_n 0, 1) := by decide +kernel
theorem dX3_lengthAt_39 : decode cX3_lengthAt 39 = .ok (.getfield 11, 3) := by decide +kernel
theorem dX3_lengthAt_42 : decode cX3_lengthAt 42 = .ok (.iload_n 2, 1) := by decide +kernel
theorem dX3_lengthAt_43 : decode cX3_lengthAt 43 = .ok (.iconst 1, 1) := by decide +kernel
theorem dX3_lengthAt_44 : decode cX3_lengthAt 44 = .ok (.iadd, 1) := by decide +kernel
theorem dX3_lengthAt_45 : decode cX3_lengthAt 45 = .ok (.aaload, 1) := by decide +kernel
theorem dX3_lengthAt_46 : decode cX3_lengthAt 46 = .ok (.iload 4, 2) := by decide +kernel
theorem dX3_lengthAt_48 : decode cX3_lengthAt 48 = .ok (.iconst 1, 1) := by decide +kernel
theorem dX3_lengthAt_49 : decode cX3_lengthAt 49 = .ok (.iadd, 1) := by decide +kernel
theorem dX3_lengthAt_50 : decode cX3_lengthAt 50 = .ok (.iaload, 1) := by decide +kernel
theorem dX3_lengthAt_51 : decode cX3_lengthAt 51 = .ok (.iconst 1, 1) := by decide +kernel
theorem dX3_lengthAt_52 : decode cX3_lengthAt 52 = .ok (.iadd, 1) := by decide +kernel
theorem dX3_lengthAt_53 : decode cX3_lengthAt 53 = .ok (.ireturn, 1) := by decide +kernel
theorem dX3_lengthAt_54 : decode cX3_lengthAt 54 = .ok (.aload_n 0, 1) := by decide +kernel
theorem dX3_lengthAt_55 : decode cX3_lengthAt 55 = .ok (.getfield 11, 3) := by decide +kernel
theorem dX3_lengthAt_58 : decode cX3_lengthAt 58 = .ok (.iload_n 2, 1) := by decide +kernel
theorem dX3_lengthAt_59 : decode cX3_lengthAt 59 = .ok (.iconst 1, 1) := by decide +kernel
theorem dX3_lengthAt_60 : decode cX3_lengthAt 60 = .ok (.iadd, 1) := by decide +kernel
theorem dX3_lengthAt_61 : decode cX3_lengthAt 61 = .ok (.aaload, 1) := by decide +kernel
theorem dX3_lengthAt_62 : decode cX3_lengthAt 62 = .ok (.iload 4, 2) := by decide +kernel
theorem dX3_lengthAt_64 : decode cX3_lengthAt 64 = .ok (.iaload, 1) := by decide +kernel
theorem dX3_lengthAt_65 : decode cX3_lengthAt 65 = .ok (.aload_n 0, 1) := by decide +kernel
theorem dX3_lengthAt_66 : decode cX3_lengthAt 66 = .ok (.getfield 11, 3) := by decide +kernel
theorem dX3_lengthAt_69 : decode cX3_lengthAt 69 = .ok (.iload_n 2, 1) := by decide +kernel
theorem dX3_lengthAt_70 : decode cX3_lengthAt 70 = .ok (.aaload, 1) := by decide +kernel
theorem dX3_lengthAt_71 : decode cX3_lengthAt 71 = .ok (.iload 4, 2) := by decide +kernel
theorem dX3_lengthAt_73 : decode cX3_lengthAt 73 = .ok (.iconst 1, 1) := by decide +kernel
theorem dX3_lengthAt_74 : decode cX3_lengthAt 74 = .ok (.iadd, 1) := by decide +kernel
theorem dX3_lengthAt_75 : decode cX3_lengthAt 75 = .ok (.iaload, 1) := by decide +kernel
theorem dX3_lengthAt_76 : decode cX3_lengthAt 76 = .ok (.invokestatic 51, 3) := by decide +kernel
theorem dX3_lengthAt_79 : decode cX3_lengthAt 79 = .ok (.ireturn, 1) := by decide +kernel
theorem dX3_leastNext_0 : decode cX3_leastNext 0 = .ok (.iconst 0, 1) := by decide +kernel
theorem dX3_leastNext_1 : decode cX3_leastNext 1 = .ok (.istore 6, 2) := by decide +kernel
theorem dX3_leastNext_3 : decode cX3_leastNext 3 = .ok (.iload 6, 2) := by decide +kernel
theorem dX3_leastNext_5 : decode cX3_leastNext 5 = .ok (.bipush 8, 2) := by decide +kernel
theorem dX3_leastNext_7 : decode cX3_leastNext 7 = .ok (.if_icmp .ge 76, 3) := by decide +kernel
theorem dX3_leastNext_10 : decode cX3_leastNext 10 = .ok (.aload_n 1, 1) := by decide +kernel
theorem dX3_leastNext_11 : decode cX3_leastNext 11 = .ok (.iload_n 2, 1) := by decide +kernel
theorem dX3_leastNext_12 : decode cX3_leastNext 12 = .ok (.iload 6, 2) := by decide +kernel
theorem dX3_leastNext_14 : decode cX3_leastNext 14 = .ok (.invokevirtual 35, 3) := by decide +kernel
theorem dX3_leastNext_17 : decode cX3_leastNext 17 = .ok (.istore 7, 2) := by decide +kernel
theorem dX3_leastNext_19 : decode cX3_leastNext 19 = .ok (.aload_n 3, 1) := by decide +kernel
theorem dX3_leastNext_20 : decode cX3_leastNext 20 = .ok (.iload 4, 2) := by decide +kernel
theorem dX3_leastNext_22 : decode cX3_leastNext 22 = .ok (.iload 6, 2) := by decide +kernel
theorem dX3_leastNext_24 : decode cX3_leastNext 24 = .ok (.invokevirtual 35, 3) := by decide +kernel
theorem dX3_leastNext_27 : decode cX3_leastNext 27 = .ok (.istore 8, 2) := by decide +kernel
theorem dX3_leastNext_29 : decode cX3_leastNext 29 = .ok (.iload 7, 2) := by decide +kernel
theorem dX3_leastNext_31 : decode cX3_leastNext 31 = .ok (.ifCond .lt 46, 3) := by decide +kernel
theorem dX3_leastNext_34 : decode cX3_leastNext 34 = .ok (.iload 7, 2) := by decide +kernel
theorem dX3_leastNext_36 : decode cX3_leastNext 36 = .ok (.bipush 16, 2) := by decide +kernel
theorem dX3_leastNext_38 : decode cX3_leastNext 38 = .ok (.if_icmp .ge 39, 3) := by decide +kernel
theorem dX3_leastNext_41 : decode cX3_leastNext 41 = .ok (.iload 8, 2) := by decide +kernel
theorem dX3_leastNext_43 : decode cX3_leastNext 43 = .ok (.ifCond .lt 34, 3) := by decide +kernel
theorem dX3_leastNext_46 : decode cX3_leastNext 46 = .ok (.iload 8, 2) := by decide +kernel
theorem dX3_leastNext_48 : decode cX3_leastNext 48 = .ok (.bipush 16, 2) := by decide +kernel
theorem dX3_leastNext_50 : decode cX3_leastNext 50 = .ok (.if_icmp .ge 27, 3) := by decide +kernel
theorem dX3_leastNext_53 : decode cX3_leastNext 53 = .ok (.aload_n 0, 1) := by decide +kernel
theorem dX3_leastNext_54 : decode cX3_leastNext 54 = .ok (.getfield 11, 3) := by decide +kernel
theorem dX3_leastNext_57 : decode cX3_leastNext 57 = .ok (.iload 7, 2) := by decide +kernel
theorem dX3_leastNext_59 : decode cX3_leastNext 59 = .ok (.iconst 1, 1) := by decide +kernel
theorem dX3_leastNext_60 : decode cX3_leastNext 60 = .ok (.iadd, 1) := by decide +kernel
theorem dX3_leastNext_61 : decode cX3_leastNext 61 = .ok (.aaload, 1) := by decide +kernel
theorem dX3_leastNext_62 : decode cX3_leastNext 62 = .ok (.iload 8, 2) := by decide +kernel
theorem dX3_leastNext_64 : decode cX3_leastNext 64 = .ok (.iconst 1, 1) := by decide +kernel
theorem dX3_leastNext_65 : decode cX3_leastNext 65 = .ok (.iadd, 1) := by decide +kernel
theorem dX3_leastNext_66 : decode cX3_leastNext 66 = .ok (.iaload, 1) := by decide +kernel
theorem dX3_leastNext_67 : decode cX3_leastNext 67 = .ok (.iload 5, 2) := by decide +kernel
theorem dX3_leastNext_69 : decode cX3_leastNext 69 = .ok (.iconst 1, 1) := by decide +kernel
theorem dX3_leastNext_70 : decode cX3_leastNext 70 = .ok (.isub, 1) := by decide +kernel
theorem dX3_leastNext_71 : decode cX3_leastNext 71 = .ok (.if_icmp .ne 6, 3) := by decide +kernel
theorem dX3_leastNext_74 : decode cX3_leastNext 74 = .ok (.iload 6, 2) := by decide +kernel
theorem dX3_leastNext_76 : decode cX3_leastNext 76 = .ok (.ireturn, 1) := by decide +kernel
theorem dX3_leastNext_77 : decode cX3_leastNext 77 = .ok (.iinc 6 1, 3) := by decide +kernel
theorem dX3_leastNext_80 : decode cX3_leastNext 80 = .ok (.goto (-77), 3) := by decide +kernel
theorem dX3_leastNext_83 : decode cX3_leastNext 83 = .ok (.bipush (-4), 2) := by decide +kernel
theorem dX3_leastNext_85 : decode cX3_leastNext 85 = .ok (.ireturn, 1) := by decide +kernel
theorem dX4_init_0 : decode cX4_init 0 = .ok (.aload_n 0, 1) := by decide +kernel
theorem dX4_init_1 : decode cX4_init 1 = .ok (.invokespecial 3, 3) := by decide +kernel
theorem dX4_init_4 : decode cX4_init 4 = .ok (.aload_n 0, 1) := by decide +kernel
theorem dX4_init_5 : decode cX4_init 5 = .ok (.bipush 60, 2) := by decide +kernel
theorem dX4_init_7 : decode cX4_init 7 = .ok (.newarray .int, 2) := by decide +kernel
theorem dX4_init_9 : decode cX4_init 9 = .ok (.putfield 9, 3) := by decide +kernel
theorem dX4_init_12 : decode cX4_init 12 = .ok (.aload_n 0, 1) := by decide +kernel
theorem dX4_init_13 : decode cX4_init 13 = .ok (.iconst (-1), 1) := by decide +kernel
theorem dX4_init_14 : decode cX4_init 14 = .ok (.putfield 15, 3) := by decide +kernel
theorem dX4_init_17 : decode cX4_init 17 = .ok (.return_, 1) := by decide +kernel
theorem dX5_init_0 : decode cX5_init 0 = .ok (.aload_n 0, 1) := by decide +kernel
theorem dX5_init_1 : decode cX5_init 1 = .ok (.invokespecial 3, 3) := by decide +kernel
theorem dX5_init_4 : decode cX5_init 4 = .ok (.aload_n 0, 1) := by decide +kernel
theorem dX5_init_5 : decode cX5_init 5 = .ok (.sipush 160, 3) := by decide +kernel
theorem dX5_init_8 : decode cX5_init 8 = .ok (.newarray .byte, 2) := by decide +kernel
theorem dX5_init_10 : decode cX5_init 10 = .ok (.putfield 9, 3) := by decide +kernel
theorem dX5_init_13 : decode cX5_init 13 = .ok (.return_, 1) := by decide +kernel
theorem dX5_append_0 : decode cX5_append 0 = .ok (.aload_n 0, 1) := by decide +kernel
theorem dX5_append_1 : decode cX5_append 1 = .ok (.getfield 15, 3) := by decide +kernel
theorem dX5_append_4 : decode cX5_append 4 = .ok (.ifCond .lt 18, 3) := by decide +kernel
theorem dX5_append_7 : decode cX5_append 7 = .ok (.aload_n 0, 1) := by decide +kernel
theorem dX5_append_8 : decode cX5_append 8 = .ok (.getfield 15, 3) := by decide +kernel
theorem dX5_append_11 : decode cX5_append 11 = .ok (.bipush 8, 2) := by decide +kernel
theorem dX5_append_13 : decode cX5_append 13 = .ok (.iadd, 1) := by decide +kernel
theorem dX5_append_14 : decode cX5_append 14 = .ok (.aload_n 0, 1) := by decide +kernel
theorem dX5_append_15 : decode cX5_append 15 = .ok (.getfield 9, 3) := by decide +kernel
theorem dX5_append_18 : decode cX5_append 18 = .ok (.arraylength, 1) := by decide +kernel
theorem dX5_append_19 : decode cX5_append 19 = .ok (.if_icmp .le 5, 3) := by decide +kernel
theorem dX5_append_22 : decode cX5_append 22 = .ok (.iconst 0, 1) := by decide +kernel
theorem dX5_append_23 : decode cX5_append 23 = .ok (.ireturn, 1) := by decide +kernel
theorem dX5_append_24 : decode cX5_append 24 = .ok (.iconst 0, 1) := by decide +kernel
theorem dX5_append_25 : decode cX5_append 25 = .ok (.istore_n 3, 1) := by decide +kernel
theorem dX5_append_26 : decode cX5_append 26 = .ok (.iload_n 3, 1) := by decide +kernel
theorem dX5_append_27 : decode cX5_append 27 = .ok (.bipush 8, 2) := by decide +kernel
theorem dX5_append_29 : decode cX5_append 29 = .ok (.if_icmp .ge 31, 3) := by decide +kernel
theorem dX5_append_32 : decode cX5_append 32 = .ok (.aload_n 0, 1) := by decide +kernel
theorem dX5_append_33 : decode cX5_append 33 = .ok (.getfield 9, 3) := by decide +kernel
theorem dX5_append_36 : decode cX5_append 36 = .ok (.aload_n 0, 1) := by decide +kernel
theorem dX5_append_37 : decode cX5_append 37 = .ok (.getfield 15, 3) := by decide +kernel
theorem dX5_append_40 : decode cX5_append 40 = .ok (.iload_n 3, 1) := by decide +kernel
theorem dX5_append_41 : decode cX5_append 41 = .ok (.iadd, 1) := by decide +kernel
theorem dX5_append_42 : decode cX5_append 42 = .ok (.lload_n 1, 1) := by decide +kernel
theorem dX5_append_43 : decode cX5_append 43 = .ok (.bipush 56, 2) := by decide +kernel
theorem dX5_append_45 : decode cX5_append 45 = .ok (.bipush 8, 2) := by decide +kernel
theorem dX5_append_47 : decode cX5_append 47 = .ok (.iload_n 3, 1) := by decide +kernel
theorem dX5_append_48 : decode cX5_append 48 = .ok (.imul, 1) := by decide +kernel
theorem dX5_append_49 : decode cX5_append 49 = .ok (.isub, 1) := by decide +kernel
theorem dX5_append_50 : decode cX5_append 50 = .ok (.lushr, 1) := by decide +kernel
theorem dX5_append_51 : decode cX5_append 51 = .ok (.l2i, 1) := by decide +kernel
theorem dX5_append_52 : decode cX5_append 52 = .ok (.i2b, 1) := by decide +kernel
theorem dX5_append_53 : decode cX5_append 53 = .ok (.bastore, 1) := by decide +kernel
theorem dX5_append_54 : decode cX5_append 54 = .ok (.iinc 3 1, 3) := by decide +kernel
theorem dX5_append_57 : decode cX5_append 57 = .ok (.goto (-31), 3) := by decide +kernel
theorem dX5_append_60 : decode cX5_append 60 = .ok (.aload_n 0, 1) := by decide +kernel
theorem dX5_append_61 : decode cX5_append 61 = .ok (.dup, 1) := by decide +kernel
theorem dX5_append_62 : decode cX5_append 62 = .ok (.getfield 15, 3) := by decide +kernel
theorem dX5_append_65 : decode cX5_append 65 = .ok (.bipush 8, 2) := by decide +kernel
theorem dX5_append_67 : decode cX5_append 67 = .ok (.iadd, 1) := by decide +kernel
theorem dX5_append_68 : decode cX5_append 68 = .ok (.putfield 15, 3) := by decide +kernel
theorem dX5_append_71 : decode cX5_append 71 = .ok (.iconst 1, 1) := by decide +kernel
theorem dX5_append_72 : decode cX5_append 72 = .ok (.ireturn, 1) := by decide +kernel
theorem dX5_byteAt_0 : decode cX5_byteAt 0 = .ok (.iload_n 1, 1) := by decide +kernel
theorem dX5_byteAt_1 : decode cX5_byteAt 1 = .ok (.ifCond .lt 33, 3) := by decide +kernel
theorem dX5_byteAt_4 : decode cX5_byteAt 4 = .ok (.iload_n 1, 1) := by decide +kernel
theorem dX5_byteAt_5 : decode cX5_byteAt 5 = .ok (.aload_n 0, 1) := by decide +kernel
theorem dX5_byteAt_6 : decode cX5_byteAt 6 = .ok (.getfield 15, 3) := by decide +kernel
theorem dX5_byteAt_9 : decode cX5_byteAt 9 = .ok (.if_icmp .ge 25, 3) := by decide +kernel
theorem dX5_byteAt_12 : decode cX5_byteAt 12 = .ok (.iload_n 1, 1) := by decide +kernel
theorem dX5_byteAt_13 : decode cX5_byteAt 13 = .ok (.aload_n 0, 1) := by decide +kernel
theorem dX5_byteAt_14 : decode cX5_byteAt 14 = .ok (.getfield 9, 3) := by decide +kernel
theorem dX5_byteAt_17 : decode cX5_byteAt 17 = .ok (.arraylength, 1) := by decide +kernel
theorem dX5_byteAt_18 : decode cX5_byteAt 18 = .ok (.if_icmp .ge 16, 3) := by decide +kernel
theorem dX5_byteAt_21 : decode cX5_byteAt 21 = .ok (.aload_n 0, 1) := by decide +kernel
theorem dX5_byteAt_22 : decode cX5_byteAt 22 = .ok (.getfield 9, 3) := by decide +kernel
theorem dX5_byteAt_25 : decode cX5_byteAt 25 = .ok (.iload_n 1, 1) := by decide +kernel
theorem dX5_byteAt_26 : decode cX5_byteAt 26 = .ok (.baload, 1) := by decide +kernel
theorem dX5_byteAt_27 : decode cX5_byteAt 27 = .ok (.sipush 255, 3) := by decide +kernel
theorem dX5_byteAt_30 : decode cX5_byteAt 30 = .ok (.iand, 1) := by decide +kernel
theorem dX5_byteAt_31 : decode cX5_byteAt 31 = .ok (.goto 4, 3) := by decide +kernel
theorem dX5_byteAt_34 : decode cX5_byteAt 34 = .ok (.iconst (-1), 1) := by decide +kernel
theorem dX5_byteAt_35 : decode cX5_byteAt 35 = .ok (.ireturn, 1) := by decide +kernel
theorem dX5_rewind_0 : decode cX5_rewind 0 = .ok (.aload_n 0, 1) := by decide +kernel
theorem dX5_rewind_1 : decode cX5_rewind 1 = .ok (.iconst 0, 1) := by decide +kernel
theorem dX5_rewind_2 : decode cX5_rewind 2 = .ok (.putfield 19, 3) := by decide +kernel
theorem dX5_rewind_5 : decode cX5_rewind 5 = .ok (.return_, 1) := by decide +kernel
theorem dX5_readToken_0 : decode cX5_readToken 0 = .ok (.iconst 0, 1) := by decide +kernel
theorem dX5_readToken_1 : decode cX5_readToken 1 = .ok (.istore_n 1, 1) := by decide +kernel
theorem dX5_readToken_2 : decode cX5_readToken 2 = .ok (.iload_n 1, 1) := by decide +kernel
theorem dX5_readToken_3 : decode cX5_readToken 3 = .ok (.sipush 160, 3) := by decide +kernel
theorem dX5_readToken_6 : decode cX5_readToken 6 = .ok (.if_icmp .ge 32, 3) := by decide +kernel
theorem dX5_readToken_9 : decode cX5_readToken 9 = .ok (.aload_n 0, 1) := by decide +kernel
theorem dX5_readToken_10 : decode cX5_readToken 10 = .ok (.aload_n 0, 1) := by decide +kernel
theorem dX5_readToken_11 : decode cX5_readToken 11 = .ok (.getfield 19, 3) := by decide +kernel
theorem dX5_readToken_14 : decode cX5_readToken 14 = .ok (.invokevirtual 22, 3) := by decide +kernel
theorem dX5_readToken_17 : decode cX5_readToken 17 = .ok (.bipush 32, 2) := by decide +kernel
theorem dX5_readToken_19 : decode cX5_readToken 19 = .ok (.if_icmp .ne 19, 3) := by decide +kernel
theorem dX5_readToken_22 : decode cX5_readToken 22 = .ok (.aload_n 0, 1) := by decide +kernel
theorem dX5_readToken_23 : decode cX5_readToken 23 = .ok (.dup, 1) := by decide +kernel
theorem dX5_readToken_24 : decode cX5_readToken 24 = .ok (.getfield 19, 3) := by decide +kernel
theorem dX5_readToken_27 : decode cX5_readToken 27 = .ok (.iconst 1, 1) := by decide +kernel
theorem dX5_readToken_28 : decode cX5_readToken 28 = .ok (.iadd, 1) := by decide +kernel
theorem dX5_readToken_29 : decode cX5_readToken 29 = .ok (.putfield 19, 3) := by decide +kernel
theorem dX5_readToken_32 : decode cX5_readToken 32 = .ok (.iinc 1 1, 3) := by decide +kernel
theorem dX5_readToken_35 : decode cX5_readToken 35 = .ok (.goto (-33), 3) := by decide +kernel
theorem dX5_readToken_38 : decode cX5_readToken 38 = .ok (.aload_n 0, 1) := by decide +kernel
theorem dX5_readToken_39 : decode cX5_readToken 39 = .ok (.aload_n 0, 1) := by decide +kernel
theorem dX5_readToken_40 : decode cX5_readToken 40 = .ok (.getfield 19, 3) := by decide +kernel
theorem dX5_readToken_43 : decode cX5_readToken 43 = .ok (.putfield 26, 3) := by decide +kernel
theorem dX5_readToken_46 : decode cX5_readToken 46 = .ok (.aload_n 0, 1) := by decide +kernel
theorem dX5_readToken_47 : decode cX5_readToken 47 = .ok (.aload_n 0, 1) := by decide +kernel
theorem dX5_readToken_48 : decode cX5_readToken 48 = .ok (.getfield 19, 3) := by decide +kernel
theorem dX5_readToken_51 : decode cX5_readToken 51 = .ok (.invokevirtual 22, 3) := by decide +kernel
theorem dX5_readToken_54 : decode cX5_readToken 54 = .ok (.istore_n 1, 1) := by decide +kernel
theorem dX5_readToken_55 : decode cX5_readToken 55 = .ok (.aload_n 0, 1) := by decide +kernel
theorem dX5_readToken_56 : decode cX5_readToken 56 = .ok (.iload_n 1, 1) := by decide +kernel
theorem dX5_readToken_57 : decode cX5_readToken 57 = .ok (.invokevirtual 29, 3) := by decide +kernel
theorem dX5_readToken_60 : decode cX5_readToken 60 = .ok (.ifCond .eq 10, 3) := by decide +kernel
theorem dX5_readToken_63 : decode cX5_readToken 63 = .ok (.aload_n 0, 1) := by decide +kernel
theorem dX5_readToken_64 : decode cX5_readToken 64 = .ok (.invokevirtual 33, 3) := by decide +kernel
theorem dX5_readToken_67 : decode cX5_readToken 67 = .ok (.goto 56, 3) := by decide +kernel
theorem dX5_readToken_70 : decode cX5_readToken 70 = .ok (.iload_n 1, 1) := by decide +kernel
theorem dX5_readToken_71 : decode cX5_readToken 71 = .ok (.ifCond .ge 11, 3) := by decide +kernel
theorem dX5_readToken_74 : decode cX5_readToken 74 = .ok (.aload_n 0, 1) := by decide +kernel
theorem dX5_readToken_75 : decode cX5_readToken 75 = .ok (.iconst 5, 1) := by decide +kernel
theorem dX5_readToken_76 : decode cX5_readToken 76 = .ok (.putfield 36, 3) := by decide +kernel
theorem dX5_readToken_79 : decode cX5_readToken 79 = .ok (.goto 44, 3) := by decide +kernel
theorem dX5_readToken_82 : decode cX5_readToken 82 = .ok (.aload_n 0, 1) := by decide +kernel
theorem dX5_readToken_83 : decode cX5_readToken 83 = .ok (.dup, 1) := by decide +kernel
theorem dX5_readToken_84 : decode cX5_readToken 84 = .ok (.getfield 19, 3) := by decide +kernel
theorem dX5_readToken_87 : decode cX5_readToken 87 = .ok (.iconst 1, 1) := by decide +kernel
theorem dX5_readToken_88 : decode cX5_readToken 88 = .ok (.iadd, 1) := by decide +kernel
theorem dX5_readToken_89 : decode cX5_readToken 89 = .ok (.putfield 19, 3) := by decide +kernel
theorem dX5_readToken_92 : decode cX5_readToken 92 = .ok (.aload_n 0, 1) := by decide +kernel
theorem dX5_readToken_93 : decode cX5_readToken 93 = .ok (.ldc 39, 2) := by decide +kernel
theorem dX5_readToken_95 : decode cX5_readToken 95 = .ok (.iload_n 1, 1) := by decide +kernel
theorem dX5_readToken_96 : decode cX5_readToken 96 = .ok (.i2c, 1) := by decide +kernel
theorem dX5_readToken_97 : decode cX5_readToken 97 = .ok (.invokevirtual 41, 3) := by decide +kernel
theorem dX5_readToken_100 : decode cX5_readToken 100 = .ok (.putfield 46, 3) := by decide +kernel
theorem dX5_readToken_103 : decode cX5_readToken 103 = .ok (.aload_n 0, 1) := by decide +kernel
theorem dX5_readToken_104 : decode cX5_readToken 104 = .ok (.aload_n 0, 1) := by decide +kernel
theorem dX5_readToken_105 : decode cX5_readToken 105 = .ok (.getfield 46, 3) := by decide +kernel
theorem dX5_readToken_108 : decode cX5_readToken 108 = .ok (.ifCond .lt 7, 3) := by decide +kernel
theorem dX5_readToken_111 : decode cX5_readToken 111 = .ok (.iconst 0, 1) := by decide +kernel
theorem dX5_readToken_112 : decode cX5_readToken 112 = .ok (.goto 8, 3) := by decide +kernel
theorem dX5_readToken_115 : decode cX5_readToken 115 = .ok (.aload_n 0, 1) := by decide +kernel
theorem dX5_readToken_116 : decode cX5_readToken 116 = .ok (.iload_n 1, 1) := by decide +kernel
theorem dX5_readToken_117 : decode cX5_readToken 117 = .ok (.invokevirtual 49, 3) := by decide +kernel
theorem dX5_readToken_120 : decode cX5_readToken 120 = .ok (.putfield 36, 3) := by decide +kernel
theorem dX5_readToken_123 : decode cX5_readToken 123 = .ok (.return_, 1) := by decide +kernel
theorem dX5_readNumber_0 : decode cX5_readNumber 0 = .ok (.iconst 0, 1) := by decide +kernel
theorem dX5_readNumber_1 : decode cX5_readNumber 1 = .ok (.istore_n 1, 1) := by decide +kernel
theorem dX5_readNumber_2 : decode cX5_readNumber 2 = .ok (.aload_n 0, 1) := by decide +kernel
theorem dX5_readNumber_3 : decode cX5_readNumber 3 = .ok (.iconst 0, 1) := by decide +kernel
theorem dX5_readNumber_4 : decode cX5_readNumber 4 = .ok (.putfield 46, 3) := by decide +kernel
theorem dX5_readNumber_7 : decode cX5_readNumber 7 = .ok (.iconst 0, 1) := by decide +kernel
theorem dX5_readNumber_8 : decode cX5_readNumber 8 = .ok (.istore_n 2, 1) := by decide +kernel
theorem dX5_readNumber_9 : decode cX5_readNumber 9 = .ok (.iload_n 2, 1) := by decide +kernel
theorem dX5_readNumber_10 : decode cX5_readNumber 10 = .ok (.sipush 160, 3) := by decide +kernel
theorem dX5_readNumber_13 : decode cX5_readNumber 13 = .ok (.if_icmp .ge 72, 3) := by decide +kernel
theorem dX5_readNumber_16 : decode cX5_readNumber 16 = .ok (.aload_n 0, 1) := by decide +kernel
theorem dX5_readNumber_17 : decode cX5_readNumber 17 = .ok (.aload_n 0, 1) := by decide +kernel
theorem dX5_readNumber_18 : decode cX5_readNumber 18 = .ok (.aload_n 0, 1) := by decide +kernel
theorem dX5_readNumber_19 : decode cX5_readNumber 19 = .ok (.getfield 19, 3) := by decide +kernel
theorem dX5_readNumber_22 : decode cX5_readNumber 22 = .ok (.invokevirtual 22, 3) := by decide +kernel
theorem dX5_readNumber_25 : decode cX5_readNumber 25 = .ok (.invokevirtual 29, 3) := by decide +kernel
theorem dX5_readNumber_28 : decode cX5_readNumber 28 = .ok (.ifCond .eq 57, 3) := by decide +kernel
theorem dX5_readNumber_31 : decode cX5_readNumber 31 = .ok (.aload_n 0, 1) := by decide +kernel
theorem dX5_readNumber_32 : decode cX5_readNumber 32 = .ok (.iload_n 1, 1) := by decide +kernel
theorem dX5_readNumber_33 : decode cX5_readNumber 33 = .ok (.iconst 2, 1) := by decide +kernel
theorem dX5_readNumber_34 : decode cX5_readNumber 34 = .ok (.if_icmp .ge 25, 3) := by decide +kernel
theorem dX5_readNumber_37 : decode cX5_readNumber 37 = .ok (.bipush 10, 2) := by decide +kernel
theorem dX5_readNumber_39 : decode cX5_readNumber 39 = .ok (.aload_n 0, 1) := by decide +kernel
theorem dX5_readNumber_40 : decode cX5_readNumber 40 = .ok (.getfield 46, 3) := by decide +kernel
theorem dX5_readNumber_43 : decode cX5_readNumber 43 = .ok (.imul, 1) := by decide +kernel
theorem dX5_readNumber_44 : decode cX5_readNumber 44 = .ok (.aload_n 0, 1) := by decide +kernel
theorem dX5_readNumber_45 : decode cX5_readNumber 45 = .ok (.aload_n 0, 1) := by decide +kernel
theorem dX5_readNumber_46 : decode cX5_readNumber 46 = .ok (.getfield 19, 3) := by decide +kernel
theorem dX5_readNumber_49 : decode cX5_readNumber 49 = .ok (.invokevirtual 22, 3) := by decide +kernel
theorem dX5_readNumber_52 : decode cX5_readNumber 52 = .ok (.iadd, 1) := by decide +kernel
theorem dX5_readNumber_53 : decode cX5_readNumber 53 = .ok (.bipush 48, 2) := by decide +kernel
theorem dX5_readNumber_55 : decode cX5_readNumber 55 = .ok (.isub, 1) := by decide +kernel
theorem dX5_readNumber_56 : decode cX5_readNumber 56 = .ok (.goto 7, 3) := by decide +kernel
theorem dX5_readNumber_59 : decode cX5_readNumber 59 = .ok (.aload_n 0, 1) := by decide +kernel
theorem dX5_readNumber_60 : decode cX5_readNumber 60 = .ok (.getfield 46, 3) := by decide +kernel
theorem dX5_readNumber_63 : decode cX5_readNumber 63 = .ok (.putfield 46, 3) := by decide +kernel
theorem dX5_readNumber_66 : decode cX5_readNumber 66 = .ok (.iinc 1 1, 3) := by decide +kernel
theorem dX5_readNumber_69 : decode cX5_readNumber 69 = .ok (.aload_n 0, 1) := by decide +kernel
theorem dX5_readNumber_70 : decode cX5_readNumber 70 = .ok (.dup, 1) := by decide +kernel
theorem dX5_readNumber_71 : decode cX5_readNumber 71 = .ok (.getfield 19, 3) := by decide +kernel
theorem dX5_readNumber_74 : decode cX5_readNumber 74 = .ok (.iconst 1, 1) := by decide +kernel
theorem dX5_readNumber_75 : decode cX5_readNumber 75 = .ok (.iadd, 1) := by decide +kernel
theorem dX5_readNumber_76 : decode cX5_readNumber 76 = .ok (.putfield 19, 3) := by decide +kernel
theorem dX5_readNumber_79 : decode cX5_readNumber 79 = .ok (.iinc 2 1, 3) := by decide +kernel
theorem dX5_readNumber_82 : decode cX5_readNumber 82 = .ok (.goto (-73), 3) := by decide +kernel
theorem dX5_readNumber_85 : decode cX5_readNumber 85 = .ok (.aload_n 0, 1) := by decide +kernel
theorem dX5_readNumber_86 : decode cX5_readNumber 86 = .ok (.iload_n 1, 1) := by decide +kernel
theorem dX5_readNumber_87 : decode cX5_readNumber 87 = .ok (.iconst 2, 1) := by decide +kernel
theorem dX5_readNumber_88 : decode cX5_readNumber 88 = .ok (.if_icmp .gt 7, 3) := by decide +kernel
theorem dX5_readNumber_91 : decode cX5_readNumber 91 = .ok (.iconst 1, 1) := by decide +kernel
theorem dX5_readNumber_92 : decode cX5_readNumber 92 = .ok (.goto 5, 3) := by decide +kernel
theorem dX5_readNumber_95 : decode cX5_readNumber 95 = .ok (.bipush 6, 2) := by decide +kernel
theorem dX5_readNumber_97 : decode cX5_readNumber 97 = .ok (.putfield 36, 3) := by decide +kernel
theorem dX5_readNumber_100 : decode cX5_readNumber 100 = .ok (.return_, 1) := by decide +kernel
theorem dX5_isDigit_0 : decode cX5_isDigit 0 = .ok (.iload_n 1, 1) := by decide +kernel
theorem dX5_isDigit_1 : decode cX5_isDigit 1 = .ok (.bipush 48, 2) := by decide +kernel
theorem dX5_isDigit_3 : decode cX5_isDigit 3 = .ok (.if_icmp .lt 13, 3) := by decide +kernel
theorem dX5_isDigit_6 : decode cX5_isDigit 6 = .ok (.iload_n 1, 1) := by decide +kernel
theorem dX5_isDigit_7 : decode cX5_isDigit 7 = .ok (.bipush 57, 2) := by decide +kernel
theorem dX5_isDigit_9 : decode cX5_isDigit 9 = .ok (.if_icmp .gt 7, 3) := by decide +kernel
theorem dX5_isDigit_12 : decode cX5_isDigit 12 = .ok (.iconst 1, 1) := by decide +kernel
theorem dX5_isDigit_13 : decode cX5_isDigit 13 = .ok (.goto 4, 3) := by decide +kernel
theorem dX5_isDigit_16 : decode cX5_isDigit 16 = .ok (.iconst 0, 1) := by decide +kernel
theorem dX5_isDigit_17 : decode cX5_isDigit 17 = .ok (.ireturn, 1) := by decide +kernel
theorem dX5_kindOf_0 : decode cX5_kindOf 0 = .ok (.iload_n 1, 1) := by decide +kernel
theorem dX5_kindOf_1 : decode cX5_kindOf 1 = .ok (.lookupswitch 41 #[(40, 35), (41, 37), (46, 39)], 35) := by decide +kernel
theorem dX5_kindOf_36 : decode cX5_kindOf 36 = .ok (.iconst 2, 1) := by decide +kernel
theorem dX5_kindOf_37 : decode cX5_kindOf 37 = .ok (.ireturn, 1) := by decide +kernel
theorem dX5_kindOf_38 : decode cX5_kindOf 38 = .ok (.iconst 3, 1) := by decide +kernel
theorem dX5_kindOf_39 : decode cX5_kindOf 39 = .ok (.ireturn, 1) := by decide +kernel
theorem dX5_kindOf_40 : decode cX5_kindOf 40 = .ok (.iconst 4, 1) := by decide +kernel
theorem dX5_kindOf_41 : decode cX5_kindOf 41 = .ok (.ireturn, 1) := by decide +kernel
theorem dX5_kindOf_42 : decode cX5_kindOf 42 = .ok (.bipush 6, 2) := by decide +kernel
theorem dX5_kindOf_44 : decode cX5_kindOf 44 = .ok (.ireturn, 1) := by decide +kernel
theorem dX6_init_0 : decode cX6_init 0 = .ok (.aload_n 0, 1) := by decide +kernel
theorem dX6_init_1 : decode cX6_init 1 = .ok (.invokespecial 3, 3) := by decide +kernel
theorem dX6_init_4 : decode cX6_init 4 = .ok (.aload_n 0, 1) := by decide +kernel
theorem dX6_init_5 : decode cX6_init 5 = .ok (.new 9, 3) := by decide +kernel
theorem dX6_init_8 : decode cX6_init 8 = .ok (.dup, 1) := by decide +kernel
theorem dX6_init_9 : decode cX6_init 9 = .ok (.invokespecial 11, 3) := by decide +kernel
theorem dX6_init_12 : decode cX6_init 12 = .ok (.putfield 12, 3) := by decide +kernel
theorem dX6_init_15 : decode cX6_init 15 = .ok (.aload_n 0, 1) := by decide +kernel
theorem dX6_init_16 : decode cX6_init 16 = .ok (.iconst 4, 1) := by decide +kernel
theorem dX6_init_17 : decode cX6_init 17 = .ok (.newarray .int, 2) := by decide +kernel
theorem dX6_init_19 : decode cX6_init 19 = .ok (.putfield 18, 3) := by decide +kernel
theorem dX6_init_22 : decode cX6_init 22 = .ok (.aload_n 0, 1) := by decide +kernel
theorem dX6_init_23 : decode cX6_init 23 = .ok (.iconst 4, 1) := by decide +kernel
theorem dX6_init_24 : decode cX6_init 24 = .ok (.newarray .int, 2) := by decide +kernel
theorem dX6_init_26 : decode cX6_init 26 = .ok (.putfield 22, 3) := by decide +kernel
theorem dX6_init_29 : decode cX6_init 29 = .ok (.return_, 1) := by decide +kernel
theorem dX6_tell_0 : decode cX6_tell 0 = .ok (.aload_n 0, 1) := by decide +kernel
theorem dX6_tell_1 : decode cX6_tell 1 = .ok (.invokevirtual 25, 3) := by decide +kernel
theorem dX6_tell_4 : decode cX6_tell 4 = .ok (.aload_n 1, 1) := by decide +kernel
theorem dX6_tell_5 : decode cX6_tell 5 = .ok (.invokevirtual 28, 3) := by decide +kernel
theorem dX6_tell_8 : decode cX6_tell 8 = .ok (.iconst 0, 1) := by decide +kernel
theorem dX6_tell_9 : decode cX6_tell 9 = .ok (.istore 4, 2) := by decide +kernel
theorem dX6_tell_11 : decode cX6_tell 11 = .ok (.iload 4, 2) := by decide +kernel
theorem dX6_tell_13 : decode cX6_tell 13 = .ok (.sipush 160, 3) := by decide +kernel
theorem dX6_tell_16 : decode cX6_tell 16 = .ok (.if_icmp .gt 50, 3) := by decide +kernel
theorem dX6_tell_19 : decode cX6_tell 19 = .ok (.aload_n 1, 1) := by decide +kernel
theorem dX6_tell_20 : decode cX6_tell 20 = .ok (.invokevirtual 33, 3) := by decide +kernel
theorem dX6_tell_23 : decode cX6_tell 23 = .ok (.aload_n 0, 1) := by decide +kernel
theorem dX6_tell_24 : decode cX6_tell 24 = .ok (.aload_n 0, 1) := by decide +kernel
theorem dX6_tell_25 : decode cX6_tell 25 = .ok (.aload_n 1, 1) := by decide +kernel
theorem dX6_tell_26 : decode cX6_tell 26 = .ok (.aload_n 2, 1) := by decide +kernel
theorem dX6_tell_27 : decode cX6_tell 27 = .ok (.iload_n 3, 1) := by decide +kernel
theorem dX6_tell_28 : decode cX6_tell 28 = .ok (.invokevirtual 36, 3) := by decide +kernel
theorem dX6_tell_31 : decode cX6_tell 31 = .ok (.putfield 40, 3) := by decide +kernel
theorem dX6_tell_34 : decode cX6_tell 34 = .ok (.aload_n 0, 1) := by decide +kernel
theorem dX6_tell_35 : decode cX6_tell 35 = .ok (.aload_n 1, 1) := by decide +kernel
theorem dX6_tell_36 : decode cX6_tell 36 = .ok (.getfield 44, 3) := by decide +kernel
theorem dX6_tell_39 : decode cX6_tell 39 = .ok (.putfield 47, 3) := by decide +kernel
theorem dX6_tell_42 : decode cX6_tell 42 = .ok (.aload_n 0, 1) := by decide +kernel
theorem dX6_tell_43 : decode cX6_tell 43 = .ok (.getfield 40, 3) := by decide +kernel
theorem dX6_tell_46 : decode cX6_tell 46 = .ok (.ifCond .ne 20, 3) := by decide +kernel
theorem dX6_tell_49 : decode cX6_tell 49 = .ok (.aload_n 1, 1) := by decide +kernel
theorem dX6_tell_50 : decode cX6_tell 50 = .ok (.getfield 50, 3) := by decide +kernel
theorem dX6_tell_53 : decode cX6_tell 53 = .ok (.iconst 5, 1) := by decide +kernel
theorem dX6_tell_54 : decode cX6_tell 54 = .ok (.if_icmp .ne 6, 3) := by decide +kernel
theorem dX6_tell_57 : decode cX6_tell 57 = .ok (.goto 9, 3) := by decide +kernel
theorem dX6_tell_60 : decode cX6_tell 60 = .ok (.iinc 4 1, 3) := by decide +kernel
theorem dX6_tell_63 : decode cX6_tell 63 = .ok (.goto (-52), 3) := by decide +kernel
theorem dX6_tell_66 : decode cX6_tell 66 = .ok (.aload_n 0, 1) := by decide +kernel
theorem dX6_tell_67 : decode cX6_tell 67 = .ok (.getfield 40, 3) := by decide +kernel
theorem dX6_tell_70 : decode cX6_tell 70 = .ok (.ifCond .ne 20, 3) := by decide +kernel
theorem dX6_tell_73 : decode cX6_tell 73 = .ok (.aload_n 0, 1) := by decide +kernel
theorem dX6_tell_74 : decode cX6_tell 74 = .ok (.getfield 53, 3) := by decide +kernel
theorem dX6_tell_77 : decode cX6_tell 77 = .ok (.ifCond .eq 13, 3) := by decide +kernel
theorem dX6_tell_80 : decode cX6_tell 80 = .ok (.aload_n 0, 1) := by decide +kernel
theorem dX6_tell_81 : decode cX6_tell 81 = .ok (.iconst 5, 1) := by decide +kernel
theorem dX6_tell_82 : decode cX6_tell 82 = .ok (.putfield 40, 3) := by decide +kernel
theorem dX6_tell_85 : decode cX6_tell 85 = .ok (.aload_n 0, 1) := by decide +kernel
theorem dX6_tell_86 : decode cX6_tell 86 = .ok (.iconst 0, 1) := by decide +kernel
theorem dX6_tell_87 : decode cX6_tell 87 = .ok (.putfield 47, 3) := by decide +kernel
theorem dX6_tell_90 : decode cX6_tell 90 = .ok (.return_, 1) := by decide +kernel
theorem dX6_begin_0 : decode cX6_begin 0 = .ok (.aload_n 0, 1) := by decide +kernel
theorem dX6_begin_1 : decode cX6_begin 1 = .ok (.getfield 12, 3) := by decide +kernel
theorem dX6_begin_4 : decode cX6_begin 4 = .ok (.iconst 0, 1) := by decide +kernel
theorem dX6_begin_5 : decode cX6_begin 5 = .ok (.putfield 57, 3) := by decide +kernel
theorem dX6_begin_8 : decode cX6_begin 8 = .ok (.aload_n 0, 1) := by decide +kernel
theorem dX6_begin_9 : decode cX6_begin 9 = .ok (.iconst 0, 1) := by decide +kernel
theorem dX6_begin_10 : decode cX6_begin 10 = .ok (.putfield 60, 3) := by decide +kernel
theorem dX6_begin_13 : decode cX6_begin 13 = .ok (.aload_n 0, 1) := by decide +kernel
theorem dX6_begin_14 : decode cX6_begin 14 = .ok (.iconst 0, 1) := by decide +kernel
theorem dX6_begin_15 : decode cX6_begin 15 = .ok (.putfield 63, 3) := by decide +kernel
theorem dX6_begin_18 : decode cX6_begin 18 = .ok (.aload_n 0, 1) := by decide +kernel
theorem dX6_begin_19 : decode cX6_begin 19 = .ok (.iconst 1, 1) := by decide +kernel
theorem dX6_begin_20 : decode cX6_begin 20 = .ok (.putfield 66, 3) := by decide +kernel
theorem dX6_begin_23 : decode cX6_begin 23 = .ok (.aload_n 0, 1) := by decide +kernel
theorem dX6_begin_24 : decode cX6_begin 24 = .ok (.iconst 0, 1) := by decide +kernel
theorem dX6_begin_25 : decode cX6_begin 25 = .ok (.putfield 53, 3) := by decide +kernel
theorem dX6_begin_28 : decode cX6_begin 28 = .ok (.aload_n 0, 1) := by decide +kernel
theorem dX6_begin_29 : decode cX6_begin 29 = .ok (.iconst 0, 1) := by decide +kernel
theorem dX6_begin_30 : decode cX6_begin 30 = .ok (.putfield 40, 3) := by decide +kernel
theorem dX6_begin_33 : decode cX6_begin 33 = .ok (.aload_n 0, 1) := by decide +kernel
theorem dX6_begin_34 : decode cX6_begin 34 = .ok (.iconst 0, 1) := by decide +kernel
theorem dX6_begin_35 : decode cX6_begin 35 = .ok (.putfield 47, 3) := by decide +kernel
theorem dX6_begin_38 : decode cX6_begin 38 = .ok (.return_, 1) := by decide +kernel
theorem dX6_taken_0 : decode cX6_taken 0 = .ok (.aload_n 1, 1) := by decide +kernel
theorem dX6_taken_1 : decode cX6_taken 1 = .ok (.getfield 50, 3) := by decide +kernel
theorem dX6_taken_4 : decode cX6_taken 4 = .ok (.bipush 6, 2) := by decide +kernel
theorem dX6_taken_6 : decode cX6_taken 6 = .ok (.if_icmp .ne 5, 3) := by decide +kernel
theorem dX6_taken_9 : decode cX6_taken 9 = .ok (.iconst 1, 1) := by decide +kernel
theorem dX6_taken_10 : decode cX6_taken 10 = .ok (.ireturn, 1) := by decide +kernel
theorem dX6_taken_11 : decode cX6_taken 11 = .ok (.aload_n 0, 1) := by decide +kernel
theorem dX6_taken_12 : decode cX6_taken 12 = .ok (.getfield 63, 3) := by decide +kernel
theorem dX6_taken_15 : decode cX6_taken 15 = .ok (.lookupswitch 39 #[(1, 25), (2, 33)], 25) := by decide +kernel
theorem dX6_taken_40 : decode cX6_taken 40 = .ok (.aload_n 0, 1) := by decide +kernel
theorem dX6_taken_41 : decode cX6_taken 41 = .ok (.aload_n 1, 1) := by decide +kernel
theorem dX6_taken_42 : decode cX6_taken 42 = .ok (.aload_n 2, 1) := by decide +kernel
theorem dX6_taken_43 : decode cX6_taken 43 = .ok (.iload_n 3, 1) := by decide +kernel
theorem dX6_taken_44 : decode cX6_taken 44 = .ok (.invokevirtual 69, 3) := by decide +kernel
theorem dX6_taken_47 : decode cX6_taken 47 = .ok (.ireturn, 1) := by decide +kernel
theorem dX6_taken_48 : decode cX6_taken 48 = .ok (.aload_n 0, 1) := by decide +kernel
theorem dX6_taken_49 : decode cX6_taken 49 = .ok (.aload_n 1, 1) := by decide +kernel
theorem dX6_taken_50 : decode cX6_taken 50 = .ok (.invokevirtual 72, 3) := by decide +kernel
theorem dX6_taken_53 : decode cX6_taken 53 = .ok (.ireturn, 1) := by decide +kernel
theorem dX6_taken_54 : decode cX6_taken 54 = .ok (.aload_n 0, 1) := by decide +kernel
theorem dX6_taken_55 : decode cX6_taken 55 = .ok (.aload_n 1, 1) := by decide +kernel
theorem dX6_taken_56 : decode cX6_taken 56 = .ok (.invokevirtual 76, 3) := by decide +kernel
theorem dX6_taken_59 : decode cX6_taken 59 = .ok (.ireturn, 1) := by decide +kernel
theorem dX6_takenItem_0 : decode cX6_takenItem 0 = .ok (.aload_n 1, 1) := by decide +kernel
theorem dX6_takenItem_1 : decode cX6_takenItem 1 = .ok (.getfield 50, 3) := by decide +kernel
theorem dX6_takenItem_4 : decode cX6_takenItem 4 = .ok (.tableswitch 143 0 5 #[40, 55, 143, 100, 91, 123], 40) := by decide +kernel
theorem dX6_takenItem_44 : decode cX6_takenItem 44 = .ok (.aload_n 0, 1) := by decide +kernel
theorem dX6_takenItem_45 : decode cX6_takenItem 45 = .ok (.aload_n 1, 1) := by decide +kernel
theorem dX6_takenItem_46 : decode cX6_takenItem 46 = .ok (.getfield 79, 3) := by decide +kernel
theorem dX6_takenItem_49 : decode cX6_takenItem 49 = .ok (.putfield 82, 3) := by decide +kernel
theorem dX6_takenItem_52 : decode cX6_takenItem 52 = .ok (.aload_n 0, 1) := by decide +kernel
theorem dX6_takenItem_53 : decode cX6_takenItem 53 = .ok (.iconst 1, 1) := by decide +kernel
theorem dX6_takenItem_54 : decode cX6_takenItem 54 = .ok (.putfield 63, 3) := by decide +kernel
theorem dX6_takenItem_57 : decode cX6_takenItem 57 = .ok (.iconst 0, 1) := by decide +kernel
theorem dX6_takenItem_58 : decode cX6_takenItem 58 = .ok (.ireturn, 1) := by decide +kernel
theorem dX6_takenItem_59 : decode cX6_takenItem 59 = .ok (.aload_n 0, 1) := by decide +kernel
theorem dX6_takenItem_60 : decode cX6_takenItem 60 = .ok (.aload_n 1, 1) := by decide +kernel
theorem dX6_takenItem_61 : decode cX6_takenItem 61 = .ok (.getfield 79, 3) := by decide +kernel
theorem dX6_takenItem_64 : decode cX6_takenItem 64 = .ok (.putfield 85, 3) := by decide +kernel
theorem dX6_takenItem_67 : decode cX6_takenItem 67 = .ok (.aload_n 0, 1) := by decide +kernel
theorem dX6_takenItem_68 : decode cX6_takenItem 68 = .ok (.iconst 2, 1) := by decide +kernel
theorem dX6_takenItem_69 : decode cX6_takenItem 69 = .ok (.putfield 63, 3) := by decide +kernel
theorem dX6_takenItem_72 : decode cX6_takenItem 72 = .ok (.aload_n 0, 1) := by decide +kernel
theorem dX6_takenItem_73 : decode cX6_takenItem 73 = .ok (.getfield 85, 3) := by decide +kernel
theorem dX6_takenItem_76 : decode cX6_takenItem 76 = .ok (.iconst 1, 1) := by decide +kernel
theorem dX6_takenItem_77 : decode cX6_takenItem 77 = .ok (.if_icmp .lt 12, 3) := by decide +kernel
theorem dX6_takenItem_80 : decode cX6_takenItem 80 = .ok (.aload_n 0, 1) := by decide +kernel
theorem dX6_takenItem_81 : decode cX6_takenItem 81 = .ok (.getfield 85, 3) := by decide +kernel
theorem dX6_takenItem_84 : decode cX6_takenItem 84 = .ok (.bipush 20, 2) := by decide +kernel
theorem dX6_takenItem_86 : decode cX6_takenItem 86 = .ok (.if_icmp .le 7, 3) := by decide +kernel
theorem dX6_takenItem_89 : decode cX6_takenItem 89 = .ok (.iconst 3, 1) := by decide +kernel
theorem dX6_takenItem_90 : decode cX6_takenItem 90 = .ok (.goto 4, 3) := by decide +kernel
theorem dX6_takenItem_93 : decode cX6_takenItem 93 = .ok (.iconst 0, 1) := by decide +kernel
theorem dX6_takenItem_94 : decode cX6_takenItem 94 = .ok (.ireturn, 1) := by decide +kernel
theorem dX6_takenItem_95 : decode cX6_takenItem 95 = .ok (.aload_n 0, 1) := by decide +kernel
theorem dX6_takenItem_96 : decode cX6_takenItem 96 = .ok (.bipush 6, 2) := by decide +kernel
theorem dX6_takenItem_98 : decode cX6_takenItem 98 = .ok (.iconst 0, 1) := by decide +kernel
theorem dX6_takenItem_99 : decode cX6_takenItem 99 = .ok (.invokevirtual 88, 3) := by decide +kernel
theorem dX6_takenItem_102 : decode cX6_takenItem 102 = .ok (.iconst 0, 1) := by decide +kernel
theorem dX6_takenItem_103 : decode cX6_takenItem 103 = .ok (.ireturn, 1) := by decide +kernel
theorem dX6_takenItem_104 : decode cX6_takenItem 104 = .ok (.aload_n 0, 1) := by decide +kernel
theorem dX6_takenItem_105 : decode cX6_takenItem 105 = .ok (.getfield 66, 3) := by decide +kernel
theorem dX6_takenItem_108 : decode cX6_takenItem 108 = .ok (.ifCond .ne 10, 3) := by decide +kernel
theorem dX6_takenItem_111 : decode cX6_takenItem 111 = .ok (.aload_n 0, 1) := by decide +kernel
theorem dX6_takenItem_112 : decode cX6_takenItem 112 = .ok (.getfield 60, 3) := by decide +kernel
theorem dX6_takenItem_115 : decode cX6_takenItem 115 = .ok (.ifCond .gt 7, 3) := by decide +kernel
theorem dX6_takenItem_118 : decode cX6_takenItem 118 = .ok (.iconst 2, 1) := by decide +kernel
theorem dX6_takenItem_119 : decode cX6_takenItem 119 = .ok (.goto 7, 3) := by decide +kernel
theorem dX6_takenItem_122 : decode cX6_takenItem 122 = .ok (.aload_n 0, 1) := by decide +kernel
theorem dX6_takenItem_123 : decode cX6_takenItem 123 = .ok (.invokevirtual 92, 3) := by decide +kernel
theorem dX6_takenItem_126 : decode cX6_takenItem 126 = .ok (.ireturn, 1) := by decide +kernel
theorem dX6_takenItem_127 : decode cX6_takenItem 127 = .ok (.aload_n 0, 1) := by decide +kernel
theorem dX6_takenItem_128 : decode cX6_takenItem 128 = .ok (.getfield 66, 3) := by decide +kernel
theorem dX6_takenItem_131 : decode cX6_takenItem 131 = .ok (.ifCond .ne 10, 3) := by decide +kernel
theorem dX6_takenItem_134 : decode cX6_takenItem 134 = .ok (.aload_n 0, 1) := by decide +kernel
theorem dX6_takenItem_135 : decode cX6_takenItem 135 = .ok (.getfield 60, 3) := by decide +kernel
theorem dX6_takenItem_138 : decode cX6_takenItem 138 = .ok (.ifCond .le 7, 3) := by decide +kernel
theorem dX6_takenItem_141 : decode cX6_takenItem 141 = .ok (.iconst 2, 1) := by decide +kernel
theorem dX6_takenItem_142 : decode cX6_takenItem 142 = .ok (.goto 4, 3) := by decide +kernel
theorem dX6_takenItem_145 : decode cX6_takenItem 145 = .ok (.iconst 0, 1) := by decide +kernel
theorem dX6_takenItem_146 : decode cX6_takenItem 146 = .ok (.ireturn, 1) := by decide +kernel
theorem dX6_takenItem_147 : decode cX6_takenItem 147 = .ok (.iconst 2, 1) := by decide +kernel
theorem dX6_takenItem_148 : decode cX6_takenItem 148 = .ok (.ireturn, 1) := by decide +kernel
theorem dX6_takenNumber_0 : decode cX6_takenNumber 0 = .ok (.aload_n 1, 1) := by decide +kernel
theorem dX6_takenNumber_1 : decode cX6_takenNumber 1 = .ok (.getfield 50, 3) := by decide +kernel
theorem dX6_takenNumber_4 : decode cX6_takenNumber 4 = .ok (.iconst 1, 1) := by decide +kernel
theorem dX6_takenNumber_5 : decode cX6_takenNumber 5 = .ok (.if_icmp .eq 5, 3) := by decide +kernel
theorem dX6_takenNumber_8 : decode cX6_takenNumber 8 = .ok (.iconst 2, 1) := by decide +kernel
theorem dX6_takenNumber_9 : decode cX6_takenNumber 9 = .ok (.ireturn, 1) := by decide +kernel
theorem dX6_takenNumber_10 : decode cX6_takenNumber 10 = .ok (.aload_n 1, 1) := by decide +kernel
theorem dX6_takenNumber_11 : decode cX6_takenNumber 11 = .ok (.getfield 79, 3) := by decide +kernel
theorem dX6_takenNumber_14 : decode cX6_takenNumber 14 = .ok (.istore 4, 2) := by decide +kernel
theorem dX6_takenNumber_16 : decode cX6_takenNumber 16 = .ok (.iload 4, 2) := by decide +kernel
theorem dX6_takenNumber_18 : decode cX6_takenNumber 18 = .ok (.ifCond .lt 28, 3) := by decide +kernel
theorem dX6_takenNumber_21 : decode cX6_takenNumber 21 = .ok (.iload 4, 2) := by decide +kernel
theorem dX6_takenNumber_23 : decode cX6_takenNumber 23 = .ok (.aload_n 0, 1) := by decide +kernel
theorem dX6_takenNumber_24 : decode cX6_takenNumber 24 = .ok (.getfield 82, 3) := by decide +kernel
theorem dX6_takenNumber_27 : decode cX6_takenNumber 27 = .ok (.bipush 6, 2) := by decide +kernel
theorem dX6_takenNumber_29 : decode cX6_takenNumber 29 = .ok (.if_icmp .ne 12, 3) := by decide +kernel
theorem dX6_takenNumber_32 : decode cX6_takenNumber 32 = .ok (.iload_n 3, 1) := by decide +kernel
theorem dX6_takenNumber_33 : decode cX6_takenNumber 33 = .ok (.aload_n 2, 1) := by decide +kernel
theorem dX6_takenNumber_34 : decode cX6_takenNumber 34 = .ok (.arraylength, 1) := by decide +kernel
theorem dX6_takenNumber_35 : decode cX6_takenNumber 35 = .ok (.invokestatic 96, 3) := by decide +kernel
theorem dX6_takenNumber_38 : decode cX6_takenNumber 38 = .ok (.goto 5, 3) := by decide +kernel
theorem dX6_takenNumber_41 : decode cX6_takenNumber 41 = .ok (.bipush 8, 2) := by decide +kernel
theorem dX6_takenNumber_43 : decode cX6_takenNumber 43 = .ok (.if_icmp .lt 5, 3) := by decide +kernel
theorem dX6_takenNumber_46 : decode cX6_takenNumber 46 = .ok (.iconst 3, 1) := by decide +kernel
theorem dX6_takenNumber_47 : decode cX6_takenNumber 47 = .ok (.ireturn, 1) := by decide +kernel
theorem dX6_takenNumber_48 : decode cX6_takenNumber 48 = .ok (.aload_n 0, 1) := by decide +kernel
theorem dX6_takenNumber_49 : decode cX6_takenNumber 49 = .ok (.iconst 0, 1) := by decide +kernel
theorem dX6_takenNumber_50 : decode cX6_takenNumber 50 = .ok (.putfield 63, 3) := by decide +kernel
theorem dX6_takenNumber_53 : decode cX6_takenNumber 53 = .ok (.aload_n 0, 1) := by decide +kernel
theorem dX6_takenNumber_54 : decode cX6_takenNumber 54 = .ok (.getfield 82, 3) := by decide +kernel
theorem dX6_takenNumber_57 : decode cX6_takenNumber 57 = .ok (.bipush 6, 2) := by decide +kernel
theorem dX6_takenNumber_59 : decode cX6_takenNumber 59 = .ok (.if_icmp .ne 22, 3) := by decide +kernel
theorem dX6_takenNumber_62 : decode cX6_takenNumber 62 = .ok (.aload_n 0, 1) := by decide +kernel
theorem dX6_takenNumber_63 : decode cX6_takenNumber 63 = .ok (.aload_n 2, 1) := by decide +kernel
theorem dX6_takenNumber_64 : decode cX6_takenNumber 64 = .ok (.iload 4, 2) := by decide +kernel
theorem dX6_takenNumber_66 : decode cX6_takenNumber 66 = .ok (.aaload, 1) := by decide +kernel
theorem dX6_takenNumber_67 : decode cX6_takenNumber 67 = .ok (.iconst 0, 1) := by decide +kernel
theorem dX6_takenNumber_68 : decode cX6_takenNumber 68 = .ok (.aload_n 2, 1) := by decide +kernel
theorem dX6_takenNumber_69 : decode cX6_takenNumber 69 = .ok (.iload 4, 2) := by decide +kernel
theorem dX6_takenNumber_71 : decode cX6_takenNumber 71 = .ok (.aaload, 1) := by decide +kernel
theorem dX6_takenNumber_72 : decode cX6_takenNumber 72 = .ok (.getfield 57, 3) := by decide +kernel
theorem dX6_takenNumber_75 : decode cX6_takenNumber 75 = .ok (.invokevirtual 102, 3) := by decide +kernel
theorem dX6_takenNumber_78 : decode cX6_takenNumber 78 = .ok (.goto 13, 3) := by decide +kernel
theorem dX6_takenNumber_81 : decode cX6_takenNumber 81 = .ok (.aload_n 0, 1) := by decide +kernel
theorem dX6_takenNumber_82 : decode cX6_takenNumber 82 = .ok (.aload_n 0, 1) := by decide +kernel
theorem dX6_takenNumber_83 : decode cX6_takenNumber 83 = .ok (.getfield 82, 3) := by decide +kernel
theorem dX6_takenNumber_86 : decode cX6_takenNumber 86 = .ok (.iload 4, 2) := by decide +kernel
theorem dX6_takenNumber_88 : decode cX6_takenNumber 88 = .ok (.invokevirtual 88, 3) := by decide +kernel
theorem dX6_takenNumber_91 : decode cX6_takenNumber 91 = .ok (.iconst 0, 1) := by decide +kernel
theorem dX6_takenNumber_92 : decode cX6_takenNumber 92 = .ok (.ireturn, 1) := by decide +kernel
theorem dX6_takenOpen_0 : decode cX6_takenOpen 0 = .ok (.aload_n 1, 1) := by decide +kernel
theorem dX6_takenOpen_1 : decode cX6_takenOpen 1 = .ok (.getfield 50, 3) := by decide +kernel
theorem dX6_takenOpen_4 : decode cX6_takenOpen 4 = .ok (.iconst 2, 1) := by decide +kernel
theorem dX6_takenOpen_5 : decode cX6_takenOpen 5 = .ok (.if_icmp .eq 5, 3) := by decide +kernel
theorem dX6_takenOpen_8 : decode cX6_takenOpen 8 = .ok (.iconst 2, 1) := by decide +kernel
theorem dX6_takenOpen_9 : decode cX6_takenOpen 9 = .ok (.ireturn, 1) := by decide +kernel
theorem dX6_takenOpen_10 : decode cX6_takenOpen 10 = .ok (.aload_n 0, 1) := by decide +kernel
theorem dX6_takenOpen_11 : decode cX6_takenOpen 11 = .ok (.getfield 60, 3) := by decide +kernel
theorem dX6_takenOpen_14 : decode cX6_takenOpen 14 = .ok (.ifCond .lt 27, 3) := by decide +kernel
theorem dX6_takenOpen_17 : decode cX6_takenOpen 17 = .ok (.aload_n 0, 1) := by decide +kernel
theorem dX6_takenOpen_18 : decode cX6_takenOpen 18 = .ok (.getfield 60, 3) := by decide +kernel
theorem dX6_takenOpen_21 : decode cX6_takenOpen 21 = .ok (.aload_n 0, 1) := by decide +kernel
theorem dX6_takenOpen_22 : decode cX6_takenOpen 22 = .ok (.getfield 18, 3) := by decide +kernel
theorem dX6_takenOpen_25 : decode cX6_takenOpen 25 = .ok (.arraylength, 1) := by decide +kernel
theorem dX6_takenOpen_26 : decode cX6_takenOpen 26 = .ok (.if_icmp .ge 15, 3) := by decide +kernel
theorem dX6_takenOpen_29 : decode cX6_takenOpen 29 = .ok (.aload_n 0, 1) := by decide +kernel
theorem dX6_takenOpen_30 : decode cX6_takenOpen 30 = .ok (.getfield 60, 3) := by decide +kernel
theorem dX6_takenOpen_33 : decode cX6_takenOpen 33 = .ok (.aload_n 0, 1) := by decide +kernel
theorem dX6_takenOpen_34 : decode cX6_takenOpen 34 = .ok (.getfield 22, 3) := by decide +kernel
theorem dX6_takenOpen_37 : decode cX6_takenOpen 37 = .ok (.arraylength, 1) := by decide +kernel
theorem dX6_takenOpen_38 : decode cX6_takenOpen 38 = .ok (.if_icmp .lt 5, 3) := by decide +kernel
theorem dX6_takenOpen_41 : decode cX6_takenOpen 41 = .ok (.iconst 4, 1) := by decide +kernel
theorem dX6_takenOpen_42 : decode cX6_takenOpen 42 = .ok (.ireturn, 1) := by decide +kernel
theorem dX6_takenOpen_43 : decode cX6_takenOpen 43 = .ok (.aload_n 0, 1) := by decide +kernel
theorem dX6_takenOpen_44 : decode cX6_takenOpen 44 = .ok (.getfield 18, 3) := by decide +kernel
theorem dX6_takenOpen_47 : decode cX6_takenOpen 47 = .ok (.aload_n 0, 1) := by decide +kernel
theorem dX6_takenOpen_48 : decode cX6_takenOpen 48 = .ok (.getfield 60, 3) := by decide +kernel
theorem dX6_takenOpen_51 : decode cX6_takenOpen 51 = .ok (.aload_n 0, 1) := by decide +kernel
theorem dX6_takenOpen_52 : decode cX6_takenOpen 52 = .ok (.getfield 12, 3) := by decide +kernel
theorem dX6_takenOpen_55 : decode cX6_takenOpen 55 = .ok (.getfield 57, 3) := by decide +kernel
theorem dX6_takenOpen_58 : decode cX6_takenOpen 58 = .ok (.iastore, 1) := by decide +kernel
theorem dX6_takenOpen_59 : decode cX6_takenOpen 59 = .ok (.aload_n 0, 1) := by decide +kernel
theorem dX6_takenOpen_60 : decode cX6_takenOpen 60 = .ok (.getfield 22, 3) := by decide +kernel
theorem dX6_takenOpen_63 : decode cX6_takenOpen 63 = .ok (.aload_n 0, 1) := by decide +kernel
theorem dX6_takenOpen_64 : decode cX6_takenOpen 64 = .ok (.getfield 60, 3) := by decide +kernel
theorem dX6_takenOpen_67 : decode cX6_takenOpen 67 = .ok (.aload_n 0, 1) := by decide +kernel
theorem dX6_takenOpen_68 : decode cX6_takenOpen 68 = .ok (.getfield 85, 3) := by decide +kernel
theorem dX6_takenOpen_71 : decode cX6_takenOpen 71 = .ok (.iastore, 1) := by decide +kernel
theorem dX6_takenOpen_72 : decode cX6_takenOpen 72 = .ok (.aload_n 0, 1) := by decide +kernel
theorem dX6_takenOpen_73 : decode cX6_takenOpen 73 = .ok (.dup, 1) := by decide +kernel
theorem dX6_takenOpen_74 : decode cX6_takenOpen 74 = .ok (.getfield 60, 3) := by decide +kernel
theorem dX6_takenOpen_77 : decode cX6_takenOpen 77 = .ok (.iconst 1, 1) := by decide +kernel
theorem dX6_takenOpen_78 : decode cX6_takenOpen 78 = .ok (.iadd, 1) := by decide +kernel
theorem dX6_takenOpen_79 : decode cX6_takenOpen 79 = .ok (.putfield 60, 3) := by decide +kernel
theorem dX6_takenOpen_82 : decode cX6_takenOpen 82 = .ok (.aload_n 0, 1) := by decide +kernel
theorem dX6_takenOpen_83 : decode cX6_takenOpen 83 = .ok (.iconst 1, 1) := by decide +kernel
theorem dX6_takenOpen_84 : decode cX6_takenOpen 84 = .ok (.putfield 66, 3) := by decide +kernel
theorem dX6_takenOpen_87 : decode cX6_takenOpen 87 = .ok (.aload_n 0, 1) := by decide +kernel
theorem dX6_takenOpen_88 : decode cX6_takenOpen 88 = .ok (.iconst 0, 1) := by decide +kernel
theorem dX6_takenOpen_89 : decode cX6_takenOpen 89 = .ok (.putfield 63, 3) := by decide +kernel
theorem dX6_takenOpen_92 : decode cX6_takenOpen 92 = .ok (.iconst 0, 1) := by decide +kernel
theorem dX6_takenOpen_93 : decode cX6_takenOpen 93 = .ok (.ireturn, 1) := by decide +kernel
theorem dX6_closed_0 : decode cX6_closed 0 = .ok (.aload_n 0, 1) := by decide +kernel
theorem dX6_closed_1 : decode cX6_closed 1 = .ok (.dup, 1) := by decide +kernel
theorem dX6_closed_2 : decode cX6_closed 2 = .ok (.getfield 60, 3) := by decide +kernel
theorem dX6_closed_5 : decode cX6_closed 5 = .ok (.iconst 1, 1) := by decide +kernel
theorem dX6_closed_6 : decode cX6_closed 6 = .ok (.isub, 1) := by decide +kernel
theorem dX6_closed_7 : decode cX6_closed 7 = .ok (.putfield 60, 3) := by decide +kernel
theorem dX6_closed_10 : decode cX6_closed 10 = .ok (.aload_n 0, 1) := by decide +kernel
theorem dX6_closed_11 : decode cX6_closed 11 = .ok (.getfield 60, 3) := by decide +kernel
theorem dX6_closed_14 : decode cX6_closed 14 = .ok (.ifCond .lt 83, 3) := by decide +kernel
theorem dX6_closed_17 : decode cX6_closed 17 = .ok (.aload_n 0, 1) := by decide +kernel
theorem dX6_closed_18 : decode cX6_closed 18 = .ok (.getfield 60, 3) := by decide +kernel
theorem dX6_closed_21 : decode cX6_closed 21 = .ok (.aload_n 0, 1) := by decide +kernel
theorem dX6_closed_22 : decode cX6_closed 22 = .ok (.getfield 18, 3) := by decide +kernel
theorem dX6_closed_25 : decode cX6_closed 25 = .ok (.arraylength, 1) := by decide +kernel
theorem dX6_closed_26 : decode cX6_closed 26 = .ok (.if_icmp .ge 71, 3) := by decide +kernel
theorem dX6_closed_29 : decode cX6_closed 29 = .ok (.aload_n 0, 1) := by decide +kernel
theorem dX6_closed_30 : decode cX6_closed 30 = .ok (.getfield 60, 3) := by decide +kernel
theorem dX6_closed_33 : decode cX6_closed 33 = .ok (.aload_n 0, 1) := by decide +kernel
theorem dX6_closed_34 : decode cX6_closed 34 = .ok (.getfield 22, 3) := by decide +kernel
theorem dX6_closed_37 : decode cX6_closed 37 = .ok (.arraylength, 1) := by decide +kernel
theorem dX6_closed_38 : decode cX6_closed 38 = .ok (.if_icmp .ge 59, 3) := by decide +kernel
theorem dX6_closed_41 : decode cX6_closed 41 = .ok (.aload_n 0, 1) := by decide +kernel
theorem dX6_closed_42 : decode cX6_closed 42 = .ok (.getfield 18, 3) := by decide +kernel
theorem dX6_closed_45 : decode cX6_closed 45 = .ok (.aload_n 0, 1) := by decide +kernel
theorem dX6_closed_46 : decode cX6_closed 46 = .ok (.getfield 60, 3) := by decide +kernel
theorem dX6_closed_49 : decode cX6_closed 49 = .ok (.iaload, 1) := by decide +kernel
theorem dX6_closed_50 : decode cX6_closed 50 = .ok (.istore_n 1, 1) := by decide +kernel
theorem dX6_closed_51 : decode cX6_closed 51 = .ok (.aload_n 0, 1) := by decide +kernel
theorem dX6_closed_52 : decode cX6_closed 52 = .ok (.getfield 12, 3) := by decide +kernel
theorem dX6_closed_55 : decode cX6_closed 55 = .ok (.getfield 57, 3) := by decide +kernel
theorem dX6_closed_58 : decode cX6_closed 58 = .ok (.istore_n 2, 1) := by decide +kernel
theorem dX6_closed_59 : decode cX6_closed 59 = .ok (.iconst 1, 1) := by decide +kernel
theorem dX6_closed_60 : decode cX6_closed 60 = .ok (.istore_n 3, 1) := by decide +kernel
theorem dX6_closed_61 : decode cX6_closed 61 = .ok (.iload_n 3, 1) := by decide +kernel
theorem dX6_closed_62 : decode cX6_closed 62 = .ok (.aload_n 0, 1) := by decide +kernel
theorem dX6_closed_63 : decode cX6_closed 63 = .ok (.getfield 22, 3) := by decide +kernel
theorem dX6_closed_66 : decode cX6_closed 66 = .ok (.aload_n 0, 1) := by decide +kernel
theorem dX6_closed_67 : decode cX6_closed 67 = .ok (.getfield 60, 3) := by decide +kernel
theorem dX6_closed_70 : decode cX6_closed 70 = .ok (.iaload, 1) := by decide +kernel
theorem dX6_closed_71 : decode cX6_closed 71 = .ok (.if_icmp .ge 26, 3) := by decide +kernel
theorem dX6_closed_74 : decode cX6_closed 74 = .ok (.aload_n 0, 1) := by decide +kernel
theorem dX6_closed_75 : decode cX6_closed 75 = .ok (.getfield 53, 3) := by decide +kernel
theorem dX6_closed_78 : decode cX6_closed 78 = .ok (.ifCond .ne 19, 3) := by decide +kernel
theorem dX6_closed_81 : decode cX6_closed 81 = .ok (.aload_n 0, 1) := by decide +kernel
theorem dX6_closed_82 : decode cX6_closed 82 = .ok (.aload_n 0, 1) := by decide +kernel
theorem dX6_closed_83 : decode cX6_closed 83 = .ok (.getfield 12, 3) := by decide +kernel
theorem dX6_closed_86 : decode cX6_closed 86 = .ok (.iload_n 1, 1) := by decide +kernel
theorem dX6_closed_87 : decode cX6_closed 87 = .ok (.iload_n 2, 1) := by decide +kernel
theorem dX6_closed_88 : decode cX6_closed 88 = .ok (.invokevirtual 102, 3) := by decide +kernel
theorem dX6_closed_91 : decode cX6_closed 91 = .ok (.iinc 3 1, 3) := by decide +kernel
theorem dX6_closed_94 : decode cX6_closed 94 = .ok (.goto (-33), 3) := by decide +kernel
theorem dX6_closed_97 : decode cX6_closed 97 = .ok (.iconst 0, 1) := by decide +kernel
theorem dX6_closed_98 : decode cX6_closed 98 = .ok (.ireturn, 1) := by decide +kernel
theorem dX6_writeOut_0 : decode cX6_writeOut 0 = .ok (.iload_n 2, 1) := by decide +kernel
theorem dX6_writeOut_1 : decode cX6_writeOut 1 = .ok (.istore 4, 2) := by decide +kernel
theorem dX6_writeOut_3 : decode cX6_writeOut 3 = .ok (.iload 4, 2) := by decide +kernel
theorem dX6_writeOut_5 : decode cX6_writeOut 5 = .ok (.iload_n 3, 1) := by decide +kernel
theorem dX6_writeOut_6 : decode cX6_writeOut 6 = .ok (.if_icmp .ge 41, 3) := by decide +kernel
theorem dX6_writeOut_9 : decode cX6_writeOut 9 = .ok (.aload_n 0, 1) := by decide +kernel
theorem dX6_writeOut_10 : decode cX6_writeOut 10 = .ok (.getfield 53, 3) := by decide +kernel
theorem dX6_writeOut_13 : decode cX6_writeOut 13 = .ok (.ifCond .ne 34, 3) := by decide +kernel
theorem dX6_writeOut_16 : decode cX6_writeOut 16 = .ok (.aload_n 0, 1) := by decide +kernel
theorem dX6_writeOut_17 : decode cX6_writeOut 17 = .ok (.aload_n 0, 1) := by decide +kernel
theorem dX6_writeOut_18 : decode cX6_writeOut 18 = .ok (.getfield 12, 3) := by decide +kernel
theorem dX6_writeOut_21 : decode cX6_writeOut 21 = .ok (.aload_n 1, 1) := by decide +kernel
theorem dX6_writeOut_22 : decode cX6_writeOut 22 = .ok (.iload 4, 2) := by decide +kernel
theorem dX6_writeOut_24 : decode cX6_writeOut 24 = .ok (.invokevirtual 106, 3) := by decide +kernel
theorem dX6_writeOut_27 : decode cX6_writeOut 27 = .ok (.invokevirtual 110, 3) := by decide +kernel
theorem dX6_writeOut_30 : decode cX6_writeOut 30 = .ok (.ifCond .ne 7, 3) := by decide +kernel
theorem dX6_writeOut_33 : decode cX6_writeOut 33 = .ok (.iconst 1, 1) := by decide +kernel
theorem dX6_writeOut_34 : decode cX6_writeOut 34 = .ok (.goto 4, 3) := by decide +kernel
theorem dX6_writeOut_37 : decode cX6_writeOut 37 = .ok (.iconst 0, 1) := by decide +kernel
theorem dX6_writeOut_38 : decode cX6_writeOut 38 = .ok (.putfield 53, 3) := by decide +kernel
theorem dX6_writeOut_41 : decode cX6_writeOut 41 = .ok (.iinc 4 1, 3) := by decide +kernel
theorem dX6_writeOut_44 : decode cX6_writeOut 44 = .ok (.goto (-41), 3) := by decide +kernel
theorem dX6_writeOut_47 : decode cX6_writeOut 47 = .ok (.aload_n 0, 1) := by decide +kernel
theorem dX6_writeOut_48 : decode cX6_writeOut 48 = .ok (.iconst 0, 1) := by decide +kernel
theorem dX6_writeOut_49 : decode cX6_writeOut 49 = .ok (.putfield 66, 3) := by decide +kernel
theorem dX6_writeOut_52 : decode cX6_writeOut 52 = .ok (.return_, 1) := by decide +kernel
theorem dX6_write_0 : decode cX6_write 0 = .ok (.aload_n 0, 1) := by decide +kernel
theorem dX6_write_1 : decode cX6_write 1 = .ok (.aload_n 0, 1) := by decide +kernel
theorem dX6_write_2 : decode cX6_write 2 = .ok (.getfield 12, 3) := by decide +kernel
theorem dX6_write_5 : decode cX6_write 5 = .ok (.bipush 8, 2) := by decide +kernel
theorem dX6_write_7 : decode cX6_write 7 = .ok (.iload_n 1, 1) := by decide +kernel
theorem dX6_write_8 : decode cX6_write 8 = .ok (.imul, 1) := by decide +kernel
theorem dX6_write_9 : decode cX6_write 9 = .ok (.iload_n 2, 1) := by decide +kernel
theorem dX6_write_10 : decode cX6_write 10 = .ok (.iadd, 1) := by decide +kernel
theorem dX6_write_11 : decode cX6_write 11 = .ok (.invokevirtual 110, 3) := by decide +kernel
theorem dX6_write_14 : decode cX6_write 14 = .ok (.ifCond .ne 7, 3) := by decide +kernel
theorem dX6_write_17 : decode cX6_write 17 = .ok (.iconst 1, 1) := by decide +kernel
theorem dX6_write_18 : decode cX6_write 18 = .ok (.goto 4, 3) := by decide +kernel
theorem dX6_write_21 : decode cX6_write 21 = .ok (.iconst 0, 1) := by decide +kernel
theorem dX6_write_22 : decode cX6_write 22 = .ok (.putfield 53, 3) := by decide +kernel
theorem dX6_write_25 : decode cX6_write 25 = .ok (.aload_n 0, 1) := by decide +kernel
theorem dX6_write_26 : decode cX6_write 26 = .ok (.iconst 0, 1) := by decide +kernel
theorem dX6_write_27 : decode cX6_write 27 = .ok (.putfield 66, 3) := by decide +kernel
theorem dX6_write_30 : decode cX6_write 30 = .ok (.return_, 1) := by decide +kernel
theorem dX7_init_0 : decode cX7_init 0 = .ok (.aload_n 0, 1) := by decide +kernel
theorem dX7_init_1 : decode cX7_init 1 = .ok (.invokespecial 3, 3) := by decide +kernel
theorem dX7_init_4 : decode cX7_init 4 = .ok (.aload_n 0, 1) := by decide +kernel
theorem dX7_init_5 : decode cX7_init 5 = .ok (.bipush 16, 2) := by decide +kernel
theorem dX7_init_7 : decode cX7_init 7 = .ok (.newarray .int, 2) := by decide +kernel
theorem dX7_init_9 : decode cX7_init 9 = .ok (.putfield 9, 3) := by decide +kernel
theorem dX7_init_12 : decode cX7_init 12 = .ok (.return_, 1) := by decide +kernel
theorem dX7_append_0 : decode cX7_append 0 = .ok (.aload_n 0, 1) := by decide +kernel
theorem dX7_append_1 : decode cX7_append 1 = .ok (.getfield 15, 3) := by decide +kernel
theorem dX7_append_4 : decode cX7_append 4 = .ok (.ifCond .lt 15, 3) := by decide +kernel
theorem dX7_append_7 : decode cX7_append 7 = .ok (.aload_n 0, 1) := by decide +kernel
theorem dX7_append_8 : decode cX7_append 8 = .ok (.getfield 15, 3) := by decide +kernel
theorem dX7_append_11 : decode cX7_append 11 = .ok (.aload_n 0, 1) := by decide +kernel
theorem dX7_append_12 : decode cX7_append 12 = .ok (.getfield 9, 3) := by decide +kernel
theorem dX7_append_15 : decode cX7_append 15 = .ok (.arraylength, 1) := by decide +kernel
theorem dX7_append_16 : decode cX7_append 16 = .ok (.if_icmp .lt 5, 3) := by decide +kernel
theorem dX7_append_19 : decode cX7_append 19 = .ok (.iconst 0, 1) := by decide +kernel
theorem dX7_append_20 : decode cX7_append 20 = .ok (.ireturn, 1) := by decide +kernel
theorem dX7_append_21 : decode cX7_append 21 = .ok (.aload_n 0, 1) := by decide +kernel
theorem dX7_append_22 : decode cX7_append 22 = .ok (.getfield 9, 3) := by decide +kernel
theorem dX7_append_25 : decode cX7_append 25 = .ok (.aload_n 0, 1) := by decide +kernel
theorem dX7_append_26 : decode cX7_append 26 = .ok (.getfield 15, 3) := by decide +kernel
theorem dX7_append_29 : decode cX7_append 29 = .ok (.iload_n 1, 1) := by decide +kernel
theorem dX7_append_30 : decode cX7_append 30 = .ok (.iastore, 1) := by decide +kernel
theorem dX7_append_31 : decode cX7_append 31 = .ok (.aload_n 0, 1) := by decide +kernel
theorem dX7_append_32 : decode cX7_append 32 = .ok (.dup, 1) := by decide +kernel
theorem dX7_append_33 : decode cX7_append 33 = .ok (.getfield 15, 3) := by decide +kernel
theorem dX7_append_36 : decode cX7_append 36 = .ok (.iconst 1, 1) := by decide +kernel
theorem dX7_append_37 : decode cX7_append 37 = .ok (.iadd, 1) := by decide +kernel
theorem dX7_append_38 : decode cX7_append 38 = .ok (.putfield 15, 3) := by decide +kernel
theorem dX7_append_41 : decode cX7_append 41 = .ok (.iconst 1, 1) := by decide +kernel
theorem dX7_append_42 : decode cX7_append 42 = .ok (.ireturn, 1) := by decide +kernel
theorem dX7_figureAt_0 : decode cX7_figureAt 0 = .ok (.iload_n 1, 1) := by decide +kernel
theorem dX7_figureAt_1 : decode cX7_figureAt 1 = .ok (.ifCond .lt 29, 3) := by decide +kernel
theorem dX7_figureAt_4 : decode cX7_figureAt 4 = .ok (.iload_n 1, 1) := by decide +kernel
theorem dX7_figureAt_5 : decode cX7_figureAt 5 = .ok (.aload_n 0, 1) := by decide +kernel
theorem dX7_figureAt_6 : decode cX7_figureAt 6 = .ok (.getfield 15, 3) := by decide +kernel
theorem dX7_figureAt_9 : decode cX7_figureAt 9 = .ok (.if_icmp .ge 21, 3) := by decide +kernel
theorem dX7_figureAt_12 : decode cX7_figureAt 12 = .ok (.iload_n 1, 1) := by decide +kernel
theorem dX7_figureAt_13 : decode cX7_figureAt 13 = .ok (.aload_n 0, 1) := by decide +kernel
theorem dX7_figureAt_14 : decode cX7_figureAt 14 = .ok (.getfield 9, 3) := by decide +kernel
theorem dX7_figureAt_17 : decode cX7_figureAt 17 = .ok (.arraylength, 1) := by decide +kernel
theorem dX7_figureAt_18 : decode cX7_figureAt 18 = .ok (.if_icmp .ge 12, 3) := by decide +kernel
theorem dX7_figureAt_21 : decode cX7_figureAt 21 = .ok (.aload_n 0, 1) := by decide +kernel
theorem dX7_figureAt_22 : decode cX7_figureAt 22 = .ok (.getfield 9, 3) := by decide +kernel
theorem dX7_figureAt_25 : decode cX7_figureAt 25 = .ok (.iload_n 1, 1) := by decide +kernel
theorem dX7_figureAt_26 : decode cX7_figureAt 26 = .ok (.iaload, 1) := by decide +kernel
theorem dX7_figureAt_27 : decode cX7_figureAt 27 = .ok (.goto 5, 3) := by decide +kernel
theorem dX7_figureAt_30 : decode cX7_figureAt 30 = .ok (.bipush (-4), 2) := by decide +kernel
theorem dX7_figureAt_32 : decode cX7_figureAt 32 = .ok (.ireturn, 1) := by decide +kernel
theorem dX7_placeFrom_0 : decode cX7_placeFrom 0 = .ok (.iload_n 1, 1) := by decide +kernel
theorem dX7_placeFrom_1 : decode cX7_placeFrom 1 = .ok (.istore_n 3, 1) := by decide +kernel
theorem dX7_placeFrom_2 : decode cX7_placeFrom 2 = .ok (.iload_n 3, 1) := by decide +kernel
theorem dX7_placeFrom_3 : decode cX7_placeFrom 3 = .ok (.aload_n 0, 1) := by decide +kernel
theorem dX7_placeFrom_4 : decode cX7_placeFrom 4 = .ok (.getfield 15, 3) := by decide +kernel
theorem dX7_placeFrom_7 : decode cX7_placeFrom 7 = .ok (.if_icmp .ge 20, 3) := by decide +kernel
theorem dX7_placeFrom_10 : decode cX7_placeFrom 10 = .ok (.aload_n 0, 1) := by decide +kernel
theorem dX7_placeFrom_11 : decode cX7_placeFrom 11 = .ok (.iload_n 3, 1) := by decide +kernel
theorem dX7_placeFrom_12 : decode cX7_placeFrom 12 = .ok (.invokevirtual 19, 3) := by decide +kernel
theorem dX7_placeFrom_15 : decode cX7_placeFrom 15 = .ok (.iload_n 2, 1) := by decide +kernel
theorem dX7_placeFrom_16 : decode cX7_placeFrom 16 = .ok (.if_icmp .ne 5, 3) := by decide +kernel
theorem dX7_placeFrom_19 : decode cX7_placeFrom 19 = .ok (.iload_n 3, 1) := by decide +kernel
theorem dX7_placeFrom_20 : decode cX7_placeFrom 20 = .ok (.ireturn, 1) := by decide +kernel
theorem dX7_placeFrom_21 : decode cX7_placeFrom 21 = .ok (.iinc 3 1, 3) := by decide +kernel
theorem dX7_placeFrom_24 : decode cX7_placeFrom 24 = .ok (.goto (-22), 3) := by decide +kernel
theorem dX7_placeFrom_27 : decode cX7_placeFrom 27 = .ok (.bipush (-4), 2) := by decide +kernel
theorem dX7_placeFrom_29 : decode cX7_placeFrom 29 = .ok (.ireturn, 1) := by decide +kernel
theorem dX8_init_0 : decode cX8_init 0 = .ok (.aload_n 0, 1) := by decide +kernel
theorem dX8_init_1 : decode cX8_init 1 = .ok (.invokespecial 3, 3) := by decide +kernel
theorem dX8_init_4 : decode cX8_init 4 = .ok (.aload_n 0, 1) := by decide +kernel
theorem dX8_init_5 : decode cX8_init 5 = .ok (.iconst 5, 1) := by decide +kernel
theorem dX8_init_6 : decode cX8_init 6 = .ok (.invokevirtual 9, 3) := by decide +kernel
theorem dX8_init_9 : decode cX8_init 9 = .ok (.return_, 1) := by decide +kernel
theorem dX8_begin_0 : decode cX8_begin 0 = .ok (.aload_n 0, 1) := by decide +kernel
theorem dX8_begin_1 : decode cX8_begin 1 = .ok (.iload_n 1, 1) := by decide +kernel
theorem dX8_begin_2 : decode cX8_begin 2 = .ok (.putfield 15, 3) := by decide +kernel
theorem dX8_begin_5 : decode cX8_begin 5 = .ok (.aload_n 0, 1) := by decide +kernel
theorem dX8_begin_6 : decode cX8_begin 6 = .ok (.ldc2_w 19, 3) := by decide +kernel
theorem dX8_begin_9 : decode cX8_begin 9 = .ok (.aload_n 0, 1) := by decide +kernel
theorem dX8_begin_10 : decode cX8_begin 10 = .ok (.invokevirtual 21, 3) := by decide +kernel
theorem dX8_begin_13 : decode cX8_begin 13 = .ok (.land, 1) := by decide +kernel
theorem dX8_begin_14 : decode cX8_begin 14 = .ok (.putfield 25, 3) := by decide +kernel
theorem dX8_begin_17 : decode cX8_begin 17 = .ok (.aload_n 0, 1) := by decide +kernel
theorem dX8_begin_18 : decode cX8_begin 18 = .ok (.iconst 1, 1) := by decide +kernel
theorem dX8_begin_19 : decode cX8_begin 19 = .ok (.iload_n 1, 1) := by decide +kernel
theorem dX8_begin_20 : decode cX8_begin 20 = .ok (.ishl, 1) := by decide +kernel
theorem dX8_begin_21 : decode cX8_begin 21 = .ok (.iconst 1, 1) := by decide +kernel
theorem dX8_begin_22 : decode cX8_begin 22 = .ok (.isub, 1) := by decide +kernel
theorem dX8_begin_23 : decode cX8_begin 23 = .ok (.putfield 29, 3) := by decide +kernel
theorem dX8_begin_26 : decode cX8_begin 26 = .ok (.aload_n 0, 1) := by decide +kernel
theorem dX8_begin_27 : decode cX8_begin 27 = .ok (.iconst 1, 1) := by decide +kernel
theorem dX8_begin_28 : decode cX8_begin 28 = .ok (.iload_n 1, 1) := by decide +kernel
theorem dX8_begin_29 : decode cX8_begin 29 = .ok (.ishl, 1) := by decide +kernel
theorem dX8_begin_30 : decode cX8_begin 30 = .ok (.iconst 1, 1) := by decide +kernel
theorem dX8_begin_31 : decode cX8_begin 31 = .ok (.isub, 1) := by decide +kernel
theorem dX8_begin_32 : decode cX8_begin 32 = .ok (.putfield 32, 3) := by decide +kernel
theorem dX8_begin_35 : decode cX8_begin 35 = .ok (.aload_n 0, 1) := by decide +kernel
theorem dX8_begin_36 : decode cX8_begin 36 = .ok (.lconst 0, 1) := by decide +kernel
theorem dX8_begin_37 : decode cX8_begin 37 = .ok (.putfield 35, 3) := by decide +kernel
theorem dX8_begin_40 : decode cX8_begin 40 = .ok (.return_, 1) := by decide +kernel
theorem dX8_become_0 : decode cX8_become 0 = .ok (.aload_n 0, 1) := by decide +kernel
theorem dX8_become_1 : decode cX8_become 1 = .ok (.aload_n 1, 1) := by decide +kernel
theorem dX8_become_2 : decode cX8_become 2 = .ok (.getfield 15, 3) := by decide +kernel
theorem dX8_become_5 : decode cX8_become 5 = .ok (.putfield 15, 3) := by decide +kernel
theorem dX8_become_8 : decode cX8_become 8 = .ok (.aload_n 0, 1) := by decide +kernel
theorem dX8_become_9 : decode cX8_become 9 = .ok (.aload_n 1, 1) := by decide +kernel
theorem dX8_become_10 : decode cX8_become 10 = .ok (.getfield 25, 3) := by decide +kernel
theorem dX8_become_13 : decode cX8_become 13 = .ok (.putfield 25, 3) := by decide +kernel
theorem dX8_become_16 : decode cX8_become 16 = .ok (.aload_n 0, 1) := by decide +kernel
theorem dX8_become_17 : decode cX8_become 17 = .ok (.aload_n 1, 1) := by decide +kernel
theorem dX8_become_18 : decode cX8_become 18 = .ok (.getfield 29, 3) := by decide +kernel
theorem dX8_become_21 : decode cX8_become 21 = .ok (.putfield 29, 3) := by decide +kernel
theorem dX8_become_24 : decode cX8_become 24 = .ok (.aload_n 0, 1) := by decide +kernel
theorem dX8_become_25 : decode cX8_become 25 = .ok (.aload_n 1, 1) := by decide +kernel
theorem dX8_become_26 : decode cX8_become 26 = .ok (.getfield 32, 3) := by decide +kernel
theorem dX8_become_29 : decode cX8_become 29 = .ok (.putfield 32, 3) := by decide +kernel
theorem dX8_become_32 : decode cX8_become 32 = .ok (.aload_n 0, 1) := by decide +kernel
theorem dX8_become_33 : decode cX8_become 33 = .ok (.aload_n 1, 1) := by decide +kernel
theorem dX8_become_34 : decode cX8_become 34 = .ok (.getfield 35, 3) := by decide +kernel
theorem dX8_become_37 : decode cX8_become 37 = .ok (.putfield 35, 3) := by decide +kernel
theorem dX8_become_40 : decode cX8_become 40 = .ok (.return_, 1) := by decide +kernel
theorem dX8_next_0 : decode cX8_next 0 = .ok (.iload_n 1, 1) := by decide +kernel
theorem dX8_next_1 : decode cX8_next 1 = .ok (.iconst 1, 1) := by decide +kernel
theorem dX8_next_2 : decode cX8_next 2 = .ok (.iadd, 1) := by decide +kernel
theorem dX8_next_3 : decode cX8_next 3 = .ok (.aload_n 0, 1) := by decide +kernel
theorem dX8_next_4 : decode cX8_next 4 = .ok (.getfield 15, 3) := by decide +kernel
theorem dX8_next_7 : decode cX8_next 7 = .ok (.if_icmp .ge 9, 3) := by decide +kernel
theorem dX8_next_10 : decode cX8_next 10 = .ok (.iload_n 1, 1) := by decide +kernel
theorem dX8_next_11 : decode cX8_next 11 = .ok (.iconst 1, 1) := by decide +kernel
theorem dX8_next_12 : decode cX8_next 12 = .ok (.iadd, 1) := by decide +kernel
theorem dX8_next_13 : decode cX8_next 13 = .ok (.goto 4, 3) := by decide +kernel
theorem dX8_next_16 : decode cX8_next 16 = .ok (.iconst 0, 1) := by decide +kernel
theorem dX8_next_17 : decode cX8_next 17 = .ok (.ireturn, 1) := by decide +kernel
theorem dX8_previous_0 : decode cX8_previous 0 = .ok (.iload_n 1, 1) := by decide +kernel
theorem dX8_previous_1 : decode cX8_previous 1 = .ok (.ifCond .le 9, 3) := by decide +kernel
theorem dX8_previous_4 : decode cX8_previous 4 = .ok (.iload_n 1, 1) := by decide +kernel
theorem dX8_previous_5 : decode cX8_previous 5 = .ok (.iconst 1, 1) := by decide +kernel
theorem dX8_previous_6 : decode cX8_previous 6 = .ok (.isub, 1) := by decide +kernel
theorem dX8_previous_7 : decode cX8_previous 7 = .ok (.goto 9, 3) := by decide +kernel
theorem dX8_previous_10 : decode cX8_previous 10 = .ok (.aload_n 0, 1) := by decide +kernel
theorem dX8_previous_11 : decode cX8_previous 11 = .ok (.getfield 15, 3) := by decide +kernel
theorem dX8_previous_14 : decode cX8_previous 14 = .ok (.iconst 1, 1) := by decide +kernel
theorem dX8_previous_15 : decode cX8_previous 15 = .ok (.isub, 1) := by decide +kernel
theorem dX8_previous_16 : decode cX8_previous 16 = .ok (.ireturn, 1) := by decide +kernel
theorem dX8_dancerAt_0 : decode cX8_dancerAt 0 = .ok (.aload_n 0, 1) := by decide +kernel
theorem dX8_dancerAt_1 : decode cX8_dancerAt 1 = .ok (.getfield 25, 3) := by decide +kernel
theorem dX8_dancerAt_4 : decode cX8_dancerAt 4 = .ok (.iconst 4, 1) := by decide +kernel
theorem dX8_dancerAt_5 : decode cX8_dancerAt 5 = .ok (.iload_n 1, 1) := by decide +kernel
theorem dX8_dancerAt_6 : decode cX8_dancerAt 6 = .ok (.imul, 1) := by decide +kernel
theorem dX8_dancerAt_7 : decode cX8_dancerAt 7 = .ok (.lushr, 1) := by decide +kernel
theorem dX8_dancerAt_8 : decode cX8_dancerAt 8 = .ok (.l2i, 1) := by decide +kernel
theorem dX8_dancerAt_9 : decode cX8_dancerAt 9 = .ok (.bipush 15, 2) := by decide +kernel
theorem dX8_dancerAt_11 : decode cX8_dancerAt 11 = .ok (.iand, 1) := by decide +kernel
theorem dX8_dancerAt_12 : decode cX8_dancerAt 12 = .ok (.ireturn, 1) := by decide +kernel
theorem dX8_placeOf_0 : decode cX8_placeOf 0 = .ok (.iconst 0, 1) := by decide +kernel
theorem dX8_placeOf_1 : decode cX8_placeOf 1 = .ok (.istore_n 2, 1) := by decide +kernel
theorem dX8_placeOf_2 : decode cX8_placeOf 2 = .ok (.iload_n 2, 1) := by decide +kernel
theorem dX8_placeOf_3 : decode cX8_placeOf 3 = .ok (.aload_n 0, 1) := by decide +kernel
theorem dX8_placeOf_4 : decode cX8_placeOf 4 = .ok (.getfield 15, 3) := by decide +kernel
theorem dX8_placeOf_7 : decode cX8_placeOf 7 = .ok (.if_icmp .ge 29, 3) := by decide +kernel
theorem dX8_placeOf_10 : decode cX8_placeOf 10 = .ok (.aload_n 0, 1) := by decide +kernel
theorem dX8_placeOf_11 : decode cX8_placeOf 11 = .ok (.getfield 25, 3) := by decide +kernel
theorem dX8_placeOf_14 : decode cX8_placeOf 14 = .ok (.iconst 4, 1) := by decide +kernel
theorem dX8_placeOf_15 : decode cX8_placeOf 15 = .ok (.iload_n 2, 1) := by decide +kernel
theorem dX8_placeOf_16 : decode cX8_placeOf 16 = .ok (.imul, 1) := by decide +kernel
theorem dX8_placeOf_17 : decode cX8_placeOf 17 = .ok (.lushr, 1) := by decide +kernel
theorem dX8_placeOf_18 : decode cX8_placeOf 18 = .ok (.ldc2_w 41, 3) := by decide +kernel
theorem dX8_placeOf_21 : decode cX8_placeOf 21 = .ok (.land, 1) := by decide +kernel
theorem dX8_placeOf_22 : decode cX8_placeOf 22 = .ok (.iload_n 1, 1) := by decide +kernel
theorem dX8_placeOf_23 : decode cX8_placeOf 23 = .ok (.i2l, 1) := by decide +kernel
theorem dX8_placeOf_24 : decode cX8_placeOf 24 = .ok (.lcmp, 1) := by decide +kernel
theorem dX8_placeOf_25 : decode cX8_placeOf 25 = .ok (.ifCond .ne 5, 3) := by decide +kernel
theorem dX8_placeOf_28 : decode cX8_placeOf 28 = .ok (.iload_n 2, 1) := by decide +kernel
theorem dX8_placeOf_29 : decode cX8_placeOf 29 = .ok (.ireturn, 1) := by decide +kernel
theorem dX8_placeOf_30 : decode cX8_placeOf 30 = .ok (.iinc 2 1, 3) := by decide +kernel
theorem dX8_placeOf_33 : decode cX8_placeOf 33 = .ok (.goto (-31), 3) := by decide +kernel
theorem dX8_placeOf_36 : decode cX8_placeOf 36 = .ok (.iconst 0, 1) := by decide +kernel
theorem dX8_placeOf_37 : decode cX8_placeOf 37 = .ok (.ireturn, 1) := by decide +kernel
theorem dX8_stepsUp_0 : decode cX8_stepsUp 0 = .ok (.iload_n 2, 1) := by decide +kernel
theorem dX8_stepsUp_1 : decode cX8_stepsUp 1 = .ok (.iload_n 1, 1) := by decide +kernel
theorem dX8_stepsUp_2 : decode cX8_stepsUp 2 = .ok (.if_icmp .lt 9, 3) := by decide +kernel
theorem dX8_stepsUp_5 : decode cX8_stepsUp 5 = .ok (.iload_n 2, 1) := by decide +kernel
theorem dX8_stepsUp_6 : decode cX8_stepsUp 6 = .ok (.iload_n 1, 1) := by decide +kernel
theorem dX8_stepsUp_7 : decode cX8_stepsUp 7 = .ok (.isub, 1) := by decide +kernel
theorem dX8_stepsUp_8 : decode cX8_stepsUp 8 = .ok (.goto 11, 3) := by decide +kernel
theorem dX8_stepsUp_11 : decode cX8_stepsUp 11 = .ok (.iload_n 2, 1) := by decide +kernel
theorem dX8_stepsUp_12 : decode cX8_stepsUp 12 = .ok (.iload_n 1, 1) := by decide +kernel
theorem dX8_stepsUp_13 : decode cX8_stepsUp 13 = .ok (.isub, 1) := by decide +kernel
theorem dX8_stepsUp_14 : decode cX8_stepsUp 14 = .ok (.aload_n 0, 1) := by decide +kernel
theorem dX8_stepsUp_15 : decode cX8_stepsUp 15 = .ok (.getfield 15, 3) := by decide +kernel
theorem dX8_stepsUp_18 : decode cX8_stepsUp 18 = .ok (.iadd, 1) := by decide +kernel
theorem dX8_stepsUp_19 : decode cX8_stepsUp 19 = .ok (.ireturn, 1) := by decide +kernel
theorem dX8_seatBits_0 : decode cX8_seatBits 0 = .ok (.lconst 1, 1) := by decide +kernel
theorem dX8_seatBits_1 : decode cX8_seatBits 1 = .ok (.iconst 4, 1) := by decide +kernel
theorem dX8_seatBits_2 : decode cX8_seatBits 2 = .ok (.aload_n 0, 1) := by decide +kernel
theorem dX8_seatBits_3 : decode cX8_seatBits 3 = .ok (.getfield 15, 3) := by decide +kernel
theorem dX8_seatBits_6 : decode cX8_seatBits 6 = .ok (.imul, 1) := by decide +kernel
theorem dX8_seatBits_7 : decode cX8_seatBits 7 = .ok (.lshl, 1) := by decide +kernel
theorem dX8_seatBits_8 : decode cX8_seatBits 8 = .ok (.lconst 1, 1) := by decide +kernel
theorem dX8_seatBits_9 : decode cX8_seatBits 9 = .ok (.lsub, 1) := by decide +kernel
theorem dX8_seatBits_10 : decode cX8_seatBits 10 = .ok (.lreturn, 1) := by decide +kernel
theorem dX8_seatsAfter_0 : decode cX8_seatsAfter 0 = .ok (.aload_n 0, 1) := by decide +kernel
theorem dX8_seatsAfter_1 : decode cX8_seatsAfter 1 = .ok (.getfield 25, 3) := by decide +kernel
theorem dX8_seatsAfter_4 : decode cX8_seatsAfter 4 = .ok (.iconst 4, 1) := by decide +kernel
theorem dX8_seatsAfter_5 : decode cX8_seatsAfter 5 = .ok (.iload_n 1, 1) := by decide +kernel
theorem dX8_seatsAfter_6 : decode cX8_seatsAfter 6 = .ok (.imul, 1) := by decide +kernel
theorem dX8_seatsAfter_7 : decode cX8_seatsAfter 7 = .ok (.lshl, 1) := by decide +kernel
theorem dX8_seatsAfter_8 : decode cX8_seatsAfter 8 = .ok (.aload_n 0, 1) := by decide +kernel
theorem dX8_seatsAfter_9 : decode cX8_seatsAfter 9 = .ok (.getfield 25, 3) := by decide +kernel
theorem dX8_seatsAfter_12 : decode cX8_seatsAfter 12 = .ok (.iconst 4, 1) := by decide +kernel
theorem dX8_seatsAfter_13 : decode cX8_seatsAfter 13 = .ok (.aload_n 0, 1) := by decide +kernel
theorem dX8_seatsAfter_14 : decode cX8_seatsAfter 14 = .ok (.getfield 15, 3) := by decide +kernel
theorem dX8_seatsAfter_17 : decode cX8_seatsAfter 17 = .ok (.iload_n 1, 1) := by decide +kernel
theorem dX8_seatsAfter_18 : decode cX8_seatsAfter 18 = .ok (.isub, 1) := by decide +kernel
theorem dX8_seatsAfter_19 : decode cX8_seatsAfter 19 = .ok (.imul, 1) := by decide +kernel
theorem dX8_seatsAfter_20 : decode cX8_seatsAfter 20 = .ok (.lushr, 1) := by decide +kernel
theorem dX8_seatsAfter_21 : decode cX8_seatsAfter 21 = .ok (.lor, 1) := by decide +kernel
theorem dX8_seatsAfter_22 : decode cX8_seatsAfter 22 = .ok (.aload_n 0, 1) := by decide +kernel
theorem dX8_seatsAfter_23 : decode cX8_seatsAfter 23 = .ok (.invokevirtual 21, 3) := by decide +kernel
theorem dX8_seatsAfter_26 : decode cX8_seatsAfter 26 = .ok (.land, 1) := by decide +kernel
theorem dX8_seatsAfter_27 : decode cX8_seatsAfter 27 = .ok (.lreturn, 1) := by decide +kernel
theorem dX8_overBit_0 : decode cX8_overBit 0 = .ok (.lconst 1, 1) := by decide +kernel
theorem dX8_overBit_1 : decode cX8_overBit 1 = .ok (.bipush 8, 2) := by decide +kernel
theorem dX8_overBit_3 : decode cX8_overBit 3 = .ok (.iload_n 1, 1) := by decide +kernel
theorem dX8_overBit_4 : decode cX8_overBit 4 = .ok (.imul, 1) := by decide +kernel
theorem dX8_overBit_5 : decode cX8_overBit 5 = .ok (.iload_n 2, 1) := by decide +kernel
theorem dX8_overBit_6 : decode cX8_overBit 6 = .ok (.iadd, 1) := by decide +kernel
theorem dX8_overBit_7 : decode cX8_overBit 7 = .ok (.lshl, 1) := by decide +kernel
theorem dX8_overBit_8 : decode cX8_overBit 8 = .ok (.lreturn, 1) := by decide +kernel
theorem dX8_lies_0 : decode cX8_lies 0 = .ok (.aload_n 0, 1) := by decide +kernel
theorem dX8_lies_1 : decode cX8_lies 1 = .ok (.getfield 35, 3) := by decide +kernel
theorem dX8_lies_4 : decode cX8_lies 4 = .ok (.aload_n 0, 1) := by decide +kernel
theorem dX8_lies_5 : decode cX8_lies 5 = .ok (.iload_n 1, 1) := by decide +kernel
theorem dX8_lies_6 : decode cX8_lies 6 = .ok (.iload_n 2, 1) := by decide +kernel
theorem dX8_lies_7 : decode cX8_lies 7 = .ok (.invokevirtual 51, 3) := by decide +kernel
theorem dX8_lies_10 : decode cX8_lies 10 = .ok (.land, 1) := by decide +kernel
theorem dX8_lies_11 : decode cX8_lies 11 = .ok (.lconst 0, 1) := by decide +kernel
theorem dX8_lies_12 : decode cX8_lies 12 = .ok (.lcmp, 1) := by decide +kernel
theorem dX8_lies_13 : decode cX8_lies 13 = .ok (.ifCond .eq 7, 3) := by decide +kernel
theorem dX8_lies_16 : decode cX8_lies 16 = .ok (.iconst 1, 1) := by decide +kernel
theorem dX8_lies_17 : decode cX8_lies 17 = .ok (.goto 4, 3) := by decide +kernel
theorem dX8_lies_20 : decode cX8_lies 20 = .ok (.iconst 0, 1) := by decide +kernel
theorem dX8_lies_21 : decode cX8_lies 21 = .ok (.ireturn, 1) := by decide +kernel
theorem dX8_thoseBelow_0 : decode cX8_thoseBelow 0 = .ok (.aload_n 0, 1) := by decide +kernel
theorem dX8_thoseBelow_1 : decode cX8_thoseBelow 1 = .ok (.getfield 35, 3) := by decide +kernel
theorem dX8_thoseBelow_4 : decode cX8_thoseBelow 4 = .ok (.bipush 8, 2) := by decide +kernel
theorem dX8_thoseBelow_6 : decode cX8_thoseBelow 6 = .ok (.iload_n 1, 1) := by decide +kernel
theorem dX8_thoseBelow_7 : decode cX8_thoseBelow 7 = .ok (.imul, 1) := by decide +kernel
theorem dX8_thoseBelow_8 : decode cX8_thoseBelow 8 = .ok (.lushr, 1) := by decide +kernel
theorem dX8_thoseBelow_9 : decode cX8_thoseBelow 9 = .ok (.l2i, 1) := by decide +kernel
theorem dX8_thoseBelow_10 : decode cX8_thoseBelow 10 = .ok (.sipush 255, 3) := by decide +kernel
theorem dX8_thoseBelow_13 : decode cX8_thoseBelow 13 = .ok (.iand, 1) := by decide +kernel
theorem dX8_thoseBelow_14 : decode cX8_thoseBelow 14 = .ok (.ireturn, 1) := by decide +kernel
theorem dX8_thoseAbove_0 : decode cX8_thoseAbove 0 = .ok (.iconst 0, 1) := by decide +kernel
theorem dX8_thoseAbove_1 : decode cX8_thoseAbove 1 = .ok (.istore_n 2, 1) := by decide +kernel
theorem dX8_thoseAbove_2 : decode cX8_thoseAbove 2 = .ok (.iconst 0, 1) := by decide +kernel
theorem dX8_thoseAbove_3 : decode cX8_thoseAbove 3 = .ok (.istore_n 3, 1) := by decide +kernel
theorem dX8_thoseAbove_4 : decode cX8_thoseAbove 4 = .ok (.iload_n 3, 1) := by decide +kernel
theorem dX8_thoseAbove_5 : decode cX8_thoseAbove 5 = .ok (.aload_n 0, 1) := by decide +kernel
theorem dX8_thoseAbove_6 : decode cX8_thoseAbove 6 = .ok (.getfield 15, 3) := by decide +kernel
theorem dX8_thoseAbove_9 : decode cX8_thoseAbove 9 = .ok (.if_icmp .ge 24, 3) := by decide +kernel
theorem dX8_thoseAbove_12 : decode cX8_thoseAbove 12 = .ok (.aload_n 0, 1) := by decide +kernel
theorem dX8_thoseAbove_13 : decode cX8_thoseAbove 13 = .ok (.iload_n 3, 1) := by decide +kernel
theorem dX8_thoseAbove_14 : decode cX8_thoseAbove 14 = .ok (.iload_n 1, 1) := by decide +kernel
theorem dX8_thoseAbove_15 : decode cX8_thoseAbove 15 = .ok (.invokevirtual 55, 3) := by decide +kernel
theorem dX8_thoseAbove_18 : decode cX8_thoseAbove 18 = .ok (.ifCond .eq 9, 3) := by decide +kernel
theorem dX8_thoseAbove_21 : decode cX8_thoseAbove 21 = .ok (.iload_n 2, 1) := by decide +kernel
theorem dX8_thoseAbove_22 : decode cX8_thoseAbove 22 = .ok (.iconst 1, 1) := by decide +kernel
theorem dX8_thoseAbove_23 : decode cX8_thoseAbove 23 = .ok (.iload_n 3, 1) := by decide +kernel
theorem dX8_thoseAbove_24 : decode cX8_thoseAbove 24 = .ok (.ishl, 1) := by decide +kernel
theorem dX8_thoseAbove_25 : decode cX8_thoseAbove 25 = .ok (.ior, 1) := by decide +kernel
theorem dX8_thoseAbove_26 : decode cX8_thoseAbove 26 = .ok (.istore_n 2, 1) := by decide +kernel
theorem dX8_thoseAbove_27 : decode cX8_thoseAbove 27 = .ok (.iinc 3 1, 3) := by decide +kernel
theorem dX8_thoseAbove_30 : decode cX8_thoseAbove 30 = .ok (.goto (-26), 3) := by decide +kernel
theorem dX8_thoseAbove_33 : decode cX8_thoseAbove 33 = .ok (.iload_n 2, 1) := by decide +kernel
theorem dX8_thoseAbove_34 : decode cX8_thoseAbove 34 = .ok (.ireturn, 1) := by decide +kernel
theorem dX8_change_0 : decode cX8_change 0 = .ok (.iload_n 1, 1) := by decide +kernel
theorem dX8_change_1 : decode cX8_change 1 = .ok (.ifCond .lt 30, 3) := by decide +kernel
theorem dX8_change_4 : decode cX8_change 4 = .ok (.iload_n 1, 1) := by decide +kernel
theorem dX8_change_5 : decode cX8_change 5 = .ok (.iconst 5, 1) := by decide +kernel
theorem dX8_change_6 : decode cX8_change 6 = .ok (.if_icmp .gt 25, 3) := by decide +kernel
theorem dX8_change_9 : decode cX8_change 9 = .ok (.iload_n 2, 1) := by decide +kernel
theorem dX8_change_10 : decode cX8_change 10 = .ok (.ifCond .lt 21, 3) := by decide +kernel
theorem dX8_change_13 : decode cX8_change 13 = .ok (.iload_n 2, 1) := by decide +kernel
theorem dX8_change_14 : decode cX8_change 14 = .ok (.iload_n 1, 1) := by decide +kernel
theorem dX8_change_15 : decode cX8_change 15 = .ok (.iconst 3, 1) := by decide +kernel
theorem dX8_change_16 : decode cX8_change 16 = .ok (.if_icmp .ne 8, 3) := by decide +kernel
theorem dX8_change_19 : decode cX8_change 19 = .ok (.bipush 8, 2) := by decide +kernel
theorem dX8_change_21 : decode cX8_change 21 = .ok (.goto 7, 3) := by decide +kernel
theorem dX8_change_24 : decode cX8_change 24 = .ok (.aload_n 0, 1) := by decide +kernel
theorem dX8_change_25 : decode cX8_change 25 = .ok (.getfield 15, 3) := by decide +kernel
theorem dX8_change_28 : decode cX8_change 28 = .ok (.if_icmp .lt 5, 3) := by decide +kernel
theorem dX8_change_31 : decode cX8_change 31 = .ok (.iconst (-1), 1) := by decide +kernel
theorem dX8_change_32 : decode cX8_change 32 = .ok (.ireturn, 1) := by decide +kernel
theorem dX8_change_33 : decode cX8_change 33 = .ok (.iload_n 1, 1) := by decide +kernel
theorem dX8_change_34 : decode cX8_change 34 = .ok (.tableswitch 87 0 4 #[34, 41, 48, 66, 81], 34) := by decide +kernel
theorem dX8_change_68 : decode cX8_change 68 = .ok (.aload_n 0, 1) := by decide +kernel
theorem dX8_change_69 : decode cX8_change 69 = .ok (.iload_n 2, 1) := by decide +kernel
theorem dX8_change_70 : decode cX8_change 70 = .ok (.iconst 0, 1) := by decide +kernel
theorem dX8_change_71 : decode cX8_change 71 = .ok (.invokevirtual 59, 3) := by decide +kernel
theorem dX8_change_74 : decode cX8_change 74 = .ok (.ireturn, 1) := by decide +kernel
theorem dX8_change_75 : decode cX8_change 75 = .ok (.aload_n 0, 1) := by decide +kernel
theorem dX8_change_76 : decode cX8_change 76 = .ok (.iload_n 2, 1) := by decide +kernel
theorem dX8_change_77 : decode cX8_change 77 = .ok (.iconst 1, 1) := by decide +kernel
theorem dX8_change_78 : decode cX8_change 78 = .ok (.invokevirtual 59, 3) := by decide +kernel
theorem dX8_change_81 : decode cX8_change 81 = .ok (.ireturn, 1) := by decide +kernel
theorem dX8_change_82 : decode cX8_change 82 = .ok (.aload_n 0, 1) := by decide +kernel
theorem dX8_change_83 : decode cX8_change 83 = .ok (.dup, 1) := by decide +kernel
theorem dX8_change_84 : decode cX8_change 84 = .ok (.getfield 29, 3) := by decide +kernel
theorem dX8_change_87 : decode cX8_change 87 = .ok (.iconst 1, 1) := by decide +kernel
theorem dX8_change_88 : decode cX8_change 88 = .ok (.aload_n 0, 1) := by decide +kernel
theorem dX8_change_89 : decode cX8_change 89 = .ok (.iload_n 2, 1) := by decide +kernel
theorem dX8_change_90 : decode cX8_change 90 = .ok (.invokevirtual 63, 3) := by decide +kernel
theorem dX8_change_93 : decode cX8_change 93 = .ok (.ishl, 1) := by decide +kernel
theorem dX8_change_94 : decode cX8_change 94 = .ok (.ixor, 1) := by decide +kernel
theorem dX8_change_95 : decode cX8_change 95 = .ok (.putfield 29, 3) := by decide +kernel
theorem dX8_change_98 : decode cX8_change 98 = .ok (.iconst 1, 1) := by decide +kernel
theorem dX8_change_99 : decode cX8_change 99 = .ok (.ireturn, 1) := by decide +kernel
theorem dX8_change_100 : decode cX8_change 100 = .ok (.aload_n 0, 1) := by decide +kernel
theorem dX8_change_101 : decode cX8_change 101 = .ok (.aload_n 0, 1) := by decide +kernel
theorem dX8_change_102 : decode cX8_change 102 = .ok (.aload_n 0, 1) := by decide +kernel
theorem dX8_change_103 : decode cX8_change 103 = .ok (.iload_n 2, 1) := by decide +kernel
theorem dX8_change_104 : decode cX8_change 104 = .ok (.invokevirtual 66, 3) := by decide +kernel
theorem dX8_change_107 : decode cX8_change 107 = .ok (.invokevirtual 47, 3) := by decide +kernel
theorem dX8_change_110 : decode cX8_change 110 = .ok (.putfield 25, 3) := by decide +kernel
theorem dX8_change_113 : decode cX8_change 113 = .ok (.iconst 1, 1) := by decide +kernel
theorem dX8_change_114 : decode cX8_change 114 = .ok (.ireturn, 1) := by decide +kernel
theorem dX8_change_115 : decode cX8_change 115 = .ok (.aload_n 0, 1) := by decide +kernel
theorem dX8_change_116 : decode cX8_change 116 = .ok (.iload_n 2, 1) := by decide +kernel
theorem dX8_change_117 : decode cX8_change 117 = .ok (.invokevirtual 69, 3) := by decide +kernel
theorem dX8_change_120 : decode cX8_change 120 = .ok (.ireturn, 1) := by decide +kernel
theorem dX8_change_121 : decode cX8_change 121 = .ok (.aload_n 0, 1) := by decide +kernel
theorem dX8_change_122 : decode cX8_change 122 = .ok (.iload_n 2, 1) := by decide +kernel
theorem dX8_change_123 : decode cX8_change 123 = .ok (.invokevirtual 72, 3) := by decide +kernel
theorem dX8_change_126 : decode cX8_change 126 = .ok (.ireturn, 1) := by decide +kernel
theorem dX8_withinRing_0 : decode cX8_withinRing 0 = .ok (.iload_n 1, 1) := by decide +kernel
theorem dX8_withinRing_1 : decode cX8_withinRing 1 = .ok (.aload_n 0, 1) := by decide +kernel
theorem dX8_withinRing_2 : decode cX8_withinRing 2 = .ok (.getfield 15, 3) := by decide +kernel
theorem dX8_withinRing_5 : decode cX8_withinRing 5 = .ok (.if_icmp .lt 12, 3) := by decide +kernel
theorem dX8_withinRing_8 : decode cX8_withinRing 8 = .ok (.iload_n 1, 1) := by decide +kernel
theorem dX8_withinRing_9 : decode cX8_withinRing 9 = .ok (.aload_n 0, 1) := by decide +kernel
theorem dX8_withinRing_10 : decode cX8_withinRing 10 = .ok (.getfield 15, 3) := by decide +kernel
theorem dX8_withinRing_13 : decode cX8_withinRing 13 = .ok (.isub, 1) := by decide +kernel
theorem dX8_withinRing_14 : decode cX8_withinRing 14 = .ok (.goto 4, 3) := by decide +kernel
theorem dX8_withinRing_17 : decode cX8_withinRing 17 = .ok (.iload_n 1, 1) := by decide +kernel
theorem dX8_withinRing_18 : decode cX8_withinRing 18 = .ok (.ireturn, 1) := by decide +kernel
theorem dX8_pass_0 : decode cX8_pass 0 = .ok (.aload_n 0, 1) := by decide +kernel
theorem dX8_pass_1 : decode cX8_pass 1 = .ok (.iload_n 1, 1) := by decide +kernel
theorem dX8_pass_2 : decode cX8_pass 2 = .ok (.invokevirtual 75, 3) := by decide +kernel
theorem dX8_pass_5 : decode cX8_pass 5 = .ok (.istore_n 3, 1) := by decide +kernel
theorem dX8_pass_6 : decode cX8_pass 6 = .ok (.aload_n 0, 1) := by decide +kernel
theorem dX8_pass_7 : decode cX8_pass 7 = .ok (.iload_n 1, 1) := by decide +kernel
theorem dX8_pass_8 : decode cX8_pass 8 = .ok (.invokevirtual 63, 3) := by decide +kernel
theorem dX8_pass_11 : decode cX8_pass 11 = .ok (.istore 4, 2) := by decide +kernel
theorem dX8_pass_13 : decode cX8_pass 13 = .ok (.aload_n 0, 1) := by decide +kernel
theorem dX8_pass_14 : decode cX8_pass 14 = .ok (.iload_n 3, 1) := by decide +kernel
theorem dX8_pass_15 : decode cX8_pass 15 = .ok (.invokevirtual 63, 3) := by decide +kernel
theorem dX8_pass_18 : decode cX8_pass 18 = .ok (.istore 5, 2) := by decide +kernel
theorem dX8_pass_20 : decode cX8_pass 20 = .ok (.aload_n 0, 1) := by decide +kernel
theorem dX8_pass_21 : decode cX8_pass 21 = .ok (.getfield 35, 3) := by decide +kernel
theorem dX8_pass_24 : decode cX8_pass 24 = .ok (.lstore 6, 2) := by decide +kernel
theorem dX8_pass_26 : decode cX8_pass 26 = .ok (.iconst 0, 1) := by decide +kernel
theorem dX8_pass_27 : decode cX8_pass 27 = .ok (.istore 8, 2) := by decide +kernel
theorem dX8_pass_29 : decode cX8_pass 29 = .ok (.iload 8, 2) := by decide +kernel
theorem dX8_pass_31 : decode cX8_pass 31 = .ok (.iconst 4, 1) := by decide +kernel
theorem dX8_pass_32 : decode cX8_pass 32 = .ok (.if_icmp .ge 129, 3) := by decide +kernel
theorem dX8_pass_35 : decode cX8_pass 35 = .ok (.iload 8, 2) := by decide +kernel
theorem dX8_pass_37 : decode cX8_pass 37 = .ok (.iconst 1, 1) := by decide +kernel
theorem dX8_pass_38 : decode cX8_pass 38 = .ok (.iand, 1) := by decide +kernel
theorem dX8_pass_39 : decode cX8_pass 39 = .ok (.ifCond .ne 8, 3) := by decide +kernel
theorem dX8_pass_42 : decode cX8_pass 42 = .ok (.iload 4, 2) := by decide +kernel
theorem dX8_pass_44 : decode cX8_pass 44 = .ok (.goto 9, 3) := by decide +kernel
theorem dX8_pass_47 : decode cX8_pass 47 = .ok (.aload_n 0, 1) := by decide +kernel
theorem dX8_pass_48 : decode cX8_pass 48 = .ok (.iload 4, 2) := by decide +kernel
theorem dX8_pass_50 : decode cX8_pass 50 = .ok (.invokevirtual 78, 3) := by decide +kernel
theorem dX8_pass_53 : decode cX8_pass 53 = .ok (.istore 9, 2) := by decide +kernel
theorem dX8_pass_55 : decode cX8_pass 55 = .ok (.iload 8, 2) := by decide +kernel
theorem dX8_pass_57 : decode cX8_pass 57 = .ok (.iconst 2, 1) := by decide +kernel
theorem dX8_pass_58 : decode cX8_pass 58 = .ok (.iand, 1) := by decide +kernel
theorem dX8_pass_59 : decode cX8_pass 59 = .ok (.ifCond .ne 8, 3) := by decide +kernel
theorem dX8_pass_62 : decode cX8_pass 62 = .ok (.iload 5, 2) := by decide +kernel
theorem dX8_pass_64 : decode cX8_pass 64 = .ok (.goto 9, 3) := by decide +kernel
theorem dX8_pass_67 : decode cX8_pass 67 = .ok (.aload_n 0, 1) := by decide +kernel
theorem dX8_pass_68 : decode cX8_pass 68 = .ok (.iload 5, 2) := by decide +kernel
theorem dX8_pass_70 : decode cX8_pass 70 = .ok (.invokevirtual 78, 3) := by decide +kernel
theorem dX8_pass_73 : decode cX8_pass 73 = .ok (.istore 10, 2) := by decide +kernel
theorem dX8_pass_75 : decode cX8_pass 75 = .ok (.aload_n 0, 1) := by decide +kernel
theorem dX8_pass_76 : decode cX8_pass 76 = .ok (.iload 9, 2) := by decide +kernel
theorem dX8_pass_78 : decode cX8_pass 78 = .ok (.iload 10, 2) := by decide +kernel
theorem dX8_pass_80 : decode cX8_pass 80 = .ok (.invokevirtual 81, 3) := by decide +kernel
theorem dX8_pass_83 : decode cX8_pass 83 = .ok (.ifCond .ne 6, 3) := by decide +kernel
theorem dX8_pass_86 : decode cX8_pass 86 = .ok (.goto 69, 3) := by decide +kernel
theorem dX8_pass_89 : decode cX8_pass 89 = .ok (.iload_n 2, 1) := by decide +kernel
theorem dX8_pass_90 : decode cX8_pass 90 = .ok (.ifCond .eq 14, 3) := by decide +kernel
theorem dX8_pass_93 : decode cX8_pass 93 = .ok (.aload_n 0, 1) := by decide +kernel
theorem dX8_pass_94 : decode cX8_pass 94 = .ok (.iload 10, 2) := by decide +kernel
theorem dX8_pass_96 : decode cX8_pass 96 = .ok (.iload 9, 2) := by decide +kernel
theorem dX8_pass_98 : decode cX8_pass 98 = .ok (.invokevirtual 51, 3) := by decide +kernel
theorem dX8_pass_101 : decode cX8_pass 101 = .ok (.goto 11, 3) := by decide +kernel
theorem dX8_pass_104 : decode cX8_pass 104 = .ok (.aload_n 0, 1) := by decide +kernel
theorem dX8_pass_105 : decode cX8_pass 105 = .ok (.iload 9, 2) := by decide +kernel
theorem dX8_pass_107 : decode cX8_pass 107 = .ok (.iload 10, 2) := by decide +kernel
theorem dX8_pass_109 : decode cX8_pass 109 = .ok (.invokevirtual 51, 3) := by decide +kernel
theorem dX8_pass_112 : decode cX8_pass 112 = .ok (.lstore 11, 2) := by decide +kernel
theorem dX8_pass_114 : decode cX8_pass 114 = .ok (.lload 6, 2) := by decide +kernel
theorem dX8_pass_116 : decode cX8_pass 116 = .ok (.lload 11, 2) := by decide +kernel
theorem dX8_pass_118 : decode cX8_pass 118 = .ok (.land, 1) := by decide +kernel
theorem dX8_pass_119 : decode cX8_pass 119 = .ok (.lconst 0, 1) := by decide +kernel
theorem dX8_pass_120 : decode cX8_pass 120 = .ok (.lcmp, 1) := by decide +kernel
theorem dX8_pass_121 : decode cX8_pass 121 = .ok (.ifCond .eq 6, 3) := by decide +kernel
theorem dX8_pass_124 : decode cX8_pass 124 = .ok (.bipush (-5), 2) := by decide +kernel
theorem dX8_pass_126 : decode cX8_pass 126 = .ok (.ireturn, 1) := by decide +kernel
theorem dX8_pass_127 : decode cX8_pass 127 = .ok (.lload 6, 2) := by decide +kernel
theorem dX8_pass_129 : decode cX8_pass 129 = .ok (.iload_n 2, 1) := by decide +kernel
theorem dX8_pass_130 : decode cX8_pass 130 = .ok (.ifCond .eq 14, 3) := by decide +kernel
theorem dX8_pass_133 : decode cX8_pass 133 = .ok (.aload_n 0, 1) := by decide +kernel
theorem dX8_pass_134 : decode cX8_pass 134 = .ok (.iload 9, 2) := by decide +kernel
theorem dX8_pass_136 : decode cX8_pass 136 = .ok (.iload 10, 2) := by decide +kernel
theorem dX8_pass_138 : decode cX8_pass 138 = .ok (.invokevirtual 51, 3) := by decide +kernel
theorem dX8_pass_141 : decode cX8_pass 141 = .ok (.goto 11, 3) := by decide +kernel
theorem dX8_pass_144 : decode cX8_pass 144 = .ok (.aload_n 0, 1) := by decide +kernel
theorem dX8_pass_145 : decode cX8_pass 145 = .ok (.iload 10, 2) := by decide +kernel
theorem dX8_pass_147 : decode cX8_pass 147 = .ok (.iload 9, 2) := by decide +kernel
theorem dX8_pass_149 : decode cX8_pass 149 = .ok (.invokevirtual 51, 3) := by decide +kernel
theorem dX8_pass_152 : decode cX8_pass 152 = .ok (.lxor, 1) := by decide +kernel
theorem dX8_pass_153 : decode cX8_pass 153 = .ok (.lstore 6, 2) := by decide +kernel
theorem dX8_pass_155 : decode cX8_pass 155 = .ok (.iinc 8 1, 3) := by decide +kernel
theorem dX8_pass_158 : decode cX8_pass 158 = .ok (.goto (-129), 3) := by decide +kernel
theorem dX8_pass_161 : decode cX8_pass 161 = .ok (.aload_n 0, 1) := by decide +kernel
theorem dX8_pass_162 : decode cX8_pass 162 = .ok (.lload 6, 2) := by decide +kernel
theorem dX8_pass_164 : decode cX8_pass 164 = .ok (.putfield 35, 3) := by decide +kernel
theorem dX8_pass_167 : decode cX8_pass 167 = .ok (.iload 4, 2) := by decide +kernel
theorem dX8_pass_169 : decode cX8_pass 169 = .ok (.iload 5, 2) := by decide +kernel
theorem dX8_pass_171 : decode cX8_pass 171 = .ok (.ixor, 1) := by decide +kernel
theorem dX8_pass_172 : decode cX8_pass 172 = .ok (.i2l, 1) := by decide +kernel
theorem dX8_pass_173 : decode cX8_pass 173 = .ok (.lstore 8, 2) := by decide +kernel
theorem dX8_pass_175 : decode cX8_pass 175 = .ok (.aload_n 0, 1) := by decide +kernel
theorem dX8_pass_176 : decode cX8_pass 176 = .ok (.dup, 1) := by decide +kernel
theorem dX8_pass_177 : decode cX8_pass 177 = .ok (.getfield 25, 3) := by decide +kernel
theorem dX8_pass_180 : decode cX8_pass 180 = .ok (.lload 8, 2) := by decide +kernel
theorem dX8_pass_182 : decode cX8_pass 182 = .ok (.iconst 4, 1) := by decide +kernel
theorem dX8_pass_183 : decode cX8_pass 183 = .ok (.iload_n 1, 1) := by decide +kernel
theorem dX8_pass_184 : decode cX8_pass 184 = .ok (.imul, 1) := by decide +kernel
theorem dX8_pass_185 : decode cX8_pass 185 = .ok (.lshl, 1) := by decide +kernel
theorem dX8_pass_186 : decode cX8_pass 186 = .ok (.lload 8, 2) := by decide +kernel
theorem dX8_pass_188 : decode cX8_pass 188 = .ok (.iconst 4, 1) := by decide +kernel
theorem dX8_pass_189 : decode cX8_pass 189 = .ok (.iload_n 3, 1) := by decide +kernel
theorem dX8_pass_190 : decode cX8_pass 190 = .ok (.imul, 1) := by decide +kernel
theorem dX8_pass_191 : decode cX8_pass 191 = .ok (.lshl, 1) := by decide +kernel
theorem dX8_pass_192 : decode cX8_pass 192 = .ok (.lor, 1) := by decide +kernel
theorem dX8_pass_193 : decode cX8_pass 193 = .ok (.lxor, 1) := by decide +kernel
theorem dX8_pass_194 : decode cX8_pass 194 = .ok (.putfield 25, 3) := by decide +kernel
theorem dX8_pass_197 : decode cX8_pass 197 = .ok (.iconst 1, 1) := by decide +kernel
theorem dX8_pass_198 : decode cX8_pass 198 = .ok (.ireturn, 1) := by decide +kernel
theorem dX8_canCross_0 : decode cX8_canCross 0 = .ok (.iload_n 1, 1) := by decide +kernel
theorem dX8_canCross_1 : decode cX8_canCross 1 = .ok (.iload_n 2, 1) := by decide +kernel
theorem dX8_canCross_2 : decode cX8_canCross 2 = .ok (.isub, 1) := by decide +kernel
theorem dX8_canCross_3 : decode cX8_canCross 3 = .ok (.invokestatic 84, 3) := by decide +kernel
theorem dX8_canCross_6 : decode cX8_canCross 6 = .ok (.istore_n 3, 1) := by decide +kernel
theorem dX8_canCross_7 : decode cX8_canCross 7 = .ok (.iload_n 3, 1) := by decide +kernel
theorem dX8_canCross_8 : decode cX8_canCross 8 = .ok (.iconst 1, 1) := by decide +kernel
theorem dX8_canCross_9 : decode cX8_canCross 9 = .ok (.if_icmp .le 35, 3) := by decide +kernel
theorem dX8_canCross_12 : decode cX8_canCross 12 = .ok (.iload_n 3, 1) := by decide +kernel
theorem dX8_canCross_13 : decode cX8_canCross 13 = .ok (.aload_n 0, 1) := by decide +kernel
theorem dX8_canCross_14 : decode cX8_canCross 14 = .ok (.getfield 15, 3) := by decide +kernel
theorem dX8_canCross_17 : decode cX8_canCross 17 = .ok (.iconst 1, 1) := by decide +kernel
theorem dX8_canCross_18 : decode cX8_canCross 18 = .ok (.isub, 1) := by decide +kernel
theorem dX8_canCross_19 : decode cX8_canCross 19 = .ok (.if_icmp .ge 25, 3) := by decide +kernel
theorem dX8_canCross_22 : decode cX8_canCross 22 = .ok (.aload_n 0, 1) := by decide +kernel
theorem dX8_canCross_23 : decode cX8_canCross 23 = .ok (.getfield 32, 3) := by decide +kernel
theorem dX8_canCross_26 : decode cX8_canCross 26 = .ok (.iload_n 1, 1) := by decide +kernel
theorem dX8_canCross_27 : decode cX8_canCross 27 = .ok (.iushr, 1) := by decide +kernel
theorem dX8_canCross_28 : decode cX8_canCross 28 = .ok (.aload_n 0, 1) := by decide +kernel
theorem dX8_canCross_29 : decode cX8_canCross 29 = .ok (.getfield 32, 3) := by decide +kernel
theorem dX8_canCross_32 : decode cX8_canCross 32 = .ok (.iload_n 2, 1) := by decide +kernel
theorem dX8_canCross_33 : decode cX8_canCross 33 = .ok (.iushr, 1) := by decide +kernel
theorem dX8_canCross_34 : decode cX8_canCross 34 = .ok (.iand, 1) := by decide +kernel
theorem dX8_canCross_35 : decode cX8_canCross 35 = .ok (.iconst 1, 1) := by decide +kernel
theorem dX8_canCross_36 : decode cX8_canCross 36 = .ok (.iand, 1) := by decide +kernel
theorem dX8_canCross_37 : decode cX8_canCross 37 = .ok (.ifCond .eq 7, 3) := by decide +kernel
theorem dX8_canCross_40 : decode cX8_canCross 40 = .ok (.iconst 1, 1) := by decide +kernel
theorem dX8_canCross_41 : decode cX8_canCross 41 = .ok (.goto 4, 3) := by decide +kernel
theorem dX8_canCross_44 : decode cX8_canCross 44 = .ok (.iconst 0, 1) := by decide +kernel
theorem dX8_canCross_45 : decode cX8_canCross 45 = .ok (.ireturn, 1) := by decide +kernel
theorem dX8_letGo_0 : decode cX8_letGo 0 = .ok (.aload_n 0, 1) := by decide +kernel
theorem dX8_letGo_1 : decode cX8_letGo 1 = .ok (.getfield 32, 3) := by decide +kernel
theorem dX8_letGo_4 : decode cX8_letGo 4 = .ok (.iload_n 1, 1) := by decide +kernel
theorem dX8_letGo_5 : decode cX8_letGo 5 = .ok (.iushr, 1) := by decide +kernel
theorem dX8_letGo_6 : decode cX8_letGo 6 = .ok (.iconst 1, 1) := by decide +kernel
theorem dX8_letGo_7 : decode cX8_letGo 7 = .ok (.iand, 1) := by decide +kernel
theorem dX8_letGo_8 : decode cX8_letGo 8 = .ok (.ifCond .ne 6, 3) := by decide +kernel
theorem dX8_letGo_11 : decode cX8_letGo 11 = .ok (.bipush (-2), 2) := by decide +kernel
theorem dX8_letGo_13 : decode cX8_letGo 13 = .ok (.ireturn, 1) := by decide +kernel
theorem dX8_letGo_14 : decode cX8_letGo 14 = .ok (.aload_n 0, 1) := by decide +kernel
theorem dX8_letGo_15 : decode cX8_letGo 15 = .ok (.dup, 1) := by decide +kernel
theorem dX8_letGo_16 : decode cX8_letGo 16 = .ok (.getfield 32, 3) := by decide +kernel
theorem dX8_letGo_19 : decode cX8_letGo 19 = .ok (.iconst 1, 1) := by decide +kernel
theorem dX8_letGo_20 : decode cX8_letGo 20 = .ok (.iload_n 1, 1) := by decide +kernel
theorem dX8_letGo_21 : decode cX8_letGo 21 = .ok (.ishl, 1) := by decide +kernel
theorem dX8_letGo_22 : decode cX8_letGo 22 = .ok (.iconst (-1), 1) := by decide +kernel
theorem dX8_letGo_23 : decode cX8_letGo 23 = .ok (.ixor, 1) := by decide +kernel
theorem dX8_letGo_24 : decode cX8_letGo 24 = .ok (.iand, 1) := by decide +kernel
theorem dX8_letGo_25 : decode cX8_letGo 25 = .ok (.putfield 32, 3) := by decide +kernel
theorem dX8_letGo_28 : decode cX8_letGo 28 = .ok (.aload_n 0, 1) := by decide +kernel
theorem dX8_letGo_29 : decode cX8_letGo 29 = .ok (.dup, 1) := by decide +kernel
theorem dX8_letGo_30 : decode cX8_letGo 30 = .ok (.getfield 35, 3) := by decide +kernel
theorem dX8_letGo_33 : decode cX8_letGo 33 = .ok (.ldc2_w 89, 3) := by decide +kernel
theorem dX8_letGo_36 : decode cX8_letGo 36 = .ok (.bipush 8, 2) := by decide +kernel
theorem dX8_letGo_38 : decode cX8_letGo 38 = .ok (.iload_n 1, 1) := by decide +kernel
theorem dX8_letGo_39 : decode cX8_letGo 39 = .ok (.imul, 1) := by decide +kernel
theorem dX8_letGo_40 : decode cX8_letGo 40 = .ok (.lshl, 1) := by decide +kernel
theorem dX8_letGo_41 : decode cX8_letGo 41 = .ok (.ldc2_w 91, 3) := by decide +kernel
theorem dX8_letGo_44 : decode cX8_letGo 44 = .ok (.iload_n 1, 1) := by decide +kernel
theorem dX8_letGo_45 : decode cX8_letGo 45 = .ok (.lshl, 1) := by decide +kernel
theorem dX8_letGo_46 : decode cX8_letGo 46 = .ok (.lor, 1) := by decide +kernel
theorem dX8_letGo_47 : decode cX8_letGo 47 = .ok (.ldc2_w 93, 3) := by decide +kernel
theorem dX8_letGo_50 : decode cX8_letGo 50 = .ok (.lxor, 1) := by decide +kernel
theorem dX8_letGo_51 : decode cX8_letGo 51 = .ok (.land, 1) := by decide +kernel
theorem dX8_letGo_52 : decode cX8_letGo 52 = .ok (.putfield 35, 3) := by decide +kernel
theorem dX8_letGo_55 : decode cX8_letGo 55 = .ok (.iconst 1, 1) := by decide +kernel
theorem dX8_letGo_56 : decode cX8_letGo 56 = .ok (.ireturn, 1) := by decide +kernel
theorem dX8_takeUp_0 : decode cX8_takeUp 0 = .ok (.aload_n 0, 1) := by decide +kernel
theorem dX8_takeUp_1 : decode cX8_takeUp 1 = .ok (.aload_n 0, 1) := by decide +kernel
theorem dX8_takeUp_2 : decode cX8_takeUp 2 = .ok (.iload_n 1, 1) := by decide +kernel
theorem dX8_takeUp_3 : decode cX8_takeUp 3 = .ok (.invokevirtual 43, 3) := by decide +kernel
theorem dX8_takeUp_6 : decode cX8_takeUp 6 = .ok (.aload_n 0, 1) := by decide +kernel
theorem dX8_takeUp_7 : decode cX8_takeUp 7 = .ok (.aload_n 0, 1) := by decide +kernel
theorem dX8_takeUp_8 : decode cX8_takeUp 8 = .ok (.iload_n 1, 1) := by decide +kernel
theorem dX8_takeUp_9 : decode cX8_takeUp 9 = .ok (.invokevirtual 75, 3) := by decide +kernel
theorem dX8_takeUp_12 : decode cX8_takeUp 12 = .ok (.invokevirtual 43, 3) := by decide +kernel
theorem dX8_takeUp_15 : decode cX8_takeUp 15 = .ok (.invokevirtual 95, 3) := by decide +kernel
theorem dX8_takeUp_18 : decode cX8_takeUp 18 = .ok (.istore_n 2, 1) := by decide +kernel
theorem dX8_takeUp_19 : decode cX8_takeUp 19 = .ok (.aload_n 0, 1) := by decide +kernel
theorem dX8_takeUp_20 : decode cX8_takeUp 20 = .ok (.getfield 32, 3) := by decide +kernel
theorem dX8_takeUp_23 : decode cX8_takeUp 23 = .ok (.iload_n 1, 1) := by decide +kernel
theorem dX8_takeUp_24 : decode cX8_takeUp 24 = .ok (.iushr, 1) := by decide +kernel
theorem dX8_takeUp_25 : decode cX8_takeUp 25 = .ok (.iconst 1, 1) := by decide +kernel
theorem dX8_takeUp_26 : decode cX8_takeUp 26 = .ok (.iand, 1) := by decide +kernel
theorem dX8_takeUp_27 : decode cX8_takeUp 27 = .ok (.ifCond .ne 18, 3) := by decide +kernel
theorem dX8_takeUp_30 : decode cX8_takeUp 30 = .ok (.iload_n 2, 1) := by decide +kernel
theorem dX8_takeUp_31 : decode cX8_takeUp 31 = .ok (.iconst 1, 1) := by decide +kernel
theorem dX8_takeUp_32 : decode cX8_takeUp 32 = .ok (.if_icmp .eq 16, 3) := by decide +kernel
theorem dX8_takeUp_35 : decode cX8_takeUp 35 = .ok (.iload_n 2, 1) := by decide +kernel
theorem dX8_takeUp_36 : decode cX8_takeUp 36 = .ok (.aload_n 0, 1) := by decide +kernel
theorem dX8_takeUp_37 : decode cX8_takeUp 37 = .ok (.getfield 15, 3) := by decide +kernel
theorem dX8_takeUp_40 : decode cX8_takeUp 40 = .ok (.iconst 1, 1) := by decide +kernel
theorem dX8_takeUp_41 : decode cX8_takeUp 41 = .ok (.isub, 1) := by decide +kernel
theorem dX8_takeUp_42 : decode cX8_takeUp 42 = .ok (.if_icmp .eq 6, 3) := by decide +kernel
theorem dX8_takeUp_45 : decode cX8_takeUp 45 = .ok (.bipush (-2), 2) := by decide +kernel
theorem dX8_takeUp_47 : decode cX8_takeUp 47 = .ok (.ireturn, 1) := by decide +kernel
theorem dX8_takeUp_48 : decode cX8_takeUp 48 = .ok (.aload_n 0, 1) := by decide +kernel
theorem dX8_takeUp_49 : decode cX8_takeUp 49 = .ok (.dup, 1) := by decide +kernel
theorem dX8_takeUp_50 : decode cX8_takeUp 50 = .ok (.getfield 32, 3) := by decide +kernel
theorem dX8_takeUp_53 : decode cX8_takeUp 53 = .ok (.iconst 1, 1) := by decide +kernel
theorem dX8_takeUp_54 : decode cX8_takeUp 54 = .ok (.iload_n 1, 1) := by decide +kernel
theorem dX8_takeUp_55 : decode cX8_takeUp 55 = .ok (.ishl, 1) := by decide +kernel
theorem dX8_takeUp_56 : decode cX8_takeUp 56 = .ok (.ior, 1) := by decide +kernel
theorem dX8_takeUp_57 : decode cX8_takeUp 57 = .ok (.putfield 32, 3) := by decide +kernel
theorem dX8_takeUp_60 : decode cX8_takeUp 60 = .ok (.iconst 1, 1) := by decide +kernel
theorem dX8_takeUp_61 : decode cX8_takeUp 61 = .ok (.ireturn, 1) := by decide +kernel
theorem dX8_freeOf_0 : decode cX8_freeOf 0 = .ok (.iconst 0, 1) := by decide +kernel
theorem dX8_freeOf_1 : decode cX8_freeOf 1 = .ok (.istore_n 2, 1) := by decide +kernel
theorem dX8_freeOf_2 : decode cX8_freeOf 2 = .ok (.iconst 0, 1) := by decide +kernel
theorem dX8_freeOf_3 : decode cX8_freeOf 3 = .ok (.istore_n 3, 1) := by decide +kernel
theorem dX8_freeOf_4 : decode cX8_freeOf 4 = .ok (.iload_n 3, 1) := by decide +kernel
theorem dX8_freeOf_5 : decode cX8_freeOf 5 = .ok (.aload_n 0, 1) := by decide +kernel
theorem dX8_freeOf_6 : decode cX8_freeOf 6 = .ok (.getfield 15, 3) := by decide +kernel
theorem dX8_freeOf_9 : decode cX8_freeOf 9 = .ok (.if_icmp .ge 33, 3) := by decide +kernel
theorem dX8_freeOf_12 : decode cX8_freeOf 12 = .ok (.iload_n 1, 1) := by decide +kernel
theorem dX8_freeOf_13 : decode cX8_freeOf 13 = .ok (.iload_n 3, 1) := by decide +kernel
theorem dX8_freeOf_14 : decode cX8_freeOf 14 = .ok (.iushr, 1) := by decide +kernel
theorem dX8_freeOf_15 : decode cX8_freeOf 15 = .ok (.iconst 1, 1) := by decide +kernel
theorem dX8_freeOf_16 : decode cX8_freeOf 16 = .ok (.iand, 1) := by decide +kernel
theorem dX8_freeOf_17 : decode cX8_freeOf 17 = .ok (.ifCond .eq 19, 3) := by decide +kernel
theorem dX8_freeOf_20 : decode cX8_freeOf 20 = .ok (.aload_n 0, 1) := by decide +kernel
theorem dX8_freeOf_21 : decode cX8_freeOf 21 = .ok (.iload_n 3, 1) := by decide +kernel
theorem dX8_freeOf_22 : decode cX8_freeOf 22 = .ok (.invokevirtual 102, 3) := by decide +kernel
theorem dX8_freeOf_25 : decode cX8_freeOf 25 = .ok (.iload_n 1, 1) := by decide +kernel
theorem dX8_freeOf_26 : decode cX8_freeOf 26 = .ok (.iand, 1) := by decide +kernel
theorem dX8_freeOf_27 : decode cX8_freeOf 27 = .ok (.ifCond .ne 9, 3) := by decide +kernel
theorem dX8_freeOf_30 : decode cX8_freeOf 30 = .ok (.iload_n 2, 1) := by decide +kernel
theorem dX8_freeOf_31 : decode cX8_freeOf 31 = .ok (.iconst 1, 1) := by decide +kernel
theorem dX8_freeOf_32 : decode cX8_freeOf 32 = .ok (.iload_n 3, 1) := by decide +kernel
theorem dX8_freeOf_33 : decode cX8_freeOf 33 = .ok (.ishl, 1) := by decide +kernel
theorem dX8_freeOf_34 : decode cX8_freeOf 34 = .ok (.ior, 1) := by decide +kernel
theorem dX8_freeOf_35 : decode cX8_freeOf 35 = .ok (.istore_n 2, 1) := by decide +kernel
theorem dX8_freeOf_36 : decode cX8_freeOf 36 = .ok (.iinc 3 1, 3) := by decide +kernel
theorem dX8_freeOf_39 : decode cX8_freeOf 39 = .ok (.goto (-35), 3) := by decide +kernel
theorem dX8_freeOf_42 : decode cX8_freeOf 42 = .ok (.iload_n 2, 1) := by decide +kernel
theorem dX8_freeOf_43 : decode cX8_freeOf 43 = .ok (.ireturn, 1) := by decide +kernel
theorem dX8_layerOf_0 : decode cX8_layerOf 0 = .ok (.aload_n 0, 1) := by decide +kernel
theorem dX8_layerOf_1 : decode cX8_layerOf 1 = .ok (.getfield 32, 3) := by decide +kernel
theorem dX8_layerOf_4 : decode cX8_layerOf 4 = .ok (.istore_n 2, 1) := by decide +kernel
theorem dX8_layerOf_5 : decode cX8_layerOf 5 = .ok (.iconst 0, 1) := by decide +kernel
theorem dX8_layerOf_6 : decode cX8_layerOf 6 = .ok (.istore_n 3, 1) := by decide +kernel
theorem dX8_layerOf_7 : decode cX8_layerOf 7 = .ok (.iload_n 3, 1) := by decide +kernel
theorem dX8_layerOf_8 : decode cX8_layerOf 8 = .ok (.aload_n 0, 1) := by decide +kernel
theorem dX8_layerOf_9 : decode cX8_layerOf 9 = .ok (.getfield 15, 3) := by decide +kernel
theorem dX8_layerOf_12 : decode cX8_layerOf 12 = .ok (.if_icmp .ge 34, 3) := by decide +kernel
theorem dX8_layerOf_15 : decode cX8_layerOf 15 = .ok (.aload_n 0, 1) := by decide +kernel
theorem dX8_layerOf_16 : decode cX8_layerOf 16 = .ok (.iload_n 2, 1) := by decide +kernel
theorem dX8_layerOf_17 : decode cX8_layerOf 17 = .ok (.invokevirtual 105, 3) := by decide +kernel
theorem dX8_layerOf_20 : decode cX8_layerOf 20 = .ok (.istore 4, 2) := by decide +kernel
theorem dX8_layerOf_22 : decode cX8_layerOf 22 = .ok (.iload 4, 2) := by decide +kernel
theorem dX8_layerOf_24 : decode cX8_layerOf 24 = .ok (.iload_n 1, 1) := by decide +kernel
theorem dX8_layerOf_25 : decode cX8_layerOf 25 = .ok (.iushr, 1) := by decide +kernel
theorem dX8_layerOf_26 : decode cX8_layerOf 26 = .ok (.iconst 1, 1) := by decide +kernel
theorem dX8_layerOf_27 : decode cX8_layerOf 27 = .ok (.iand, 1) := by decide +kernel
theorem dX8_layerOf_28 : decode cX8_layerOf 28 = .ok (.ifCond .eq 5, 3) := by decide +kernel
theorem dX8_layerOf_31 : decode cX8_layerOf 31 = .ok (.iload_n 3, 1) := by decide +kernel
theorem dX8_layerOf_32 : decode cX8_layerOf 32 = .ok (.ireturn, 1) := by decide +kernel
theorem dX8_layerOf_33 : decode cX8_layerOf 33 = .ok (.iload_n 2, 1) := by decide +kernel
theorem dX8_layerOf_34 : decode cX8_layerOf 34 = .ok (.iload 4, 2) := by decide +kernel
theorem dX8_layerOf_36 : decode cX8_layerOf 36 = .ok (.iconst (-1), 1) := by decide +kernel
theorem dX8_layerOf_37 : decode cX8_layerOf 37 = .ok (.ixor, 1) := by decide +kernel
theorem dX8_layerOf_38 : decode cX8_layerOf 38 = .ok (.iand, 1) := by decide +kernel
theorem dX8_layerOf_39 : decode cX8_layerOf 39 = .ok (.istore_n 2, 1) := by decide +kernel
theorem dX8_layerOf_40 : decode cX8_layerOf 40 = .ok (.iinc 3 1, 3) := by decide +kernel
theorem dX8_layerOf_43 : decode cX8_layerOf 43 = .ok (.goto (-36), 3) := by decide +kernel
theorem dX8_layerOf_46 : decode cX8_layerOf 46 = .ok (.bipush (-4), 2) := by decide +kernel
theorem dX8_layerOf_48 : decode cX8_layerOf 48 = .ok (.ireturn, 1) := by decide +kernel
theorem dX9_init_0 : decode cX9_init 0 = .ok (.aload_n 0, 1) := by decide +kernel
theorem dX9_init_1 : decode cX9_init 1 = .ok (.invokespecial 1, 3) := by decide +kernel
theorem dX9_init_4 : decode cX9_init 4 = .ok (.aload_n 0, 1) := by decide +kernel
theorem dX9_init_5 : decode cX9_init 5 = .ok (.new 7, 3) := by decide +kernel
theorem dX9_init_8 : decode cX9_init 8 = .ok (.dup, 1) := by decide +kernel
theorem dX9_init_9 : decode cX9_init 9 = .ok (.invokespecial 9, 3) := by decide +kernel
theorem dX9_init_12 : decode cX9_init 12 = .ok (.putfield 10, 3) := by decide +kernel
theorem dX9_init_15 : decode cX9_init 15 = .ok (.aload_n 0, 1) := by decide +kernel
theorem dX9_init_16 : decode cX9_init 16 = .ok (.new 7, 3) := by decide +kernel
theorem dX9_init_19 : decode cX9_init 19 = .ok (.dup, 1) := by decide +kernel
theorem dX9_init_20 : decode cX9_init 20 = .ok (.invokespecial 9, 3) := by decide +kernel
theorem dX9_init_23 : decode cX9_init 23 = .ok (.putfield 16, 3) := by decide +kernel
theorem dX9_init_26 : decode cX9_init 26 = .ok (.aload_n 0, 1) := by decide +kernel
theorem dX9_init_27 : decode cX9_init 27 = .ok (.new 19, 3) := by decide +kernel
theorem dX9_init_30 : decode cX9_init 30 = .ok (.dup, 1) := by decide +kernel
theorem dX9_init_31 : decode cX9_init 31 = .ok (.invokespecial 21, 3) := by decide +kernel
theorem dX9_init_34 : decode cX9_init 34 = .ok (.putfield 22, 3) := by decide +kernel
theorem dX9_init_37 : decode cX9_init 37 = .ok (.aload_n 0, 1) := by decide +kernel
theorem dX9_init_38 : decode cX9_init 38 = .ok (.bipush 6, 2) := by decide +kernel
theorem dX9_init_40 : decode cX9_init 40 = .ok (.anewarray 19, 3) := by decide +kernel
theorem dX9_init_43 : decode cX9_init 43 = .ok (.putfield 26, 3) := by decide +kernel
theorem dX9_init_46 : decode cX9_init 46 = .ok (.aload_n 0, 1) := by decide +kernel
theorem dX9_init_47 : decode cX9_init 47 = .ok (.new 30, 3) := by decide +kernel
theorem dX9_init_50 : decode cX9_init 50 = .ok (.dup, 1) := by decide +kernel
theorem dX9_init_51 : decode cX9_init 51 = .ok (.invokespecial 32, 3) := by decide +kernel
theorem dX9_init_54 : decode cX9_init 54 = .ok (.putfield 33, 3) := by decide +kernel
theorem dX9_init_57 : decode cX9_init 57 = .ok (.aload_n 0, 1) := by decide +kernel
theorem dX9_init_58 : decode cX9_init 58 = .ok (.new 37, 3) := by decide +kernel
theorem dX9_init_61 : decode cX9_init 61 = .ok (.dup, 1) := by decide +kernel
theorem dX9_init_62 : decode cX9_init 62 = .ok (.invokespecial 39, 3) := by decide +kernel
theorem dX9_init_65 : decode cX9_init 65 = .ok (.putfield 40, 3) := by decide +kernel
theorem dX9_init_68 : decode cX9_init 68 = .ok (.aload_n 0, 1) := by decide +kernel
theorem dX9_init_69 : decode cX9_init 69 = .ok (.new 44, 3) := by decide +kernel
theorem dX9_init_72 : decode cX9_init 72 = .ok (.dup, 1) := by decide +kernel
theorem dX9_init_73 : decode cX9_init 73 = .ok (.invokespecial 46, 3) := by decide +kernel
theorem dX9_init_76 : decode cX9_init 76 = .ok (.putfield 47, 3) := by decide +kernel
theorem dX9_init_79 : decode cX9_init 79 = .ok (.aload_n 0, 1) := by decide +kernel
theorem dX9_init_80 : decode cX9_init 80 = .ok (.bipush 8, 2) := by decide +kernel
theorem dX9_init_82 : decode cX9_init 82 = .ok (.anewarray 51, 3) := by decide +kernel
theorem dX9_init_85 : decode cX9_init 85 = .ok (.putfield 53, 3) := by decide +kernel
theorem dX9_init_88 : decode cX9_init 88 = .ok (.aload_n 0, 1) := by decide +kernel
theorem dX9_init_89 : decode cX9_init 89 = .ok (.iconst 4, 1) := by decide +kernel
theorem dX9_init_90 : decode cX9_init 90 = .ok (.anewarray 57, 3) := by decide +kernel
theorem dX9_init_93 : decode cX9_init 93 = .ok (.putfield 59, 3) := by decide +kernel
theorem dX9_init_96 : decode cX9_init 96 = .ok (.aload_n 0, 1) := by decide +kernel
theorem dX9_init_97 : decode cX9_init 97 = .ok (.new 63, 3) := by decide +kernel
theorem dX9_init_100 : decode cX9_init 100 = .ok (.dup, 1) := by decide +kernel
theorem dX9_init_101 : decode cX9_init 101 = .ok (.invokespecial 65, 3) := by decide +kernel
theorem dX9_init_104 : decode cX9_init 104 = .ok (.putfield 66, 3) := by decide +kernel
theorem dX9_init_107 : decode cX9_init 107 = .ok (.aload_n 0, 1) := by decide +kernel
theorem dX9_init_108 : decode cX9_init 108 = .ok (.iconst 4, 1) := by decide +kernel
theorem dX9_init_109 : decode cX9_init 109 = .ok (.anewarray 70, 3) := by decide +kernel
theorem dX9_init_112 : decode cX9_init 112 = .ok (.putfield 72, 3) := by decide +kernel
theorem dX9_init_115 : decode cX9_init 115 = .ok (.iconst 0, 1) := by decide +kernel
theorem dX9_init_116 : decode cX9_init 116 = .ok (.istore_n 1, 1) := by decide +kernel
theorem dX9_init_117 : decode cX9_init 117 = .ok (.iload_n 1, 1) := by decide +kernel
theorem dX9_init_118 : decode cX9_init 118 = .ok (.aload_n 0, 1) := by decide +kernel
theorem dX9_init_119 : decode cX9_init 119 = .ok (.getfield 26, 3) := by decide +kernel
theorem dX9_init_122 : decode cX9_init 122 = .ok (.arraylength, 1) := by decide +kernel
theorem dX9_init_123 : decode cX9_init 123 = .ok (.if_icmp .ge 22, 3) := by decide +kernel
theorem dX9_init_126 : decode cX9_init 126 = .ok (.aload_n 0, 1) := by decide +kernel
theorem dX9_init_127 : decode cX9_init 127 = .ok (.getfield 26, 3) := by decide +kernel
theorem dX9_init_130 : decode cX9_init 130 = .ok (.iload_n 1, 1) := by decide +kernel
theorem dX9_init_131 : decode cX9_init 131 = .ok (.new 19, 3) := by decide +kernel
theorem dX9_init_134 : decode cX9_init 134 = .ok (.dup, 1) := by decide +kernel
theorem dX9_init_135 : decode cX9_init 135 = .ok (.invokespecial 21, 3) := by decide +kernel
theorem dX9_init_138 : decode cX9_init 138 = .ok (.aastore, 1) := by decide +kernel
theorem dX9_init_139 : decode cX9_init 139 = .ok (.iinc 1 1, 3) := by decide +kernel
theorem dX9_init_142 : decode cX9_init 142 = .ok (.goto (-25), 3) := by decide +kernel
theorem dX9_init_145 : decode cX9_init 145 = .ok (.iconst 0, 1) := by decide +kernel
theorem dX9_init_146 : decode cX9_init 146 = .ok (.istore_n 1, 1) := by decide +kernel
theorem dX9_init_147 : decode cX9_init 147 = .ok (.iload_n 1, 1) := by decide +kernel
theorem dX9_init_148 : decode cX9_init 148 = .ok (.aload_n 0, 1) := by decide +kernel
theorem dX9_init_149 : decode cX9_init 149 = .ok (.getfield 53, 3) := by decide +kernel
theorem dX9_init_152 : decode cX9_init 152 = .ok (.arraylength, 1) := by decide +kernel
theorem dX9_init_153 : decode cX9_init 153 = .ok (.if_icmp .ge 22, 3) := by decide +kernel
theorem dX9_init_156 : decode cX9_init 156 = .ok (.aload_n 0, 1) := by decide +kernel
theorem dX9_init_157 : decode cX9_init 157 = .ok (.getfield 53, 3) := by decide +kernel
theorem dX9_init_160 : decode cX9_init 160 = .ok (.iload_n 1, 1) := by decide +kernel
theorem dX9_init_161 : decode cX9_init 161 = .ok (.new 51, 3) := by decide +kernel
theorem dX9_init_164 : decode cX9_init 164 = .ok (.dup, 1) := by decide +kernel
theorem dX9_init_165 : decode cX9_init 165 = .ok (.invokespecial 76, 3) := by decide +kernel
theorem dX9_init_168 : decode cX9_init 168 = .ok (.aastore, 1) := by decide +kernel
theorem dX9_init_169 : decode cX9_init 169 = .ok (.iinc 1 1, 3) := by decide +kernel
theorem dX9_init_172 : decode cX9_init 172 = .ok (.goto (-25), 3) := by decide +kernel
theorem dX9_init_175 : decode cX9_init 175 = .ok (.iconst 0, 1) := by decide +kernel
theorem dX9_init_176 : decode cX9_init 176 = .ok (.istore_n 1, 1) := by decide +kernel
theorem dX9_init_177 : decode cX9_init 177 = .ok (.iload_n 1, 1) := by decide +kernel
theorem dX9_init_178 : decode cX9_init 178 = .ok (.aload_n 0, 1) := by decide +kernel
theorem dX9_init_179 : decode cX9_init 179 = .ok (.getfield 59, 3) := by decide +kernel
theorem dX9_init_182 : decode cX9_init 182 = .ok (.arraylength, 1) := by decide +kernel
theorem dX9_init_183 : decode cX9_init 183 = .ok (.if_icmp .ge 22, 3) := by decide +kernel
theorem dX9_init_186 : decode cX9_init 186 = .ok (.aload_n 0, 1) := by decide +kernel
theorem dX9_init_187 : decode cX9_init 187 = .ok (.getfield 59, 3) := by decide +kernel
theorem dX9_init_190 : decode cX9_init 190 = .ok (.iload_n 1, 1) := by decide +kernel
theorem dX9_init_191 : decode cX9_init 191 = .ok (.new 57, 3) := by decide +kernel
theorem dX9_init_194 : decode cX9_init 194 = .ok (.dup, 1) := by decide +kernel
theorem dX9_init_195 : decode cX9_init 195 = .ok (.invokespecial 77, 3) := by decide +kernel
theorem dX9_init_198 : decode cX9_init 198 = .ok (.aastore, 1) := by decide +kernel
theorem dX9_init_199 : decode cX9_init 199 = .ok (.iinc 1 1, 3) := by decide +kernel
theorem dX9_init_202 : decode cX9_init 202 = .ok (.goto (-25), 3) := by decide +kernel
theorem dX9_init_205 : decode cX9_init 205 = .ok (.iconst 0, 1) := by decide +kernel
theorem dX9_init_206 : decode cX9_init 206 = .ok (.istore_n 1, 1) := by decide +kernel
theorem dX9_init_207 : decode cX9_init 207 = .ok (.iload_n 1, 1) := by decide +kernel
theorem dX9_init_208 : decode cX9_init 208 = .ok (.aload_n 0, 1) := by decide +kernel
theorem dX9_init_209 : decode cX9_init 209 = .ok (.getfield 72, 3) := by decide +kernel
theorem dX9_init_212 : decode cX9_init 212 = .ok (.arraylength, 1) := by decide +kernel
theorem dX9_init_213 : decode cX9_init 213 = .ok (.if_icmp .ge 22, 3) := by decide +kernel
theorem dX9_init_216 : decode cX9_init 216 = .ok (.aload_n 0, 1) := by decide +kernel
theorem dX9_init_217 : decode cX9_init 217 = .ok (.getfield 72, 3) := by decide +kernel
theorem dX9_init_220 : decode cX9_init 220 = .ok (.iload_n 1, 1) := by decide +kernel
theorem dX9_init_221 : decode cX9_init 221 = .ok (.new 70, 3) := by decide +kernel
theorem dX9_init_224 : decode cX9_init 224 = .ok (.dup, 1) := by decide +kernel
theorem dX9_init_225 : decode cX9_init 225 = .ok (.invokespecial 78, 3) := by decide +kernel
theorem dX9_init_228 : decode cX9_init 228 = .ok (.aastore, 1) := by decide +kernel
theorem dX9_init_229 : decode cX9_init 229 = .ok (.iinc 1 1, 3) := by decide +kernel
theorem dX9_init_232 : decode cX9_init 232 = .ok (.goto (-25), 3) := by decide +kernel
theorem dX9_init_235 : decode cX9_init 235 = .ok (.return_, 1) := by decide +kernel
theorem dX9_ring_0 : decode cX9_ring 0 = .ok (.iload_n 1, 1) := by decide +kernel
theorem dX9_ring_1 : decode cX9_ring 1 = .ok (.iconst 4, 1) := by decide +kernel
theorem dX9_ring_2 : decode cX9_ring 2 = .ok (.if_icmp .lt 9, 3) := by decide +kernel
theorem dX9_ring_5 : decode cX9_ring 5 = .ok (.iload_n 1, 1) := by decide +kernel
theorem dX9_ring_6 : decode cX9_ring 6 = .ok (.bipush 8, 2) := by decide +kernel
theorem dX9_ring_8 : decode cX9_ring 8 = .ok (.if_icmp .le 5, 3) := by decide +kernel
theorem dX9_ring_11 : decode cX9_ring 11 = .ok (.iconst (-1), 1) := by decide +kernel
theorem dX9_ring_12 : decode cX9_ring 12 = .ok (.ireturn, 1) := by decide +kernel
theorem dX9_ring_13 : decode cX9_ring 13 = .ok (.aload_n 0, 1) := by decide +kernel
theorem dX9_ring_14 : decode cX9_ring 14 = .ok (.getfield 10, 3) := by decide +kernel
theorem dX9_ring_17 : decode cX9_ring 17 = .ok (.getfield 79, 3) := by decide +kernel
theorem dX9_ring_20 : decode cX9_ring 20 = .ok (.iload_n 1, 1) := by decide +kernel
theorem dX9_ring_21 : decode cX9_ring 21 = .ok (.invokevirtual 82, 3) := by decide +kernel
theorem dX9_ring_24 : decode cX9_ring 24 = .ok (.aload_n 0, 1) := by decide +kernel
theorem dX9_ring_25 : decode cX9_ring 25 = .ok (.getfield 10, 3) := by decide +kernel
theorem dX9_ring_28 : decode cX9_ring 28 = .ok (.invokevirtual 86, 3) := by decide +kernel
theorem dX9_ring_31 : decode cX9_ring 31 = .ok (.aload_n 0, 1) := by decide +kernel
theorem dX9_ring_32 : decode cX9_ring 32 = .ok (.iconst 0, 1) := by decide +kernel
theorem dX9_ring_33 : decode cX9_ring 33 = .ok (.putfield 89, 3) := by decide +kernel
theorem dX9_ring_36 : decode cX9_ring 36 = .ok (.iconst 1, 1) := by decide +kernel
theorem dX9_ring_37 : decode cX9_ring 37 = .ok (.ireturn, 1) := by decide +kernel
theorem dX9_place_0 : decode cX9_place 0 = .ok (.aload_n 0, 1) := by decide +kernel
theorem dX9_place_1 : decode cX9_place 1 = .ok (.getfield 10, 3) := by decide +kernel
theorem dX9_place_4 : decode cX9_place 4 = .ok (.getfield 79, 3) := by decide +kernel
theorem dX9_place_7 : decode cX9_place 7 = .ok (.astore_n 3, 1) := by decide +kernel
theorem dX9_place_8 : decode cX9_place 8 = .ok (.iload_n 1, 1) := by decide +kernel
theorem dX9_place_9 : decode cX9_place 9 = .ok (.ifCond .lt 11, 3) := by decide +kernel
theorem dX9_place_12 : decode cX9_place 12 = .ok (.iload_n 1, 1) := by decide +kernel
theorem dX9_place_13 : decode cX9_place 13 = .ok (.aload_n 3, 1) := by decide +kernel
theorem dX9_place_14 : decode cX9_place 14 = .ok (.getfield 101, 3) := by decide +kernel
theorem dX9_place_17 : decode cX9_place 17 = .ok (.if_icmp .lt 5, 3) := by decide +kernel
theorem dX9_place_20 : decode cX9_place 20 = .ok (.iconst (-1), 1) := by decide +kernel
theorem dX9_place_21 : decode cX9_place 21 = .ok (.ireturn, 1) := by decide +kernel
theorem dX9_place_22 : decode cX9_place 22 = .ok (.iload_n 2, 1) := by decide +kernel
theorem dX9_place_23 : decode cX9_place 23 = .ok (.lookupswitch 44 #[(0, 25), (1, 31)], 25) := by decide +kernel
theorem dX9_place_48 : decode cX9_place 48 = .ok (.aload_n 3, 1) := by decide +kernel
theorem dX9_place_49 : decode cX9_place 49 = .ok (.iload_n 1, 1) := by decide +kernel
theorem dX9_place_50 : decode cX9_place 50 = .ok (.invokevirtual 104, 3) := by decide +kernel
theorem dX9_place_53 : decode cX9_place 53 = .ok (.ireturn, 1) := by decide +kernel
theorem dX9_place_54 : decode cX9_place 54 = .ok (.aload_n 3, 1) := by decide +kernel
theorem dX9_place_55 : decode cX9_place 55 = .ok (.getfield 108, 3) := by decide +kernel
theorem dX9_place_58 : decode cX9_place 58 = .ok (.aload_n 3, 1) := by decide +kernel
theorem dX9_place_59 : decode cX9_place 59 = .ok (.iload_n 1, 1) := by decide +kernel
theorem dX9_place_60 : decode cX9_place 60 = .ok (.invokevirtual 104, 3) := by decide +kernel
theorem dX9_place_63 : decode cX9_place 63 = .ok (.iushr, 1) := by decide +kernel
theorem dX9_place_64 : decode cX9_place 64 = .ok (.iconst 1, 1) := by decide +kernel
theorem dX9_place_65 : decode cX9_place 65 = .ok (.iand, 1) := by decide +kernel
theorem dX9_place_66 : decode cX9_place 66 = .ok (.ireturn, 1) := by decide +kernel
theorem dX9_place_67 : decode cX9_place 67 = .ok (.iconst (-1), 1) := by decide +kernel
theorem dX9_place_68 : decode cX9_place 68 = .ok (.ireturn, 1) := by decide +kernel
theorem dX9_blade_0 : decode cX9_blade 0 = .ok (.aload_n 0, 1) := by decide +kernel
theorem dX9_blade_1 : decode cX9_blade 1 = .ok (.getfield 10, 3) := by decide +kernel
theorem dX9_blade_4 : decode cX9_blade 4 = .ok (.getfield 79, 3) := by decide +kernel
theorem dX9_blade_7 : decode cX9_blade 7 = .ok (.astore_n 3, 1) := by decide +kernel
theorem dX9_blade_8 : decode cX9_blade 8 = .ok (.iload_n 1, 1) := by decide +kernel
theorem dX9_blade_9 : decode cX9_blade 9 = .ok (.ifCond .lt 11, 3) := by decide +kernel
theorem dX9_blade_12 : decode cX9_blade 12 = .ok (.iload_n 1, 1) := by decide +kernel
theorem dX9_blade_13 : decode cX9_blade 13 = .ok (.aload_n 3, 1) := by decide +kernel
theorem dX9_blade_14 : decode cX9_blade 14 = .ok (.getfield 101, 3) := by decide +kernel
theorem dX9_blade_17 : decode cX9_blade 17 = .ok (.if_icmp .lt 5, 3) := by decide +kernel
theorem dX9_blade_20 : decode cX9_blade 20 = .ok (.iconst (-1), 1) := by decide +kernel
theorem dX9_blade_21 : decode cX9_blade 21 = .ok (.ireturn, 1) := by decide +kernel
theorem dX9_blade_22 : decode cX9_blade 22 = .ok (.iload_n 2, 1) := by decide +kernel
theorem dX9_blade_23 : decode cX9_blade 23 = .ok (.tableswitch 78 0 4 #[33, 42, 51, 60, 72], 33) := by decide +kernel
theorem dX9_blade_56 : decode cX9_blade 56 = .ok (.aload_n 3, 1) := by decide +kernel
theorem dX9_blade_57 : decode cX9_blade 57 = .ok (.getfield 111, 3) := by decide +kernel
theorem dX9_blade_60 : decode cX9_blade 60 = .ok (.iload_n 1, 1) := by decide +kernel
theorem dX9_blade_61 : decode cX9_blade 61 = .ok (.iushr, 1) := by decide +kernel
theorem dX9_blade_62 : decode cX9_blade 62 = .ok (.iconst 1, 1) := by decide +kernel
theorem dX9_blade_63 : decode cX9_blade 63 = .ok (.iand, 1) := by decide +kernel
theorem dX9_blade_64 : decode cX9_blade 64 = .ok (.ireturn, 1) := by decide +kernel
theorem dX9_blade_65 : decode cX9_blade 65 = .ok (.aload_n 3, 1) := by decide +kernel
theorem dX9_blade_66 : decode cX9_blade 66 = .ok (.iload_n 1, 1) := by decide +kernel
theorem dX9_blade_67 : decode cX9_blade 67 = .ok (.invokevirtual 114, 3) := by decide +kernel
theorem dX9_blade_70 : decode cX9_blade 70 = .ok (.invokestatic 117, 3) := by decide +kernel
theorem dX9_blade_73 : decode cX9_blade 73 = .ok (.ireturn, 1) := by decide +kernel
theorem dX9_blade_74 : decode cX9_blade 74 = .ok (.aload_n 3, 1) := by decide +kernel
theorem dX9_blade_75 : decode cX9_blade 75 = .ok (.iload_n 1, 1) := by decide +kernel
theorem dX9_blade_76 : decode cX9_blade 76 = .ok (.invokevirtual 122, 3) := by decide +kernel
theorem dX9_blade_79 : decode cX9_blade 79 = .ok (.invokestatic 117, 3) := by decide +kernel
theorem dX9_blade_82 : decode cX9_blade 82 = .ok (.ireturn, 1) := by decide +kernel
theorem dX9_blade_83 : decode cX9_blade 83 = .ok (.aload_n 3, 1) := by decide +kernel
theorem dX9_blade_84 : decode cX9_blade 84 = .ok (.iload_n 1, 1) := by decide +kernel
theorem dX9_blade_85 : decode cX9_blade 85 = .ok (.invokevirtual 114, 3) := by decide +kernel
theorem dX9_blade_88 : decode cX9_blade 88 = .ok (.aload_n 3, 1) := by decide +kernel
theorem dX9_blade_89 : decode cX9_blade 89 = .ok (.iload_n 1, 1) := by decide +kernel
theorem dX9_blade_90 : decode cX9_blade 90 = .ok (.invokevirtual 122, 3) := by decide +kernel
theorem dX9_blade_93 : decode cX9_blade 93 = .ok (.ior, 1) := by decide +kernel
theorem dX9_blade_94 : decode cX9_blade 94 = .ok (.ireturn, 1) := by decide +kernel
theorem dX9_blade_95 : decode cX9_blade 95 = .ok (.aload_n 3, 1) := by decide +kernel
theorem dX9_blade_96 : decode cX9_blade 96 = .ok (.iload_n 1, 1) := by decide +kernel
theorem dX9_blade_97 : decode cX9_blade 97 = .ok (.invokevirtual 125, 3) := by decide +kernel
theorem dX9_blade_100 : decode cX9_blade 100 = .ok (.ireturn, 1) := by decide +kernel
theorem dX9_blade_101 : decode cX9_blade 101 = .ok (.iconst (-1), 1) := by decide +kernel
theorem dX9_blade_102 : decode cX9_blade 102 = .ok (.ireturn, 1) := by decide +kernel
theorem dX9_over_0 : decode cX9_over 0 = .ok (.aload_n 0, 1) := by decide +kernel
theorem dX9_over_1 : decode cX9_over 1 = .ok (.getfield 10, 3) := by decide +kernel
theorem dX9_over_4 : decode cX9_over 4 = .ok (.getfield 79, 3) := by decide +kernel
theorem dX9_over_7 : decode cX9_over 7 = .ok (.astore_n 3, 1) := by decide +kernel
theorem dX9_over_8 : decode cX9_over 8 = .ok (.iload_n 1, 1) := by decide +kernel
theorem dX9_over_9 : decode cX9_over 9 = .ok (.ifCond .lt 28, 3) := by decide +kernel
theorem dX9_over_12 : decode cX9_over 12 = .ok (.iload_n 1, 1) := by decide +kernel
theorem dX9_over_13 : decode cX9_over 13 = .ok (.aload_n 3, 1) := by decide +kernel
theorem dX9_over_14 : decode cX9_over 14 = .ok (.getfield 101, 3) := by decide +kernel
theorem dX9_over_17 : decode cX9_over 17 = .ok (.if_icmp .ge 20, 3) := by decide +kernel
theorem dX9_over_20 : decode cX9_over 20 = .ok (.iload_n 2, 1) := by decide +kernel
theorem dX9_over_21 : decode cX9_over 21 = .ok (.ifCond .lt 16, 3) := by decide +kernel
theorem dX9_over_24 : decode cX9_over 24 = .ok (.iload_n 2, 1) := by decide +kernel
theorem dX9_over_25 : decode cX9_over 25 = .ok (.aload_n 3, 1) := by decide +kernel
theorem dX9_over_26 : decode cX9_over 26 = .ok (.getfield 101, 3) := by decide +kernel
theorem dX9_over_29 : decode cX9_over 29 = .ok (.if_icmp .ge 8, 3) := by decide +kernel
theorem dX9_over_32 : decode cX9_over 32 = .ok (.iload_n 1, 1) := by decide +kernel
theorem dX9_over_33 : decode cX9_over 33 = .ok (.iload_n 2, 1) := by decide +kernel
theorem dX9_over_34 : decode cX9_over 34 = .ok (.if_icmp .ne 5, 3) := by decide +kernel
theorem dX9_over_37 : decode cX9_over 37 = .ok (.iconst (-1), 1) := by decide +kernel
theorem dX9_over_38 : decode cX9_over 38 = .ok (.ireturn, 1) := by decide +kernel
theorem dX9_over_39 : decode cX9_over 39 = .ok (.aload_n 3, 1) := by decide +kernel
theorem dX9_over_40 : decode cX9_over 40 = .ok (.iload_n 1, 1) := by decide +kernel
theorem dX9_over_41 : decode cX9_over 41 = .ok (.iload_n 2, 1) := by decide +kernel
theorem dX9_over_42 : decode cX9_over 42 = .ok (.invokevirtual 128, 3) := by decide +kernel
theorem dX9_over_45 : decode cX9_over 45 = .ok (.ifCond .eq 5, 3) := by decide +kernel
theorem dX9_over_48 : decode cX9_over 48 = .ok (.iconst 1, 1) := by decide +kernel
theorem dX9_over_49 : decode cX9_over 49 = .ok (.ireturn, 1) := by decide +kernel
theorem dX9_over_50 : decode cX9_over 50 = .ok (.aload_n 3, 1) := by decide +kernel
theorem dX9_over_51 : decode cX9_over 51 = .ok (.iload_n 2, 1) := by decide +kernel
theorem dX9_over_52 : decode cX9_over 52 = .ok (.iload_n 1, 1) := by decide +kernel
theorem dX9_over_53 : decode cX9_over 53 = .ok (.invokevirtual 128, 3) := by decide +kernel
theorem dX9_over_56 : decode cX9_over 56 = .ok (.ifCond .eq 7, 3) := by decide +kernel
theorem dX9_over_59 : decode cX9_over 59 = .ok (.iconst 0, 1) := by decide +kernel
theorem dX9_over_60 : decode cX9_over 60 = .ok (.goto 5, 3) := by decide +kernel
theorem dX9_over_63 : decode cX9_over 63 = .ok (.bipush (-4), 2) := by decide +kernel
theorem dX9_over_65 : decode cX9_over 65 = .ok (.ireturn, 1) := by decide +kernel
theorem dX9_feed_0 : decode cX9_feed 0 = .ok (.aload_n 0, 1) := by decide +kernel
theorem dX9_feed_1 : decode cX9_feed 1 = .ok (.getfield 40, 3) := by decide +kernel
theorem dX9_feed_4 : decode cX9_feed 4 = .ok (.lload_n 1, 1) := by decide +kernel
theorem dX9_feed_5 : decode cX9_feed 5 = .ok (.invokevirtual 167, 3) := by decide +kernel
theorem dX9_feed_8 : decode cX9_feed 8 = .ok (.ifCond .eq 13, 3) := by decide +kernel
theorem dX9_feed_11 : decode cX9_feed 11 = .ok (.aload_n 0, 1) := by decide +kernel
theorem dX9_feed_12 : decode cX9_feed 12 = .ok (.getfield 40, 3) := by decide +kernel
theorem dX9_feed_15 : decode cX9_feed 15 = .ok (.getfield 171, 3) := by decide +kernel
theorem dX9_feed_18 : decode cX9_feed 18 = .ok (.goto 5, 3) := by decide +kernel
theorem dX9_feed_21 : decode cX9_feed 21 = .ok (.bipush (-3), 2) := by decide +kernel
theorem dX9_feed_23 : decode cX9_feed 23 = .ok (.ireturn, 1) := by decide +kernel
theorem dX9_end_0 : decode cX9_end 0 = .ok (.aload_n 0, 1) := by decide +kernel
theorem dX9_end_1 : decode cX9_end 1 = .ok (.getfield 40, 3) := by decide +kernel
theorem dX9_end_4 : decode cX9_end 4 = .ok (.getfield 171, 3) := by decide +kernel
theorem dX9_end_7 : decode cX9_end 7 = .ok (.istore_n 2, 1) := by decide +kernel
theorem dX9_end_8 : decode cX9_end 8 = .ok (.iload_n 1, 1) := by decide +kernel
theorem dX9_end_9 : decode cX9_end 9 = .ok (.ifCond .lt 8, 3) := by decide +kernel
theorem dX9_end_12 : decode cX9_end 12 = .ok (.iload_n 1, 1) := by decide +kernel
theorem dX9_end_13 : decode cX9_end 13 = .ok (.iload_n 2, 1) := by decide +kernel
theorem dX9_end_14 : decode cX9_end 14 = .ok (.if_icmp .le 5, 3) := by decide +kernel
theorem dX9_end_17 : decode cX9_end 17 = .ok (.iconst (-1), 1) := by decide +kernel
theorem dX9_end_18 : decode cX9_end 18 = .ok (.ireturn, 1) := by decide +kernel
theorem dX9_end_19 : decode cX9_end 19 = .ok (.aload_n 0, 1) := by decide +kernel
theorem dX9_end_20 : decode cX9_end 20 = .ok (.getfield 40, 3) := by decide +kernel
theorem dX9_end_23 : decode cX9_end 23 = .ok (.iload_n 1, 1) := by decide +kernel
theorem dX9_end_24 : decode cX9_end 24 = .ok (.putfield 171, 3) := by decide +kernel
theorem dX9_end_27 : decode cX9_end 27 = .ok (.iload_n 2, 1) := by decide +kernel
theorem dX9_end_28 : decode cX9_end 28 = .ok (.ireturn, 1) := by decide +kernel
theorem dX9_figure_0 : decode cX9_figure 0 = .ok (.aload_n 0, 1) := by decide +kernel
theorem dX9_figure_1 : decode cX9_figure 1 = .ok (.getfield 174, 3) := by decide +kernel
theorem dX9_figure_4 : decode cX9_figure 4 = .ok (.aload_n 0, 1) := by decide +kernel
theorem dX9_figure_5 : decode cX9_figure 5 = .ok (.getfield 53, 3) := by decide +kernel
theorem dX9_figure_8 : decode cX9_figure 8 = .ok (.arraylength, 1) := by decide +kernel
theorem dX9_figure_9 : decode cX9_figure 9 = .ok (.if_icmp .lt 6, 3) := by decide +kernel
theorem dX9_figure_12 : decode cX9_figure 12 = .ok (.bipush (-3), 2) := by decide +kernel
theorem dX9_figure_14 : decode cX9_figure 14 = .ok (.ireturn, 1) := by decide +kernel
theorem dX9_figure_15 : decode cX9_figure 15 = .ok (.aload_n 0, 1) := by decide +kernel
theorem dX9_figure_16 : decode cX9_figure 16 = .ok (.getfield 47, 3) := by decide +kernel
theorem dX9_figure_19 : decode cX9_figure 19 = .ok (.aload_n 0, 1) := by decide +kernel
theorem dX9_figure_20 : decode cX9_figure 20 = .ok (.getfield 40, 3) := by decide +kernel
theorem dX9_figure_23 : decode cX9_figure 23 = .ok (.aload_n 0, 1) := by decide +kernel
theorem dX9_figure_24 : decode cX9_figure 24 = .ok (.getfield 53, 3) := by decide +kernel
theorem dX9_figure_27 : decode cX9_figure 27 = .ok (.aload_n 0, 1) := by decide +kernel
theorem dX9_figure_28 : decode cX9_figure 28 = .ok (.getfield 174, 3) := by decide +kernel
theorem dX9_figure_31 : decode cX9_figure 31 = .ok (.invokevirtual 177, 3) := by decide +kernel
theorem dX9_figure_34 : decode cX9_figure 34 = .ok (.aload_n 0, 1) := by decide +kernel
theorem dX9_figure_35 : decode cX9_figure 35 = .ok (.getfield 40, 3) := by decide +kernel
theorem dX9_figure_38 : decode cX9_figure 38 = .ok (.iconst 0, 1) := by decide +kernel
theorem dX9_figure_39 : decode cX9_figure 39 = .ok (.putfield 171, 3) := by decide +kernel
theorem dX9_figure_42 : decode cX9_figure 42 = .ok (.aload_n 0, 1) := by decide +kernel
theorem dX9_figure_43 : decode cX9_figure 43 = .ok (.aload_n 0, 1) := by decide +kernel
theorem dX9_figure_44 : decode cX9_figure 44 = .ok (.getfield 47, 3) := by decide +kernel
theorem dX9_figure_47 : decode cX9_figure 47 = .ok (.getfield 181, 3) := by decide +kernel
theorem dX9_figure_50 : decode cX9_figure 50 = .ok (.putfield 184, 3) := by decide +kernel
theorem dX9_figure_53 : decode cX9_figure 53 = .ok (.aload_n 0, 1) := by decide +kernel
theorem dX9_figure_54 : decode cX9_figure 54 = .ok (.getfield 184, 3) := by decide +kernel
theorem dX9_figure_57 : decode cX9_figure 57 = .ok (.ifCond .eq 14, 3) := by decide +kernel
theorem dX9_figure_60 : decode cX9_figure 60 = .ok (.bipush (-10), 2) := by decide +kernel
theorem dX9_figure_62 : decode cX9_figure 62 = .ok (.aload_n 0, 1) := by decide +kernel
theorem dX9_figure_63 : decode cX9_figure 63 = .ok (.getfield 47, 3) := by decide +kernel
theorem dX9_figure_66 : decode cX9_figure 66 = .ok (.getfield 187, 3) := by decide +kernel
theorem dX9_figure_69 : decode cX9_figure 69 = .ok (.isub, 1) := by decide +kernel
theorem dX9_figure_70 : decode cX9_figure 70 = .ok (.ireturn, 1) := by decide +kernel
theorem dX9_figure_71 : decode cX9_figure 71 = .ok (.aload_n 0, 1) := by decide +kernel
theorem dX9_figure_72 : decode cX9_figure 72 = .ok (.getfield 53, 3) := by decide +kernel
theorem dX9_figure_75 : decode cX9_figure 75 = .ok (.aload_n 0, 1) := by decide +kernel
theorem dX9_figure_76 : decode cX9_figure 76 = .ok (.getfield 174, 3) := by decide +kernel
theorem dX9_figure_79 : decode cX9_figure 79 = .ok (.aaload, 1) := by decide +kernel
theorem dX9_figure_80 : decode cX9_figure 80 = .ok (.aload_n 0, 1) := by decide +kernel
theorem dX9_figure_81 : decode cX9_figure 81 = .ok (.getfield 47, 3) := by decide +kernel
theorem dX9_figure_84 : decode cX9_figure 84 = .ok (.getfield 190, 3) := by decide +kernel
theorem dX9_figure_87 : decode cX9_figure 87 = .ok (.invokevirtual 194, 3) := by decide +kernel
theorem dX9_figure_90 : decode cX9_figure 90 = .ok (.aload_n 0, 1) := by decide +kernel
theorem dX9_figure_91 : decode cX9_figure 91 = .ok (.dup, 1) := by decide +kernel
theorem dX9_figure_92 : decode cX9_figure 92 = .ok (.getfield 174, 3) := by decide +kernel
theorem dX9_figure_95 : decode cX9_figure 95 = .ok (.iconst 1, 1) := by decide +kernel
theorem dX9_figure_96 : decode cX9_figure 96 = .ok (.iadd, 1) := by decide +kernel
theorem dX9_figure_97 : decode cX9_figure 97 = .ok (.putfield 174, 3) := by decide +kernel
theorem dX9_figure_100 : decode cX9_figure 100 = .ok (.aload_n 0, 1) := by decide +kernel
theorem dX9_figure_101 : decode cX9_figure 101 = .ok (.getfield 174, 3) := by decide +kernel
theorem dX9_figure_104 : decode cX9_figure 104 = .ok (.iconst 1, 1) := by decide +kernel
theorem dX9_figure_105 : decode cX9_figure 105 = .ok (.isub, 1) := by decide +kernel
theorem dX9_figure_106 : decode cX9_figure 106 = .ok (.ireturn, 1) := by decide +kernel
theorem dX9_dance_0 : decode cX9_dance 0 = .ok (.aload_n 0, 1) := by decide +kernel
theorem dX9_dance_1 : decode cX9_dance 1 = .ok (.iload_n 1, 1) := by decide +kernel
theorem dX9_dance_2 : decode cX9_dance 2 = .ok (.invokevirtual 197, 3) := by decide +kernel
theorem dX9_dance_5 : decode cX9_dance 5 = .ok (.ifCond .eq 17, 3) := by decide +kernel
theorem dX9_dance_8 : decode cX9_dance 8 = .ok (.aload_n 0, 1) := by decide +kernel
theorem dX9_dance_9 : decode cX9_dance 9 = .ok (.aload_n 0, 1) := by decide +kernel
theorem dX9_dance_10 : decode cX9_dance 10 = .ok (.getfield 53, 3) := by decide +kernel
theorem dX9_dance_13 : decode cX9_dance 13 = .ok (.iload_n 1, 1) := by decide +kernel
theorem dX9_dance_14 : decode cX9_dance 14 = .ok (.aaload, 1) := by decide +kernel
theorem dX9_dance_15 : decode cX9_dance 15 = .ok (.iconst 0, 1) := by decide +kernel
theorem dX9_dance_16 : decode cX9_dance 16 = .ok (.invokevirtual 214, 3) := by decide +kernel
theorem dX9_dance_19 : decode cX9_dance 19 = .ok (.goto 4, 3) := by decide +kernel
theorem dX9_dance_22 : decode cX9_dance 22 = .ok (.iconst (-1), 1) := by decide +kernel
theorem dX9_dance_23 : decode cX9_dance 23 = .ok (.ireturn, 1) := by decide +kernel
theorem dX9_why_0 : decode cX9_why 0 = .ok (.aload_n 0, 1) := by decide +kernel
theorem dX9_why_1 : decode cX9_why 1 = .ok (.getfield 218, 3) := by decide +kernel
theorem dX9_why_4 : decode cX9_why 4 = .ok (.ireturn, 1) := by decide +kernel
theorem dX9_back_0 : decode cX9_back 0 = .ok (.aload_n 0, 1) := by decide +kernel
theorem dX9_back_1 : decode cX9_back 1 = .ok (.iload_n 1, 1) := by decide +kernel
theorem dX9_back_2 : decode cX9_back 2 = .ok (.invokevirtual 197, 3) := by decide +kernel
theorem dX9_back_5 : decode cX9_back 5 = .ok (.ifCond .eq 17, 3) := by decide +kernel
theorem dX9_back_8 : decode cX9_back 8 = .ok (.aload_n 0, 1) := by decide +kernel
theorem dX9_back_9 : decode cX9_back 9 = .ok (.aload_n 0, 1) := by decide +kernel
theorem dX9_back_10 : decode cX9_back 10 = .ok (.getfield 53, 3) := by decide +kernel
theorem dX9_back_13 : decode cX9_back 13 = .ok (.iload_n 1, 1) := by decide +kernel
theorem dX9_back_14 : decode cX9_back 14 = .ok (.aaload, 1) := by decide +kernel
theorem dX9_back_15 : decode cX9_back 15 = .ok (.iconst 1, 1) := by decide +kernel
theorem dX9_back_16 : decode cX9_back 16 = .ok (.invokevirtual 214, 3) := by decide +kernel
theorem dX9_back_19 : decode cX9_back 19 = .ok (.goto 4, 3) := by decide +kernel
theorem dX9_back_22 : decode cX9_back 22 = .ok (.iconst (-1), 1) := by decide +kernel
theorem dX9_back_23 : decode cX9_back 23 = .ok (.ireturn, 1) := by decide +kernel
theorem dX9_village_0 : decode cX9_village 0 = .ok (.aload_n 0, 1) := by decide +kernel
theorem dX9_village_1 : decode cX9_village 1 = .ok (.getfield 250, 3) := by decide +kernel
theorem dX9_village_4 : decode cX9_village 4 = .ok (.aload_n 0, 1) := by decide +kernel
theorem dX9_village_5 : decode cX9_village 5 = .ok (.getfield 59, 3) := by decide +kernel
theorem dX9_village_8 : decode cX9_village 8 = .ok (.arraylength, 1) := by decide +kernel
theorem dX9_village_9 : decode cX9_village 9 = .ok (.if_icmp .lt 6, 3) := by decide +kernel
theorem dX9_village_12 : decode cX9_village 12 = .ok (.bipush (-3), 2) := by decide +kernel
theorem dX9_village_14 : decode cX9_village 14 = .ok (.ireturn, 1) := by decide +kernel
theorem dX9_village_15 : decode cX9_village 15 = .ok (.aload_n 0, 1) := by decide +kernel
theorem dX9_village_16 : decode cX9_village 16 = .ok (.dup, 1) := by decide +kernel
theorem dX9_village_17 : decode cX9_village 17 = .ok (.getfield 250, 3) := by decide +kernel
theorem dX9_village_20 : decode cX9_village 20 = .ok (.iconst 1, 1) := by decide +kernel
theorem dX9_village_21 : decode cX9_village 21 = .ok (.iadd, 1) := by decide +kernel
theorem dX9_village_22 : decode cX9_village 22 = .ok (.putfield 250, 3) := by decide +kernel
theorem dX9_village_25 : decode cX9_village 25 = .ok (.aload_n 0, 1) := by decide +kernel
theorem dX9_village_26 : decode cX9_village 26 = .ok (.getfield 250, 3) := by decide +kernel
theorem dX9_village_29 : decode cX9_village 29 = .ok (.iconst 1, 1) := by decide +kernel
theorem dX9_village_30 : decode cX9_village 30 = .ok (.isub, 1) := by decide +kernel
theorem dX9_village_31 : decode cX9_village 31 = .ok (.ireturn, 1) := by decide +kernel
theorem dX9_add_0 : decode cX9_add 0 = .ok (.aload_n 0, 1) := by decide +kernel
theorem dX9_add_1 : decode cX9_add 1 = .ok (.iload_n 1, 1) := by decide +kernel
theorem dX9_add_2 : decode cX9_add 2 = .ok (.invokevirtual 253, 3) := by decide +kernel
theorem dX9_add_5 : decode cX9_add 5 = .ok (.ifCond .eq 11, 3) := by decide +kernel
theorem dX9_add_8 : decode cX9_add 8 = .ok (.aload_n 0, 1) := by decide +kernel
theorem dX9_add_9 : decode cX9_add 9 = .ok (.iload_n 2, 1) := by decide +kernel
theorem dX9_add_10 : decode cX9_add 10 = .ok (.invokevirtual 197, 3) := by decide +kernel
theorem dX9_add_13 : decode cX9_add 13 = .ok (.ifCond .ne 5, 3) := by decide +kernel
theorem dX9_add_16 : decode cX9_add 16 = .ok (.iconst (-1), 1) := by decide +kernel
theorem dX9_add_17 : decode cX9_add 17 = .ok (.ireturn, 1) := by decide +kernel
theorem dX9_add_18 : decode cX9_add 18 = .ok (.aload_n 0, 1) := by decide +kernel
theorem dX9_add_19 : decode cX9_add 19 = .ok (.getfield 59, 3) := by decide +kernel
theorem dX9_add_22 : decode cX9_add 22 = .ok (.iload_n 1, 1) := by decide +kernel
theorem dX9_add_23 : decode cX9_add 23 = .ok (.aaload, 1) := by decide +kernel
theorem dX9_add_24 : decode cX9_add 24 = .ok (.iload_n 2, 1) := by decide +kernel
theorem dX9_add_25 : decode cX9_add 25 = .ok (.invokevirtual 256, 3) := by decide +kernel
theorem dX9_add_28 : decode cX9_add 28 = .ok (.ifCond .eq 15, 3) := by decide +kernel
theorem dX9_add_31 : decode cX9_add 31 = .ok (.aload_n 0, 1) := by decide +kernel
theorem dX9_add_32 : decode cX9_add 32 = .ok (.getfield 59, 3) := by decide +kernel
theorem dX9_add_35 : decode cX9_add 35 = .ok (.iload_n 1, 1) := by decide +kernel
theorem dX9_add_36 : decode cX9_add 36 = .ok (.aaload, 1) := by decide +kernel
theorem dX9_add_37 : decode cX9_add 37 = .ok (.getfield 258, 3) := by decide +kernel
theorem dX9_add_40 : decode cX9_add 40 = .ok (.goto 5, 3) := by decide +kernel
theorem dX9_add_43 : decode cX9_add 43 = .ok (.bipush (-3), 2) := by decide +kernel
theorem dX9_add_45 : decode cX9_add 45 = .ok (.ireturn, 1) := by decide +kernel
theorem dX9_danceOf_0 : decode cX9_danceOf 0 = .ok (.aload_n 0, 1) := by decide +kernel
theorem dX9_danceOf_1 : decode cX9_danceOf 1 = .ok (.iload_n 1, 1) := by decide +kernel
theorem dX9_danceOf_2 : decode cX9_danceOf 2 = .ok (.invokevirtual 253, 3) := by decide +kernel
theorem dX9_danceOf_5 : decode cX9_danceOf 5 = .ok (.ifCond .ne 5, 3) := by decide +kernel
theorem dX9_danceOf_8 : decode cX9_danceOf 8 = .ok (.iconst (-1), 1) := by decide +kernel
theorem dX9_danceOf_9 : decode cX9_danceOf 9 = .ok (.ireturn, 1) := by decide +kernel
theorem dX9_danceOf_10 : decode cX9_danceOf 10 = .ok (.aload_n 0, 1) := by decide +kernel
theorem dX9_danceOf_11 : decode cX9_danceOf 11 = .ok (.getfield 59, 3) := by decide +kernel
theorem dX9_danceOf_14 : decode cX9_danceOf 14 = .ok (.iload_n 1, 1) := by decide +kernel
theorem dX9_danceOf_15 : decode cX9_danceOf 15 = .ok (.aaload, 1) := by decide +kernel
theorem dX9_danceOf_16 : decode cX9_danceOf 16 = .ok (.astore_n 3, 1) := by decide +kernel
theorem dX9_danceOf_17 : decode cX9_danceOf 17 = .ok (.iload_n 2, 1) := by decide +kernel
theorem dX9_danceOf_18 : decode cX9_danceOf 18 = .ok (.lookupswitch 37 #[(0, 26), (1, 31)], 26) := by decide +kernel
theorem dX9_danceOf_44 : decode cX9_danceOf 44 = .ok (.aload_n 3, 1) := by decide +kernel
theorem dX9_danceOf_45 : decode cX9_danceOf 45 = .ok (.getfield 258, 3) := by decide +kernel
theorem dX9_danceOf_48 : decode cX9_danceOf 48 = .ok (.ireturn, 1) := by decide +kernel
theorem dX9_danceOf_49 : decode cX9_danceOf 49 = .ok (.aload_n 0, 1) := by decide +kernel
theorem dX9_danceOf_50 : decode cX9_danceOf 50 = .ok (.aload_n 3, 1) := by decide +kernel
theorem dX9_danceOf_51 : decode cX9_danceOf 51 = .ok (.invokevirtual 259, 3) := by decide +kernel
theorem dX9_danceOf_54 : decode cX9_danceOf 54 = .ok (.ireturn, 1) := by decide +kernel
theorem dX9_danceOf_55 : decode cX9_danceOf 55 = .ok (.iload_n 2, 1) := by decide +kernel
theorem dX9_danceOf_56 : decode cX9_danceOf 56 = .ok (.bipush 10, 2) := by decide +kernel
theorem dX9_danceOf_58 : decode cX9_danceOf 58 = .ok (.if_icmp .lt 25, 3) := by decide +kernel
theorem dX9_danceOf_61 : decode cX9_danceOf 61 = .ok (.iload_n 2, 1) := by decide +kernel
theorem dX9_danceOf_62 : decode cX9_danceOf 62 = .ok (.bipush 10, 2) := by decide +kernel
theorem dX9_danceOf_64 : decode cX9_danceOf 64 = .ok (.aload_n 3, 1) := by decide +kernel
theorem dX9_danceOf_65 : decode cX9_danceOf 65 = .ok (.getfield 258, 3) := by decide +kernel
theorem dX9_danceOf_68 : decode cX9_danceOf 68 = .ok (.iadd, 1) := by decide +kernel
theorem dX9_danceOf_69 : decode cX9_danceOf 69 = .ok (.if_icmp .ge 14, 3) := by decide +kernel
theorem dX9_danceOf_72 : decode cX9_danceOf 72 = .ok (.aload_n 3, 1) := by decide +kernel
theorem dX9_danceOf_73 : decode cX9_danceOf 73 = .ok (.iload_n 2, 1) := by decide +kernel
theorem dX9_danceOf_74 : decode cX9_danceOf 74 = .ok (.bipush 10, 2) := by decide +kernel
theorem dX9_danceOf_76 : decode cX9_danceOf 76 = .ok (.isub, 1) := by decide +kernel
theorem dX9_danceOf_77 : decode cX9_danceOf 77 = .ok (.invokevirtual 263, 3) := by decide +kernel
theorem dX9_danceOf_80 : decode cX9_danceOf 80 = .ok (.goto 4, 3) := by decide +kernel
theorem dX9_danceOf_83 : decode cX9_danceOf 83 = .ok (.iconst (-1), 1) := by decide +kernel
theorem dX9_danceOf_84 : decode cX9_danceOf 84 = .ok (.ireturn, 1) := by decide +kernel
theorem dX9_shared_0 : decode cX9_shared 0 = .ok (.aload_n 0, 1) := by decide +kernel
theorem dX9_shared_1 : decode cX9_shared 1 = .ok (.iload_n 1, 1) := by decide +kernel
theorem dX9_shared_2 : decode cX9_shared 2 = .ok (.invokevirtual 253, 3) := by decide +kernel
theorem dX9_shared_5 : decode cX9_shared 5 = .ok (.ifCond .eq 21, 3) := by decide +kernel
theorem dX9_shared_8 : decode cX9_shared 8 = .ok (.aload_n 0, 1) := by decide +kernel
theorem dX9_shared_9 : decode cX9_shared 9 = .ok (.iload_n 2, 1) := by decide +kernel
theorem dX9_shared_10 : decode cX9_shared 10 = .ok (.invokevirtual 253, 3) := by decide +kernel
theorem dX9_shared_13 : decode cX9_shared 13 = .ok (.ifCond .eq 13, 3) := by decide +kernel
theorem dX9_shared_16 : decode cX9_shared 16 = .ok (.iload_n 3, 1) := by decide +kernel
theorem dX9_shared_17 : decode cX9_shared 17 = .ok (.ifCond .ge 11, 3) := by decide +kernel
theorem dX9_shared_20 : decode cX9_shared 20 = .ok (.iload_n 3, 1) := by decide +kernel
theorem dX9_shared_21 : decode cX9_shared 21 = .ok (.bipush (-4), 2) := by decide +kernel
theorem dX9_shared_23 : decode cX9_shared 23 = .ok (.if_icmp .eq 5, 3) := by decide +kernel
theorem dX9_shared_26 : decode cX9_shared 26 = .ok (.iconst (-1), 1) := by decide +kernel
theorem dX9_shared_27 : decode cX9_shared 27 = .ok (.ireturn, 1) := by decide +kernel
theorem dX9_shared_28 : decode cX9_shared 28 = .ok (.aload_n 0, 1) := by decide +kernel
theorem dX9_shared_29 : decode cX9_shared 29 = .ok (.getfield 66, 3) := by decide +kernel
theorem dX9_shared_32 : decode cX9_shared 32 = .ok (.aload_n 0, 1) := by decide +kernel
theorem dX9_shared_33 : decode cX9_shared 33 = .ok (.getfield 59, 3) := by decide +kernel
theorem dX9_shared_36 : decode cX9_shared 36 = .ok (.iload_n 1, 1) := by decide +kernel
theorem dX9_shared_37 : decode cX9_shared 37 = .ok (.aaload, 1) := by decide +kernel
theorem dX9_shared_38 : decode cX9_shared 38 = .ok (.aload_n 0, 1) := by decide +kernel
theorem dX9_shared_39 : decode cX9_shared 39 = .ok (.getfield 59, 3) := by decide +kernel
theorem dX9_shared_42 : decode cX9_shared 42 = .ok (.iload_n 2, 1) := by decide +kernel
theorem dX9_shared_43 : decode cX9_shared 43 = .ok (.aaload, 1) := by decide +kernel
theorem dX9_shared_44 : decode cX9_shared 44 = .ok (.invokevirtual 266, 3) := by decide +kernel
theorem dX9_shared_47 : decode cX9_shared 47 = .ok (.iload_n 3, 1) := by decide +kernel
theorem dX9_shared_48 : decode cX9_shared 48 = .ok (.bipush (-4), 2) := by decide +kernel
theorem dX9_shared_50 : decode cX9_shared 50 = .ok (.if_icmp .ne 14, 3) := by decide +kernel
theorem dX9_shared_53 : decode cX9_shared 53 = .ok (.aload_n 0, 1) := by decide +kernel
theorem dX9_shared_54 : decode cX9_shared 54 = .ok (.getfield 66, 3) := by decide +kernel
theorem dX9_shared_57 : decode cX9_shared 57 = .ok (.getfield 269, 3) := by decide +kernel
theorem dX9_shared_60 : decode cX9_shared 60 = .ok (.getfield 258, 3) := by decide +kernel
theorem dX9_shared_63 : decode cX9_shared 63 = .ok (.ireturn, 1) := by decide +kernel
theorem dX9_shared_64 : decode cX9_shared 64 = .ok (.iload_n 3, 1) := by decide +kernel
theorem dX9_shared_65 : decode cX9_shared 65 = .ok (.aload_n 0, 1) := by decide +kernel
theorem dX9_shared_66 : decode cX9_shared 66 = .ok (.getfield 66, 3) := by decide +kernel
theorem dX9_shared_69 : decode cX9_shared 69 = .ok (.getfield 269, 3) := by decide +kernel
theorem dX9_shared_72 : decode cX9_shared 72 = .ok (.getfield 258, 3) := by decide +kernel
theorem dX9_shared_75 : decode cX9_shared 75 = .ok (.if_icmp .ge 17, 3) := by decide +kernel
theorem dX9_shared_78 : decode cX9_shared 78 = .ok (.aload_n 0, 1) := by decide +kernel
theorem dX9_shared_79 : decode cX9_shared 79 = .ok (.getfield 66, 3) := by decide +kernel
theorem dX9_shared_82 : decode cX9_shared 82 = .ok (.getfield 269, 3) := by decide +kernel
theorem dX9_shared_85 : decode cX9_shared 85 = .ok (.iload_n 3, 1) := by decide +kernel
theorem dX9_shared_86 : decode cX9_shared 86 = .ok (.invokevirtual 263, 3) := by decide +kernel
theorem dX9_shared_89 : decode cX9_shared 89 = .ok (.goto 5, 3) := by decide +kernel
theorem dX9_shared_92 : decode cX9_shared 92 = .ok (.bipush (-4), 2) := by decide +kernel
theorem dX9_shared_94 : decode cX9_shared 94 = .ok (.ireturn, 1) := by decide +kernel
theorem dX9_perform_0 : decode cX9_perform 0 = .ok (.aload_n 0, 1) := by decide +kernel
theorem dX9_perform_1 : decode cX9_perform 1 = .ok (.iload_n 1, 1) := by decide +kernel
theorem dX9_perform_2 : decode cX9_perform 2 = .ok (.invokevirtual 253, 3) := by decide +kernel
theorem dX9_perform_5 : decode cX9_perform 5 = .ok (.ifCond .ne 5, 3) := by decide +kernel
theorem dX9_perform_8 : decode cX9_perform 8 = .ok (.iconst (-1), 1) := by decide +kernel
theorem dX9_perform_9 : decode cX9_perform 9 = .ok (.ireturn, 1) := by decide +kernel
theorem dX9_perform_10 : decode cX9_perform 10 = .ok (.aload_n 0, 1) := by decide +kernel
theorem dX9_perform_11 : decode cX9_perform 11 = .ok (.getfield 59, 3) := by decide +kernel
theorem dX9_perform_14 : decode cX9_perform 14 = .ok (.iload_n 1, 1) := by decide +kernel
theorem dX9_perform_15 : decode cX9_perform 15 = .ok (.aaload, 1) := by decide +kernel
theorem dX9_perform_16 : decode cX9_perform 16 = .ok (.astore_n 2, 1) := by decide +kernel
theorem dX9_perform_17 : decode cX9_perform 17 = .ok (.iconst 0, 1) := by decide +kernel
theorem dX9_perform_18 : decode cX9_perform 18 = .ok (.istore_n 3, 1) := by decide +kernel
theorem dX9_perform_19 : decode cX9_perform 19 = .ok (.iload_n 3, 1) := by decide +kernel
theorem dX9_perform_20 : decode cX9_perform 20 = .ok (.aload_n 2, 1) := by decide +kernel
theorem dX9_perform_21 : decode cX9_perform 21 = .ok (.getfield 258, 3) := by decide +kernel
theorem dX9_perform_24 : decode cX9_perform 24 = .ok (.if_icmp .ge 45, 3) := by decide +kernel
theorem dX9_perform_27 : decode cX9_perform 27 = .ok (.aload_n 2, 1) := by decide +kernel
theorem dX9_perform_28 : decode cX9_perform 28 = .ok (.iload_n 3, 1) := by decide +kernel
theorem dX9_perform_29 : decode cX9_perform 29 = .ok (.invokevirtual 263, 3) := by decide +kernel
theorem dX9_perform_32 : decode cX9_perform 32 = .ok (.istore 4, 2) := by decide +kernel
theorem dX9_perform_34 : decode cX9_perform 34 = .ok (.aload_n 0, 1) := by decide +kernel
theorem dX9_perform_35 : decode cX9_perform 35 = .ok (.iload 4, 2) := by decide +kernel
theorem dX9_perform_37 : decode cX9_perform 37 = .ok (.invokevirtual 197, 3) := by decide +kernel
theorem dX9_perform_40 : decode cX9_perform 40 = .ok (.ifCond .eq 23, 3) := by decide +kernel
theorem dX9_perform_43 : decode cX9_perform 43 = .ok (.aload_n 0, 1) := by decide +kernel
theorem dX9_perform_44 : decode cX9_perform 44 = .ok (.aload_n 0, 1) := by decide +kernel
theorem dX9_perform_45 : decode cX9_perform 45 = .ok (.getfield 53, 3) := by decide +kernel
theorem dX9_perform_48 : decode cX9_perform 48 = .ok (.iload 4, 2) := by decide +kernel
theorem dX9_perform_50 : decode cX9_perform 50 = .ok (.aaload, 1) := by decide +kernel
theorem dX9_perform_51 : decode cX9_perform 51 = .ok (.iconst 0, 1) := by decide +kernel
theorem dX9_perform_52 : decode cX9_perform 52 = .ok (.invokevirtual 214, 3) := by decide +kernel
theorem dX9_perform_55 : decode cX9_perform 55 = .ok (.ifCond .ge 8, 3) := by decide +kernel
theorem dX9_perform_58 : decode cX9_perform 58 = .ok (.bipush (-100), 2) := by decide +kernel
theorem dX9_perform_60 : decode cX9_perform 60 = .ok (.iload_n 3, 1) := by decide +kernel
theorem dX9_perform_61 : decode cX9_perform 61 = .ok (.isub, 1) := by decide +kernel
theorem dX9_perform_62 : decode cX9_perform 62 = .ok (.ireturn, 1) := by decide +kernel
theorem dX9_perform_63 : decode cX9_perform 63 = .ok (.iinc 3 1, 3) := by decide +kernel
theorem dX9_perform_66 : decode cX9_perform 66 = .ok (.goto (-47), 3) := by decide +kernel
theorem dX9_perform_69 : decode cX9_perform 69 = .ok (.aload_n 2, 1) := by decide +kernel
theorem dX9_perform_70 : decode cX9_perform 70 = .ok (.getfield 258, 3) := by decide +kernel
theorem dX9_perform_73 : decode cX9_perform 73 = .ok (.ireturn, 1) := by decide +kernel
theorem dX9_isFigure_0 : decode cX9_isFigure 0 = .ok (.iload_n 1, 1) := by decide +kernel
theorem dX9_isFigure_1 : decode cX9_isFigure 1 = .ok (.ifCond .lt 24, 3) := by decide +kernel
theorem dX9_isFigure_4 : decode cX9_isFigure 4 = .ok (.iload_n 1, 1) := by decide +kernel
theorem dX9_isFigure_5 : decode cX9_isFigure 5 = .ok (.aload_n 0, 1) := by decide +kernel
theorem dX9_isFigure_6 : decode cX9_isFigure 6 = .ok (.getfield 174, 3) := by decide +kernel
theorem dX9_isFigure_9 : decode cX9_isFigure 9 = .ok (.if_icmp .ge 16, 3) := by decide +kernel
theorem dX9_isFigure_12 : decode cX9_isFigure 12 = .ok (.iload_n 1, 1) := by decide +kernel
theorem dX9_isFigure_13 : decode cX9_isFigure 13 = .ok (.aload_n 0, 1) := by decide +kernel
theorem dX9_isFigure_14 : decode cX9_isFigure 14 = .ok (.getfield 53, 3) := by decide +kernel
theorem dX9_isFigure_17 : decode cX9_isFigure 17 = .ok (.arraylength, 1) := by decide +kernel
theorem dX9_isFigure_18 : decode cX9_isFigure 18 = .ok (.if_icmp .ge 7, 3) := by decide +kernel
theorem dX9_isFigure_21 : decode cX9_isFigure 21 = .ok (.iconst 1, 1) := by decide +kernel
theorem dX9_isFigure_22 : decode cX9_isFigure 22 = .ok (.goto 4, 3) := by decide +kernel
theorem dX9_isFigure_25 : decode cX9_isFigure 25 = .ok (.iconst 0, 1) := by decide +kernel
theorem dX9_isFigure_26 : decode cX9_isFigure 26 = .ok (.ireturn, 1) := by decide +kernel
theorem dX9_isVillage_0 : decode cX9_isVillage 0 = .ok (.iload_n 1, 1) := by decide +kernel
theorem dX9_isVillage_1 : decode cX9_isVillage 1 = .ok (.ifCond .lt 24, 3) := by decide +kernel
theorem dX9_isVillage_4 : decode cX9_isVillage 4 = .ok (.iload_n 1, 1) := by decide +kernel
theorem dX9_isVillage_5 : decode cX9_isVillage 5 = .ok (.aload_n 0, 1) := by decide +kernel
theorem dX9_isVillage_6 : decode cX9_isVillage 6 = .ok (.getfield 250, 3) := by decide +kernel
theorem dX9_isVillage_9 : decode cX9_isVillage 9 = .ok (.if_icmp .ge 16, 3) := by decide +kernel
theorem dX9_isVillage_12 : decode cX9_isVillage 12 = .ok (.iload_n 1, 1) := by decide +kernel
theorem dX9_isVillage_13 : decode cX9_isVillage 13 = .ok (.aload_n 0, 1) := by decide +kernel
theorem dX9_isVillage_14 : decode cX9_isVillage 14 = .ok (.getfield 59, 3) := by decide +kernel
theorem dX9_isVillage_17 : decode cX9_isVillage 17 = .ok (.arraylength, 1) := by decide +kernel
theorem dX9_isVillage_18 : decode cX9_isVillage 18 = .ok (.if_icmp .ge 7, 3) := by decide +kernel
theorem dX9_isVillage_21 : decode cX9_isVillage 21 = .ok (.iconst 1, 1) := by decide +kernel
theorem dX9_isVillage_22 : decode cX9_isVillage 22 = .ok (.goto 4, 3) := by decide +kernel
theorem dX9_isVillage_25 : decode cX9_isVillage 25 = .ok (.iconst 0, 1) := by decide +kernel
theorem dX9_isVillage_26 : decode cX9_isVillage 26 = .ok (.ireturn, 1) := by decide +kernel
theorem dX9_doneOnFloor_0 : decode cX9_doneOnFloor 0 = .ok (.aload_n 0, 1) := by decide +kernel
theorem dX9_doneOnFloor_1 : decode cX9_doneOnFloor 1 = .ok (.getfield 10, 3) := by decide +kernel
theorem dX9_doneOnFloor_4 : decode cX9_doneOnFloor 4 = .ok (.aload_n 1, 1) := by decide +kernel
theorem dX9_doneOnFloor_5 : decode cX9_doneOnFloor 5 = .ok (.iload_n 2, 1) := by decide +kernel
theorem dX9_doneOnFloor_6 : decode cX9_doneOnFloor 6 = .ok (.invokevirtual 221, 3) := by decide +kernel
theorem dX9_doneOnFloor_9 : decode cX9_doneOnFloor 9 = .ok (.istore_n 3, 1) := by decide +kernel
theorem dX9_doneOnFloor_10 : decode cX9_doneOnFloor 10 = .ok (.aload_n 0, 1) := by decide +kernel
theorem dX9_doneOnFloor_11 : decode cX9_doneOnFloor 11 = .ok (.aload_n 0, 1) := by decide +kernel
theorem dX9_doneOnFloor_12 : decode cX9_doneOnFloor 12 = .ok (.getfield 10, 3) := by decide +kernel
theorem dX9_doneOnFloor_15 : decode cX9_doneOnFloor 15 = .ok (.getfield 224, 3) := by decide +kernel
theorem dX9_doneOnFloor_18 : decode cX9_doneOnFloor 18 = .ok (.putfield 218, 3) := by decide +kernel
theorem dX9_doneOnFloor_21 : decode cX9_doneOnFloor 21 = .ok (.aload_n 0, 1) := by decide +kernel
theorem dX9_doneOnFloor_22 : decode cX9_doneOnFloor 22 = .ok (.getfield 218, 3) := by decide +kernel
theorem dX9_doneOnFloor_25 : decode cX9_doneOnFloor 25 = .ok (.ifCond .ne 7, 3) := by decide +kernel
theorem dX9_doneOnFloor_28 : decode cX9_doneOnFloor 28 = .ok (.iload_n 3, 1) := by decide +kernel
theorem dX9_doneOnFloor_29 : decode cX9_doneOnFloor 29 = .ok (.goto 7, 3) := by decide +kernel
theorem dX9_doneOnFloor_32 : decode cX9_doneOnFloor 32 = .ok (.bipush (-100), 2) := by decide +kernel
theorem dX9_doneOnFloor_34 : decode cX9_doneOnFloor 34 = .ok (.iload_n 3, 1) := by decide +kernel
theorem dX9_doneOnFloor_35 : decode cX9_doneOnFloor 35 = .ok (.isub, 1) := by decide +kernel
theorem dX9_doneOnFloor_36 : decode cX9_doneOnFloor 36 = .ok (.ireturn, 1) := by decide +kernel
theorem dX9_beatsOf_0 : decode cX9_beatsOf 0 = .ok (.iconst 0, 1) := by decide +kernel
theorem dX9_beatsOf_1 : decode cX9_beatsOf 1 = .ok (.istore_n 2, 1) := by decide +kernel
theorem dX9_beatsOf_2 : decode cX9_beatsOf 2 = .ok (.iconst 0, 1) := by decide +kernel
theorem dX9_beatsOf_3 : decode cX9_beatsOf 3 = .ok (.istore_n 3, 1) := by decide +kernel
theorem dX9_beatsOf_4 : decode cX9_beatsOf 4 = .ok (.iload_n 3, 1) := by decide +kernel
theorem dX9_beatsOf_5 : decode cX9_beatsOf 5 = .ok (.aload_n 1, 1) := by decide +kernel
theorem dX9_beatsOf_6 : decode cX9_beatsOf 6 = .ok (.getfield 258, 3) := by decide +kernel
theorem dX9_beatsOf_9 : decode cX9_beatsOf 9 = .ok (.if_icmp .ge 38, 3) := by decide +kernel
theorem dX9_beatsOf_12 : decode cX9_beatsOf 12 = .ok (.aload_n 1, 1) := by decide +kernel
theorem dX9_beatsOf_13 : decode cX9_beatsOf 13 = .ok (.iload_n 3, 1) := by decide +kernel
theorem dX9_beatsOf_14 : decode cX9_beatsOf 14 = .ok (.invokevirtual 263, 3) := by decide +kernel
theorem dX9_beatsOf_17 : decode cX9_beatsOf 17 = .ok (.istore 4, 2) := by decide +kernel
theorem dX9_beatsOf_19 : decode cX9_beatsOf 19 = .ok (.aload_n 0, 1) := by decide +kernel
theorem dX9_beatsOf_20 : decode cX9_beatsOf 20 = .ok (.iload 4, 2) := by decide +kernel
theorem dX9_beatsOf_22 : decode cX9_beatsOf 22 = .ok (.invokevirtual 197, 3) := by decide +kernel
theorem dX9_beatsOf_25 : decode cX9_beatsOf 25 = .ok (.ifCond .eq 16, 3) := by decide +kernel
theorem dX9_beatsOf_28 : decode cX9_beatsOf 28 = .ok (.iload_n 2, 1) := by decide +kernel
theorem dX9_beatsOf_29 : decode cX9_beatsOf 29 = .ok (.aload_n 0, 1) := by decide +kernel
theorem dX9_beatsOf_30 : decode cX9_beatsOf 30 = .ok (.getfield 53, 3) := by decide +kernel
theorem dX9_beatsOf_33 : decode cX9_beatsOf 33 = .ok (.iload 4, 2) := by decide +kernel
theorem dX9_beatsOf_35 : decode cX9_beatsOf 35 = .ok (.aaload, 1) := by decide +kernel
theorem dX9_beatsOf_36 : decode cX9_beatsOf 36 = .ok (.getfield 201, 3) := by decide +kernel
theorem dX9_beatsOf_39 : decode cX9_beatsOf 39 = .ok (.iadd, 1) := by decide +kernel
theorem dX9_beatsOf_40 : decode cX9_beatsOf 40 = .ok (.istore_n 2, 1) := by decide +kernel
theorem dX9_beatsOf_41 : decode cX9_beatsOf 41 = .ok (.iinc 3 1, 3) := by decide +kernel
theorem dX9_beatsOf_44 : decode cX9_beatsOf 44 = .ok (.goto (-40), 3) := by decide +kernel
theorem dX9_beatsOf_47 : decode cX9_beatsOf 47 = .ok (.iload_n 2, 1) := by decide +kernel
theorem dX9_beatsOf_48 : decode cX9_beatsOf 48 = .ok (.ireturn, 1) := by decide +kernel
theorem dJ11_isValidCodePoint_9a6ad_0 : decode cJ11_isValidCodePoint_9a6ad 0 = .ok (.iload_n 0, 1) := by decide +kernel
theorem dJ11_isValidCodePoint_9a6ad_1 : decode cJ11_isValidCodePoint_9a6ad 1 = .ok (.bipush 16, 2) := by decide +kernel
theorem dJ11_isValidCodePoint_9a6ad_3 : decode cJ11_isValidCodePoint_9a6ad 3 = .ok (.iushr, 1) := by decide +kernel
theorem dJ11_isValidCodePoint_9a6ad_4 : decode cJ11_isValidCodePoint_9a6ad 4 = .ok (.istore_n 1, 1) := by decide +kernel
theorem dJ11_isValidCodePoint_9a6ad_5 : decode cJ11_isValidCodePoint_9a6ad 5 = .ok (.iload_n 1, 1) := by decide +kernel
theorem dJ11_isValidCodePoint_9a6ad_6 : decode cJ11_isValidCodePoint_9a6ad 6 = .ok (.bipush 17, 2) := by decide +kernel
theorem dJ11_isValidCodePoint_9a6ad_8 : decode cJ11_isValidCodePoint_9a6ad 8 = .ok (.if_icmp .ge 7, 3) := by decide +kernel
theorem dJ11_isValidCodePoint_9a6ad_11 : decode cJ11_isValidCodePoint_9a6ad 11 = .ok (.iconst 1, 1) := by decide +kernel
theorem dJ11_isValidCodePoint_9a6ad_12 : decode cJ11_isValidCodePoint_9a6ad 12 = .ok (.goto 4, 3) := by decide +kernel
theorem dJ11_isValidCodePoint_9a6ad_15 : decode cJ11_isValidCodePoint_9a6ad 15 = .ok (.iconst 0, 1) := by decide +kernel
theorem dJ11_isValidCodePoint_9a6ad_16 : decode cJ11_isValidCodePoint_9a6ad 16 = .ok (.ireturn, 1) := by decide +kernel
theorem dJ11_highSurrogate_5068e_0 : decode cJ11_highSurrogate_5068e 0 = .ok (.iload_n 0, 1) := by decide +kernel
theorem dJ11_highSurrogate_5068e_1 : decode cJ11_highSurrogate_5068e 1 = .ok (.bipush 10, 2) := by decide +kernel
theorem dJ11_highSurrogate_5068e_3 : decode cJ11_highSurrogate_5068e 3 = .ok (.iushr, 1) := by decide +kernel
theorem dJ11_highSurrogate_5068e_4 : decode cJ11_highSurrogate_5068e 4 = .ok (.ldc 110, 2) := by decide +kernel
theorem dJ11_highSurrogate_5068e_6 : decode cJ11_highSurrogate_5068e 6 = .ok (.iadd, 1) := by decide +kernel
theorem dJ11_highSurrogate_5068e_7 : decode cJ11_highSurrogate_5068e 7 = .ok (.i2c, 1) := by decide +kernel
theorem dJ11_highSurrogate_5068e_8 : decode cJ11_highSurrogate_5068e 8 = .ok (.ireturn, 1) := by decide +kernel
theorem dJ11_lowSurrogate_5068e_0 : decode cJ11_lowSurrogate_5068e 0 = .ok (.iload_n 0, 1) := by decide +kernel
theorem dJ11_lowSurrogate_5068e_1 : decode cJ11_lowSurrogate_5068e 1 = .ok (.sipush 1023, 3) := by decide +kernel
theorem dJ11_lowSurrogate_5068e_4 : decode cJ11_lowSurrogate_5068e 4 = .ok (.iand, 1) := by decide +kernel
theorem dJ11_lowSurrogate_5068e_5 : decode cJ11_lowSurrogate_5068e 5 = .ok (.ldc 76, 2) := by decide +kernel
theorem dJ11_lowSurrogate_5068e_7 : decode cJ11_lowSurrogate_5068e 7 = .ok (.iadd, 1) := by decide +kernel
theorem dJ11_lowSurrogate_5068e_8 : decode cJ11_lowSurrogate_5068e 8 = .ok (.i2c, 1) := by decide +kernel
theorem dJ11_lowSurrogate_5068e_9 : decode cJ11_lowSurrogate_5068e 9 = .ok (.ireturn, 1) := by decide +kernel
theorem dJ6_bitCount_0f7a4_0 : decode cJ6_bitCount_0f7a4 0 = .ok (.iload_n 0, 1) := by decide +kernel
theorem dJ6_bitCount_0f7a4_1 : decode cJ6_bitCount_0f7a4 1 = .ok (.iload_n 0, 1) := by decide +kernel
theorem dJ6_bitCount_0f7a4_2 : decode cJ6_bitCount_0f7a4 2 = .ok (.iconst 1, 1) := by decide +kernel
theorem dJ6_bitCount_0f7a4_3 : decode cJ6_bitCount_0f7a4 3 = .ok (.iushr, 1) := by decide +kernel
theorem dJ6_bitCount_0f7a4_4 : decode cJ6_bitCount_0f7a4 4 = .ok (.ldc_w 265, 3) := by decide +kernel
theorem dJ6_bitCount_0f7a4_7 : decode cJ6_bitCount_0f7a4 7 = .ok (.iand, 1) := by decide +kernel
theorem dJ6_bitCount_0f7a4_8 : decode cJ6_bitCount_0f7a4 8 = .ok (.isub, 1) := by decide +kernel
theorem dJ6_bitCount_0f7a4_9 : decode cJ6_bitCount_0f7a4 9 = .ok (.istore_n 0, 1) := by decide +kernel
theorem dJ6_bitCount_0f7a4_10 : decode cJ6_bitCount_0f7a4 10 = .ok (.iload_n 0, 1) := by decide +kernel
theorem dJ6_bitCount_0f7a4_11 : decode cJ6_bitCount_0f7a4 11 = .ok (.ldc_w 266, 3) := by decide +kernel
theorem dJ6_bitCount_0f7a4_14 : decode cJ6_bitCount_0f7a4 14 = .ok (.iand, 1) := by decide +kernel
theorem dJ6_bitCount_0f7a4_15 : decode cJ6_bitCount_0f7a4 15 = .ok (.iload_n 0, 1) := by decide +kernel
theorem dJ6_bitCount_0f7a4_16 : decode cJ6_bitCount_0f7a4 16 = .ok (.iconst 2, 1) := by decide +kernel
theorem dJ6_bitCount_0f7a4_17 : decode cJ6_bitCount_0f7a4 17 = .ok (.iushr, 1) := by decide +kernel
theorem dJ6_bitCount_0f7a4_18 : decode cJ6_bitCount_0f7a4 18 = .ok (.ldc_w 266, 3) := by decide +kernel
theorem dJ6_bitCount_0f7a4_21 : decode cJ6_bitCount_0f7a4 21 = .ok (.iand, 1) := by decide +kernel
theorem dJ6_bitCount_0f7a4_22 : decode cJ6_bitCount_0f7a4 22 = .ok (.iadd, 1) := by decide +kernel
theorem dJ6_bitCount_0f7a4_23 : decode cJ6_bitCount_0f7a4 23 = .ok (.istore_n 0, 1) := by decide +kernel
theorem dJ6_bitCount_0f7a4_24 : decode cJ6_bitCount_0f7a4 24 = .ok (.iload_n 0, 1) := by decide +kernel
theorem dJ6_bitCount_0f7a4_25 : decode cJ6_bitCount_0f7a4 25 = .ok (.iload_n 0, 1) := by decide +kernel
theorem dJ6_bitCount_0f7a4_26 : decode cJ6_bitCount_0f7a4 26 = .ok (.iconst 4, 1) := by decide +kernel
theorem dJ6_bitCount_0f7a4_27 : decode cJ6_bitCount_0f7a4 27 = .ok (.iushr, 1) := by decide +kernel
theorem dJ6_bitCount_0f7a4_28 : decode cJ6_bitCount_0f7a4 28 = .ok (.iadd, 1) := by decide +kernel
theorem dJ6_bitCount_0f7a4_29 : decode cJ6_bitCount_0f7a4 29 = .ok (.ldc_w 267, 3) := by decide +kernel
theorem dJ6_bitCount_0f7a4_32 : decode cJ6_bitCount_0f7a4 32 = .ok (.iand, 1) := by decide +kernel
theorem dJ6_bitCount_0f7a4_33 : decode cJ6_bitCount_0f7a4 33 = .ok (.istore_n 0, 1) := by decide +kernel
theorem dJ6_bitCount_0f7a4_34 : decode cJ6_bitCount_0f7a4 34 = .ok (.iload_n 0, 1) := by decide +kernel
theorem dJ6_bitCount_0f7a4_35 : decode cJ6_bitCount_0f7a4 35 = .ok (.iload_n 0, 1) := by decide +kernel
theorem dJ6_bitCount_0f7a4_36 : decode cJ6_bitCount_0f7a4 36 = .ok (.bipush 8, 2) := by decide +kernel
theorem dJ6_bitCount_0f7a4_38 : decode cJ6_bitCount_0f7a4 38 = .ok (.iushr, 1) := by decide +kernel
theorem dJ6_bitCount_0f7a4_39 : decode cJ6_bitCount_0f7a4 39 = .ok (.iadd, 1) := by decide +kernel
theorem dJ6_bitCount_0f7a4_40 : decode cJ6_bitCount_0f7a4 40 = .ok (.istore_n 0, 1) := by decide +kernel
theorem dJ6_bitCount_0f7a4_41 : decode cJ6_bitCount_0f7a4 41 = .ok (.iload_n 0, 1) := by decide +kernel
theorem dJ6_bitCount_0f7a4_42 : decode cJ6_bitCount_0f7a4 42 = .ok (.iload_n 0, 1) := by decide +kernel
theorem dJ6_bitCount_0f7a4_43 : decode cJ6_bitCount_0f7a4 43 = .ok (.bipush 16, 2) := by decide +kernel
theorem dJ6_bitCount_0f7a4_45 : decode cJ6_bitCount_0f7a4 45 = .ok (.iushr, 1) := by decide +kernel
theorem dJ6_bitCount_0f7a4_46 : decode cJ6_bitCount_0f7a4 46 = .ok (.iadd, 1) := by decide +kernel
theorem dJ6_bitCount_0f7a4_47 : decode cJ6_bitCount_0f7a4 47 = .ok (.istore_n 0, 1) := by decide +kernel
theorem dJ6_bitCount_0f7a4_48 : decode cJ6_bitCount_0f7a4 48 = .ok (.iload_n 0, 1) := by decide +kernel
theorem dJ6_bitCount_0f7a4_49 : decode cJ6_bitCount_0f7a4 49 = .ok (.bipush 63, 2) := by decide +kernel
theorem dJ6_bitCount_0f7a4_51 : decode cJ6_bitCount_0f7a4 51 = .ok (.iand, 1) := by decide +kernel
theorem dJ6_bitCount_0f7a4_52 : decode cJ6_bitCount_0f7a4 52 = .ok (.ireturn, 1) := by decide +kernel
theorem dJ9_abs_0f7a4_0 : decode cJ9_abs_0f7a4 0 = .ok (.iload_n 0, 1) := by decide +kernel
theorem dJ9_abs_0f7a4_1 : decode cJ9_abs_0f7a4 1 = .ok (.ifCond .ge 8, 3) := by decide +kernel
theorem dJ9_abs_0f7a4_4 : decode cJ9_abs_0f7a4 4 = .ok (.iload_n 0, 1) := by decide +kernel
theorem dJ9_abs_0f7a4_5 : decode cJ9_abs_0f7a4 5 = .ok (.ineg, 1) := by decide +kernel
theorem dJ9_abs_0f7a4_6 : decode cJ9_abs_0f7a4 6 = .ok (.goto 4, 3) := by decide +kernel
theorem dJ9_abs_0f7a4_9 : decode cJ9_abs_0f7a4 9 = .ok (.iload_n 0, 1) := by decide +kernel
theorem dJ9_abs_0f7a4_10 : decode cJ9_abs_0f7a4 10 = .ok (.ireturn, 1) := by decide +kernel
theorem dJ9_max_7cf53_0 : decode cJ9_max_7cf53 0 = .ok (.iload_n 0, 1) := by decide +kernel
theorem dJ9_max_7cf53_1 : decode cJ9_max_7cf53 1 = .ok (.iload_n 1, 1) := by decide +kernel
theorem dJ9_max_7cf53_2 : decode cJ9_max_7cf53 2 = .ok (.if_icmp .lt 7, 3) := by decide +kernel
theorem dJ9_max_7cf53_5 : decode cJ9_max_7cf53 5 = .ok (.iload_n 0, 1) := by decide +kernel
theorem dJ9_max_7cf53_6 : decode cJ9_max_7cf53 6 = .ok (.goto 4, 3) := by decide +kernel
theorem dJ9_max_7cf53_9 : decode cJ9_max_7cf53 9 = .ok (.iload_n 1, 1) := by decide +kernel
theorem dJ9_max_7cf53_10 : decode cJ9_max_7cf53 10 = .ok (.ireturn, 1) := by decide +kernel
theorem dJ9_min_7cf53_0 : decode cJ9_min_7cf53 0 = .ok (.iload_n 0, 1) := by decide +kernel
theorem dJ9_min_7cf53_1 : decode cJ9_min_7cf53 1 = .ok (.iload_n 1, 1) := by decide +kernel
theorem dJ9_min_7cf53_2 : decode cJ9_min_7cf53 2 = .ok (.if_icmp .gt 7, 3) := by decide +kernel
theorem dJ9_min_7cf53_5 : decode cJ9_min_7cf53 5 = .ok (.iload_n 0, 1) := by decide +kernel
theorem dJ9_min_7cf53_6 : decode cJ9_min_7cf53 6 = .ok (.goto 4, 3) := by decide +kernel
theorem dJ9_min_7cf53_9 : decode cJ9_min_7cf53 9 = .ok (.iload_n 1, 1) := by decide +kernel
theorem dJ9_min_7cf53_10 : decode cJ9_min_7cf53 10 = .ok (.ireturn, 1) := by decide +kernel
theorem dJ0_length_8abf5_0 : decode cJ0_length_8abf5 0 = .ok (.aload_n 0, 1) := by decide +kernel
theorem dJ0_length_8abf5_1 : decode cJ0_length_8abf5 1 = .ok (.getfield 9, 3) := by decide +kernel
theorem dJ0_length_8abf5_4 : decode cJ0_length_8abf5 4 = .ok (.arraylength, 1) := by decide +kernel
theorem dJ0_length_8abf5_5 : decode cJ0_length_8abf5 5 = .ok (.aload_n 0, 1) := by decide +kernel
theorem dJ0_length_8abf5_6 : decode cJ0_length_8abf5 6 = .ok (.invokevirtual 335, 3) := by decide +kernel
theorem dJ0_length_8abf5_9 : decode cJ0_length_8abf5 9 = .ok (.ishr, 1) := by decide +kernel
theorem dJ0_length_8abf5_10 : decode cJ0_length_8abf5 10 = .ok (.ireturn, 1) := by decide +kernel
theorem dJ0_indexOf_0f7a4_0 : decode cJ0_indexOf_0f7a4 0 = .ok (.aload_n 0, 1) := by decide +kernel
theorem dJ0_indexOf_0f7a4_1 : decode cJ0_indexOf_0f7a4 1 = .ok (.iload_n 1, 1) := by decide +kernel
theorem dJ0_indexOf_0f7a4_2 : decode cJ0_indexOf_0f7a4 2 = .ok (.iconst 0, 1) := by decide +kernel
theorem dJ0_indexOf_0f7a4_3 : decode cJ0_indexOf_0f7a4 3 = .ok (.invokevirtual 633, 3) := by decide +kernel
theorem dJ0_indexOf_0f7a4_6 : decode cJ0_indexOf_0f7a4 6 = .ok (.ireturn, 1) := by decide +kernel
theorem dJ0_indexOf_7cf53_0 : decode cJ0_indexOf_7cf53 0 = .ok (.aload_n 0, 1) := by decide +kernel
theorem dJ0_indexOf_7cf53_1 : decode cJ0_indexOf_7cf53 1 = .ok (.invokevirtual 492, 3) := by decide +kernel
theorem dJ0_indexOf_7cf53_4 : decode cJ0_indexOf_7cf53 4 = .ok (.ifCond .eq 19, 3) := by decide +kernel
theorem dJ0_indexOf_7cf53_7 : decode cJ0_indexOf_7cf53 7 = .ok (.aload_n 0, 1) := by decide +kernel
theorem dJ0_indexOf_7cf53_8 : decode cJ0_indexOf_7cf53 8 = .ok (.getfield 9, 3) := by decide +kernel
theorem dJ0_indexOf_7cf53_11 : decode cJ0_indexOf_7cf53 11 = .ok (.iload_n 1, 1) := by decide +kernel
theorem dJ0_indexOf_7cf53_12 : decode cJ0_indexOf_7cf53 12 = .ok (.iload_n 2, 1) := by decide +kernel
theorem dJ0_indexOf_7cf53_13 : decode cJ0_indexOf_7cf53 13 = .ok (.aload_n 0, 1) := by decide +kernel
theorem dJ0_indexOf_7cf53_14 : decode cJ0_indexOf_7cf53 14 = .ok (.invokevirtual 505, 3) := by decide +kernel
theorem dJ0_indexOf_7cf53_17 : decode cJ0_indexOf_7cf53 17 = .ok (.invokestatic 637, 3) := by decide +kernel
theorem dJ0_indexOf_7cf53_20 : decode cJ0_indexOf_7cf53 20 = .ok (.goto 16, 3) := by decide +kernel
theorem dJ0_indexOf_7cf53_23 : decode cJ0_indexOf_7cf53 23 = .ok (.aload_n 0, 1) := by decide +kernel
theorem dJ0_indexOf_7cf53_24 : decode cJ0_indexOf_7cf53 24 = .ok (.getfield 9, 3) := by decide +kernel
theorem dJ0_indexOf_7cf53_27 : decode cJ0_indexOf_7cf53 27 = .ok (.iload_n 1, 1) := by decide +kernel
theorem dJ0_indexOf_7cf53_28 : decode cJ0_indexOf_7cf53 28 = .ok (.iload_n 2, 1) := by decide +kernel
theorem dJ0_indexOf_7cf53_29 : decode cJ0_indexOf_7cf53 29 = .ok (.aload_n 0, 1) := by decide +kernel
theorem dJ0_indexOf_7cf53_30 : decode cJ0_indexOf_7cf53 30 = .ok (.invokevirtual 505, 3) := by decide +kernel
theorem dJ0_indexOf_7cf53_33 : decode cJ0_indexOf_7cf53 33 = .ok (.invokestatic 640, 3) := by decide +kernel
theorem dJ0_indexOf_7cf53_36 : decode cJ0_indexOf_7cf53 36 = .ok (.ireturn, 1) := by decide +kernel
theorem dJ0_coder_7d493_0 : decode cJ0_coder_7d493 0 = .ok (.getstatic 38, 3) := by decide +kernel
theorem dJ0_coder_7d493_3 : decode cJ0_coder_7d493 3 = .ok (.ifCond .eq 10, 3) := by decide +kernel
theorem dJ0_coder_7d493_6 : decode cJ0_coder_7d493 6 = .ok (.aload_n 0, 1) := by decide +kernel
theorem dJ0_coder_7d493_7 : decode cJ0_coder_7d493 7 = .ok (.getfield 15, 3) := by decide +kernel
theorem dJ0_coder_7d493_10 : decode cJ0_coder_7d493 10 = .ok (.goto 4, 3) := by decide +kernel
theorem dJ0_coder_7d493_13 : decode cJ0_coder_7d493 13 = .ok (.iconst 1, 1) := by decide +kernel
theorem dJ0_coder_7d493_14 : decode cJ0_coder_7d493 14 = .ok (.ireturn, 1) := by decide +kernel
theorem dJ0_isLatin1_aae02_0 : decode cJ0_isLatin1_aae02 0 = .ok (.getstatic 38, 3) := by decide +kernel
theorem dJ0_isLatin1_aae02_3 : decode cJ0_isLatin1_aae02 3 = .ok (.ifCond .eq 14, 3) := by decide +kernel
theorem dJ0_isLatin1_aae02_6 : decode cJ0_isLatin1_aae02 6 = .ok (.aload_n 0, 1) := by decide +kernel
theorem dJ0_isLatin1_aae02_7 : decode cJ0_isLatin1_aae02 7 = .ok (.getfield 15, 3) := by decide +kernel
theorem dJ0_isLatin1_aae02_10 : decode cJ0_isLatin1_aae02 10 = .ok (.ifCond .ne 7, 3) := by decide +kernel
theorem dJ0_isLatin1_aae02_13 : decode cJ0_isLatin1_aae02 13 = .ok (.iconst 1, 1) := by decide +kernel
theorem dJ0_isLatin1_aae02_14 : decode cJ0_isLatin1_aae02 14 = .ok (.goto 4, 3) := by decide +kernel
theorem dJ0_isLatin1_aae02_17 : decode cJ0_isLatin1_aae02 17 = .ok (.iconst 0, 1) := by decide +kernel
theorem dJ0_isLatin1_aae02_18 : decode cJ0_isLatin1_aae02 18 = .ok (.ireturn, 1) := by decide +kernel
theorem dJ0_checkBoundsBeginEnd_23922_0 : decode cJ0_checkBoundsBeginEnd_23922 0 = .ok (.iload_n 0, 1) := by decide +kernel
theorem dJ0_checkBoundsBeginEnd_23922_1 : decode cJ0_checkBoundsBeginEnd_23922 1 = .ok (.iload_n 1, 1) := by decide +kernel
theorem dJ0_checkBoundsBeginEnd_23922_2 : decode cJ0_checkBoundsBeginEnd_23922 2 = .ok (.iload_n 2, 1) := by decide +kernel
theorem dJ0_checkBoundsBeginEnd_23922_3 : decode cJ0_checkBoundsBeginEnd_23922 3 = .ok (.getstatic 1053, 3) := by decide +kernel
theorem dJ0_checkBoundsBeginEnd_23922_6 : decode cJ0_checkBoundsBeginEnd_23922 6 = .ok (.invokestatic 1062, 3) := by decide +kernel
theorem dJ0_checkBoundsBeginEnd_23922_9 : decode cJ0_checkBoundsBeginEnd_23922 9 = .ok (.pop, 1) := by decide +kernel
theorem dJ0_checkBoundsBeginEnd_23922_10 : decode cJ0_checkBoundsBeginEnd_23922 10 = .ok (.return_, 1) := by decide +kernel
theorem dJ1_canEncode_9a6ad_0 : decode cJ1_canEncode_9a6ad 0 = .ok (.iload_n 0, 1) := by decide +kernel
theorem dJ1_canEncode_9a6ad_1 : decode cJ1_canEncode_9a6ad 1 = .ok (.ifCond .lt 14, 3) := by decide +kernel
theorem dJ1_canEncode_9a6ad_4 : decode cJ1_canEncode_9a6ad 4 = .ok (.iload_n 0, 1) := by decide +kernel
theorem dJ1_canEncode_9a6ad_5 : decode cJ1_canEncode_9a6ad 5 = .ok (.sipush 255, 3) := by decide +kernel
theorem dJ1_canEncode_9a6ad_8 : decode cJ1_canEncode_9a6ad 8 = .ok (.if_icmp .gt 7, 3) := by decide +kernel
theorem dJ1_canEncode_9a6ad_11 : decode cJ1_canEncode_9a6ad 11 = .ok (.iconst 1, 1) := by decide +kernel
theorem dJ1_canEncode_9a6ad_12 : decode cJ1_canEncode_9a6ad 12 = .ok (.goto 4, 3) := by decide +kernel
theorem dJ1_canEncode_9a6ad_15 : decode cJ1_canEncode_9a6ad 15 = .ok (.iconst 0, 1) := by decide +kernel
theorem dJ1_canEncode_9a6ad_16 : decode cJ1_canEncode_9a6ad 16 = .ok (.ireturn, 1) := by decide +kernel
theorem dJ1_indexOf_4cfef_0 : decode cJ1_indexOf_4cfef 0 = .ok (.iload_n 1, 1) := by decide +kernel
theorem dJ1_indexOf_4cfef_1 : decode cJ1_indexOf_4cfef 1 = .ok (.invokestatic 88, 3) := by decide +kernel
theorem dJ1_indexOf_4cfef_4 : decode cJ1_indexOf_4cfef 4 = .ok (.ifCond .ne 5, 3) := by decide +kernel
theorem dJ1_indexOf_4cfef_7 : decode cJ1_indexOf_4cfef 7 = .ok (.iconst (-1), 1) := by decide +kernel
theorem dJ1_indexOf_4cfef_8 : decode cJ1_indexOf_4cfef 8 = .ok (.ireturn, 1) := by decide +kernel
theorem dJ1_indexOf_4cfef_9 : decode cJ1_indexOf_4cfef 9 = .ok (.iload_n 2, 1) := by decide +kernel
theorem dJ1_indexOf_4cfef_10 : decode cJ1_indexOf_4cfef 10 = .ok (.iconst 0, 1) := by decide +kernel
theorem dJ1_indexOf_4cfef_11 : decode cJ1_indexOf_4cfef 11 = .ok (.invokestatic 92, 3) := by decide +kernel
theorem dJ1_indexOf_4cfef_14 : decode cJ1_indexOf_4cfef 14 = .ok (.istore_n 2, 1) := by decide +kernel
theorem dJ1_indexOf_4cfef_15 : decode cJ1_indexOf_4cfef 15 = .ok (.iload_n 3, 1) := by decide +kernel
theorem dJ1_indexOf_4cfef_16 : decode cJ1_indexOf_4cfef 16 = .ok (.aload_n 0, 1) := by decide +kernel
theorem dJ1_indexOf_4cfef_17 : decode cJ1_indexOf_4cfef 17 = .ok (.arraylength, 1) := by decide +kernel
theorem dJ1_indexOf_4cfef_18 : decode cJ1_indexOf_4cfef 18 = .ok (.invokestatic 38, 3) := by decide +kernel
theorem dJ1_indexOf_4cfef_21 : decode cJ1_indexOf_4cfef 21 = .ok (.istore_n 3, 1) := by decide +kernel
theorem dJ1_indexOf_4cfef_22 : decode cJ1_indexOf_4cfef 22 = .ok (.iload_n 2, 1) := by decide +kernel
theorem dJ1_indexOf_4cfef_23 : decode cJ1_indexOf_4cfef 23 = .ok (.iload_n 3, 1) := by decide +kernel
theorem dJ1_indexOf_4cfef_24 : decode cJ1_indexOf_4cfef 24 = .ok (.if_icmp .lt 5, 3) := by decide +kernel
theorem dJ1_indexOf_4cfef_27 : decode cJ1_indexOf_4cfef 27 = .ok (.iconst (-1), 1) := by decide +kernel
theorem dJ1_indexOf_4cfef_28 : decode cJ1_indexOf_4cfef 28 = .ok (.ireturn, 1) := by decide +kernel
theorem dJ1_indexOf_4cfef_29 : decode cJ1_indexOf_4cfef 29 = .ok (.aload_n 0, 1) := by decide +kernel
theorem dJ1_indexOf_4cfef_30 : decode cJ1_indexOf_4cfef 30 = .ok (.iload_n 1, 1) := by decide +kernel
theorem dJ1_indexOf_4cfef_31 : decode cJ1_indexOf_4cfef 31 = .ok (.iload_n 2, 1) := by decide +kernel
theorem dJ1_indexOf_4cfef_32 : decode cJ1_indexOf_4cfef 32 = .ok (.iload_n 3, 1) := by decide +kernel
theorem dJ1_indexOf_4cfef_33 : decode cJ1_indexOf_4cfef 33 = .ok (.invokestatic 95, 3) := by decide +kernel
theorem dJ1_indexOf_4cfef_36 : decode cJ1_indexOf_4cfef 36 = .ok (.ireturn, 1) := by decide +kernel
theorem dJ1_indexOfChar_4cfef_0 : decode cJ1_indexOfChar_4cfef 0 = .ok (.iload_n 1, 1) := by decide +kernel
theorem dJ1_indexOfChar_4cfef_1 : decode cJ1_indexOfChar_4cfef 1 = .ok (.i2b, 1) := by decide +kernel
theorem dJ1_indexOfChar_4cfef_2 : decode cJ1_indexOfChar_4cfef 2 = .ok (.istore 4, 2) := by decide +kernel
theorem dJ1_indexOfChar_4cfef_4 : decode cJ1_indexOfChar_4cfef 4 = .ok (.iload_n 2, 1) := by decide +kernel
theorem dJ1_indexOfChar_4cfef_5 : decode cJ1_indexOfChar_4cfef 5 = .ok (.istore 5, 2) := by decide +kernel
theorem dJ1_indexOfChar_4cfef_7 : decode cJ1_indexOfChar_4cfef 7 = .ok (.iload 5, 2) := by decide +kernel
theorem dJ1_indexOfChar_4cfef_9 : decode cJ1_indexOfChar_4cfef 9 = .ok (.iload_n 3, 1) := by decide +kernel
theorem dJ1_indexOfChar_4cfef_10 : decode cJ1_indexOfChar_4cfef 10 = .ok (.if_icmp .ge 21, 3) := by decide +kernel
theorem dJ1_indexOfChar_4cfef_13 : decode cJ1_indexOfChar_4cfef 13 = .ok (.aload_n 0, 1) := by decide +kernel
theorem dJ1_indexOfChar_4cfef_14 : decode cJ1_indexOfChar_4cfef 14 = .ok (.iload 5, 2) := by decide +kernel
theorem dJ1_indexOfChar_4cfef_16 : decode cJ1_indexOfChar_4cfef 16 = .ok (.baload, 1) := by decide +kernel
theorem dJ1_indexOfChar_4cfef_17 : decode cJ1_indexOfChar_4cfef 17 = .ok (.iload 4, 2) := by decide +kernel
theorem dJ1_indexOfChar_4cfef_19 : decode cJ1_indexOfChar_4cfef 19 = .ok (.if_icmp .ne 6, 3) := by decide +kernel
theorem dJ1_indexOfChar_4cfef_22 : decode cJ1_indexOfChar_4cfef 22 = .ok (.iload 5, 2) := by decide +kernel
theorem dJ1_indexOfChar_4cfef_24 : decode cJ1_indexOfChar_4cfef 24 = .ok (.ireturn, 1) := by decide +kernel
theorem dJ1_indexOfChar_4cfef_25 : decode cJ1_indexOfChar_4cfef 25 = .ok (.iinc 5 1, 3) := by decide +kernel
theorem dJ1_indexOfChar_4cfef_28 : decode cJ1_indexOfChar_4cfef 28 = .ok (.goto (-21), 3) := by decide +kernel
theorem dJ1_indexOfChar_4cfef_31 : decode cJ1_indexOfChar_4cfef 31 = .ok (.iconst (-1), 1) := by decide +kernel
theorem dJ1_indexOfChar_4cfef_32 : decode cJ1_indexOfChar_4cfef 32 = .ok (.ireturn, 1) := by decide +kernel
theorem dJ2_getChar_3b067_0 : decode cJ2_getChar_3b067 0 = .ok (.getstatic 44, 3) := by decide +kernel
theorem dJ2_getChar_3b067_3 : decode cJ2_getChar_3b067 3 = .ok (.ifCond .ne 25, 3) := by decide +kernel
theorem dJ2_getChar_3b067_6 : decode cJ2_getChar_3b067 6 = .ok (.iload_n 1, 1) := by decide +kernel
theorem dJ2_getChar_3b067_7 : decode cJ2_getChar_3b067 7 = .ok (.ifCond .lt 11, 3) := by decide +kernel
theorem dJ2_getChar_3b067_10 : decode cJ2_getChar_3b067 10 = .ok (.iload_n 1, 1) := by decide +kernel
theorem dJ2_getChar_3b067_11 : decode cJ2_getChar_3b067 11 = .ok (.aload_n 0, 1) := by decide +kernel
theorem dJ2_getChar_3b067_12 : decode cJ2_getChar_3b067 12 = .ok (.invokestatic 48, 3) := by decide +kernel
theorem dJ2_getChar_3b067_15 : decode cJ2_getChar_3b067 15 = .ok (.if_icmp .lt 13, 3) := by decide +kernel
theorem dJ2_getChar_3b067_18 : decode cJ2_getChar_3b067 18 = .ok (.new 52, 3) := by decide +kernel
theorem dJ2_getChar_3b067_21 : decode cJ2_getChar_3b067 21 = .ok (.dup, 1) := by decide +kernel
theorem dJ2_getChar_3b067_22 : decode cJ2_getChar_3b067 22 = .ok (.ldc 54, 2) := by decide +kernel
theorem dJ2_getChar_3b067_24 : decode cJ2_getChar_3b067 24 = .ok (.invokespecial 56, 3) := by decide +kernel
theorem dJ2_getChar_3b067_27 : decode cJ2_getChar_3b067 27 = .ok (.athrow, 1) := by decide +kernel
theorem dJ2_getChar_3b067_28 : decode cJ2_getChar_3b067 28 = .ok (.iload_n 1, 1) := by decide +kernel
theorem dJ2_getChar_3b067_29 : decode cJ2_getChar_3b067 29 = .ok (.iconst 1, 1) := by decide +kernel
theorem dJ2_getChar_3b067_30 : decode cJ2_getChar_3b067 30 = .ok (.ishl, 1) := by decide +kernel
theorem dJ2_getChar_3b067_31 : decode cJ2_getChar_3b067 31 = .ok (.istore_n 1, 1) := by decide +kernel
theorem dJ2_getChar_3b067_32 : decode cJ2_getChar_3b067 32 = .ok (.aload_n 0, 1) := by decide +kernel
theorem dJ2_getChar_3b067_33 : decode cJ2_getChar_3b067 33 = .ok (.iload_n 1, 1) := by decide +kernel
theorem dJ2_getChar_3b067_34 : decode cJ2_getChar_3b067 34 = .ok (.iinc 1 1, 3) := by decide +kernel
theorem dJ2_getChar_3b067_37 : decode cJ2_getChar_3b067 37 = .ok (.baload, 1) := by decide +kernel
theorem dJ2_getChar_3b067_38 : decode cJ2_getChar_3b067 38 = .ok (.sipush 255, 3) := by decide +kernel
theorem dJ2_getChar_3b067_41 : decode cJ2_getChar_3b067 41 = .ok (.iand, 1) := by decide +kernel
theorem dJ2_getChar_3b067_42 : decode cJ2_getChar_3b067 42 = .ok (.getstatic 59, 3) := by decide +kernel
theorem dJ2_getChar_3b067_45 : decode cJ2_getChar_3b067 45 = .ok (.ishl, 1) := by decide +kernel
theorem dJ2_getChar_3b067_46 : decode cJ2_getChar_3b067 46 = .ok (.aload_n 0, 1) := by decide +kernel
theorem dJ2_getChar_3b067_47 : decode cJ2_getChar_3b067 47 = .ok (.iload_n 1, 1) := by decide +kernel
theorem dJ2_getChar_3b067_48 : decode cJ2_getChar_3b067 48 = .ok (.baload, 1) := by decide +kernel
theorem dJ2_getChar_3b067_49 : decode cJ2_getChar_3b067 49 = .ok (.sipush 255, 3) := by decide +kernel
theorem dJ2_getChar_3b067_52 : decode cJ2_getChar_3b067 52 = .ok (.iand, 1) := by decide +kernel
theorem dJ2_getChar_3b067_53 : decode cJ2_getChar_3b067 53 = .ok (.getstatic 63, 3) := by decide +kernel
theorem dJ2_getChar_3b067_56 : decode cJ2_getChar_3b067 56 = .ok (.ishl, 1) := by decide +kernel
theorem dJ2_getChar_3b067_57 : decode cJ2_getChar_3b067 57 = .ok (.ior, 1) := by decide +kernel
theorem dJ2_getChar_3b067_58 : decode cJ2_getChar_3b067 58 = .ok (.i2c, 1) := by decide +kernel
theorem dJ2_getChar_3b067_59 : decode cJ2_getChar_3b067 59 = .ok (.ireturn, 1) := by decide +kernel
theorem dJ2_length_9d52b_0 : decode cJ2_length_9d52b 0 = .ok (.aload_n 0, 1) := by decide +kernel
theorem dJ2_length_9d52b_1 : decode cJ2_length_9d52b 1 = .ok (.arraylength, 1) := by decide +kernel
theorem dJ2_length_9d52b_2 : decode cJ2_length_9d52b 2 = .ok (.iconst 1, 1) := by decide +kernel
theorem dJ2_length_9d52b_3 : decode cJ2_length_9d52b 3 = .ok (.ishr, 1) := by decide +kernel
theorem dJ2_length_9d52b_4 : decode cJ2_length_9d52b 4 = .ok (.ireturn, 1) := by decide +kernel
theorem dJ2_indexOf_4cfef_0 : decode cJ2_indexOf_4cfef 0 = .ok (.iload_n 2, 1) := by decide +kernel
theorem dJ2_indexOf_4cfef_1 : decode cJ2_indexOf_4cfef 1 = .ok (.iconst 0, 1) := by decide +kernel
theorem dJ2_indexOf_4cfef_2 : decode cJ2_indexOf_4cfef 2 = .ok (.invokestatic 224, 3) := by decide +kernel
theorem dJ2_indexOf_4cfef_5 : decode cJ2_indexOf_4cfef 5 = .ok (.istore_n 2, 1) := by decide +kernel
theorem dJ2_indexOf_4cfef_6 : decode cJ2_indexOf_4cfef 6 = .ok (.iload_n 3, 1) := by decide +kernel
theorem dJ2_indexOf_4cfef_7 : decode cJ2_indexOf_4cfef 7 = .ok (.aload_n 0, 1) := by decide +kernel
theorem dJ2_indexOf_4cfef_8 : decode cJ2_indexOf_4cfef 8 = .ok (.arraylength, 1) := by decide +kernel
theorem dJ2_indexOf_4cfef_9 : decode cJ2_indexOf_4cfef 9 = .ok (.iconst 1, 1) := by decide +kernel
theorem dJ2_indexOf_4cfef_10 : decode cJ2_indexOf_4cfef 10 = .ok (.ishr, 1) := by decide +kernel
theorem dJ2_indexOf_4cfef_11 : decode cJ2_indexOf_4cfef 11 = .ok (.invokestatic 183, 3) := by decide +kernel
theorem dJ2_indexOf_4cfef_14 : decode cJ2_indexOf_4cfef 14 = .ok (.istore_n 3, 1) := by decide +kernel
theorem dJ2_indexOf_4cfef_15 : decode cJ2_indexOf_4cfef 15 = .ok (.iload_n 2, 1) := by decide +kernel
theorem dJ2_indexOf_4cfef_16 : decode cJ2_indexOf_4cfef 16 = .ok (.iload_n 3, 1) := by decide +kernel
theorem dJ2_indexOf_4cfef_17 : decode cJ2_indexOf_4cfef 17 = .ok (.if_icmp .lt 5, 3) := by decide +kernel
theorem dJ2_indexOf_4cfef_20 : decode cJ2_indexOf_4cfef 20 = .ok (.iconst (-1), 1) := by decide +kernel
theorem dJ2_indexOf_4cfef_21 : decode cJ2_indexOf_4cfef 21 = .ok (.ireturn, 1) := by decide +kernel
theorem dJ2_indexOf_4cfef_22 : decode cJ2_indexOf_4cfef 22 = .ok (.iload_n 1, 1) := by decide +kernel
theorem dJ2_indexOf_4cfef_23 : decode cJ2_indexOf_4cfef 23 = .ok (.ldc 227, 2) := by decide +kernel
theorem dJ2_indexOf_4cfef_25 : decode cJ2_indexOf_4cfef 25 = .ok (.if_icmp .ge 11, 3) := by decide +kernel
theorem dJ2_indexOf_4cfef_28 : decode cJ2_indexOf_4cfef 28 = .ok (.aload_n 0, 1) := by decide +kernel
theorem dJ2_indexOf_4cfef_29 : decode cJ2_indexOf_4cfef 29 = .ok (.iload_n 1, 1) := by decide +kernel
theorem dJ2_indexOf_4cfef_30 : decode cJ2_indexOf_4cfef 30 = .ok (.iload_n 2, 1) := by decide +kernel
theorem dJ2_indexOf_4cfef_31 : decode cJ2_indexOf_4cfef 31 = .ok (.iload_n 3, 1) := by decide +kernel
theorem dJ2_indexOf_4cfef_32 : decode cJ2_indexOf_4cfef 32 = .ok (.invokestatic 228, 3) := by decide +kernel
theorem dJ2_indexOf_4cfef_35 : decode cJ2_indexOf_4cfef 35 = .ok (.ireturn, 1) := by decide +kernel
theorem dJ2_indexOf_4cfef_36 : decode cJ2_indexOf_4cfef 36 = .ok (.aload_n 0, 1) := by decide +kernel
theorem dJ2_indexOf_4cfef_37 : decode cJ2_indexOf_4cfef 37 = .ok (.iload_n 1, 1) := by decide +kernel
theorem dJ2_indexOf_4cfef_38 : decode cJ2_indexOf_4cfef 38 = .ok (.iload_n 2, 1) := by decide +kernel
theorem dJ2_indexOf_4cfef_39 : decode cJ2_indexOf_4cfef 39 = .ok (.iload_n 3, 1) := by decide +kernel
theorem dJ2_indexOf_4cfef_40 : decode cJ2_indexOf_4cfef 40 = .ok (.invokestatic 232, 3) := by decide +kernel
theorem dJ2_indexOf_4cfef_43 : decode cJ2_indexOf_4cfef 43 = .ok (.ireturn, 1) := by decide +kernel
theorem dJ2_indexOfChar_4cfef_0 : decode cJ2_indexOfChar_4cfef 0 = .ok (.iload_n 2, 1) := by decide +kernel
theorem dJ2_indexOfChar_4cfef_1 : decode cJ2_indexOfChar_4cfef 1 = .ok (.iload_n 3, 1) := by decide +kernel
theorem dJ2_indexOfChar_4cfef_2 : decode cJ2_indexOfChar_4cfef 2 = .ok (.aload_n 0, 1) := by decide +kernel
theorem dJ2_indexOfChar_4cfef_3 : decode cJ2_indexOfChar_4cfef 3 = .ok (.invokestatic 96, 3) := by decide +kernel
theorem dJ2_indexOfChar_4cfef_6 : decode cJ2_indexOfChar_4cfef 6 = .ok (.aload_n 0, 1) := by decide +kernel
theorem dJ2_indexOfChar_4cfef_7 : decode cJ2_indexOfChar_4cfef 7 = .ok (.iload_n 1, 1) := by decide +kernel
theorem dJ2_indexOfChar_4cfef_8 : decode cJ2_indexOfChar_4cfef 8 = .ok (.iload_n 2, 1) := by decide +kernel
theorem dJ2_indexOfChar_4cfef_9 : decode cJ2_indexOfChar_4cfef 9 = .ok (.iload_n 3, 1) := by decide +kernel
theorem dJ2_indexOfChar_4cfef_10 : decode cJ2_indexOfChar_4cfef 10 = .ok (.invokestatic 244, 3) := by decide +kernel
theorem dJ2_indexOfChar_4cfef_13 : decode cJ2_indexOfChar_4cfef 13 = .ok (.ireturn, 1) := by decide +kernel
theorem dJ2_indexOfCharUnsafe_4cfef_0 : decode cJ2_indexOfCharUnsafe_4cfef 0 = .ok (.iload_n 2, 1) := by decide +kernel
theorem dJ2_indexOfCharUnsafe_4cfef_1 : decode cJ2_indexOfCharUnsafe_4cfef 1 = .ok (.istore 4, 2) := by decide +kernel
theorem dJ2_indexOfCharUnsafe_4cfef_3 : decode cJ2_indexOfCharUnsafe_4cfef 3 = .ok (.iload 4, 2) := by decide +kernel
theorem dJ2_indexOfCharUnsafe_4cfef_5 : decode cJ2_indexOfCharUnsafe_4cfef 5 = .ok (.iload_n 3, 1) := by decide +kernel
theorem dJ2_indexOfCharUnsafe_4cfef_6 : decode cJ2_indexOfCharUnsafe_4cfef 6 = .ok (.if_icmp .ge 22, 3) := by decide +kernel
theorem dJ2_indexOfCharUnsafe_4cfef_9 : decode cJ2_indexOfCharUnsafe_4cfef 9 = .ok (.aload_n 0, 1) := by decide +kernel
theorem dJ2_indexOfCharUnsafe_4cfef_10 : decode cJ2_indexOfCharUnsafe_4cfef 10 = .ok (.iload 4, 2) := by decide +kernel
theorem dJ2_indexOfCharUnsafe_4cfef_12 : decode cJ2_indexOfCharUnsafe_4cfef 12 = .ok (.invokestatic 71, 3) := by decide +kernel
theorem dJ2_indexOfCharUnsafe_4cfef_15 : decode cJ2_indexOfCharUnsafe_4cfef 15 = .ok (.iload_n 1, 1) := by decide +kernel
theorem dJ2_indexOfCharUnsafe_4cfef_16 : decode cJ2_indexOfCharUnsafe_4cfef 16 = .ok (.if_icmp .ne 6, 3) := by decide +kernel
theorem dJ2_indexOfCharUnsafe_4cfef_19 : decode cJ2_indexOfCharUnsafe_4cfef 19 = .ok (.iload 4, 2) := by decide +kernel
theorem dJ2_indexOfCharUnsafe_4cfef_21 : decode cJ2_indexOfCharUnsafe_4cfef 21 = .ok (.ireturn, 1) := by decide +kernel
theorem dJ2_indexOfCharUnsafe_4cfef_22 : decode cJ2_indexOfCharUnsafe_4cfef 22 = .ok (.iinc 4 1, 3) := by decide +kernel
theorem dJ2_indexOfCharUnsafe_4cfef_25 : decode cJ2_indexOfCharUnsafe_4cfef 25 = .ok (.goto (-22), 3) := by decide +kernel
theorem dJ2_indexOfCharUnsafe_4cfef_28 : decode cJ2_indexOfCharUnsafe_4cfef 28 = .ok (.iconst (-1), 1) := by decide +kernel
theorem dJ2_indexOfCharUnsafe_4cfef_29 : decode cJ2_indexOfCharUnsafe_4cfef 29 = .ok (.ireturn, 1) := by decide +kernel
theorem dJ2_indexOfSupplementary_4cfef_0 : decode cJ2_indexOfSupplementary_4cfef 0 = .ok (.iload_n 1, 1) := by decide +kernel
theorem dJ2_indexOfSupplementary_4cfef_1 : decode cJ2_indexOfSupplementary_4cfef 1 = .ok (.invokestatic 164, 3) := by decide +kernel
theorem dJ2_indexOfSupplementary_4cfef_4 : decode cJ2_indexOfSupplementary_4cfef 4 = .ok (.ifCond .eq 65, 3) := by decide +kernel
theorem dJ2_indexOfSupplementary_4cfef_7 : decode cJ2_indexOfSupplementary_4cfef 7 = .ok (.iload_n 1, 1) := by decide +kernel
theorem dJ2_indexOfSupplementary_4cfef_8 : decode cJ2_indexOfSupplementary_4cfef 8 = .ok (.invokestatic 157, 3) := by decide +kernel
theorem dJ2_indexOfSupplementary_4cfef_11 : decode cJ2_indexOfSupplementary_4cfef 11 = .ok (.istore 4, 2) := by decide +kernel
theorem dJ2_indexOfSupplementary_4cfef_13 : decode cJ2_indexOfSupplementary_4cfef 13 = .ok (.iload_n 1, 1) := by decide +kernel
theorem dJ2_indexOfSupplementary_4cfef_14 : decode cJ2_indexOfSupplementary_4cfef 14 = .ok (.invokestatic 161, 3) := by decide +kernel
theorem dJ2_indexOfSupplementary_4cfef_17 : decode cJ2_indexOfSupplementary_4cfef 17 = .ok (.istore 5, 2) := by decide +kernel
theorem dJ2_indexOfSupplementary_4cfef_19 : decode cJ2_indexOfSupplementary_4cfef 19 = .ok (.iload_n 2, 1) := by decide +kernel
theorem dJ2_indexOfSupplementary_4cfef_20 : decode cJ2_indexOfSupplementary_4cfef 20 = .ok (.iload_n 3, 1) := by decide +kernel
theorem dJ2_indexOfSupplementary_4cfef_21 : decode cJ2_indexOfSupplementary_4cfef 21 = .ok (.aload_n 0, 1) := by decide +kernel
theorem dJ2_indexOfSupplementary_4cfef_22 : decode cJ2_indexOfSupplementary_4cfef 22 = .ok (.invokestatic 96, 3) := by decide +kernel
theorem dJ2_indexOfSupplementary_4cfef_25 : decode cJ2_indexOfSupplementary_4cfef 25 = .ok (.iload_n 2, 1) := by decide +kernel
theorem dJ2_indexOfSupplementary_4cfef_26 : decode cJ2_indexOfSupplementary_4cfef 26 = .ok (.istore 6, 2) := by decide +kernel
theorem dJ2_indexOfSupplementary_4cfef_28 : decode cJ2_indexOfSupplementary_4cfef 28 = .ok (.iload 6, 2) := by decide +kernel
theorem dJ2_indexOfSupplementary_4cfef_30 : decode cJ2_indexOfSupplementary_4cfef 30 = .ok (.iload_n 3, 1) := by decide +kernel
theorem dJ2_indexOfSupplementary_4cfef_31 : decode cJ2_indexOfSupplementary_4cfef 31 = .ok (.iconst 1, 1) := by decide +kernel
theorem dJ2_indexOfSupplementary_4cfef_32 : decode cJ2_indexOfSupplementary_4cfef 32 = .ok (.isub, 1) := by decide +kernel
theorem dJ2_indexOfSupplementary_4cfef_33 : decode cJ2_indexOfSupplementary_4cfef 33 = .ok (.if_icmp .ge 36, 3) := by decide +kernel
theorem dJ2_indexOfSupplementary_4cfef_36 : decode cJ2_indexOfSupplementary_4cfef 36 = .ok (.aload_n 0, 1) := by decide +kernel
theorem dJ2_indexOfSupplementary_4cfef_37 : decode cJ2_indexOfSupplementary_4cfef 37 = .ok (.iload 6, 2) := by decide +kernel
theorem dJ2_indexOfSupplementary_4cfef_39 : decode cJ2_indexOfSupplementary_4cfef 39 = .ok (.invokestatic 71, 3) := by decide +kernel
theorem dJ2_indexOfSupplementary_4cfef_42 : decode cJ2_indexOfSupplementary_4cfef 42 = .ok (.iload 4, 2) := by decide +kernel
theorem dJ2_indexOfSupplementary_4cfef_44 : decode cJ2_indexOfSupplementary_4cfef 44 = .ok (.if_icmp .ne 19, 3) := by decide +kernel
theorem dJ2_indexOfSupplementary_4cfef_47 : decode cJ2_indexOfSupplementary_4cfef 47 = .ok (.aload_n 0, 1) := by decide +kernel
theorem dJ2_indexOfSupplementary_4cfef_48 : decode cJ2_indexOfSupplementary_4cfef 48 = .ok (.iload 6, 2) := by decide +kernel
theorem dJ2_indexOfSupplementary_4cfef_50 : decode cJ2_indexOfSupplementary_4cfef 50 = .ok (.iconst 1, 1) := by decide +kernel
theorem dJ2_indexOfSupplementary_4cfef_51 : decode cJ2_indexOfSupplementary_4cfef 51 = .ok (.iadd, 1) := by decide +kernel
theorem dJ2_indexOfSupplementary_4cfef_52 : decode cJ2_indexOfSupplementary_4cfef 52 = .ok (.invokestatic 71, 3) := by decide +kernel
theorem dJ2_indexOfSupplementary_4cfef_55 : decode cJ2_indexOfSupplementary_4cfef 55 = .ok (.iload 5, 2) := by decide +kernel
theorem dJ2_indexOfSupplementary_4cfef_57 : decode cJ2_indexOfSupplementary_4cfef 57 = .ok (.if_icmp .ne 6, 3) := by decide +kernel
theorem dJ2_indexOfSupplementary_4cfef_60 : decode cJ2_indexOfSupplementary_4cfef 60 = .ok (.iload 6, 2) := by decide +kernel
theorem dJ2_indexOfSupplementary_4cfef_62 : decode cJ2_indexOfSupplementary_4cfef 62 = .ok (.ireturn, 1) := by decide +kernel
theorem dJ2_indexOfSupplementary_4cfef_63 : decode cJ2_indexOfSupplementary_4cfef 63 = .ok (.iinc 6 1, 3) := by decide +kernel
theorem dJ2_indexOfSupplementary_4cfef_66 : decode cJ2_indexOfSupplementary_4cfef 66 = .ok (.goto (-38), 3) := by decide +kernel
theorem dJ2_indexOfSupplementary_4cfef_69 : decode cJ2_indexOfSupplementary_4cfef 69 = .ok (.iconst (-1), 1) := by decide +kernel
theorem dJ2_indexOfSupplementary_4cfef_70 : decode cJ2_indexOfSupplementary_4cfef 70 = .ok (.ireturn, 1) := by decide +kernel
theorem dJ2_checkBoundsBeginEnd_d044e_0 : decode cJ2_checkBoundsBeginEnd_d044e 0 = .ok (.iload_n 0, 1) := by decide +kernel
theorem dJ2_checkBoundsBeginEnd_d044e_1 : decode cJ2_checkBoundsBeginEnd_d044e 1 = .ok (.iload_n 1, 1) := by decide +kernel
theorem dJ2_checkBoundsBeginEnd_d044e_2 : decode cJ2_checkBoundsBeginEnd_d044e 2 = .ok (.aload_n 2, 1) := by decide +kernel
theorem dJ2_checkBoundsBeginEnd_d044e_3 : decode cJ2_checkBoundsBeginEnd_d044e 3 = .ok (.invokestatic 48, 3) := by decide +kernel
theorem dJ2_checkBoundsBeginEnd_d044e_6 : decode cJ2_checkBoundsBeginEnd_d044e 6 = .ok (.invokestatic 241, 3) := by decide +kernel
theorem dJ2_checkBoundsBeginEnd_d044e_9 : decode cJ2_checkBoundsBeginEnd_d044e 9 = .ok (.return_, 1) := by decide +kernel
theorem dJ3_checkFromToIndex_8c36e_0 : decode cJ3_checkFromToIndex_8c36e 0 = .ok (.iload_n 0, 1) := by decide +kernel
theorem dJ3_checkFromToIndex_8c36e_1 : decode cJ3_checkFromToIndex_8c36e 1 = .ok (.ifCond .lt 13, 3) := by decide +kernel
theorem dJ3_checkFromToIndex_8c36e_4 : decode cJ3_checkFromToIndex_8c36e 4 = .ok (.iload_n 0, 1) := by decide +kernel
theorem dJ3_checkFromToIndex_8c36e_5 : decode cJ3_checkFromToIndex_8c36e 5 = .ok (.iload_n 1, 1) := by decide +kernel
theorem dJ3_checkFromToIndex_8c36e_6 : decode cJ3_checkFromToIndex_8c36e 6 = .ok (.if_icmp .gt 8, 3) := by decide +kernel
theorem dJ3_checkFromToIndex_8c36e_9 : decode cJ3_checkFromToIndex_8c36e 9 = .ok (.iload_n 1, 1) := by decide +kernel
theorem dJ3_checkFromToIndex_8c36e_10 : decode cJ3_checkFromToIndex_8c36e 10 = .ok (.iload_n 2, 1) := by decide +kernel
theorem dJ3_checkFromToIndex_8c36e_11 : decode cJ3_checkFromToIndex_8c36e 11 = .ok (.if_icmp .le 11, 3) := by decide +kernel
theorem dJ3_checkFromToIndex_8c36e_14 : decode cJ3_checkFromToIndex_8c36e 14 = .ok (.aload_n 3, 1) := by decide +kernel
theorem dJ3_checkFromToIndex_8c36e_15 : decode cJ3_checkFromToIndex_8c36e 15 = .ok (.iload_n 0, 1) := by decide +kernel
theorem dJ3_checkFromToIndex_8c36e_16 : decode cJ3_checkFromToIndex_8c36e 16 = .ok (.iload_n 1, 1) := by decide +kernel
theorem dJ3_checkFromToIndex_8c36e_17 : decode cJ3_checkFromToIndex_8c36e 17 = .ok (.iload_n 2, 1) := by decide +kernel
theorem dJ3_checkFromToIndex_8c36e_18 : decode cJ3_checkFromToIndex_8c36e 18 = .ok (.invokestatic 99, 3) := by decide +kernel
theorem dJ3_checkFromToIndex_8c36e_21 : decode cJ3_checkFromToIndex_8c36e 21 = .ok (.athrow, 1) := by decide +kernel
theorem dJ3_checkFromToIndex_8c36e_22 : decode cJ3_checkFromToIndex_8c36e 22 = .ok (.iload_n 0, 1) := by decide +kernel
theorem dJ3_checkFromToIndex_8c36e_23 : decode cJ3_checkFromToIndex_8c36e 23 = .ok (.ireturn, 1) := by decide +kernel
theorem dL_part_0 : decode cL_part 0 = .ok (.iload_n 0, 1) := by decide +kernel
theorem dL_part_1 : decode cL_part 1 = .ok (.ldc 7, 2) := by decide +kernel
theorem dL_part_3 : decode cL_part 3 = .ok (.iand, 1) := by decide +kernel
theorem dL_part_4 : decode cL_part 4 = .ok (.iload_n 1, 1) := by decide +kernel
theorem dL_part_5 : decode cL_part 5 = .ok (.irem, 1) := by decide +kernel
theorem dL_part_6 : decode cL_part 6 = .ok (.ireturn, 1) := by decide +kernel
theorem dL_cell_0 : decode cL_cell 0 = .ok (.aload_n 0, 1) := by decide +kernel
theorem dL_cell_1 : decode cL_cell 1 = .ok (.arraylength, 1) := by decide +kernel
theorem dL_cell_2 : decode cL_cell 2 = .ok (.ifCond .ne 13, 3) := by decide +kernel
theorem dL_cell_5 : decode cL_cell 5 = .ok (.sipush 7919, 3) := by decide +kernel
theorem dL_cell_8 : decode cL_cell 8 = .ok (.iload_n 1, 1) := by decide +kernel
theorem dL_cell_9 : decode cL_cell 9 = .ok (.imul, 1) := by decide +kernel
theorem dL_cell_10 : decode cL_cell 10 = .ok (.iconst 3, 1) := by decide +kernel
theorem dL_cell_11 : decode cL_cell 11 = .ok (.iadd, 1) := by decide +kernel
theorem dL_cell_12 : decode cL_cell 12 = .ok (.goto 27, 3) := by decide +kernel
theorem dL_cell_15 : decode cL_cell 15 = .ok (.aload_n 0, 1) := by decide +kernel
theorem dL_cell_16 : decode cL_cell 16 = .ok (.iload_n 1, 1) := by decide +kernel
theorem dL_cell_17 : decode cL_cell 17 = .ok (.aload_n 0, 1) := by decide +kernel
theorem dL_cell_18 : decode cL_cell 18 = .ok (.arraylength, 1) := by decide +kernel
theorem dL_cell_19 : decode cL_cell 19 = .ok (.irem, 1) := by decide +kernel
theorem dL_cell_20 : decode cL_cell 20 = .ok (.iaload, 1) := by decide +kernel
theorem dL_cell_21 : decode cL_cell 21 = .ok (.iload_n 1, 1) := by decide +kernel
theorem dL_cell_22 : decode cL_cell 22 = .ok (.bipush 7, 2) := by decide +kernel
theorem dL_cell_24 : decode cL_cell 24 = .ok (.irem, 1) := by decide +kernel
theorem dL_cell_25 : decode cL_cell 25 = .ok (.ishr, 1) := by decide +kernel
theorem dL_cell_26 : decode cL_cell 26 = .ok (.iload_n 1, 1) := by decide +kernel
theorem dL_cell_27 : decode cL_cell 27 = .ok (.aload_n 0, 1) := by decide +kernel
theorem dL_cell_28 : decode cL_cell 28 = .ok (.arraylength, 1) := by decide +kernel
theorem dL_cell_29 : decode cL_cell 29 = .ok (.idiv, 1) := by decide +kernel
theorem dL_cell_30 : decode cL_cell 30 = .ok (.bipush 31, 2) := by decide +kernel
theorem dL_cell_32 : decode cL_cell 32 = .ok (.imul, 1) := by decide +kernel
theorem dL_cell_33 : decode cL_cell 33 = .ok (.ixor, 1) := by decide +kernel
theorem dL_cell_34 : decode cL_cell 34 = .ok (.iload_n 1, 1) := by decide +kernel
theorem dL_cell_35 : decode cL_cell 35 = .ok (.ldc 8, 2) := by decide +kernel
theorem dL_cell_37 : decode cL_cell 37 = .ok (.imul, 1) := by decide +kernel
theorem dL_cell_38 : decode cL_cell 38 = .ok (.ixor, 1) := by decide +kernel
theorem dL_cell_39 : decode cL_cell 39 = .ok (.ireturn, 1) := by decide +kernel
theorem dL_says_0 : decode cL_says 0 = .ok (.iconst 0, 1) := by decide +kernel
theorem dL_says_1 : decode cL_says 1 = .ok (.istore_n 3, 1) := by decide +kernel
theorem dL_says_2 : decode cL_says 2 = .ok (.iload_n 3, 1) := by decide +kernel
theorem dL_says_3 : decode cL_says 3 = .ok (.iload_n 2, 1) := by decide +kernel
theorem dL_says_4 : decode cL_says 4 = .ok (.if_icmp .ge 70, 3) := by decide +kernel
theorem dL_says_7 : decode cL_says 7 = .ok (.lconst 0, 1) := by decide +kernel
theorem dL_says_8 : decode cL_says 8 = .ok (.lstore 4, 2) := by decide +kernel
theorem dL_says_10 : decode cL_says 10 = .ok (.iload_n 3, 1) := by decide +kernel
theorem dL_says_11 : decode cL_says 11 = .ok (.istore 6, 2) := by decide +kernel
theorem dL_says_13 : decode cL_says 13 = .ok (.iload 6, 2) := by decide +kernel
theorem dL_says_15 : decode cL_says 15 = .ok (.iload_n 3, 1) := by decide +kernel
theorem dL_says_16 : decode cL_says 16 = .ok (.bipush 8, 2) := by decide +kernel
theorem dL_says_18 : decode cL_says 18 = .ok (.iadd, 1) := by decide +kernel
theorem dL_says_19 : decode cL_says 19 = .ok (.if_icmp .ge 33, 3) := by decide +kernel
theorem dL_says_22 : decode cL_says 22 = .ok (.lload 4, 2) := by decide +kernel
theorem dL_says_24 : decode cL_says 24 = .ok (.bipush 8, 2) := by decide +kernel
theorem dL_says_26 : decode cL_says 26 = .ok (.lshl, 1) := by decide +kernel
theorem dL_says_27 : decode cL_says 27 = .ok (.iload 6, 2) := by decide +kernel
theorem dL_says_29 : decode cL_says 29 = .ok (.iload_n 2, 1) := by decide +kernel
theorem dL_says_30 : decode cL_says 30 = .ok (.if_icmp .ge 10, 3) := by decide +kernel
theorem dL_says_33 : decode cL_says 33 = .ok (.aload_n 1, 1) := by decide +kernel
theorem dL_says_34 : decode cL_says 34 = .ok (.iload 6, 2) := by decide +kernel
theorem dL_says_36 : decode cL_says 36 = .ok (.iaload, 1) := by decide +kernel
theorem dL_says_37 : decode cL_says 37 = .ok (.goto 5, 3) := by decide +kernel
theorem dL_says_40 : decode cL_says 40 = .ok (.bipush 32, 2) := by decide +kernel
theorem dL_says_42 : decode cL_says 42 = .ok (.i2l, 1) := by decide +kernel
theorem dL_says_43 : decode cL_says 43 = .ok (.lor, 1) := by decide +kernel
theorem dL_says_44 : decode cL_says 44 = .ok (.lstore 4, 2) := by decide +kernel
theorem dL_says_46 : decode cL_says 46 = .ok (.iinc 6 1, 3) := by decide +kernel
theorem dL_says_49 : decode cL_says 49 = .ok (.goto (-36), 3) := by decide +kernel
theorem dL_says_52 : decode cL_says 52 = .ok (.aload_n 0, 1) := by decide +kernel
theorem dL_says_53 : decode cL_says 53 = .ok (.lload 4, 2) := by decide +kernel
theorem dL_says_55 : decode cL_says 55 = .ok (.invokevirtual 9, 3) := by decide +kernel
theorem dL_says_58 : decode cL_says 58 = .ok (.iload_n 3, 1) := by decide +kernel
theorem dL_says_59 : decode cL_says 59 = .ok (.bipush 8, 2) := by decide +kernel
theorem dL_says_61 : decode cL_says 61 = .ok (.iadd, 1) := by decide +kernel
theorem dL_says_62 : decode cL_says 62 = .ok (.if_icmp .eq 6, 3) := by decide +kernel
theorem dL_says_65 : decode cL_says 65 = .ok (.bipush (-99), 2) := by decide +kernel
theorem dL_says_67 : decode cL_says 67 = .ok (.ireturn, 1) := by decide +kernel
theorem dL_says_68 : decode cL_says 68 = .ok (.iinc 3 8, 3) := by decide +kernel
theorem dL_says_71 : decode cL_says 71 = .ok (.goto (-69), 3) := by decide +kernel
theorem dL_says_74 : decode cL_says 74 = .ok (.aload_n 0, 1) := by decide +kernel
theorem dL_says_75 : decode cL_says 75 = .ok (.iload_n 2, 1) := by decide +kernel
theorem dL_says_76 : decode cL_says 76 = .ok (.invokevirtual 15, 3) := by decide +kernel
theorem dL_says_79 : decode cL_says 79 = .ok (.iload_n 2, 1) := by decide +kernel
theorem dL_says_80 : decode cL_says 80 = .ok (.if_icmp .ge 8, 3) := by decide +kernel
theorem dL_says_83 : decode cL_says 83 = .ok (.bipush (-98), 2) := by decide +kernel
theorem dL_says_85 : decode cL_says 85 = .ok (.goto 7, 3) := by decide +kernel
theorem dL_says_88 : decode cL_says 88 = .ok (.aload_n 0, 1) := by decide +kernel
theorem dL_says_89 : decode cL_says 89 = .ok (.invokevirtual 19, 3) := by decide +kernel
theorem dL_says_92 : decode cL_says 92 = .ok (.ireturn, 1) := by decide +kernel
theorem dL_letter_0 : decode cL_letter 0 = .ok (.iload_n 0, 1) := by decide +kernel
theorem dL_letter_1 : decode cL_letter 1 = .ok (.ifCond .ne 8, 3) := by decide +kernel
theorem dL_letter_4 : decode cL_letter 4 = .ok (.bipush 117, 2) := by decide +kernel
theorem dL_letter_6 : decode cL_letter 6 = .ok (.goto 45, 3) := by decide +kernel
theorem dL_letter_9 : decode cL_letter 9 = .ok (.iload_n 0, 1) := by decide +kernel
theorem dL_letter_10 : decode cL_letter 10 = .ok (.iconst 1, 1) := by decide +kernel
theorem dL_letter_11 : decode cL_letter 11 = .ok (.if_icmp .ne 8, 3) := by decide +kernel
theorem dL_letter_14 : decode cL_letter 14 = .ok (.bipush 111, 2) := by decide +kernel
theorem dL_letter_16 : decode cL_letter 16 = .ok (.goto 35, 3) := by decide +kernel
theorem dL_letter_19 : decode cL_letter 19 = .ok (.iload_n 0, 1) := by decide +kernel
theorem dL_letter_20 : decode cL_letter 20 = .ok (.iconst 2, 1) := by decide +kernel
theorem dL_letter_21 : decode cL_letter 21 = .ok (.if_icmp .ne 8, 3) := by decide +kernel
theorem dL_letter_24 : decode cL_letter 24 = .ok (.bipush 116, 2) := by decide +kernel
theorem dL_letter_26 : decode cL_letter 26 = .ok (.goto 25, 3) := by decide +kernel
theorem dL_letter_29 : decode cL_letter 29 = .ok (.iload_n 0, 1) := by decide +kernel
theorem dL_letter_30 : decode cL_letter 30 = .ok (.iconst 3, 1) := by decide +kernel
theorem dL_letter_31 : decode cL_letter 31 = .ok (.if_icmp .ne 8, 3) := by decide +kernel
theorem dL_letter_34 : decode cL_letter 34 = .ok (.bipush 114, 2) := by decide +kernel
theorem dL_letter_36 : decode cL_letter 36 = .ok (.goto 15, 3) := by decide +kernel
theorem dL_letter_39 : decode cL_letter 39 = .ok (.iload_n 0, 1) := by decide +kernel
theorem dL_letter_40 : decode cL_letter 40 = .ok (.iconst 4, 1) := by decide +kernel
theorem dL_letter_41 : decode cL_letter 41 = .ok (.if_icmp .ne 8, 3) := by decide +kernel
theorem dL_letter_44 : decode cL_letter 44 = .ok (.bipush 100, 2) := by decide +kernel
theorem dL_letter_46 : decode cL_letter 46 = .ok (.goto 5, 3) := by decide +kernel
theorem dL_letter_49 : decode cL_letter 49 = .ok (.bipush 107, 2) := by decide +kernel
theorem dL_letter_51 : decode cL_letter 51 = .ok (.ireturn, 1) := by decide +kernel
theorem dL_figure_0 : decode cL_figure 0 = .ok (.iconst 0, 1) := by decide +kernel
theorem dL_figure_1 : decode cL_figure 1 = .ok (.istore 8, 2) := by decide +kernel
theorem dL_figure_3 : decode cL_figure 3 = .ok (.iconst 0, 1) := by decide +kernel
theorem dL_figure_4 : decode cL_figure 4 = .ok (.istore 9, 2) := by decide +kernel
theorem dL_figure_6 : decode cL_figure 6 = .ok (.iconst 1, 1) := by decide +kernel
theorem dL_figure_7 : decode cL_figure 7 = .ok (.aload_n 0, 1) := by decide +kernel
theorem dL_figure_8 : decode cL_figure 8 = .ok (.iload_n 1, 1) := by decide +kernel
theorem dL_figure_9 : decode cL_figure 9 = .ok (.invokestatic 23, 3) := by decide +kernel
theorem dL_figure_12 : decode cL_figure 12 = .ok (.iconst 4, 1) := by decide +kernel
theorem dL_figure_13 : decode cL_figure 13 = .ok (.invokestatic 29, 3) := by decide +kernel
theorem dL_figure_16 : decode cL_figure 16 = .ok (.iadd, 1) := by decide +kernel
theorem dL_figure_17 : decode cL_figure 17 = .ok (.istore 10, 2) := by decide +kernel
theorem dL_figure_19 : decode cL_figure 19 = .ok (.iconst 0, 1) := by decide +kernel
theorem dL_figure_20 : decode cL_figure 20 = .ok (.istore 11, 2) := by decide +kernel
theorem dL_figure_22 : decode cL_figure 22 = .ok (.iload 11, 2) := by decide +kernel
theorem dL_figure_24 : decode cL_figure 24 = .ok (.iload 10, 2) := by decide +kernel
theorem dL_figure_26 : decode cL_figure 26 = .ok (.if_icmp .ge 365, 3) := by decide +kernel
theorem dL_figure_29 : decode cL_figure 29 = .ok (.aload_n 0, 1) := by decide +kernel
theorem dL_figure_30 : decode cL_figure 30 = .ok (.iload_n 1, 1) := by decide +kernel
theorem dL_figure_31 : decode cL_figure 31 = .ok (.iconst 1, 1) := by decide +kernel
theorem dL_figure_32 : decode cL_figure 32 = .ok (.iadd, 1) := by decide +kernel
theorem dL_figure_33 : decode cL_figure 33 = .ok (.iload 11, 2) := by decide +kernel
theorem dL_figure_35 : decode cL_figure 35 = .ok (.iadd, 1) := by decide +kernel
theorem dL_figure_36 : decode cL_figure 36 = .ok (.invokestatic 23, 3) := by decide +kernel
theorem dL_figure_39 : decode cL_figure 39 = .ok (.istore 12, 2) := by decide +kernel
theorem dL_figure_41 : decode cL_figure 41 = .ok (.iload 12, 2) := by decide +kernel
theorem dL_figure_43 : decode cL_figure 43 = .ok (.iconst 4, 1) := by decide +kernel
theorem dL_figure_44 : decode cL_figure 44 = .ok (.invokestatic 29, 3) := by decide +kernel
theorem dL_figure_47 : decode cL_figure 47 = .ok (.ifCond .ne 16, 3) := by decide +kernel
theorem dL_figure_50 : decode cL_figure 50 = .ok (.iconst 1, 1) := by decide +kernel
theorem dL_figure_51 : decode cL_figure 51 = .ok (.iload 12, 2) := by decide +kernel
theorem dL_figure_53 : decode cL_figure 53 = .ok (.iconst 3, 1) := by decide +kernel
theorem dL_figure_54 : decode cL_figure 54 = .ok (.ishr, 1) := by decide +kernel
theorem dL_figure_55 : decode cL_figure 55 = .ok (.iconst 3, 1) := by decide +kernel
theorem dL_figure_56 : decode cL_figure 56 = .ok (.invokestatic 29, 3) := by decide +kernel
theorem dL_figure_59 : decode cL_figure 59 = .ok (.iadd, 1) := by decide +kernel
theorem dL_figure_60 : decode cL_figure 60 = .ok (.goto 4, 3) := by decide +kernel
theorem dL_figure_63 : decode cL_figure 63 = .ok (.iconst 1, 1) := by decide +kernel
theorem dL_figure_64 : decode cL_figure 64 = .ok (.istore 13, 2) := by decide +kernel
theorem dL_figure_66 : decode cL_figure 66 = .ok (.iload 13, 2) := by decide +kernel
theorem dL_figure_68 : decode cL_figure 68 = .ok (.iconst 1, 1) := by decide +kernel
theorem dL_figure_69 : decode cL_figure 69 = .ok (.if_icmp .gt 12, 3) := by decide +kernel
theorem dL_figure_72 : decode cL_figure 72 = .ok (.iload 12, 2) := by decide +kernel
theorem dL_figure_74 : decode cL_figure 74 = .ok (.iconst 4, 1) := by decide +kernel
theorem dL_figure_75 : decode cL_figure 75 = .ok (.invokestatic 29, 3) := by decide +kernel
theorem dL_figure_78 : decode cL_figure 78 = .ok (.ifCond .ne 16, 3) := by decide +kernel
theorem dL_figure_81 : decode cL_figure 81 = .ok (.iconst 1, 1) := by decide +kernel
theorem dL_figure_82 : decode cL_figure 82 = .ok (.iload 12, 2) := by decide +kernel
theorem dL_figure_84 : decode cL_figure 84 = .ok (.iconst 5, 1) := by decide +kernel
theorem dL_figure_85 : decode cL_figure 85 = .ok (.ishr, 1) := by decide +kernel
theorem dL_figure_86 : decode cL_figure 86 = .ok (.iconst 3, 1) := by decide +kernel
theorem dL_figure_87 : decode cL_figure 87 = .ok (.invokestatic 29, 3) := by decide +kernel
theorem dL_figure_90 : decode cL_figure 90 = .ok (.iadd, 1) := by decide +kernel
theorem dL_figure_91 : decode cL_figure 91 = .ok (.goto 4, 3) := by decide +kernel
theorem dL_figure_94 : decode cL_figure 94 = .ok (.iconst 0, 1) := by decide +kernel
theorem dL_figure_95 : decode cL_figure 95 = .ok (.istore 14, 2) := by decide +kernel
theorem dL_figure_97 : decode cL_figure 97 = .ok (.iload 14, 2) := by decide +kernel
theorem dL_figure_99 : decode cL_figure 99 = .ok (.ifCond .le 24, 3) := by decide +kernel
theorem dL_figure_102 : decode cL_figure 102 = .ok (.aload_n 3, 1) := by decide +kernel
theorem dL_figure_103 : decode cL_figure 103 = .ok (.iload 8, 2) := by decide +kernel
theorem dL_figure_105 : decode cL_figure 105 = .ok (.iinc 8 1, 3) := by decide +kernel
theorem dL_figure_108 : decode cL_figure 108 = .ok (.bipush 48, 2) := by decide +kernel
theorem dL_figure_110 : decode cL_figure 110 = .ok (.iload 14, 2) := by decide +kernel
theorem dL_figure_112 : decode cL_figure 112 = .ok (.iadd, 1) := by decide +kernel
theorem dL_figure_113 : decode cL_figure 113 = .ok (.iastore, 1) := by decide +kernel
theorem dL_figure_114 : decode cL_figure 114 = .ok (.aload_n 3, 1) := by decide +kernel
theorem dL_figure_115 : decode cL_figure 115 = .ok (.iload 8, 2) := by decide +kernel
theorem dL_figure_117 : decode cL_figure 117 = .ok (.iinc 8 1, 3) := by decide +kernel
theorem dL_figure_120 : decode cL_figure 120 = .ok (.bipush 40, 2) := by decide +kernel
theorem dL_figure_122 : decode cL_figure 122 = .ok (.iastore, 1) := by decide +kernel
theorem dL_figure_123 : decode cL_figure 123 = .ok (.iload 9, 2) := by decide +kernel
theorem dL_figure_125 : decode cL_figure 125 = .ok (.istore 15, 2) := by decide +kernel
theorem dL_figure_127 : decode cL_figure 127 = .ok (.iconst 0, 1) := by decide +kernel
theorem dL_figure_128 : decode cL_figure 128 = .ok (.istore 16, 2) := by decide +kernel
theorem dL_figure_130 : decode cL_figure 130 = .ok (.iload 16, 2) := by decide +kernel
theorem dL_figure_132 : decode cL_figure 132 = .ok (.iload 13, 2) := by decide +kernel
theorem dL_figure_134 : decode cL_figure 134 = .ok (.if_icmp .ge 174, 3) := by decide +kernel
theorem dL_figure_137 : decode cL_figure 137 = .ok (.aload_n 0, 1) := by decide +kernel
theorem dL_figure_138 : decode cL_figure 138 = .ok (.iload_n 1, 1) := by decide +kernel
theorem dL_figure_139 : decode cL_figure 139 = .ok (.bipush 6, 2) := by decide +kernel
theorem dL_figure_141 : decode cL_figure 141 = .ok (.iadd, 1) := by decide +kernel
theorem dL_figure_142 : decode cL_figure 142 = .ok (.iconst 3, 1) := by decide +kernel
theorem dL_figure_143 : decode cL_figure 143 = .ok (.iload 11, 2) := by decide +kernel
theorem dL_figure_145 : decode cL_figure 145 = .ok (.imul, 1) := by decide +kernel
theorem dL_figure_146 : decode cL_figure 146 = .ok (.iadd, 1) := by decide +kernel
theorem dL_figure_147 : decode cL_figure 147 = .ok (.iload 16, 2) := by decide +kernel
theorem dL_figure_149 : decode cL_figure 149 = .ok (.iadd, 1) := by decide +kernel
theorem dL_figure_150 : decode cL_figure 150 = .ok (.invokestatic 23, 3) := by decide +kernel
theorem dL_figure_153 : decode cL_figure 153 = .ok (.istore 17, 2) := by decide +kernel
theorem dL_figure_155 : decode cL_figure 155 = .ok (.iload 17, 2) := by decide +kernel
theorem dL_figure_157 : decode cL_figure 157 = .ok (.bipush 8, 2) := by decide +kernel
theorem dL_figure_159 : decode cL_figure 159 = .ok (.invokestatic 29, 3) := by decide +kernel
theorem dL_figure_162 : decode cL_figure 162 = .ok (.ifCond .ne 8, 3) := by decide +kernel
theorem dL_figure_165 : decode cL_figure 165 = .ok (.bipush 6, 2) := by decide +kernel
theorem dL_figure_167 : decode cL_figure 167 = .ok (.goto 42, 3) := by decide +kernel
theorem dL_figure_170 : decode cL_figure 170 = .ok (.iload 17, 2) := by decide +kernel
theorem dL_figure_172 : decode cL_figure 172 = .ok (.iconst 4, 1) := by decide +kernel
theorem dL_figure_173 : decode cL_figure 173 = .ok (.invokestatic 29, 3) := by decide +kernel
theorem dL_figure_176 : decode cL_figure 176 = .ok (.ifCond .ne 25, 3) := by decide +kernel
theorem dL_figure_179 : decode cL_figure 179 = .ok (.iconst 2, 1) := by decide +kernel
theorem dL_figure_180 : decode cL_figure 180 = .ok (.iload 17, 2) := by decide +kernel
theorem dL_figure_182 : decode cL_figure 182 = .ok (.iconst 3, 1) := by decide +kernel
theorem dL_figure_183 : decode cL_figure 183 = .ok (.ishr, 1) := by decide +kernel
theorem dL_figure_184 : decode cL_figure 184 = .ok (.iload 7, 2) := by decide +kernel
theorem dL_figure_186 : decode cL_figure 186 = .ok (.ifCond .eq 7, 3) := by decide +kernel
theorem dL_figure_189 : decode cL_figure 189 = .ok (.iconst 4, 1) := by decide +kernel
theorem dL_figure_190 : decode cL_figure 190 = .ok (.goto 4, 3) := by decide +kernel
theorem dL_figure_193 : decode cL_figure 193 = .ok (.iconst 2, 1) := by decide +kernel
theorem dL_figure_194 : decode cL_figure 194 = .ok (.invokestatic 29, 3) := by decide +kernel
theorem dL_figure_197 : decode cL_figure 197 = .ok (.iadd, 1) := by decide +kernel
theorem dL_figure_198 : decode cL_figure 198 = .ok (.goto 11, 3) := by decide +kernel
theorem dL_figure_201 : decode cL_figure 201 = .ok (.iload 17, 2) := by decide +kernel
theorem dL_figure_203 : decode cL_figure 203 = .ok (.iconst 5, 1) := by decide +kernel
theorem dL_figure_204 : decode cL_figure 204 = .ok (.ishr, 1) := by decide +kernel
theorem dL_figure_205 : decode cL_figure 205 = .ok (.iconst 2, 1) := by decide +kernel
theorem dL_figure_206 : decode cL_figure 206 = .ok (.invokestatic 29, 3) := by decide +kernel
theorem dL_figure_209 : decode cL_figure 209 = .ok (.istore 18, 2) := by decide +kernel
theorem dL_figure_211 : decode cL_figure 211 = .ok (.iload 18, 2) := by decide +kernel
theorem dL_figure_213 : decode cL_figure 213 = .ok (.bipush 6, 2) := by decide +kernel
theorem dL_figure_215 : decode cL_figure 215 = .ok (.if_icmp .ne 7, 3) := by decide +kernel
theorem dL_figure_218 : decode cL_figure 218 = .ok (.iconst 0, 1) := by decide +kernel
theorem dL_figure_219 : decode cL_figure 219 = .ok (.goto 12, 3) := by decide +kernel
theorem dL_figure_222 : decode cL_figure 222 = .ok (.iload 17, 2) := by decide +kernel
theorem dL_figure_224 : decode cL_figure 224 = .ok (.bipush 7, 2) := by decide +kernel
theorem dL_figure_226 : decode cL_figure 226 = .ok (.ishr, 1) := by decide +kernel
theorem dL_figure_227 : decode cL_figure 227 = .ok (.iload_n 2, 1) := by decide +kernel
theorem dL_figure_228 : decode cL_figure 228 = .ok (.invokestatic 29, 3) := by decide +kernel
theorem dL_figure_231 : decode cL_figure 231 = .ok (.istore 19, 2) := by decide +kernel
theorem dL_figure_233 : decode cL_figure 233 = .ok (.iload 18, 2) := by decide +kernel
theorem dL_figure_235 : decode cL_figure 235 = .ok (.bipush 6, 2) := by decide +kernel
theorem dL_figure_237 : decode cL_figure 237 = .ok (.if_icmp .ne 15, 3) := by decide +kernel
theorem dL_figure_240 : decode cL_figure 240 = .ok (.aload_n 3, 1) := by decide +kernel
theorem dL_figure_241 : decode cL_figure 241 = .ok (.iload 8, 2) := by decide +kernel
theorem dL_figure_243 : decode cL_figure 243 = .ok (.iinc 8 1, 3) := by decide +kernel
theorem dL_figure_246 : decode cL_figure 246 = .ok (.bipush 46, 2) := by decide +kernel
theorem dL_figure_248 : decode cL_figure 248 = .ok (.iastore, 1) := by decide +kernel
theorem dL_figure_249 : decode cL_figure 249 = .ok (.goto 36, 3) := by decide +kernel
theorem dL_figure_252 : decode cL_figure 252 = .ok (.aload_n 3, 1) := by decide +kernel
theorem dL_figure_253 : decode cL_figure 253 = .ok (.iload 8, 2) := by decide +kernel
theorem dL_figure_255 : decode cL_figure 255 = .ok (.iinc 8 1, 3) := by decide +kernel
theorem dL_figure_258 : decode cL_figure 258 = .ok (.iload 18, 2) := by decide +kernel
theorem dL_figure_260 : decode cL_figure 260 = .ok (.invokestatic 33, 3) := by decide +kernel
theorem dL_figure_263 : decode cL_figure 263 = .ok (.iastore, 1) := by decide +kernel
theorem dL_figure_264 : decode cL_figure 264 = .ok (.aload_n 3, 1) := by decide +kernel
theorem dL_figure_265 : decode cL_figure 265 = .ok (.iload 8, 2) := by decide +kernel
theorem dL_figure_267 : decode cL_figure 267 = .ok (.iinc 8 1, 3) := by decide +kernel
theorem dL_figure_270 : decode cL_figure 270 = .ok (.bipush 48, 2) := by decide +kernel
theorem dL_figure_272 : decode cL_figure 272 = .ok (.iload 19, 2) := by decide +kernel
theorem dL_figure_274 : decode cL_figure 274 = .ok (.iadd, 1) := by decide +kernel
theorem dL_figure_275 : decode cL_figure 275 = .ok (.iastore, 1) := by decide +kernel
theorem dL_figure_276 : decode cL_figure 276 = .ok (.aload_n 3, 1) := by decide +kernel
theorem dL_figure_277 : decode cL_figure 277 = .ok (.iload 8, 2) := by decide +kernel
theorem dL_figure_279 : decode cL_figure 279 = .ok (.iinc 8 1, 3) := by decide +kernel
theorem dL_figure_282 : decode cL_figure 282 = .ok (.bipush 32, 2) := by decide +kernel
theorem dL_figure_284 : decode cL_figure 284 = .ok (.iastore, 1) := by decide +kernel
theorem dL_figure_285 : decode cL_figure 285 = .ok (.aload 4, 2) := by decide +kernel
theorem dL_figure_287 : decode cL_figure 287 = .ok (.iload 9, 2) := by decide +kernel
theorem dL_figure_289 : decode cL_figure 289 = .ok (.iload 18, 2) := by decide +kernel
theorem dL_figure_291 : decode cL_figure 291 = .ok (.iastore, 1) := by decide +kernel
theorem dL_figure_292 : decode cL_figure 292 = .ok (.aload 5, 2) := by decide +kernel
theorem dL_figure_294 : decode cL_figure 294 = .ok (.iload 9, 2) := by decide +kernel
theorem dL_figure_296 : decode cL_figure 296 = .ok (.iload 19, 2) := by decide +kernel
theorem dL_figure_298 : decode cL_figure 298 = .ok (.iastore, 1) := by decide +kernel
theorem dL_figure_299 : decode cL_figure 299 = .ok (.iinc 9 1, 3) := by decide +kernel
theorem dL_figure_302 : decode cL_figure 302 = .ok (.iinc 16 1, 3) := by decide +kernel
theorem dL_figure_305 : decode cL_figure 305 = .ok (.goto (-175), 3) := by decide +kernel
theorem dL_figure_308 : decode cL_figure 308 = .ok (.iload 14, 2) := by decide +kernel
theorem dL_figure_310 : decode cL_figure 310 = .ok (.ifCond .le 12, 3) := by decide +kernel
theorem dL_figure_313 : decode cL_figure 313 = .ok (.aload_n 3, 1) := by decide +kernel
theorem dL_figure_314 : decode cL_figure 314 = .ok (.iload 8, 2) := by decide +kernel
theorem dL_figure_316 : decode cL_figure 316 = .ok (.iinc 8 1, 3) := by decide +kernel
theorem dL_figure_319 : decode cL_figure 319 = .ok (.bipush 41, 2) := by decide +kernel
theorem dL_figure_321 : decode cL_figure 321 = .ok (.iastore, 1) := by decide +kernel
theorem dL_figure_322 : decode cL_figure 322 = .ok (.iload 9, 2) := by decide +kernel
theorem dL_figure_324 : decode cL_figure 324 = .ok (.iload 15, 2) := by decide +kernel
theorem dL_figure_326 : decode cL_figure 326 = .ok (.isub, 1) := by decide +kernel
theorem dL_figure_327 : decode cL_figure 327 = .ok (.istore 16, 2) := by decide +kernel
theorem dL_figure_329 : decode cL_figure 329 = .ok (.iconst 0, 1) := by decide +kernel
theorem dL_figure_330 : decode cL_figure 330 = .ok (.istore 17, 2) := by decide +kernel
theorem dL_figure_332 : decode cL_figure 332 = .ok (.iload 17, 2) := by decide +kernel
theorem dL_figure_334 : decode cL_figure 334 = .ok (.iload 16, 2) := by decide +kernel
theorem dL_figure_336 : decode cL_figure 336 = .ok (.iload 14, 2) := by decide +kernel
theorem dL_figure_338 : decode cL_figure 338 = .ok (.iconst 1, 1) := by decide +kernel
theorem dL_figure_339 : decode cL_figure 339 = .ok (.isub, 1) := by decide +kernel
theorem dL_figure_340 : decode cL_figure 340 = .ok (.imul, 1) := by decide +kernel
theorem dL_figure_341 : decode cL_figure 341 = .ok (.if_icmp .ge 44, 3) := by decide +kernel
theorem dL_figure_344 : decode cL_figure 344 = .ok (.aload 4, 2) := by decide +kernel
theorem dL_figure_346 : decode cL_figure 346 = .ok (.iload 9, 2) := by decide +kernel
theorem dL_figure_348 : decode cL_figure 348 = .ok (.aload 4, 2) := by decide +kernel
theorem dL_figure_350 : decode cL_figure 350 = .ok (.iload 15, 2) := by decide +kernel
theorem dL_figure_352 : decode cL_figure 352 = .ok (.iload 17, 2) := by decide +kernel
theorem dL_figure_354 : decode cL_figure 354 = .ok (.iload 16, 2) := by decide +kernel
theorem dL_figure_356 : decode cL_figure 356 = .ok (.irem, 1) := by decide +kernel
theorem dL_figure_357 : decode cL_figure 357 = .ok (.iadd, 1) := by decide +kernel
theorem dL_figure_358 : decode cL_figure 358 = .ok (.iaload, 1) := by decide +kernel
theorem dL_figure_359 : decode cL_figure 359 = .ok (.iastore, 1) := by decide +kernel
theorem dL_figure_360 : decode cL_figure 360 = .ok (.aload 5, 2) := by decide +kernel
theorem dL_figure_362 : decode cL_figure 362 = .ok (.iload 9, 2) := by decide +kernel
theorem dL_figure_364 : decode cL_figure 364 = .ok (.aload 5, 2) := by decide +kernel
theorem dL_figure_366 : decode cL_figure 366 = .ok (.iload 15, 2) := by decide +kernel
theorem dL_figure_368 : decode cL_figure 368 = .ok (.iload 17, 2) := by decide +kernel
theorem dL_figure_370 : decode cL_figure 370 = .ok (.iload 16, 2) := by decide +kernel
theorem dL_figure_372 : decode cL_figure 372 = .ok (.irem, 1) := by decide +kernel
theorem dL_figure_373 : decode cL_figure 373 = .ok (.iadd, 1) := by decide +kernel
theorem dL_figure_374 : decode cL_figure 374 = .ok (.iaload, 1) := by decide +kernel
theorem dL_figure_375 : decode cL_figure 375 = .ok (.iastore, 1) := by decide +kernel
theorem dL_figure_376 : decode cL_figure 376 = .ok (.iinc 9 1, 3) := by decide +kernel
theorem dL_figure_379 : decode cL_figure 379 = .ok (.iinc 17 1, 3) := by decide +kernel
theorem dL_figure_382 : decode cL_figure 382 = .ok (.goto (-50), 3) := by decide +kernel
theorem dL_figure_385 : decode cL_figure 385 = .ok (.iinc 11 1, 3) := by decide +kernel
theorem dL_figure_388 : decode cL_figure 388 = .ok (.goto (-366), 3) := by decide +kernel
theorem dL_figure_391 : decode cL_figure 391 = .ok (.aload 6, 2) := by decide +kernel
theorem dL_figure_393 : decode cL_figure 393 = .ok (.iconst 0, 1) := by decide +kernel
theorem dL_figure_394 : decode cL_figure 394 = .ok (.iload 9, 2) := by decide +kernel
theorem dL_figure_396 : decode cL_figure 396 = .ok (.iastore, 1) := by decide +kernel
theorem dL_figure_397 : decode cL_figure 397 = .ok (.iload 8, 2) := by decide +kernel
theorem dL_figure_399 : decode cL_figure 399 = .ok (.ireturn, 1) := by decide +kernel
theorem dL_law_0 : decode cL_law 0 = .ok (.new 10, 3) := by decide +kernel
theorem dL_law_3 : decode cL_law 3 = .ok (.dup, 1) := by decide +kernel
theorem dL_law_4 : decode cL_law 4 = .ok (.invokespecial 36, 3) := by decide +kernel
theorem dL_law_7 : decode cL_law 7 = .ok (.astore_n 1, 1) := by decide +kernel
theorem dL_law_8 : decode cL_law 8 = .ok (.iconst 4, 1) := by decide +kernel
theorem dL_law_9 : decode cL_law 9 = .ok (.aload_n 0, 1) := by decide +kernel
theorem dL_law_10 : decode cL_law 10 = .ok (.iconst 0, 1) := by decide +kernel
theorem dL_law_11 : decode cL_law 11 = .ok (.invokestatic 23, 3) := by decide +kernel
theorem dL_law_14 : decode cL_law 14 = .ok (.iconst 5, 1) := by decide +kernel
theorem dL_law_15 : decode cL_law 15 = .ok (.invokestatic 29, 3) := by decide +kernel
theorem dL_law_18 : decode cL_law 18 = .ok (.iadd, 1) := by decide +kernel
theorem dL_law_19 : decode cL_law 19 = .ok (.istore_n 2, 1) := by decide +kernel
theorem dL_law_20 : decode cL_law 20 = .ok (.aload_n 1, 1) := by decide +kernel
theorem dL_law_21 : decode cL_law 21 = .ok (.iload_n 2, 1) := by decide +kernel
theorem dL_law_22 : decode cL_law 22 = .ok (.invokevirtual 37, 3) := by decide +kernel
theorem dL_law_25 : decode cL_law 25 = .ok (.iconst 1, 1) := by decide +kernel
theorem dL_law_26 : decode cL_law 26 = .ok (.if_icmp .ne 18, 3) := by decide +kernel
theorem dL_law_29 : decode cL_law 29 = .ok (.aload_n 1, 1) := by decide +kernel
theorem dL_law_30 : decode cL_law 30 = .ok (.invokevirtual 40, 3) := by decide +kernel
theorem dL_law_33 : decode cL_law 33 = .ok (.ifCond .ne 11, 3) := by decide +kernel
theorem dL_law_36 : decode cL_law 36 = .ok (.aload_n 1, 1) := by decide +kernel
theorem dL_law_37 : decode cL_law 37 = .ok (.invokevirtual 40, 3) := by decide +kernel
theorem dL_law_40 : decode cL_law 40 = .ok (.iconst 1, 1) := by decide +kernel
theorem dL_law_41 : decode cL_law 41 = .ok (.if_icmp .eq 5, 3) := by decide +kernel
theorem dL_law_44 : decode cL_law 44 = .ok (.iconst 0, 1) := by decide +kernel
theorem dL_law_45 : decode cL_law 45 = .ok (.ireturn, 1) := by decide +kernel
theorem dL_law_46 : decode cL_law 46 = .ok (.bipush 64, 2) := by decide +kernel
theorem dL_law_48 : decode cL_law 48 = .ok (.newarray .int, 2) := by decide +kernel
theorem dL_law_50 : decode cL_law 50 = .ok (.astore_n 3, 1) := by decide +kernel
theorem dL_law_51 : decode cL_law 51 = .ok (.iconst 1, 1) := by decide +kernel
theorem dL_law_52 : decode cL_law 52 = .ok (.newarray .int, 2) := by decide +kernel
theorem dL_law_54 : decode cL_law 54 = .ok (.astore 4, 2) := by decide +kernel
theorem dL_law_56 : decode cL_law 56 = .ok (.iconst 4, 1) := by decide +kernel
theorem dL_law_57 : decode cL_law 57 = .ok (.newarray .int, 2) := by decide +kernel
theorem dL_law_59 : decode cL_law 59 = .ok (.astore 5, 2) := by decide +kernel
theorem dL_law_61 : decode cL_law 61 = .ok (.iconst 0, 1) := by decide +kernel
theorem dL_law_62 : decode cL_law 62 = .ok (.istore 6, 2) := by decide +kernel
theorem dL_law_64 : decode cL_law 64 = .ok (.iload 6, 2) := by decide +kernel
theorem dL_law_66 : decode cL_law 66 = .ok (.iconst 4, 1) := by decide +kernel
theorem dL_law_67 : decode cL_law 67 = .ok (.if_icmp .ge 58, 3) := by decide +kernel
theorem dL_law_70 : decode cL_law 70 = .ok (.aload_n 0, 1) := by decide +kernel
theorem dL_law_71 : decode cL_law 71 = .ok (.iconst 1, 1) := by decide +kernel
theorem dL_law_72 : decode cL_law 72 = .ok (.bipush 20, 2) := by decide +kernel
theorem dL_law_74 : decode cL_law 74 = .ok (.iload 6, 2) := by decide +kernel
theorem dL_law_76 : decode cL_law 76 = .ok (.imul, 1) := by decide +kernel
theorem dL_law_77 : decode cL_law 77 = .ok (.iadd, 1) := by decide +kernel
theorem dL_law_78 : decode cL_law 78 = .ok (.iload_n 2, 1) := by decide +kernel
theorem dL_law_79 : decode cL_law 79 = .ok (.aload_n 3, 1) := by decide +kernel
theorem dL_law_80 : decode cL_law 80 = .ok (.bipush 64, 2) := by decide +kernel
theorem dL_law_82 : decode cL_law 82 = .ok (.newarray .int, 2) := by decide +kernel
theorem dL_law_84 : decode cL_law 84 = .ok (.bipush 64, 2) := by decide +kernel
theorem dL_law_86 : decode cL_law 86 = .ok (.newarray .int, 2) := by decide +kernel
theorem dL_law_88 : decode cL_law 88 = .ok (.aload 4, 2) := by decide +kernel
theorem dL_law_90 : decode cL_law 90 = .ok (.iconst 0, 1) := by decide +kernel
theorem dL_law_91 : decode cL_law 91 = .ok (.invokestatic 43, 3) := by decide +kernel
theorem dL_law_94 : decode cL_law 94 = .ok (.istore 7, 2) := by decide +kernel
theorem dL_law_96 : decode cL_law 96 = .ok (.aload_n 1, 1) := by decide +kernel
theorem dL_law_97 : decode cL_law 97 = .ok (.aload_n 3, 1) := by decide +kernel
theorem dL_law_98 : decode cL_law 98 = .ok (.iload 7, 2) := by decide +kernel
theorem dL_law_100 : decode cL_law 100 = .ok (.invokestatic 46, 3) := by decide +kernel
theorem dL_law_103 : decode cL_law 103 = .ok (.iload 6, 2) := by decide +kernel
theorem dL_law_105 : decode cL_law 105 = .ok (.if_icmp .eq 5, 3) := by decide +kernel
theorem dL_law_108 : decode cL_law 108 = .ok (.iconst 0, 1) := by decide +kernel
theorem dL_law_109 : decode cL_law 109 = .ok (.ireturn, 1) := by decide +kernel
theorem dL_law_110 : decode cL_law 110 = .ok (.aload 5, 2) := by decide +kernel
theorem dL_law_112 : decode cL_law 112 = .ok (.iload 6, 2) := by decide +kernel
theorem dL_law_114 : decode cL_law 114 = .ok (.aload 4, 2) := by decide +kernel
theorem dL_law_116 : decode cL_law 116 = .ok (.iconst 0, 1) := by decide +kernel
theorem dL_law_117 : decode cL_law 117 = .ok (.iaload, 1) := by decide +kernel
theorem dL_law_118 : decode cL_law 118 = .ok (.iastore, 1) := by decide +kernel
theorem dL_law_119 : decode cL_law 119 = .ok (.iinc 6 1, 3) := by decide +kernel
theorem dL_law_122 : decode cL_law 122 = .ok (.goto (-58), 3) := by decide +kernel
theorem dL_law_125 : decode cL_law 125 = .ok (.bipush 8, 2) := by decide +kernel
theorem dL_law_127 : decode cL_law 127 = .ok (.newarray .int, 2) := by decide +kernel
theorem dL_law_129 : decode cL_law 129 = .ok (.astore 6, 2) := by decide +kernel
theorem dL_law_131 : decode cL_law 131 = .ok (.bipush 8, 2) := by decide +kernel
theorem dL_law_133 : decode cL_law 133 = .ok (.newarray .int, 2) := by decide +kernel
theorem dL_law_135 : decode cL_law 135 = .ok (.astore 7, 2) := by decide +kernel
theorem dL_law_137 : decode cL_law 137 = .ok (.aload_n 0, 1) := by decide +kernel
theorem dL_law_138 : decode cL_law 138 = .ok (.bipush 90, 2) := by decide +kernel
theorem dL_law_140 : decode cL_law 140 = .ok (.invokestatic 23, 3) := by decide +kernel
theorem dL_law_143 : decode cL_law 143 = .ok (.bipush 8, 2) := by decide +kernel
theorem dL_law_145 : decode cL_law 145 = .ok (.invokestatic 29, 3) := by decide +kernel
theorem dL_law_148 : decode cL_law 148 = .ok (.istore 8, 2) := by decide +kernel
theorem dL_law_150 : decode cL_law 150 = .ok (.aload_n 0, 1) := by decide +kernel
theorem dL_law_151 : decode cL_law 151 = .ok (.bipush 91, 2) := by decide +kernel
theorem dL_law_153 : decode cL_law 153 = .ok (.invokestatic 23, 3) := by decide +kernel
theorem dL_law_156 : decode cL_law 156 = .ok (.bipush 8, 2) := by decide +kernel
theorem dL_law_158 : decode cL_law 158 = .ok (.invokestatic 29, 3) := by decide +kernel
theorem dL_law_161 : decode cL_law 161 = .ok (.istore 9, 2) := by decide +kernel
theorem dL_law_163 : decode cL_law 163 = .ok (.iconst 0, 1) := by decide +kernel
theorem dL_law_164 : decode cL_law 164 = .ok (.istore 10, 2) := by decide +kernel
theorem dL_law_166 : decode cL_law 166 = .ok (.iconst 0, 1) := by decide +kernel
theorem dL_law_167 : decode cL_law 167 = .ok (.istore 11, 2) := by decide +kernel
theorem dL_law_169 : decode cL_law 169 = .ok (.iload 11, 2) := by decide +kernel
theorem dL_law_171 : decode cL_law 171 = .ok (.iload 8, 2) := by decide +kernel
theorem dL_law_173 : decode cL_law 173 = .ok (.if_icmp .ge 59, 3) := by decide +kernel
theorem dL_law_176 : decode cL_law 176 = .ok (.aload 6, 2) := by decide +kernel
theorem dL_law_178 : decode cL_law 178 = .ok (.iload 11, 2) := by decide +kernel
theorem dL_law_180 : decode cL_law 180 = .ok (.aload_n 0, 1) := by decide +kernel
theorem dL_law_181 : decode cL_law 181 = .ok (.bipush 92, 2) := by decide +kernel
theorem dL_law_183 : decode cL_law 183 = .ok (.iload 11, 2) := by decide +kernel
theorem dL_law_185 : decode cL_law 185 = .ok (.iadd, 1) := by decide +kernel
theorem dL_law_186 : decode cL_law 186 = .ok (.invokestatic 23, 3) := by decide +kernel
theorem dL_law_189 : decode cL_law 189 = .ok (.iconst 4, 1) := by decide +kernel
theorem dL_law_190 : decode cL_law 190 = .ok (.invokestatic 29, 3) := by decide +kernel
theorem dL_law_193 : decode cL_law 193 = .ok (.iastore, 1) := by decide +kernel
theorem dL_law_194 : decode cL_law 194 = .ok (.iload 10, 2) := by decide +kernel
theorem dL_law_196 : decode cL_law 196 = .ok (.aload 5, 2) := by decide +kernel
theorem dL_law_198 : decode cL_law 198 = .ok (.aload 6, 2) := by decide +kernel
theorem dL_law_200 : decode cL_law 200 = .ok (.iload 11, 2) := by decide +kernel
theorem dL_law_202 : decode cL_law 202 = .ok (.iaload, 1) := by decide +kernel
theorem dL_law_203 : decode cL_law 203 = .ok (.iaload, 1) := by decide +kernel
theorem dL_law_204 : decode cL_law 204 = .ok (.iadd, 1) := by decide +kernel
theorem dL_law_205 : decode cL_law 205 = .ok (.istore 10, 2) := by decide +kernel
theorem dL_law_207 : decode cL_law 207 = .ok (.aload_n 1, 1) := by decide +kernel
theorem dL_law_208 : decode cL_law 208 = .ok (.iconst 0, 1) := by decide +kernel
theorem dL_law_209 : decode cL_law 209 = .ok (.aload 6, 2) := by decide +kernel
theorem dL_law_211 : decode cL_law 211 = .ok (.iload 11, 2) := by decide +kernel
theorem dL_law_213 : decode cL_law 213 = .ok (.iaload, 1) := by decide +kernel
theorem dL_law_214 : decode cL_law 214 = .ok (.invokevirtual 50, 3) := by decide +kernel
theorem dL_law_217 : decode cL_law 217 = .ok (.iload 11, 2) := by decide +kernel
theorem dL_law_219 : decode cL_law 219 = .ok (.iconst 1, 1) := by decide +kernel
theorem dL_law_220 : decode cL_law 220 = .ok (.iadd, 1) := by decide +kernel
theorem dL_law_221 : decode cL_law 221 = .ok (.if_icmp .eq 5, 3) := by decide +kernel
theorem dL_law_224 : decode cL_law 224 = .ok (.iconst 0, 1) := by decide +kernel
theorem dL_law_225 : decode cL_law 225 = .ok (.ireturn, 1) := by decide +kernel
theorem dL_law_226 : decode cL_law 226 = .ok (.iinc 11 1, 3) := by decide +kernel
theorem dL_law_229 : decode cL_law 229 = .ok (.goto (-60), 3) := by decide +kernel
theorem dL_law_232 : decode cL_law 232 = .ok (.iconst 0, 1) := by decide +kernel
theorem dL_law_233 : decode cL_law 233 = .ok (.istore 11, 2) := by decide +kernel
theorem dL_law_235 : decode cL_law 235 = .ok (.iload 11, 2) := by decide +kernel
theorem dL_law_237 : decode cL_law 237 = .ok (.iload 9, 2) := by decide +kernel
theorem dL_law_239 : decode cL_law 239 = .ok (.if_icmp .ge 46, 3) := by decide +kernel
theorem dL_law_242 : decode cL_law 242 = .ok (.aload 7, 2) := by decide +kernel
theorem dL_law_244 : decode cL_law 244 = .ok (.iload 11, 2) := by decide +kernel
theorem dL_law_246 : decode cL_law 246 = .ok (.aload_n 0, 1) := by decide +kernel
theorem dL_law_247 : decode cL_law 247 = .ok (.bipush 100, 2) := by decide +kernel
theorem dL_law_249 : decode cL_law 249 = .ok (.iload 11, 2) := by decide +kernel
theorem dL_law_251 : decode cL_law 251 = .ok (.iadd, 1) := by decide +kernel
theorem dL_law_252 : decode cL_law 252 = .ok (.invokestatic 23, 3) := by decide +kernel
theorem dL_law_255 : decode cL_law 255 = .ok (.iconst 4, 1) := by decide +kernel
theorem dL_law_256 : decode cL_law 256 = .ok (.invokestatic 29, 3) := by decide +kernel
theorem dL_law_259 : decode cL_law 259 = .ok (.iastore, 1) := by decide +kernel
theorem dL_law_260 : decode cL_law 260 = .ok (.aload_n 1, 1) := by decide +kernel
theorem dL_law_261 : decode cL_law 261 = .ok (.iconst 1, 1) := by decide +kernel
theorem dL_law_262 : decode cL_law 262 = .ok (.aload 7, 2) := by decide +kernel
theorem dL_law_264 : decode cL_law 264 = .ok (.iload 11, 2) := by decide +kernel
theorem dL_law_266 : decode cL_law 266 = .ok (.iaload, 1) := by decide +kernel
theorem dL_law_267 : decode cL_law 267 = .ok (.invokevirtual 50, 3) := by decide +kernel
theorem dL_law_270 : decode cL_law 270 = .ok (.iload 11, 2) := by decide +kernel
theorem dL_law_272 : decode cL_law 272 = .ok (.iconst 1, 1) := by decide +kernel
theorem dL_law_273 : decode cL_law 273 = .ok (.iadd, 1) := by decide +kernel
theorem dL_law_274 : decode cL_law 274 = .ok (.if_icmp .eq 5, 3) := by decide +kernel
theorem dL_law_277 : decode cL_law 277 = .ok (.iconst 0, 1) := by decide +kernel
theorem dL_law_278 : decode cL_law 278 = .ok (.ireturn, 1) := by decide +kernel
theorem dL_law_279 : decode cL_law 279 = .ok (.iinc 11 1, 3) := by decide +kernel
theorem dL_law_282 : decode cL_law 282 = .ok (.goto (-47), 3) := by decide +kernel
theorem dL_law_285 : decode cL_law 285 = .ok (.aload_n 1, 1) := by decide +kernel
theorem dL_law_286 : decode cL_law 286 = .ok (.iconst 0, 1) := by decide +kernel
theorem dL_law_287 : decode cL_law 287 = .ok (.iconst 0, 1) := by decide +kernel
theorem dL_law_288 : decode cL_law 288 = .ok (.invokevirtual 53, 3) := by decide +kernel
theorem dL_law_291 : decode cL_law 291 = .ok (.iload 8, 2) := by decide +kernel
theorem dL_law_293 : decode cL_law 293 = .ok (.if_icmp .ne 28, 3) := by decide +kernel
theorem dL_law_296 : decode cL_law 296 = .ok (.aload_n 1, 1) := by decide +kernel
theorem dL_law_297 : decode cL_law 297 = .ok (.iconst 0, 1) := by decide +kernel
theorem dL_law_298 : decode cL_law 298 = .ok (.iconst 1, 1) := by decide +kernel
theorem dL_law_299 : decode cL_law 299 = .ok (.invokevirtual 53, 3) := by decide +kernel
theorem dL_law_302 : decode cL_law 302 = .ok (.iload 10, 2) := by decide +kernel
theorem dL_law_304 : decode cL_law 304 = .ok (.if_icmp .ne 17, 3) := by decide +kernel
theorem dL_law_307 : decode cL_law 307 = .ok (.aload_n 1, 1) := by decide +kernel
theorem dL_law_308 : decode cL_law 308 = .ok (.iconst 0, 1) := by decide +kernel
theorem dL_law_309 : decode cL_law 309 = .ok (.bipush 10, 2) := by decide +kernel
theorem dL_law_311 : decode cL_law 311 = .ok (.iload 8, 2) := by decide +kernel
theorem dL_law_313 : decode cL_law 313 = .ok (.iadd, 1) := by decide +kernel
theorem dL_law_314 : decode cL_law 314 = .ok (.invokevirtual 53, 3) := by decide +kernel
theorem dL_law_317 : decode cL_law 317 = .ok (.iconst (-1), 1) := by decide +kernel
theorem dL_law_318 : decode cL_law 318 = .ok (.if_icmp .eq 5, 3) := by decide +kernel
theorem dL_law_321 : decode cL_law 321 = .ok (.iconst 0, 1) := by decide +kernel
theorem dL_law_322 : decode cL_law 322 = .ok (.ireturn, 1) := by decide +kernel
theorem dL_law_323 : decode cL_law 323 = .ok (.iconst 0, 1) := by decide +kernel
theorem dL_law_324 : decode cL_law 324 = .ok (.istore 11, 2) := by decide +kernel
theorem dL_law_326 : decode cL_law 326 = .ok (.lconst 0, 1) := by decide +kernel
theorem dL_law_327 : decode cL_law 327 = .ok (.lstore 12, 2) := by decide +kernel
theorem dL_law_329 : decode cL_law 329 = .ok (.iconst 0, 1) := by decide +kernel
theorem dL_law_330 : decode cL_law 330 = .ok (.istore 14, 2) := by decide +kernel
theorem dL_law_332 : decode cL_law 332 = .ok (.iload 14, 2) := by decide +kernel
theorem dL_law_334 : decode cL_law 334 = .ok (.iconst 1, 1) := by decide +kernel
theorem dL_law_335 : decode cL_law 335 = .ok (.iload 8, 2) := by decide +kernel
theorem dL_law_337 : decode cL_law 337 = .ok (.ishl, 1) := by decide +kernel
theorem dL_law_338 : decode cL_law 338 = .ok (.if_icmp .ge 159, 3) := by decide +kernel
theorem dL_law_341 : decode cL_law 341 = .ok (.iconst 0, 1) := by decide +kernel
theorem dL_law_342 : decode cL_law 342 = .ok (.istore 15, 2) := by decide +kernel
theorem dL_law_344 : decode cL_law 344 = .ok (.iconst 0, 1) := by decide +kernel
theorem dL_law_345 : decode cL_law 345 = .ok (.istore 16, 2) := by decide +kernel
theorem dL_law_347 : decode cL_law 347 = .ok (.lconst 0, 1) := by decide +kernel
theorem dL_law_348 : decode cL_law 348 = .ok (.lstore 17, 2) := by decide +kernel
theorem dL_law_350 : decode cL_law 350 = .ok (.iconst 1, 1) := by decide +kernel
theorem dL_law_351 : decode cL_law 351 = .ok (.istore 19, 2) := by decide +kernel
theorem dL_law_353 : decode cL_law 353 = .ok (.iconst 0, 1) := by decide +kernel
theorem dL_law_354 : decode cL_law 354 = .ok (.istore 20, 2) := by decide +kernel
theorem dL_law_356 : decode cL_law 356 = .ok (.iload 20, 2) := by decide +kernel
theorem dL_law_358 : decode cL_law 358 = .ok (.iload 8, 2) := by decide +kernel
theorem dL_law_360 : decode cL_law 360 = .ok (.if_icmp .ge 88, 3) := by decide +kernel
theorem dL_law_363 : decode cL_law 363 = .ok (.iload 19, 2) := by decide +kernel
theorem dL_law_365 : decode cL_law 365 = .ok (.ifCond .eq 83, 3) := by decide +kernel
theorem dL_law_368 : decode cL_law 368 = .ok (.iload 14, 2) := by decide +kernel
theorem dL_law_370 : decode cL_law 370 = .ok (.iload 20, 2) := by decide +kernel
theorem dL_law_372 : decode cL_law 372 = .ok (.ishr, 1) := by decide +kernel
theorem dL_law_373 : decode cL_law 373 = .ok (.iconst 1, 1) := by decide +kernel
theorem dL_law_374 : decode cL_law 374 = .ok (.iand, 1) := by decide +kernel
theorem dL_law_375 : decode cL_law 375 = .ok (.ifCond .ne 6, 3) := by decide +kernel
theorem dL_law_378 : decode cL_law 378 = .ok (.goto 64, 3) := by decide +kernel
theorem dL_law_381 : decode cL_law 381 = .ok (.iload 16, 2) := by decide +kernel
theorem dL_law_383 : decode cL_law 383 = .ok (.iload 9, 2) := by decide +kernel
theorem dL_law_385 : decode cL_law 385 = .ok (.if_icmp .ge 22, 3) := by decide +kernel
theorem dL_law_388 : decode cL_law 388 = .ok (.aload 7, 2) := by decide +kernel
theorem dL_law_390 : decode cL_law 390 = .ok (.iload 16, 2) := by decide +kernel
theorem dL_law_392 : decode cL_law 392 = .ok (.iaload, 1) := by decide +kernel
theorem dL_law_393 : decode cL_law 393 = .ok (.aload 6, 2) := by decide +kernel
theorem dL_law_395 : decode cL_law 395 = .ok (.iload 20, 2) := by decide +kernel
theorem dL_law_397 : decode cL_law 397 = .ok (.iaload, 1) := by decide +kernel
theorem dL_law_398 : decode cL_law 398 = .ok (.if_icmp .eq 9, 3) := by decide +kernel
theorem dL_law_401 : decode cL_law 401 = .ok (.iinc 16 1, 3) := by decide +kernel
theorem dL_law_404 : decode cL_law 404 = .ok (.goto (-23), 3) := by decide +kernel
theorem dL_law_407 : decode cL_law 407 = .ok (.iload 16, 2) := by decide +kernel
theorem dL_law_409 : decode cL_law 409 = .ok (.iload 9, 2) := by decide +kernel
theorem dL_law_411 : decode cL_law 411 = .ok (.if_icmp .ge 7, 3) := by decide +kernel
theorem dL_law_414 : decode cL_law 414 = .ok (.iconst 1, 1) := by decide +kernel
theorem dL_law_415 : decode cL_law 415 = .ok (.goto 4, 3) := by decide +kernel
theorem dL_law_418 : decode cL_law 418 = .ok (.iconst 0, 1) := by decide +kernel
theorem dL_law_419 : decode cL_law 419 = .ok (.istore 19, 2) := by decide +kernel
theorem dL_law_421 : decode cL_law 421 = .ok (.iinc 16 1, 3) := by decide +kernel
theorem dL_law_424 : decode cL_law 424 = .ok (.iinc 15 1, 3) := by decide +kernel
theorem dL_law_427 : decode cL_law 427 = .ok (.ldc2_w 56, 3) := by decide +kernel
theorem dL_law_430 : decode cL_law 430 = .ok (.lload 17, 2) := by decide +kernel
theorem dL_law_432 : decode cL_law 432 = .ok (.lmul, 1) := by decide +kernel
theorem dL_law_433 : decode cL_law 433 = .ok (.aload 6, 2) := by decide +kernel
theorem dL_law_435 : decode cL_law 435 = .ok (.iload 20, 2) := by decide +kernel
theorem dL_law_437 : decode cL_law 437 = .ok (.iaload, 1) := by decide +kernel
theorem dL_law_438 : decode cL_law 438 = .ok (.i2l, 1) := by decide +kernel
theorem dL_law_439 : decode cL_law 439 = .ok (.ladd, 1) := by decide +kernel
theorem dL_law_440 : decode cL_law 440 = .ok (.lstore 17, 2) := by decide +kernel
theorem dL_law_442 : decode cL_law 442 = .ok (.iinc 20 1, 3) := by decide +kernel
theorem dL_law_445 : decode cL_law 445 = .ok (.goto (-89), 3) := by decide +kernel
theorem dL_law_448 : decode cL_law 448 = .ok (.iload 19, 2) := by decide +kernel
theorem dL_law_450 : decode cL_law 450 = .ok (.ifCond .eq 41, 3) := by decide +kernel
theorem dL_law_453 : decode cL_law 453 = .ok (.iload 15, 2) := by decide +kernel
theorem dL_law_455 : decode cL_law 455 = .ok (.iload 11, 2) := by decide +kernel
theorem dL_law_457 : decode cL_law 457 = .ok (.if_icmp .lt 34, 3) := by decide +kernel
theorem dL_law_460 : decode cL_law 460 = .ok (.iload 15, 2) := by decide +kernel
theorem dL_law_462 : decode cL_law 462 = .ok (.iload 11, 2) := by decide +kernel
theorem dL_law_464 : decode cL_law 464 = .ok (.if_icmp .ne 19, 3) := by decide +kernel
theorem dL_law_467 : decode cL_law 467 = .ok (.lload 17, 2) := by decide +kernel
theorem dL_law_469 : decode cL_law 469 = .ok (.lload 12, 2) := by decide +kernel
theorem dL_law_471 : decode cL_law 471 = .ok (.lcmp, 1) := by decide +kernel
theorem dL_law_472 : decode cL_law 472 = .ok (.ifCond .lt 11, 3) := by decide +kernel
theorem dL_law_475 : decode cL_law 475 = .ok (.iload 15, 2) := by decide +kernel
theorem dL_law_477 : decode cL_law 477 = .ok (.ifCond .le 6, 3) := by decide +kernel
theorem dL_law_480 : decode cL_law 480 = .ok (.goto 11, 3) := by decide +kernel
theorem dL_law_483 : decode cL_law 483 = .ok (.iload 15, 2) := by decide +kernel
theorem dL_law_485 : decode cL_law 485 = .ok (.istore 11, 2) := by decide +kernel
theorem dL_law_487 : decode cL_law 487 = .ok (.lload 17, 2) := by decide +kernel
theorem dL_law_489 : decode cL_law 489 = .ok (.lstore 12, 2) := by decide +kernel
theorem dL_law_491 : decode cL_law 491 = .ok (.iinc 14 1, 3) := by decide +kernel
theorem dL_law_494 : decode cL_law 494 = .ok (.goto (-162), 3) := by decide +kernel
theorem dL_law_497 : decode cL_law 497 = .ok (.aload_n 1, 1) := by decide +kernel
theorem dL_law_498 : decode cL_law 498 = .ok (.iconst 0, 1) := by decide +kernel
theorem dL_law_499 : decode cL_law 499 = .ok (.iconst 1, 1) := by decide +kernel
theorem dL_law_500 : decode cL_law 500 = .ok (.bipush (-4), 2) := by decide +kernel
theorem dL_law_502 : decode cL_law 502 = .ok (.invokevirtual 58, 3) := by decide +kernel
theorem dL_law_505 : decode cL_law 505 = .ok (.iload 11, 2) := by decide +kernel
theorem dL_law_507 : decode cL_law 507 = .ok (.if_icmp .ne 53, 3) := by decide +kernel
theorem dL_law_510 : decode cL_law 510 = .ok (.aload_n 1, 1) := by decide +kernel
theorem dL_law_511 : decode cL_law 511 = .ok (.iconst 1, 1) := by decide +kernel
theorem dL_law_512 : decode cL_law 512 = .ok (.iconst 0, 1) := by decide +kernel
theorem dL_law_513 : decode cL_law 513 = .ok (.bipush (-4), 2) := by decide +kernel
theorem dL_law_515 : decode cL_law 515 = .ok (.invokevirtual 58, 3) := by decide +kernel
theorem dL_law_518 : decode cL_law 518 = .ok (.iload 11, 2) := by decide +kernel
theorem dL_law_520 : decode cL_law 520 = .ok (.if_icmp .ne 40, 3) := by decide +kernel
theorem dL_law_523 : decode cL_law 523 = .ok (.aload_n 1, 1) := by decide +kernel
theorem dL_law_524 : decode cL_law 524 = .ok (.iconst 0, 1) := by decide +kernel
theorem dL_law_525 : decode cL_law 525 = .ok (.iconst 0, 1) := by decide +kernel
theorem dL_law_526 : decode cL_law 526 = .ok (.bipush (-4), 2) := by decide +kernel
theorem dL_law_528 : decode cL_law 528 = .ok (.invokevirtual 58, 3) := by decide +kernel
theorem dL_law_531 : decode cL_law 531 = .ok (.iload 8, 2) := by decide +kernel
theorem dL_law_533 : decode cL_law 533 = .ok (.if_icmp .ne 27, 3) := by decide +kernel
theorem dL_law_536 : decode cL_law 536 = .ok (.aload_n 1, 1) := by decide +kernel
theorem dL_law_537 : decode cL_law 537 = .ok (.iconst 0, 1) := by decide +kernel
theorem dL_law_538 : decode cL_law 538 = .ok (.iconst 1, 1) := by decide +kernel
theorem dL_law_539 : decode cL_law 539 = .ok (.iload 11, 2) := by decide +kernel
theorem dL_law_541 : decode cL_law 541 = .ok (.invokevirtual 58, 3) := by decide +kernel
theorem dL_law_544 : decode cL_law 544 = .ok (.bipush (-4), 2) := by decide +kernel
theorem dL_law_546 : decode cL_law 546 = .ok (.if_icmp .ne 14, 3) := by decide +kernel
theorem dL_law_549 : decode cL_law 549 = .ok (.aload_n 1, 1) := by decide +kernel
theorem dL_law_550 : decode cL_law 550 = .ok (.iconst 0, 1) := by decide +kernel
theorem dL_law_551 : decode cL_law 551 = .ok (.iconst 2, 1) := by decide +kernel
theorem dL_law_552 : decode cL_law 552 = .ok (.iconst 0, 1) := by decide +kernel
theorem dL_law_553 : decode cL_law 553 = .ok (.invokevirtual 58, 3) := by decide +kernel
theorem dL_law_556 : decode cL_law 556 = .ok (.iconst (-1), 1) := by decide +kernel
theorem dL_law_557 : decode cL_law 557 = .ok (.if_icmp .eq 5, 3) := by decide +kernel
theorem dL_law_560 : decode cL_law 560 = .ok (.iconst 0, 1) := by decide +kernel
theorem dL_law_561 : decode cL_law 561 = .ok (.ireturn, 1) := by decide +kernel
theorem dL_law_562 : decode cL_law 562 = .ok (.iload 11, 2) := by decide +kernel
theorem dL_law_564 : decode cL_law 564 = .ok (.iconst 1, 1) := by decide +kernel
theorem dL_law_565 : decode cL_law 565 = .ok (.isub, 1) := by decide +kernel
theorem dL_law_566 : decode cL_law 566 = .ok (.istore 14, 2) := by decide +kernel
theorem dL_law_568 : decode cL_law 568 = .ok (.iload 14, 2) := by decide +kernel
theorem dL_law_570 : decode cL_law 570 = .ok (.ifCond .lt 54, 3) := by decide +kernel
theorem dL_law_573 : decode cL_law 573 = .ok (.lload 12, 2) := by decide +kernel
theorem dL_law_575 : decode cL_law 575 = .ok (.ldc2_w 56, 3) := by decide +kernel
theorem dL_law_578 : decode cL_law 578 = .ok (.lrem, 1) := by decide +kernel
theorem dL_law_579 : decode cL_law 579 = .ok (.l2i, 1) := by decide +kernel
theorem dL_law_580 : decode cL_law 580 = .ok (.istore 15, 2) := by decide +kernel
theorem dL_law_582 : decode cL_law 582 = .ok (.lload 12, 2) := by decide +kernel
theorem dL_law_584 : decode cL_law 584 = .ok (.ldc2_w 56, 3) := by decide +kernel
theorem dL_law_587 : decode cL_law 587 = .ok (.ldiv, 1) := by decide +kernel
theorem dL_law_588 : decode cL_law 588 = .ok (.lstore 12, 2) := by decide +kernel
theorem dL_law_590 : decode cL_law 590 = .ok (.aload_n 1, 1) := by decide +kernel
theorem dL_law_591 : decode cL_law 591 = .ok (.iconst 0, 1) := by decide +kernel
theorem dL_law_592 : decode cL_law 592 = .ok (.iconst 1, 1) := by decide +kernel
theorem dL_law_593 : decode cL_law 593 = .ok (.iload 14, 2) := by decide +kernel
theorem dL_law_595 : decode cL_law 595 = .ok (.invokevirtual 58, 3) := by decide +kernel
theorem dL_law_598 : decode cL_law 598 = .ok (.iload 15, 2) := by decide +kernel
theorem dL_law_600 : decode cL_law 600 = .ok (.if_icmp .ne 16, 3) := by decide +kernel
theorem dL_law_603 : decode cL_law 603 = .ok (.aload_n 1, 1) := by decide +kernel
theorem dL_law_604 : decode cL_law 604 = .ok (.iconst 1, 1) := by decide +kernel
theorem dL_law_605 : decode cL_law 605 = .ok (.iconst 0, 1) := by decide +kernel
theorem dL_law_606 : decode cL_law 606 = .ok (.iload 14, 2) := by decide +kernel
theorem dL_law_608 : decode cL_law 608 = .ok (.invokevirtual 58, 3) := by decide +kernel
theorem dL_law_611 : decode cL_law 611 = .ok (.iload 15, 2) := by decide +kernel
theorem dL_law_613 : decode cL_law 613 = .ok (.if_icmp .eq 5, 3) := by decide +kernel
theorem dL_law_616 : decode cL_law 616 = .ok (.iconst 0, 1) := by decide +kernel
theorem dL_law_617 : decode cL_law 617 = .ok (.ireturn, 1) := by decide +kernel
theorem dL_law_618 : decode cL_law 618 = .ok (.iinc 14 (-1), 3) := by decide +kernel
theorem dL_law_621 : decode cL_law 621 = .ok (.goto (-53), 3) := by decide +kernel
theorem dL_law_624 : decode cL_law 624 = .ok (.iconst 0, 1) := by decide +kernel
theorem dL_law_625 : decode cL_law 625 = .ok (.istore 14, 2) := by decide +kernel
theorem dL_law_627 : decode cL_law 627 = .ok (.iload 14, 2) := by decide +kernel
theorem dL_law_629 : decode cL_law 629 = .ok (.iload 8, 2) := by decide +kernel
theorem dL_law_631 : decode cL_law 631 = .ok (.if_icmp .ge 45, 3) := by decide +kernel
theorem dL_law_634 : decode cL_law 634 = .ok (.aload_n 1, 1) := by decide +kernel
theorem dL_law_635 : decode cL_law 635 = .ok (.iconst 0, 1) := by decide +kernel
theorem dL_law_636 : decode cL_law 636 = .ok (.iconst 0, 1) := by decide +kernel
theorem dL_law_637 : decode cL_law 637 = .ok (.iload 14, 2) := by decide +kernel
theorem dL_law_639 : decode cL_law 639 = .ok (.invokevirtual 58, 3) := by decide +kernel
theorem dL_law_642 : decode cL_law 642 = .ok (.aload 6, 2) := by decide +kernel
theorem dL_law_644 : decode cL_law 644 = .ok (.iload 14, 2) := by decide +kernel
theorem dL_law_646 : decode cL_law 646 = .ok (.iaload, 1) := by decide +kernel
theorem dL_law_647 : decode cL_law 647 = .ok (.if_icmp .ne 21, 3) := by decide +kernel
theorem dL_law_650 : decode cL_law 650 = .ok (.aload_n 1, 1) := by decide +kernel
theorem dL_law_651 : decode cL_law 651 = .ok (.iconst 0, 1) := by decide +kernel
theorem dL_law_652 : decode cL_law 652 = .ok (.bipush 10, 2) := by decide +kernel
theorem dL_law_654 : decode cL_law 654 = .ok (.iload 14, 2) := by decide +kernel
theorem dL_law_656 : decode cL_law 656 = .ok (.iadd, 1) := by decide +kernel
theorem dL_law_657 : decode cL_law 657 = .ok (.invokevirtual 53, 3) := by decide +kernel
theorem dL_law_660 : decode cL_law 660 = .ok (.aload 6, 2) := by decide +kernel
theorem dL_law_662 : decode cL_law 662 = .ok (.iload 14, 2) := by decide +kernel
theorem dL_law_664 : decode cL_law 664 = .ok (.iaload, 1) := by decide +kernel
theorem dL_law_665 : decode cL_law 665 = .ok (.if_icmp .eq 5, 3) := by decide +kernel
theorem dL_law_668 : decode cL_law 668 = .ok (.iconst 0, 1) := by decide +kernel
theorem dL_law_669 : decode cL_law 669 = .ok (.ireturn, 1) := by decide +kernel
theorem dL_law_670 : decode cL_law 670 = .ok (.iinc 14 1, 3) := by decide +kernel
theorem dL_law_673 : decode cL_law 673 = .ok (.goto (-46), 3) := by decide +kernel
theorem dL_law_676 : decode cL_law 676 = .ok (.new 10, 3) := by decide +kernel
theorem dL_law_679 : decode cL_law 679 = .ok (.dup, 1) := by decide +kernel
theorem dL_law_680 : decode cL_law 680 = .ok (.invokespecial 36, 3) := by decide +kernel
theorem dL_law_683 : decode cL_law 683 = .ok (.astore 14, 2) := by decide +kernel
theorem dL_law_685 : decode cL_law 685 = .ok (.aload 14, 2) := by decide +kernel
theorem dL_law_687 : decode cL_law 687 = .ok (.iload_n 2, 1) := by decide +kernel
theorem dL_law_688 : decode cL_law 688 = .ok (.invokevirtual 37, 3) := by decide +kernel
theorem dL_law_691 : decode cL_law 691 = .ok (.iconst 1, 1) := by decide +kernel
theorem dL_law_692 : decode cL_law 692 = .ok (.if_icmp .eq 5, 3) := by decide +kernel
theorem dL_law_695 : decode cL_law 695 = .ok (.iconst 0, 1) := by decide +kernel
theorem dL_law_696 : decode cL_law 696 = .ok (.ireturn, 1) := by decide +kernel
theorem dL_law_697 : decode cL_law 697 = .ok (.iconst (-1), 1) := by decide +kernel
theorem dL_law_698 : decode cL_law 698 = .ok (.istore 15, 2) := by decide +kernel
theorem dL_law_700 : decode cL_law 700 = .ok (.iconst 0, 1) := by decide +kernel
theorem dL_law_701 : decode cL_law 701 = .ok (.istore 16, 2) := by decide +kernel
theorem dL_law_703 : decode cL_law 703 = .ok (.iload 16, 2) := by decide +kernel
theorem dL_law_705 : decode cL_law 705 = .ok (.iconst 4, 1) := by decide +kernel
theorem dL_law_706 : decode cL_law 706 = .ok (.if_icmp .ge 50, 3) := by decide +kernel
theorem dL_law_709 : decode cL_law 709 = .ok (.aload_n 0, 1) := by decide +kernel
theorem dL_law_710 : decode cL_law 710 = .ok (.iconst 1, 1) := by decide +kernel
theorem dL_law_711 : decode cL_law 711 = .ok (.bipush 20, 2) := by decide +kernel
theorem dL_law_713 : decode cL_law 713 = .ok (.iload 16, 2) := by decide +kernel
theorem dL_law_715 : decode cL_law 715 = .ok (.imul, 1) := by decide +kernel
theorem dL_law_716 : decode cL_law 716 = .ok (.iadd, 1) := by decide +kernel
theorem dL_law_717 : decode cL_law 717 = .ok (.iload_n 2, 1) := by decide +kernel
theorem dL_law_718 : decode cL_law 718 = .ok (.aload_n 3, 1) := by decide +kernel
theorem dL_law_719 : decode cL_law 719 = .ok (.bipush 64, 2) := by decide +kernel
theorem dL_law_721 : decode cL_law 721 = .ok (.newarray .int, 2) := by decide +kernel
theorem dL_law_723 : decode cL_law 723 = .ok (.bipush 64, 2) := by decide +kernel
theorem dL_law_725 : decode cL_law 725 = .ok (.newarray .int, 2) := by decide +kernel
theorem dL_law_727 : decode cL_law 727 = .ok (.aload 4, 2) := by decide +kernel
theorem dL_law_729 : decode cL_law 729 = .ok (.iconst 0, 1) := by decide +kernel
theorem dL_law_730 : decode cL_law 730 = .ok (.invokestatic 43, 3) := by decide +kernel
theorem dL_law_733 : decode cL_law 733 = .ok (.istore 17, 2) := by decide +kernel
theorem dL_law_735 : decode cL_law 735 = .ok (.aload 14, 2) := by decide +kernel
theorem dL_law_737 : decode cL_law 737 = .ok (.aload_n 3, 1) := by decide +kernel
theorem dL_law_738 : decode cL_law 738 = .ok (.iload 17, 2) := by decide +kernel
theorem dL_law_740 : decode cL_law 740 = .ok (.invokestatic 46, 3) := by decide +kernel
theorem dL_law_743 : decode cL_law 743 = .ok (.iload 16, 2) := by decide +kernel
theorem dL_law_745 : decode cL_law 745 = .ok (.if_icmp .eq 5, 3) := by decide +kernel
theorem dL_law_748 : decode cL_law 748 = .ok (.iconst 0, 1) := by decide +kernel
theorem dL_law_749 : decode cL_law 749 = .ok (.ireturn, 1) := by decide +kernel
theorem dL_law_750 : decode cL_law 750 = .ok (.iinc 16 1, 3) := by decide +kernel
theorem dL_law_753 : decode cL_law 753 = .ok (.goto (-50), 3) := by decide +kernel
theorem dL_law_756 : decode cL_law 756 = .ok (.iconst 0, 1) := by decide +kernel
theorem dL_law_757 : decode cL_law 757 = .ok (.istore 16, 2) := by decide +kernel
theorem dL_law_759 : decode cL_law 759 = .ok (.iload 16, 2) := by decide +kernel
theorem dL_law_761 : decode cL_law 761 = .ok (.iload 8, 2) := by decide +kernel
theorem dL_law_763 : decode cL_law 763 = .ok (.if_icmp .ge 35, 3) := by decide +kernel
theorem dL_law_766 : decode cL_law 766 = .ok (.iload 15, 2) := by decide +kernel
theorem dL_law_768 : decode cL_law 768 = .ok (.ifCond .ge 30, 3) := by decide +kernel
theorem dL_law_771 : decode cL_law 771 = .ok (.aload 14, 2) := by decide +kernel
theorem dL_law_773 : decode cL_law 773 = .ok (.aload 6, 2) := by decide +kernel
theorem dL_law_775 : decode cL_law 775 = .ok (.iload 16, 2) := by decide +kernel
theorem dL_law_777 : decode cL_law 777 = .ok (.iaload, 1) := by decide +kernel
theorem dL_law_778 : decode cL_law 778 = .ok (.invokevirtual 62, 3) := by decide +kernel
theorem dL_law_781 : decode cL_law 781 = .ok (.ifCond .ge 8, 3) := by decide +kernel
theorem dL_law_784 : decode cL_law 784 = .ok (.iload 16, 2) := by decide +kernel
theorem dL_law_786 : decode cL_law 786 = .ok (.goto 4, 3) := by decide +kernel
theorem dL_law_789 : decode cL_law 789 = .ok (.iconst (-1), 1) := by decide +kernel
theorem dL_law_790 : decode cL_law 790 = .ok (.istore 15, 2) := by decide +kernel
theorem dL_law_792 : decode cL_law 792 = .ok (.iinc 16 1, 3) := by decide +kernel
theorem dL_law_795 : decode cL_law 795 = .ok (.goto (-36), 3) := by decide +kernel
theorem dL_law_798 : decode cL_law 798 = .ok (.aload_n 1, 1) := by decide +kernel
theorem dL_law_799 : decode cL_law 799 = .ok (.iconst 0, 1) := by decide +kernel
theorem dL_law_800 : decode cL_law 800 = .ok (.invokevirtual 65, 3) := by decide +kernel
theorem dL_law_803 : decode cL_law 803 = .ok (.iload 15, 2) := by decide +kernel
theorem dL_law_805 : decode cL_law 805 = .ok (.ifCond .ge 8, 3) := by decide +kernel
theorem dL_law_808 : decode cL_law 808 = .ok (.iload 8, 2) := by decide +kernel
theorem dL_law_810 : decode cL_law 810 = .ok (.goto 8, 3) := by decide +kernel
theorem dL_law_813 : decode cL_law 813 = .ok (.bipush (-100), 2) := by decide +kernel
theorem dL_law_815 : decode cL_law 815 = .ok (.iload 15, 2) := by decide +kernel
theorem dL_law_817 : decode cL_law 817 = .ok (.isub, 1) := by decide +kernel
theorem dL_law_818 : decode cL_law 818 = .ok (.if_icmp .ne 20, 3) := by decide +kernel
theorem dL_law_821 : decode cL_law 821 = .ok (.iload 15, 2) := by decide +kernel
theorem dL_law_823 : decode cL_law 823 = .ok (.ifCond .lt 17, 3) := by decide +kernel
theorem dL_law_826 : decode cL_law 826 = .ok (.aload_n 1, 1) := by decide +kernel
theorem dL_law_827 : decode cL_law 827 = .ok (.invokevirtual 68, 3) := by decide +kernel
theorem dL_law_830 : decode cL_law 830 = .ok (.aload 14, 2) := by decide +kernel
theorem dL_law_832 : decode cL_law 832 = .ok (.invokevirtual 68, 3) := by decide +kernel
theorem dL_law_835 : decode cL_law 835 = .ok (.if_icmp .eq 5, 3) := by decide +kernel
theorem dL_law_838 : decode cL_law 838 = .ok (.iconst 0, 1) := by decide +kernel
theorem dL_law_839 : decode cL_law 839 = .ok (.ireturn, 1) := by decide +kernel
theorem dL_law_840 : decode cL_law 840 = .ok (.iconst 0, 1) := by decide +kernel
theorem dL_law_841 : decode cL_law 841 = .ok (.istore 16, 2) := by decide +kernel
theorem dL_law_843 : decode cL_law 843 = .ok (.iload 16, 2) := by decide +kernel
theorem dL_law_845 : decode cL_law 845 = .ok (.iload_n 2, 1) := by decide +kernel
theorem dL_law_846 : decode cL_law 846 = .ok (.if_icmp .ge 102, 3) := by decide +kernel
theorem dL_law_849 : decode cL_law 849 = .ok (.aload_n 1, 1) := by decide +kernel
theorem dL_law_850 : decode cL_law 850 = .ok (.iload 16, 2) := by decide +kernel
theorem dL_law_852 : decode cL_law 852 = .ok (.iconst 0, 1) := by decide +kernel
theorem dL_law_853 : decode cL_law 853 = .ok (.invokevirtual 71, 3) := by decide +kernel
theorem dL_law_856 : decode cL_law 856 = .ok (.aload 14, 2) := by decide +kernel
theorem dL_law_858 : decode cL_law 858 = .ok (.iload 16, 2) := by decide +kernel
theorem dL_law_860 : decode cL_law 860 = .ok (.iconst 0, 1) := by decide +kernel
theorem dL_law_861 : decode cL_law 861 = .ok (.invokevirtual 71, 3) := by decide +kernel
theorem dL_law_864 : decode cL_law 864 = .ok (.if_icmp .ne 39, 3) := by decide +kernel
theorem dL_law_867 : decode cL_law 867 = .ok (.aload_n 1, 1) := by decide +kernel
theorem dL_law_868 : decode cL_law 868 = .ok (.iload 16, 2) := by decide +kernel
theorem dL_law_870 : decode cL_law 870 = .ok (.iconst 1, 1) := by decide +kernel
theorem dL_law_871 : decode cL_law 871 = .ok (.invokevirtual 74, 3) := by decide +kernel
theorem dL_law_874 : decode cL_law 874 = .ok (.aload 14, 2) := by decide +kernel
theorem dL_law_876 : decode cL_law 876 = .ok (.iload 16, 2) := by decide +kernel
theorem dL_law_878 : decode cL_law 878 = .ok (.iconst 1, 1) := by decide +kernel
theorem dL_law_879 : decode cL_law 879 = .ok (.invokevirtual 74, 3) := by decide +kernel
theorem dL_law_882 : decode cL_law 882 = .ok (.if_icmp .ne 21, 3) := by decide +kernel
theorem dL_law_885 : decode cL_law 885 = .ok (.aload_n 1, 1) := by decide +kernel
theorem dL_law_886 : decode cL_law 886 = .ok (.iload 16, 2) := by decide +kernel
theorem dL_law_888 : decode cL_law 888 = .ok (.iconst 3, 1) := by decide +kernel
theorem dL_law_889 : decode cL_law 889 = .ok (.invokevirtual 74, 3) := by decide +kernel
theorem dL_law_892 : decode cL_law 892 = .ok (.aload 14, 2) := by decide +kernel
theorem dL_law_894 : decode cL_law 894 = .ok (.iload 16, 2) := by decide +kernel
theorem dL_law_896 : decode cL_law 896 = .ok (.iconst 3, 1) := by decide +kernel
theorem dL_law_897 : decode cL_law 897 = .ok (.invokevirtual 74, 3) := by decide +kernel
theorem dL_law_900 : decode cL_law 900 = .ok (.if_icmp .eq 5, 3) := by decide +kernel
theorem dL_law_903 : decode cL_law 903 = .ok (.iconst 0, 1) := by decide +kernel
theorem dL_law_904 : decode cL_law 904 = .ok (.ireturn, 1) := by decide +kernel
theorem dL_law_905 : decode cL_law 905 = .ok (.iconst 0, 1) := by decide +kernel
theorem dL_law_906 : decode cL_law 906 = .ok (.istore 17, 2) := by decide +kernel
theorem dL_law_908 : decode cL_law 908 = .ok (.iload 17, 2) := by decide +kernel
theorem dL_law_910 : decode cL_law 910 = .ok (.iload_n 2, 1) := by decide +kernel
theorem dL_law_911 : decode cL_law 911 = .ok (.if_icmp .ge 31, 3) := by decide +kernel
theorem dL_law_914 : decode cL_law 914 = .ok (.aload_n 1, 1) := by decide +kernel
theorem dL_law_915 : decode cL_law 915 = .ok (.iload 16, 2) := by decide +kernel
theorem dL_law_917 : decode cL_law 917 = .ok (.iload 17, 2) := by decide +kernel
theorem dL_law_919 : decode cL_law 919 = .ok (.invokevirtual 77, 3) := by decide +kernel
theorem dL_law_922 : decode cL_law 922 = .ok (.aload 14, 2) := by decide +kernel
theorem dL_law_924 : decode cL_law 924 = .ok (.iload 16, 2) := by decide +kernel
theorem dL_law_926 : decode cL_law 926 = .ok (.iload 17, 2) := by decide +kernel
theorem dL_law_928 : decode cL_law 928 = .ok (.invokevirtual 77, 3) := by decide +kernel
theorem dL_law_931 : decode cL_law 931 = .ok (.if_icmp .eq 5, 3) := by decide +kernel
theorem dL_law_934 : decode cL_law 934 = .ok (.iconst 0, 1) := by decide +kernel
theorem dL_law_935 : decode cL_law 935 = .ok (.ireturn, 1) := by decide +kernel
theorem dL_law_936 : decode cL_law 936 = .ok (.iinc 17 1, 3) := by decide +kernel
theorem dL_law_939 : decode cL_law 939 = .ok (.goto (-31), 3) := by decide +kernel
theorem dL_law_942 : decode cL_law 942 = .ok (.iinc 16 1, 3) := by decide +kernel
theorem dL_law_945 : decode cL_law 945 = .ok (.goto (-102), 3) := by decide +kernel
theorem dL_law_948 : decode cL_law 948 = .ok (.iload 8, 2) := by decide +kernel
theorem dL_law_950 : decode cL_law 950 = .ok (.iconst 1, 1) := by decide +kernel
theorem dL_law_951 : decode cL_law 951 = .ok (.isub, 1) := by decide +kernel
theorem dL_law_952 : decode cL_law 952 = .ok (.istore 16, 2) := by decide +kernel
theorem dL_law_954 : decode cL_law 954 = .ok (.iload 16, 2) := by decide +kernel
theorem dL_law_956 : decode cL_law 956 = .ok (.ifCond .lt 36, 3) := by decide +kernel
theorem dL_law_959 : decode cL_law 959 = .ok (.iload 15, 2) := by decide +kernel
theorem dL_law_961 : decode cL_law 961 = .ok (.ifCond .ge 31, 3) := by decide +kernel
theorem dL_law_964 : decode cL_law 964 = .ok (.aload_n 1, 1) := by decide +kernel
theorem dL_law_965 : decode cL_law 965 = .ok (.aload 6, 2) := by decide +kernel
theorem dL_law_967 : decode cL_law 967 = .ok (.iload 16, 2) := by decide +kernel
theorem dL_law_969 : decode cL_law 969 = .ok (.iaload, 1) := by decide +kernel
theorem dL_law_970 : decode cL_law 970 = .ok (.invokevirtual 80, 3) := by decide +kernel
theorem dL_law_973 : decode cL_law 973 = .ok (.aload 5, 2) := by decide +kernel
theorem dL_law_975 : decode cL_law 975 = .ok (.aload 6, 2) := by decide +kernel
theorem dL_law_977 : decode cL_law 977 = .ok (.iload 16, 2) := by decide +kernel
theorem dL_law_979 : decode cL_law 979 = .ok (.iaload, 1) := by decide +kernel
theorem dL_law_980 : decode cL_law 980 = .ok (.iaload, 1) := by decide +kernel
theorem dL_law_981 : decode cL_law 981 = .ok (.if_icmp .eq 5, 3) := by decide +kernel
theorem dL_law_984 : decode cL_law 984 = .ok (.iconst 0, 1) := by decide +kernel
theorem dL_law_985 : decode cL_law 985 = .ok (.ireturn, 1) := by decide +kernel
theorem dL_law_986 : decode cL_law 986 = .ok (.iinc 16 (-1), 3) := by decide +kernel
theorem dL_law_989 : decode cL_law 989 = .ok (.goto (-35), 3) := by decide +kernel
theorem dL_law_992 : decode cL_law 992 = .ok (.iconst 0, 1) := by decide +kernel
theorem dL_law_993 : decode cL_law 993 = .ok (.istore 16, 2) := by decide +kernel
theorem dL_law_995 : decode cL_law 995 = .ok (.iload 16, 2) := by decide +kernel
theorem dL_law_997 : decode cL_law 997 = .ok (.iload_n 2, 1) := by decide +kernel
theorem dL_law_998 : decode cL_law 998 = .ok (.if_icmp .ge 49, 3) := by decide +kernel
theorem dL_law_1001 : decode cL_law 1001 = .ok (.iload 15, 2) := by decide +kernel
theorem dL_law_1003 : decode cL_law 1003 = .ok (.ifCond .ge 44, 3) := by decide +kernel
theorem dL_law_1006 : decode cL_law 1006 = .ok (.aload_n 1, 1) := by decide +kernel
theorem dL_law_1007 : decode cL_law 1007 = .ok (.iload 16, 2) := by decide +kernel
theorem dL_law_1009 : decode cL_law 1009 = .ok (.iconst 0, 1) := by decide +kernel
theorem dL_law_1010 : decode cL_law 1010 = .ok (.invokevirtual 71, 3) := by decide +kernel
theorem dL_law_1013 : decode cL_law 1013 = .ok (.iload 16, 2) := by decide +kernel
theorem dL_law_1015 : decode cL_law 1015 = .ok (.if_icmp .ne 24, 3) := by decide +kernel
theorem dL_law_1018 : decode cL_law 1018 = .ok (.aload_n 1, 1) := by decide +kernel
theorem dL_law_1019 : decode cL_law 1019 = .ok (.iload 16, 2) := by decide +kernel
theorem dL_law_1021 : decode cL_law 1021 = .ok (.iconst 1, 1) := by decide +kernel
theorem dL_law_1022 : decode cL_law 1022 = .ok (.invokevirtual 71, 3) := by decide +kernel
theorem dL_law_1025 : decode cL_law 1025 = .ok (.iconst 1, 1) := by decide +kernel
theorem dL_law_1026 : decode cL_law 1026 = .ok (.if_icmp .ne 13, 3) := by decide +kernel
theorem dL_law_1029 : decode cL_law 1029 = .ok (.aload_n 1, 1) := by decide +kernel
theorem dL_law_1030 : decode cL_law 1030 = .ok (.iload 16, 2) := by decide +kernel
theorem dL_law_1032 : decode cL_law 1032 = .ok (.iconst 3, 1) := by decide +kernel
theorem dL_law_1033 : decode cL_law 1033 = .ok (.invokevirtual 74, 3) := by decide +kernel
theorem dL_law_1036 : decode cL_law 1036 = .ok (.ifCond .eq 5, 3) := by decide +kernel
theorem dL_law_1039 : decode cL_law 1039 = .ok (.iconst 0, 1) := by decide +kernel
theorem dL_law_1040 : decode cL_law 1040 = .ok (.ireturn, 1) := by decide +kernel
theorem dL_law_1041 : decode cL_law 1041 = .ok (.iinc 16 1, 3) := by decide +kernel
theorem dL_law_1044 : decode cL_law 1044 = .ok (.goto (-49), 3) := by decide +kernel
theorem dL_law_1047 : decode cL_law 1047 = .ok (.iconst 1, 1) := by decide +kernel
theorem dL_law_1048 : decode cL_law 1048 = .ok (.ireturn, 1) := by decide +kernel
