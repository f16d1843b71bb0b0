theorem dX0_init_0 : decode cX0_init 0 = .ok (.aload_n 0, 1) := by decide +kernel
theorem dX0_init_1 : decode cX0_init 1 = .ok (.invokespecial 3, 3) := by decide +kernel
theorem dX0_init_4 : decode cX0_init 4 = .ok (.aload_n 0, 1) := by decide +kernel
theorem dX0_init_5 : decode cX0_init 5 = .ok (.sipush 200, 3) := by decide +kernel
theorem dX0_init_8 : decode cX0_init 8 = .ok (.newarray .byte, 2) := by decide +kernel
theorem dX0_init_10 : decode cX0_init 10 = .ok (.putfield 9, 3) := by decide +kernel
theorem dX0_init_13 : decode cX0_init 13 = .ok (.return_, 1) := by decide +kernel
theorem dX0_become_0 : decode cX0_become 0 = .ok (.aload_n 0, 1) := by decide +kernel
theorem dX0_become_1 : decode cX0_become 1 = .ok (.aload_n 1, 1) := by decide +kernel
theorem dX0_become_2 : decode cX0_become 2 = .ok (.getfield 15, 3) := by decide +kernel
theorem dX0_become_5 : decode cX0_become 5 = .ok (.putfield 15, 3) := by decide +kernel
theorem dX0_become_8 : decode cX0_become 8 = .ok (.aload_n 1, 1) := by decide +kernel
theorem dX0_become_9 : decode cX0_become 9 = .ok (.getfield 9, 3) := by decide +kernel
theorem dX0_become_12 : decode cX0_become 12 = .ok (.iconst 0, 1) := by decide +kernel
theorem dX0_become_13 : decode cX0_become 13 = .ok (.aload_n 0, 1) := by decide +kernel
theorem dX0_become_14 : decode cX0_become 14 = .ok (.getfield 9, 3) := by decide +kernel
theorem dX0_become_17 : decode cX0_become 17 = .ok (.iconst 0, 1) := by decide +kernel
theorem dX0_become_18 : decode cX0_become 18 = .ok (.aload_n 0, 1) := by decide +kernel
theorem dX0_become_19 : decode cX0_become 19 = .ok (.getfield 9, 3) := by decide +kernel
theorem dX0_become_22 : decode cX0_become 22 = .ok (.arraylength, 1) := by decide +kernel
theorem dX0_become_23 : decode cX0_become 23 = .ok (.invokestatic 19, 3) := by decide +kernel
theorem dX0_become_26 : decode cX0_become 26 = .ok (.return_, 1) := by decide +kernel
theorem dX0_append_0 : decode cX0_append 0 = .ok (.aload_n 0, 1) := by decide +kernel
theorem dX0_append_1 : decode cX0_append 1 = .ok (.getfield 15, 3) := by decide +kernel
theorem dX0_append_4 : decode cX0_append 4 = .ok (.ifCond .lt 15, 3) := by decide +kernel
theorem dX0_append_7 : decode cX0_append 7 = .ok (.aload_n 0, 1) := by decide +kernel
theorem dX0_append_8 : decode cX0_append 8 = .ok (.getfield 15, 3) := by decide +kernel
theorem dX0_append_11 : decode cX0_append 11 = .ok (.aload_n 0, 1) := by decide +kernel
theorem dX0_append_12 : decode cX0_append 12 = .ok (.getfield 9, 3) := by decide +kernel
theorem dX0_append_15 : decode cX0_append 15 = .ok (.arraylength, 1) := by decide +kernel
theorem dX0_append_16 : decode cX0_append 16 = .ok (.if_icmp .lt 5, 3) := by decide +kernel
theorem dX0_append_19 : decode cX0_append 19 = .ok (.iconst 0, 1) := by decide +kernel
theorem dX0_append_20 : decode cX0_append 20 = .ok (.ireturn, 1) := by decide +kernel
theorem dX0_append_21 : decode cX0_append 21 = .ok (.aload_n 0, 1) := by decide +kernel
theorem dX0_append_22 : decode cX0_append 22 = .ok (.getfield 9, 3) := by decide +kernel
theorem dX0_append_25 : decode cX0_append 25 = .ok (.aload_n 0, 1) := by decide +kernel
theorem dX0_append_26 : decode cX0_append 26 = .ok (.getfield 15, 3) := by decide +kernel
theorem dX0_append_29 : decode cX0_append 29 = .ok (.iload_n 1, 1) := by decide +kernel
theorem dX0_append_30 : decode cX0_append 30 = .ok (.i2b, 1) := by decide +kernel
theorem dX0_append_31 : decode cX0_append 31 = .ok (.bastore, 1) := by decide +kernel
theorem dX0_append_32 : decode cX0_append 32 = .ok (.aload_n 0, 1) := by decide +kernel
theorem dX0_append_33 : decode cX0_append 33 = .ok (.dup, 1) := by decide +kernel
theorem dX0_append_34 : decode cX0_append 34 = .ok (.getfield 15, 3) := by decide +kernel
theorem dX0_append_37 : decode cX0_append 37 = .ok (.iconst 1, 1) := by decide +kernel
theorem dX0_append_38 : decode cX0_append 38 = .ok (.iadd, 1) := by decide +kernel
theorem dX0_append_39 : decode cX0_append 39 = .ok (.putfield 15, 3) := by decide +kernel
theorem dX0_append_42 : decode cX0_append 42 = .ok (.iconst 1, 1) := by decide +kernel
theorem dX0_append_43 : decode cX0_append 43 = .ok (.ireturn, 1) := by decide +kernel
theorem dX0_beatAt_0 : decode cX0_beatAt 0 = .ok (.iload_n 1, 1) := by decide +kernel
theorem dX0_beatAt_1 : decode cX0_beatAt 1 = .ok (.ifCond .lt 29, 3) := by decide +kernel
theorem dX0_beatAt_4 : decode cX0_beatAt 4 = .ok (.iload_n 1, 1) := by decide +kernel
theorem dX0_beatAt_5 : decode cX0_beatAt 5 = .ok (.aload_n 0, 1) := by decide +kernel
theorem dX0_beatAt_6 : decode cX0_beatAt 6 = .ok (.getfield 15, 3) := by decide +kernel
theorem dX0_beatAt_9 : decode cX0_beatAt 9 = .ok (.if_icmp .ge 21, 3) := by decide +kernel
theorem dX0_beatAt_12 : decode cX0_beatAt 12 = .ok (.iload_n 1, 1) := by decide +kernel
theorem dX0_beatAt_13 : decode cX0_beatAt 13 = .ok (.aload_n 0, 1) := by decide +kernel
theorem dX0_beatAt_14 : decode cX0_beatAt 14 = .ok (.getfield 9, 3) := by decide +kernel
theorem dX0_beatAt_17 : decode cX0_beatAt 17 = .ok (.arraylength, 1) := by decide +kernel
theorem dX0_beatAt_18 : decode cX0_beatAt 18 = .ok (.if_icmp .ge 12, 3) := by decide +kernel
theorem dX0_beatAt_21 : decode cX0_beatAt 21 = .ok (.aload_n 0, 1) := by decide +kernel
theorem dX0_beatAt_22 : decode cX0_beatAt 22 = .ok (.getfield 9, 3) := by decide +kernel
theorem dX0_beatAt_25 : decode cX0_beatAt 25 = .ok (.iload_n 1, 1) := by decide +kernel
theorem dX0_beatAt_26 : decode cX0_beatAt 26 = .ok (.baload, 1) := by decide +kernel
theorem dX0_beatAt_27 : decode cX0_beatAt 27 = .ok (.goto 5, 3) := by decide +kernel
theorem dX0_beatAt_30 : decode cX0_beatAt 30 = .ok (.bipush 48, 2) := by decide +kernel
theorem dX0_beatAt_32 : decode cX0_beatAt 32 = .ok (.ireturn, 1) := by decide +kernel
theorem dX0_sortOf_0 : decode cX0_sortOf 0 = .ok (.aload_n 0, 1) := by decide +kernel
theorem dX0_sortOf_1 : decode cX0_sortOf 1 = .ok (.iload_n 1, 1) := by decide +kernel
theorem dX0_sortOf_2 : decode cX0_sortOf 2 = .ok (.invokevirtual 25, 3) := by decide +kernel
theorem dX0_sortOf_5 : decode cX0_sortOf 5 = .ok (.iconst 3, 1) := by decide +kernel
theorem dX0_sortOf_6 : decode cX0_sortOf 6 = .ok (.ishr, 1) := by decide +kernel
theorem dX0_sortOf_7 : decode cX0_sortOf 7 = .ok (.ireturn, 1) := by decide +kernel
theorem dX0_numberOf_0 : decode cX0_numberOf 0 = .ok (.aload_n 0, 1) := by decide +kernel
theorem dX0_numberOf_1 : decode cX0_numberOf 1 = .ok (.iload_n 1, 1) := by decide +kernel
theorem dX0_numberOf_2 : decode cX0_numberOf 2 = .ok (.invokevirtual 25, 3) := by decide +kernel
theorem dX0_numberOf_5 : decode cX0_numberOf 5 = .ok (.bipush 7, 2) := by decide +kernel
theorem dX0_numberOf_7 : decode cX0_numberOf 7 = .ok (.iand, 1) := by decide +kernel
theorem dX0_numberOf_8 : decode cX0_numberOf 8 = .ok (.ireturn, 1) := by decide +kernel
theorem dX0_acts_0 : decode cX0_acts 0 = .ok (.iconst 0, 1) := by decide +kernel
theorem dX0_acts_1 : decode cX0_acts 1 = .ok (.istore_n 1, 1) := by decide +kernel
theorem dX0_acts_2 : decode cX0_acts 2 = .ok (.iconst 0, 1) := by decide +kernel
theorem dX0_acts_3 : decode cX0_acts 3 = .ok (.istore_n 2, 1) := by decide +kernel
theorem dX0_acts_4 : decode cX0_acts 4 = .ok (.iload_n 2, 1) := by decide +kernel
theorem dX0_acts_5 : decode cX0_acts 5 = .ok (.aload_n 0, 1) := by decide +kernel
theorem dX0_acts_6 : decode cX0_acts 6 = .ok (.getfield 15, 3) := by decide +kernel
theorem dX0_acts_9 : decode cX0_acts 9 = .ok (.if_icmp .ge 22, 3) := by decide +kernel
theorem dX0_acts_12 : decode cX0_acts 12 = .ok (.aload_n 0, 1) := by decide +kernel
theorem dX0_acts_13 : decode cX0_acts 13 = .ok (.iload_n 2, 1) := by decide +kernel
theorem dX0_acts_14 : decode cX0_acts 14 = .ok (.invokevirtual 29, 3) := by decide +kernel
theorem dX0_acts_17 : decode cX0_acts 17 = .ok (.bipush 6, 2) := by decide +kernel
theorem dX0_acts_19 : decode cX0_acts 19 = .ok (.if_icmp .eq 6, 3) := by decide +kernel
theorem dX0_acts_22 : decode cX0_acts 22 = .ok (.iinc 1 1, 3) := by decide +kernel
theorem dX0_acts_25 : decode cX0_acts 25 = .ok (.iinc 2 1, 3) := by decide +kernel
theorem dX0_acts_28 : decode cX0_acts 28 = .ok (.goto (-24), 3) := by decide +kernel
theorem dX0_acts_31 : decode cX0_acts 31 = .ok (.iload_n 1, 1) := by decide +kernel
theorem dX0_acts_32 : decode cX0_acts 32 = .ok (.ireturn, 1) := by decide +kernel
theorem dX0_greatest_0 : decode cX0_greatest 0 = .ok (.bipush (-4), 2) := by decide +kernel
theorem dX0_greatest_2 : decode cX0_greatest 2 = .ok (.istore_n 1, 1) := by decide +kernel
theorem dX0_greatest_3 : decode cX0_greatest 3 = .ok (.iconst 0, 1) := by decide +kernel
theorem dX0_greatest_4 : decode cX0_greatest 4 = .ok (.istore_n 2, 1) := by decide +kernel
theorem dX0_greatest_5 : decode cX0_greatest 5 = .ok (.iload_n 2, 1) := by decide +kernel
theorem dX0_greatest_6 : decode cX0_greatest 6 = .ok (.aload_n 0, 1) := by decide +kernel
theorem dX0_greatest_7 : decode cX0_greatest 7 = .ok (.getfield 15, 3) := by decide +kernel
theorem dX0_greatest_10 : decode cX0_greatest 10 = .ok (.if_icmp .ge 38, 3) := by decide +kernel
theorem dX0_greatest_13 : decode cX0_greatest 13 = .ok (.aload_n 0, 1) := by decide +kernel
theorem dX0_greatest_14 : decode cX0_greatest 14 = .ok (.iload_n 2, 1) := by decide +kernel
theorem dX0_greatest_15 : decode cX0_greatest 15 = .ok (.invokevirtual 29, 3) := by decide +kernel
theorem dX0_greatest_18 : decode cX0_greatest 18 = .ok (.bipush 6, 2) := by decide +kernel
theorem dX0_greatest_20 : decode cX0_greatest 20 = .ok (.if_icmp .eq 22, 3) := by decide +kernel
theorem dX0_greatest_23 : decode cX0_greatest 23 = .ok (.aload_n 0, 1) := by decide +kernel
theorem dX0_greatest_24 : decode cX0_greatest 24 = .ok (.iload_n 2, 1) := by decide +kernel
theorem dX0_greatest_25 : decode cX0_greatest 25 = .ok (.invokevirtual 29, 3) := by decide +kernel
theorem dX0_greatest_28 : decode cX0_greatest 28 = .ok (.iconst 3, 1) := by decide +kernel
theorem dX0_greatest_29 : decode cX0_greatest 29 = .ok (.if_icmp .eq 13, 3) := by decide +kernel
theorem dX0_greatest_32 : decode cX0_greatest 32 = .ok (.iload_n 1, 1) := by decide +kernel
theorem dX0_greatest_33 : decode cX0_greatest 33 = .ok (.aload_n 0, 1) := by decide +kernel
theorem dX0_greatest_34 : decode cX0_greatest 34 = .ok (.iload_n 2, 1) := by decide +kernel
theorem dX0_greatest_35 : decode cX0_greatest 35 = .ok (.invokevirtual 32, 3) := by decide +kernel
theorem dX0_greatest_38 : decode cX0_greatest 38 = .ok (.invokestatic 35, 3) := by decide +kernel
theorem dX0_greatest_41 : decode cX0_greatest 41 = .ok (.istore_n 1, 1) := by decide +kernel
theorem dX0_greatest_42 : decode cX0_greatest 42 = .ok (.iinc 2 1, 3) := by decide +kernel
theorem dX0_greatest_45 : decode cX0_greatest 45 = .ok (.goto (-40), 3) := by decide +kernel
theorem dX0_greatest_48 : decode cX0_greatest 48 = .ok (.iload_n 1, 1) := by decide +kernel
theorem dX0_greatest_49 : decode cX0_greatest 49 = .ok (.ireturn, 1) := by decide +kernel
theorem dX1_init_0 : decode cX1_init 0 = .ok (.aload_n 0, 1) := by decide +kernel
theorem dX1_init_1 : decode cX1_init 1 = .ok (.invokespecial 3, 3) := by decide +kernel
theorem dX1_init_4 : decode cX1_init 4 = .ok (.aload_n 0, 1) := by decide +kernel
theorem dX1_init_5 : decode cX1_init 5 = .ok (.new 9, 3) := by decide +kernel
theorem dX1_init_8 : decode cX1_init 8 = .ok (.dup, 1) := by decide +kernel
theorem dX1_init_9 : decode cX1_init 9 = .ok (.invokespecial 11, 3) := by decide +kernel
theorem dX1_init_12 : decode cX1_init 12 = .ok (.putfield 12, 3) := by decide +kernel
theorem dX1_init_15 : decode cX1_init 15 = .ok (.aload_n 0, 1) := by decide +kernel
theorem dX1_init_16 : decode cX1_init 16 = .ok (.bipush 13, 2) := by decide +kernel
theorem dX1_init_18 : decode cX1_init 18 = .ok (.anewarray 9, 3) := by decide +kernel
theorem dX1_init_21 : decode cX1_init 21 = .ok (.putfield 18, 3) := by decide +kernel
theorem dX1_init_24 : decode cX1_init 24 = .ok (.iconst 0, 1) := by decide +kernel
theorem dX1_init_25 : decode cX1_init 25 = .ok (.istore_n 1, 1) := by decide +kernel
theorem dX1_init_26 : decode cX1_init 26 = .ok (.iload_n 1, 1) := by decide +kernel
theorem dX1_init_27 : decode cX1_init 27 = .ok (.aload_n 0, 1) := by decide +kernel
theorem dX1_init_28 : decode cX1_init 28 = .ok (.getfield 18, 3) := by decide +kernel
theorem dX1_init_31 : decode cX1_init 31 = .ok (.arraylength, 1) := by decide +kernel
theorem dX1_init_32 : decode cX1_init 32 = .ok (.if_icmp .ge 22, 3) := by decide +kernel
theorem dX1_init_35 : decode cX1_init 35 = .ok (.aload_n 0, 1) := by decide +kernel
theorem dX1_init_36 : decode cX1_init 36 = .ok (.getfield 18, 3) := by decide +kernel
theorem dX1_init_39 : decode cX1_init 39 = .ok (.iload_n 1, 1) := by decide +kernel
theorem dX1_init_40 : decode cX1_init 40 = .ok (.new 9, 3) := by decide +kernel
theorem dX1_init_43 : decode cX1_init 43 = .ok (.dup, 1) := by decide +kernel
theorem dX1_init_44 : decode cX1_init 44 = .ok (.invokespecial 11, 3) := by decide +kernel
theorem dX1_init_47 : decode cX1_init 47 = .ok (.aastore, 1) := by decide +kernel
theorem dX1_init_48 : decode cX1_init 48 = .ok (.iinc 1 1, 3) := by decide +kernel
theorem dX1_init_51 : decode cX1_init 51 = .ok (.goto (-25), 3) := by decide +kernel
theorem dX1_init_54 : decode cX1_init 54 = .ok (.return_, 1) := by decide +kernel
theorem dX1_forget_0 : decode cX1_forget 0 = .ok (.aload_n 0, 1) := by decide +kernel
theorem dX1_forget_1 : decode cX1_forget 1 = .ok (.iconst 0, 1) := by decide +kernel
theorem dX1_forget_2 : decode cX1_forget 2 = .ok (.putfield 22, 3) := by decide +kernel
theorem dX1_forget_5 : decode cX1_forget 5 = .ok (.return_, 1) := by decide +kernel
theorem dX1_rowAt_0 : decode cX1_rowAt 0 = .ok (.iload_n 1, 1) := by decide +kernel
theorem dX1_rowAt_1 : decode cX1_rowAt 1 = .ok (.ifCond .lt 21, 3) := by decide +kernel
theorem dX1_rowAt_4 : decode cX1_rowAt 4 = .ok (.iload_n 1, 1) := by decide +kernel
theorem dX1_rowAt_5 : decode cX1_rowAt 5 = .ok (.aload_n 0, 1) := by decide +kernel
theorem dX1_rowAt_6 : decode cX1_rowAt 6 = .ok (.getfield 18, 3) := by decide +kernel
theorem dX1_rowAt_9 : decode cX1_rowAt 9 = .ok (.arraylength, 1) := by decide +kernel
theorem dX1_rowAt_10 : decode cX1_rowAt 10 = .ok (.if_icmp .ge 12, 3) := by decide +kernel
theorem dX1_rowAt_13 : decode cX1_rowAt 13 = .ok (.aload_n 0, 1) := by decide +kernel
theorem dX1_rowAt_14 : decode cX1_rowAt 14 = .ok (.getfield 18, 3) := by decide +kernel
theorem dX1_rowAt_17 : decode cX1_rowAt 17 = .ok (.iload_n 1, 1) := by decide +kernel
theorem dX1_rowAt_18 : decode cX1_rowAt 18 = .ok (.aaload, 1) := by decide +kernel
theorem dX1_rowAt_19 : decode cX1_rowAt 19 = .ok (.goto 7, 3) := by decide +kernel
theorem dX1_rowAt_22 : decode cX1_rowAt 22 = .ok (.aload_n 0, 1) := by decide +kernel
theorem dX1_rowAt_23 : decode cX1_rowAt 23 = .ok (.getfield 12, 3) := by decide +kernel
theorem dX1_rowAt_26 : decode cX1_rowAt 26 = .ok (.areturn, 1) := by decide +kernel
theorem dX1_attempt_0 : decode cX1_attempt 0 = .ok (.aload_n 0, 1) := by decide +kernel
theorem dX1_attempt_1 : decode cX1_attempt 1 = .ok (.aload_n 0, 1) := by decide +kernel
theorem dX1_attempt_2 : decode cX1_attempt 2 = .ok (.getfield 26, 3) := by decide +kernel
theorem dX1_attempt_5 : decode cX1_attempt 5 = .ok (.invokevirtual 29, 3) := by decide +kernel
theorem dX1_attempt_8 : decode cX1_attempt 8 = .ok (.aload_n 0, 1) := by decide +kernel
theorem dX1_attempt_9 : decode cX1_attempt 9 = .ok (.getfield 12, 3) := by decide +kernel
theorem dX1_attempt_12 : decode cX1_attempt 12 = .ok (.invokevirtual 33, 3) := by decide +kernel
theorem dX1_attempt_15 : decode cX1_attempt 15 = .ok (.aload_n 0, 1) := by decide +kernel
theorem dX1_attempt_16 : decode cX1_attempt 16 = .ok (.getfield 12, 3) := by decide +kernel
theorem dX1_attempt_19 : decode cX1_attempt 19 = .ok (.iload_n 1, 1) := by decide +kernel
theorem dX1_attempt_20 : decode cX1_attempt 20 = .ok (.iload_n 2, 1) := by decide +kernel
theorem dX1_attempt_21 : decode cX1_attempt 21 = .ok (.invokevirtual 37, 3) := by decide +kernel
theorem dX1_attempt_24 : decode cX1_attempt 24 = .ok (.istore_n 3, 1) := by decide +kernel
theorem dX1_attempt_25 : decode cX1_attempt 25 = .ok (.iload_n 3, 1) := by decide +kernel
theorem dX1_attempt_26 : decode cX1_attempt 26 = .ok (.iconst 1, 1) := by decide +kernel
theorem dX1_attempt_27 : decode cX1_attempt 27 = .ok (.if_icmp .ne 46, 3) := by decide +kernel
theorem dX1_attempt_30 : decode cX1_attempt 30 = .ok (.aload_n 0, 1) := by decide +kernel
theorem dX1_attempt_31 : decode cX1_attempt 31 = .ok (.aload_n 0, 1) := by decide +kernel
theorem dX1_attempt_32 : decode cX1_attempt 32 = .ok (.getfield 26, 3) := by decide +kernel
theorem dX1_attempt_35 : decode cX1_attempt 35 = .ok (.iconst 1, 1) := by decide +kernel
theorem dX1_attempt_36 : decode cX1_attempt 36 = .ok (.iadd, 1) := by decide +kernel
theorem dX1_attempt_37 : decode cX1_attempt 37 = .ok (.aload_n 0, 1) := by decide +kernel
theorem dX1_attempt_38 : decode cX1_attempt 38 = .ok (.getfield 18, 3) := by decide +kernel
theorem dX1_attempt_41 : decode cX1_attempt 41 = .ok (.arraylength, 1) := by decide +kernel
theorem dX1_attempt_42 : decode cX1_attempt 42 = .ok (.if_icmp .ge 12, 3) := by decide +kernel
theorem dX1_attempt_45 : decode cX1_attempt 45 = .ok (.aload_n 0, 1) := by decide +kernel
theorem dX1_attempt_46 : decode cX1_attempt 46 = .ok (.getfield 26, 3) := by decide +kernel
theorem dX1_attempt_49 : decode cX1_attempt 49 = .ok (.iconst 1, 1) := by decide +kernel
theorem dX1_attempt_50 : decode cX1_attempt 50 = .ok (.iadd, 1) := by decide +kernel
theorem dX1_attempt_51 : decode cX1_attempt 51 = .ok (.goto 4, 3) := by decide +kernel
theorem dX1_attempt_54 : decode cX1_attempt 54 = .ok (.iconst 0, 1) := by decide +kernel
theorem dX1_attempt_55 : decode cX1_attempt 55 = .ok (.putfield 26, 3) := by decide +kernel
theorem dX1_attempt_58 : decode cX1_attempt 58 = .ok (.aload_n 0, 1) := by decide +kernel
theorem dX1_attempt_59 : decode cX1_attempt 59 = .ok (.aload_n 0, 1) := by decide +kernel
theorem dX1_attempt_60 : decode cX1_attempt 60 = .ok (.getfield 22, 3) := by decide +kernel
theorem dX1_attempt_63 : decode cX1_attempt 63 = .ok (.iconst 1, 1) := by decide +kernel
theorem dX1_attempt_64 : decode cX1_attempt 64 = .ok (.iadd, 1) := by decide +kernel
theorem dX1_attempt_65 : decode cX1_attempt 65 = .ok (.bipush 12, 2) := by decide +kernel
theorem dX1_attempt_67 : decode cX1_attempt 67 = .ok (.invokestatic 41, 3) := by decide +kernel
theorem dX1_attempt_70 : decode cX1_attempt 70 = .ok (.putfield 22, 3) := by decide +kernel
theorem dX1_attempt_73 : decode cX1_attempt 73 = .ok (.iload_n 3, 1) := by decide +kernel
theorem dX1_attempt_74 : decode cX1_attempt 74 = .ok (.ireturn, 1) := by decide +kernel
theorem dX1_takeBack_0 : decode cX1_takeBack 0 = .ok (.aload_n 0, 1) := by decide +kernel
theorem dX1_takeBack_1 : decode cX1_takeBack 1 = .ok (.getfield 22, 3) := by decide +kernel
theorem dX1_takeBack_4 : decode cX1_takeBack 4 = .ok (.ifCond .gt 6, 3) := by decide +kernel
theorem dX1_takeBack_7 : decode cX1_takeBack 7 = .ok (.bipush (-4), 2) := by decide +kernel
theorem dX1_takeBack_9 : decode cX1_takeBack 9 = .ok (.ireturn, 1) := by decide +kernel
theorem dX1_takeBack_10 : decode cX1_takeBack 10 = .ok (.aload_n 0, 1) := by decide +kernel
theorem dX1_takeBack_11 : decode cX1_takeBack 11 = .ok (.aload_n 0, 1) := by decide +kernel
theorem dX1_takeBack_12 : decode cX1_takeBack 12 = .ok (.getfield 26, 3) := by decide +kernel
theorem dX1_takeBack_15 : decode cX1_takeBack 15 = .ok (.ifCond .le 12, 3) := by decide +kernel
theorem dX1_takeBack_18 : decode cX1_takeBack 18 = .ok (.aload_n 0, 1) := by decide +kernel
theorem dX1_takeBack_19 : decode cX1_takeBack 19 = .ok (.getfield 26, 3) := by decide +kernel
theorem dX1_takeBack_22 : decode cX1_takeBack 22 = .ok (.iconst 1, 1) := by decide +kernel
theorem dX1_takeBack_23 : decode cX1_takeBack 23 = .ok (.isub, 1) := by decide +kernel
theorem dX1_takeBack_24 : decode cX1_takeBack 24 = .ok (.goto 10, 3) := by decide +kernel
theorem dX1_takeBack_27 : decode cX1_takeBack 27 = .ok (.aload_n 0, 1) := by decide +kernel
theorem dX1_takeBack_28 : decode cX1_takeBack 28 = .ok (.getfield 18, 3) := by decide +kernel
theorem dX1_takeBack_31 : decode cX1_takeBack 31 = .ok (.arraylength, 1) := by decide +kernel
theorem dX1_takeBack_32 : decode cX1_takeBack 32 = .ok (.iconst 1, 1) := by decide +kernel
theorem dX1_takeBack_33 : decode cX1_takeBack 33 = .ok (.isub, 1) := by decide +kernel
theorem dX1_takeBack_34 : decode cX1_takeBack 34 = .ok (.putfield 26, 3) := by decide +kernel
theorem dX1_takeBack_37 : decode cX1_takeBack 37 = .ok (.aload_n 0, 1) := by decide +kernel
theorem dX1_takeBack_38 : decode cX1_takeBack 38 = .ok (.getfield 12, 3) := by decide +kernel
theorem dX1_takeBack_41 : decode cX1_takeBack 41 = .ok (.aload_n 0, 1) := by decide +kernel
theorem dX1_takeBack_42 : decode cX1_takeBack 42 = .ok (.aload_n 0, 1) := by decide +kernel
theorem dX1_takeBack_43 : decode cX1_takeBack 43 = .ok (.getfield 26, 3) := by decide +kernel
theorem dX1_takeBack_46 : decode cX1_takeBack 46 = .ok (.invokevirtual 29, 3) := by decide +kernel
theorem dX1_takeBack_49 : decode cX1_takeBack 49 = .ok (.invokevirtual 33, 3) := by decide +kernel
theorem dX1_takeBack_52 : decode cX1_takeBack 52 = .ok (.aload_n 0, 1) := by decide +kernel
theorem dX1_takeBack_53 : decode cX1_takeBack 53 = .ok (.dup, 1) := by decide +kernel
theorem dX1_takeBack_54 : decode cX1_takeBack 54 = .ok (.getfield 22, 3) := by decide +kernel
theorem dX1_takeBack_57 : decode cX1_takeBack 57 = .ok (.iconst 1, 1) := by decide +kernel
theorem dX1_takeBack_58 : decode cX1_takeBack 58 = .ok (.isub, 1) := by decide +kernel
theorem dX1_takeBack_59 : decode cX1_takeBack 59 = .ok (.putfield 22, 3) := by decide +kernel
theorem dX1_takeBack_62 : decode cX1_takeBack 62 = .ok (.aload_n 0, 1) := by decide +kernel
theorem dX1_takeBack_63 : decode cX1_takeBack 63 = .ok (.getfield 22, 3) := by decide +kernel
theorem dX1_takeBack_66 : decode cX1_takeBack 66 = .ok (.ireturn, 1) := by decide +kernel
theorem dX1_run_0 : decode cX1_run 0 = .ok (.aload_n 0, 1) := by decide +kernel
theorem dX1_run_1 : decode cX1_run 1 = .ok (.iconst 0, 1) := by decide +kernel
theorem dX1_run_2 : decode cX1_run 2 = .ok (.putfield 46, 3) := by decide +kernel
theorem dX1_run_5 : decode cX1_run 5 = .ok (.iconst 0, 1) := by decide +kernel
theorem dX1_run_6 : decode cX1_run 6 = .ok (.istore_n 3, 1) := by decide +kernel
theorem dX1_run_7 : decode cX1_run 7 = .ok (.iload_n 3, 1) := by decide +kernel
theorem dX1_run_8 : decode cX1_run 8 = .ok (.aload_n 1, 1) := by decide +kernel
theorem dX1_run_9 : decode cX1_run 9 = .ok (.getfield 49, 3) := by decide +kernel
theorem dX1_run_12 : decode cX1_run 12 = .ok (.if_icmp .ge 134, 3) := by decide +kernel
theorem dX1_run_15 : decode cX1_run 15 = .ok (.iload_n 2, 1) := by decide +kernel
theorem dX1_run_16 : decode cX1_run 16 = .ok (.ifCond .eq 14, 3) := by decide +kernel
theorem dX1_run_19 : decode cX1_run 19 = .ok (.aload_n 1, 1) := by decide +kernel
theorem dX1_run_20 : decode cX1_run 20 = .ok (.getfield 49, 3) := by decide +kernel
theorem dX1_run_23 : decode cX1_run 23 = .ok (.iconst 1, 1) := by decide +kernel
theorem dX1_run_24 : decode cX1_run 24 = .ok (.isub, 1) := by decide +kernel
theorem dX1_run_25 : decode cX1_run 25 = .ok (.iload_n 3, 1) := by decide +kernel
theorem dX1_run_26 : decode cX1_run 26 = .ok (.isub, 1) := by decide +kernel
theorem dX1_run_27 : decode cX1_run 27 = .ok (.goto 4, 3) := by decide +kernel
theorem dX1_run_30 : decode cX1_run 30 = .ok (.iload_n 3, 1) := by decide +kernel
theorem dX1_run_31 : decode cX1_run 31 = .ok (.istore 4, 2) := by decide +kernel
theorem dX1_run_33 : decode cX1_run 33 = .ok (.aload_n 1, 1) := by decide +kernel
theorem dX1_run_34 : decode cX1_run 34 = .ok (.iload 4, 2) := by decide +kernel
theorem dX1_run_36 : decode cX1_run 36 = .ok (.invokevirtual 54, 3) := by decide +kernel
theorem dX1_run_39 : decode cX1_run 39 = .ok (.istore 5, 2) := by decide +kernel
theorem dX1_run_41 : decode cX1_run 41 = .ok (.aload_n 1, 1) := by decide +kernel
theorem dX1_run_42 : decode cX1_run 42 = .ok (.iload 4, 2) := by decide +kernel
theorem dX1_run_44 : decode cX1_run 44 = .ok (.invokevirtual 58, 3) := by decide +kernel
theorem dX1_run_47 : decode cX1_run 47 = .ok (.istore 6, 2) := by decide +kernel
theorem dX1_run_49 : decode cX1_run 49 = .ok (.iconst 1, 1) := by decide +kernel
theorem dX1_run_50 : decode cX1_run 50 = .ok (.istore 7, 2) := by decide +kernel
theorem dX1_run_52 : decode cX1_run 52 = .ok (.iload_n 2, 1) := by decide +kernel
theorem dX1_run_53 : decode cX1_run 53 = .ok (.ifCond .eq 22, 3) := by decide +kernel
theorem dX1_run_56 : decode cX1_run 56 = .ok (.iload 5, 2) := by decide +kernel
theorem dX1_run_58 : decode cX1_run 58 = .ok (.iconst 4, 1) := by decide +kernel
theorem dX1_run_59 : decode cX1_run 59 = .ok (.if_icmp .eq 9, 3) := by decide +kernel
theorem dX1_run_62 : decode cX1_run 62 = .ok (.iload 5, 2) := by decide +kernel
theorem dX1_run_64 : decode cX1_run 64 = .ok (.iconst 5, 1) := by decide +kernel
theorem dX1_run_65 : decode cX1_run 65 = .ok (.if_icmp .ne 10, 3) := by decide +kernel
theorem dX1_run_68 : decode cX1_run 68 = .ok (.bipush (-2), 2) := by decide +kernel
theorem dX1_run_70 : decode cX1_run 70 = .ok (.istore 7, 2) := by decide +kernel
theorem dX1_run_72 : decode cX1_run 72 = .ok (.goto 54, 3) := by decide +kernel
theorem dX1_run_75 : decode cX1_run 75 = .ok (.iload_n 2, 1) := by decide +kernel
theorem dX1_run_76 : decode cX1_run 76 = .ok (.ifCond .eq 33, 3) := by decide +kernel
theorem dX1_run_79 : decode cX1_run 79 = .ok (.iload 5, 2) := by decide +kernel
theorem dX1_run_81 : decode cX1_run 81 = .ok (.bipush 6, 2) := by decide +kernel
theorem dX1_run_83 : decode cX1_run 83 = .ok (.if_icmp .eq 26, 3) := by decide +kernel
theorem dX1_run_86 : decode cX1_run 86 = .ok (.aload_n 0, 1) := by decide +kernel
theorem dX1_run_87 : decode cX1_run 87 = .ok (.aload_n 0, 1) := by decide +kernel
theorem dX1_run_88 : decode cX1_run 88 = .ok (.iload 5, 2) := by decide +kernel
theorem dX1_run_90 : decode cX1_run 90 = .ok (.invokevirtual 61, 3) := by decide +kernel
theorem dX1_run_93 : decode cX1_run 93 = .ok (.aload_n 0, 1) := by decide +kernel
theorem dX1_run_94 : decode cX1_run 94 = .ok (.iload 5, 2) := by decide +kernel
theorem dX1_run_96 : decode cX1_run 96 = .ok (.iload 6, 2) := by decide +kernel
theorem dX1_run_98 : decode cX1_run 98 = .ok (.invokevirtual 64, 3) := by decide +kernel
theorem dX1_run_101 : decode cX1_run 101 = .ok (.invokevirtual 67, 3) := by decide +kernel
theorem dX1_run_104 : decode cX1_run 104 = .ok (.istore 7, 2) := by decide +kernel
theorem dX1_run_106 : decode cX1_run 106 = .ok (.goto 20, 3) := by decide +kernel
theorem dX1_run_109 : decode cX1_run 109 = .ok (.iload 5, 2) := by decide +kernel
theorem dX1_run_111 : decode cX1_run 111 = .ok (.bipush 6, 2) := by decide +kernel
theorem dX1_run_113 : decode cX1_run 113 = .ok (.if_icmp .eq 13, 3) := by decide +kernel
theorem dX1_run_116 : decode cX1_run 116 = .ok (.aload_n 0, 1) := by decide +kernel
theorem dX1_run_117 : decode cX1_run 117 = .ok (.iload 5, 2) := by decide +kernel
theorem dX1_run_119 : decode cX1_run 119 = .ok (.iload 6, 2) := by decide +kernel
theorem dX1_run_121 : decode cX1_run 121 = .ok (.invokevirtual 67, 3) := by decide +kernel
theorem dX1_run_124 : decode cX1_run 124 = .ok (.istore 7, 2) := by decide +kernel
theorem dX1_run_126 : decode cX1_run 126 = .ok (.iload 7, 2) := by decide +kernel
theorem dX1_run_128 : decode cX1_run 128 = .ok (.iconst 1, 1) := by decide +kernel
theorem dX1_run_129 : decode cX1_run 129 = .ok (.if_icmp .eq 11, 3) := by decide +kernel
theorem dX1_run_132 : decode cX1_run 132 = .ok (.aload_n 0, 1) := by decide +kernel
theorem dX1_run_133 : decode cX1_run 133 = .ok (.iload 7, 2) := by decide +kernel
theorem dX1_run_135 : decode cX1_run 135 = .ok (.putfield 46, 3) := by decide +kernel
theorem dX1_run_138 : decode cX1_run 138 = .ok (.iload_n 3, 1) := by decide +kernel
theorem dX1_run_139 : decode cX1_run 139 = .ok (.ireturn, 1) := by decide +kernel
theorem dX1_run_140 : decode cX1_run 140 = .ok (.iinc 3 1, 3) := by decide +kernel
theorem dX1_run_143 : decode cX1_run 143 = .ok (.goto (-136), 3) := by decide +kernel
theorem dX1_run_146 : decode cX1_run 146 = .ok (.aload_n 1, 1) := by decide +kernel
theorem dX1_run_147 : decode cX1_run 147 = .ok (.getfield 49, 3) := by decide +kernel
theorem dX1_run_150 : decode cX1_run 150 = .ok (.ireturn, 1) := by decide +kernel
theorem dX1_sortBack_0 : decode cX1_sortBack 0 = .ok (.iload_n 1, 1) := by decide +kernel
theorem dX1_sortBack_1 : decode cX1_sortBack 1 = .ok (.ifCond .ne 7, 3) := by decide +kernel
theorem dX1_sortBack_4 : decode cX1_sortBack 4 = .ok (.iconst 1, 1) := by decide +kernel
theorem dX1_sortBack_5 : decode cX1_sortBack 5 = .ok (.goto 13, 3) := by decide +kernel
theorem dX1_sortBack_8 : decode cX1_sortBack 8 = .ok (.iload_n 1, 1) := by decide +kernel
theorem dX1_sortBack_9 : decode cX1_sortBack 9 = .ok (.iconst 1, 1) := by decide +kernel
theorem dX1_sortBack_10 : decode cX1_sortBack 10 = .ok (.if_icmp .ne 7, 3) := by decide +kernel
theorem dX1_sortBack_13 : decode cX1_sortBack 13 = .ok (.iconst 0, 1) := by decide +kernel
theorem dX1_sortBack_14 : decode cX1_sortBack 14 = .ok (.goto 4, 3) := by decide +kernel
theorem dX1_sortBack_17 : decode cX1_sortBack 17 = .ok (.iload_n 1, 1) := by decide +kernel
theorem dX1_sortBack_18 : decode cX1_sortBack 18 = .ok (.ireturn, 1) := by decide +kernel
theorem dX1_numberBack_0 : decode cX1_numberBack 0 = .ok (.iload_n 1, 1) := by decide +kernel
theorem dX1_numberBack_1 : decode cX1_numberBack 1 = .ok (.iconst 3, 1) := by decide +kernel
theorem dX1_numberBack_2 : decode cX1_numberBack 2 = .ok (.if_icmp .ne 29, 3) := by decide +kernel
theorem dX1_numberBack_5 : decode cX1_numberBack 5 = .ok (.aload_n 0, 1) := by decide +kernel
theorem dX1_numberBack_6 : decode cX1_numberBack 6 = .ok (.getfield 12, 3) := by decide +kernel
theorem dX1_numberBack_9 : decode cX1_numberBack 9 = .ok (.aload_n 0, 1) := by decide +kernel
theorem dX1_numberBack_10 : decode cX1_numberBack 10 = .ok (.getfield 12, 3) := by decide +kernel
theorem dX1_numberBack_13 : decode cX1_numberBack 13 = .ok (.getfield 70, 3) := by decide +kernel
theorem dX1_numberBack_16 : decode cX1_numberBack 16 = .ok (.aload_n 0, 1) := by decide +kernel
theorem dX1_numberBack_17 : decode cX1_numberBack 17 = .ok (.getfield 12, 3) := by decide +kernel
theorem dX1_numberBack_20 : decode cX1_numberBack 20 = .ok (.iload_n 2, 1) := by decide +kernel
theorem dX1_numberBack_21 : decode cX1_numberBack 21 = .ok (.invokevirtual 73, 3) := by decide +kernel
theorem dX1_numberBack_24 : decode cX1_numberBack 24 = .ok (.isub, 1) := by decide +kernel
theorem dX1_numberBack_25 : decode cX1_numberBack 25 = .ok (.invokevirtual 73, 3) := by decide +kernel
theorem dX1_numberBack_28 : decode cX1_numberBack 28 = .ok (.goto 4, 3) := by decide +kernel
theorem dX1_numberBack_31 : decode cX1_numberBack 31 = .ok (.iload_n 2, 1) := by decide +kernel
theorem dX1_numberBack_32 : decode cX1_numberBack 32 = .ok (.ireturn, 1) := by decide +kernel
theorem dX2_init_0 : decode cX2_init 0 = .ok (.aload_n 0, 1) := by decide +kernel
theorem dX2_init_1 : decode cX2_init 1 = .ok (.invokespecial 3, 3) := by decide +kernel
theorem dX2_init_4 : decode cX2_init 4 = .ok (.aload_n 0, 1) := by decide +kernel
theorem dX2_init_5 : decode cX2_init 5 = .ok (.sipush 1500, 3) := by decide +kernel
theorem dX2_init_8 : decode cX2_init 8 = .ok (.newarray .long, 2) := by decide +kernel
theorem dX2_init_10 : decode cX2_init 10 = .ok (.putfield 9, 3) := by decide +kernel
theorem dX2_init_13 : decode cX2_init 13 = .ok (.aload_n 0, 1) := by decide +kernel
theorem dX2_init_14 : decode cX2_init 14 = .ok (.sipush 1500, 3) := by decide +kernel
theorem dX2_init_17 : decode cX2_init 17 = .ok (.newarray .long, 2) := by decide +kernel
theorem dX2_init_19 : decode cX2_init 19 = .ok (.putfield 15, 3) := by decide +kernel
theorem dX2_init_22 : decode cX2_init 22 = .ok (.aload_n 0, 1) := by decide +kernel
theorem dX2_init_23 : decode cX2_init 23 = .ok (.sipush 1500, 3) := by decide +kernel
theorem dX2_init_26 : decode cX2_init 26 = .ok (.newarray .long, 2) := by decide +kernel
theorem dX2_init_28 : decode cX2_init 28 = .ok (.putfield 18, 3) := by decide +kernel
theorem dX2_init_31 : decode cX2_init 31 = .ok (.aload_n 0, 1) := by decide +kernel
theorem dX2_init_32 : decode cX2_init 32 = .ok (.sipush 1500, 3) := by decide +kernel
theorem dX2_init_35 : decode cX2_init 35 = .ok (.newarray .int, 2) := by decide +kernel
theorem dX2_init_37 : decode cX2_init 37 = .ok (.putfield 21, 3) := by decide +kernel
theorem dX2_init_40 : decode cX2_init 40 = .ok (.aload_n 0, 1) := by decide +kernel
theorem dX2_init_41 : decode cX2_init 41 = .ok (.sipush 1500, 3) := by decide +kernel
theorem dX2_init_44 : decode cX2_init 44 = .ok (.newarray .int, 2) := by decide +kernel
theorem dX2_init_46 : decode cX2_init 46 = .ok (.putfield 25, 3) := by decide +kernel
theorem dX2_init_49 : decode cX2_init 49 = .ok (.aload_n 0, 1) := by decide +kernel
theorem dX2_init_50 : decode cX2_init 50 = .ok (.sipush 4096, 3) := by decide +kernel
theorem dX2_init_53 : decode cX2_init 53 = .ok (.newarray .int, 2) := by decide +kernel
theorem dX2_init_55 : decode cX2_init 55 = .ok (.putfield 28, 3) := by decide +kernel
theorem dX2_init_58 : decode cX2_init 58 = .ok (.aload_n 0, 1) := by decide +kernel
theorem dX2_init_59 : decode cX2_init 59 = .ok (.new 31, 3) := by decide +kernel
theorem dX2_init_62 : decode cX2_init 62 = .ok (.dup, 1) := by decide +kernel
theorem dX2_init_63 : decode cX2_init 63 = .ok (.invokespecial 33, 3) := by decide +kernel
theorem dX2_init_66 : decode cX2_init 66 = .ok (.putfield 34, 3) := by decide +kernel
theorem dX2_init_69 : decode cX2_init 69 = .ok (.aload_n 0, 1) := by decide +kernel
theorem dX2_init_70 : decode cX2_init 70 = .ok (.new 31, 3) := by decide +kernel
theorem dX2_init_73 : decode cX2_init 73 = .ok (.dup, 1) := by decide +kernel
theorem dX2_init_74 : decode cX2_init 74 = .ok (.invokespecial 33, 3) := by decide +kernel
theorem dX2_init_77 : decode cX2_init 77 = .ok (.putfield 38, 3) := by decide +kernel
theorem dX2_init_80 : decode cX2_init 80 = .ok (.aload_n 0, 1) := by decide +kernel
theorem dX2_init_81 : decode cX2_init 81 = .ok (.new 31, 3) := by decide +kernel
theorem dX2_init_84 : decode cX2_init 84 = .ok (.dup, 1) := by decide +kernel
theorem dX2_init_85 : decode cX2_init 85 = .ok (.invokespecial 33, 3) := by decide +kernel
theorem dX2_init_88 : decode cX2_init 88 = .ok (.putfield 41, 3) := by decide +kernel
theorem dX2_init_91 : decode cX2_init 91 = .ok (.return_, 1) := by decide +kernel
theorem dX2_find_0 : decode cX2_find 0 = .ok (.aload_n 0, 1) := by decide +kernel
theorem dX2_find_1 : decode cX2_find 1 = .ok (.getfield 44, 3) := by decide +kernel
theorem dX2_find_4 : decode cX2_find 4 = .ok (.ifCond .eq 26, 3) := by decide +kernel
theorem dX2_find_7 : decode cX2_find 7 = .ok (.aload_n 0, 1) := by decide +kernel
theorem dX2_find_8 : decode cX2_find 8 = .ok (.getfield 34, 3) := by decide +kernel
theorem dX2_find_11 : decode cX2_find 11 = .ok (.aload_n 1, 1) := by decide +kernel
theorem dX2_find_12 : decode cX2_find 12 = .ok (.invokevirtual 48, 3) := by decide +kernel
theorem dX2_find_15 : decode cX2_find 15 = .ok (.ifCond .eq 15, 3) := by decide +kernel
theorem dX2_find_18 : decode cX2_find 18 = .ok (.aload_n 0, 1) := by decide +kernel
theorem dX2_find_19 : decode cX2_find 19 = .ok (.getfield 38, 3) := by decide +kernel
theorem dX2_find_22 : decode cX2_find 22 = .ok (.aload_n 2, 1) := by decide +kernel
theorem dX2_find_23 : decode cX2_find 23 = .ok (.invokevirtual 48, 3) := by decide +kernel
theorem dX2_find_26 : decode cX2_find 26 = .ok (.ifCond .eq 4, 3) := by decide +kernel
theorem dX2_find_29 : decode cX2_find 29 = .ok (.return_, 1) := by decide +kernel
theorem dX2_find_30 : decode cX2_find 30 = .ok (.aload_n 0, 1) := by decide +kernel
theorem dX2_find_31 : decode cX2_find 31 = .ok (.getfield 34, 3) := by decide +kernel
theorem dX2_find_34 : decode cX2_find 34 = .ok (.aload_n 1, 1) := by decide +kernel
theorem dX2_find_35 : decode cX2_find 35 = .ok (.invokevirtual 52, 3) := by decide +kernel
theorem dX2_find_38 : decode cX2_find 38 = .ok (.aload_n 0, 1) := by decide +kernel
theorem dX2_find_39 : decode cX2_find 39 = .ok (.getfield 38, 3) := by decide +kernel
theorem dX2_find_42 : decode cX2_find 42 = .ok (.aload_n 2, 1) := by decide +kernel
theorem dX2_find_43 : decode cX2_find 43 = .ok (.invokevirtual 52, 3) := by decide +kernel
theorem dX2_find_46 : decode cX2_find 46 = .ok (.aload_n 0, 1) := by decide +kernel
theorem dX2_find_47 : decode cX2_find 47 = .ok (.iconst 1, 1) := by decide +kernel
theorem dX2_find_48 : decode cX2_find 48 = .ok (.putfield 44, 3) := by decide +kernel
theorem dX2_find_51 : decode cX2_find 51 = .ok (.aload_n 0, 1) := by decide +kernel
theorem dX2_find_52 : decode cX2_find 52 = .ok (.aload_n 2, 1) := by decide +kernel
theorem dX2_find_53 : decode cX2_find 53 = .ok (.invokevirtual 56, 3) := by decide +kernel
theorem dX2_find_56 : decode cX2_find 56 = .ok (.putfield 60, 3) := by decide +kernel
theorem dX2_find_59 : decode cX2_find 59 = .ok (.aload_n 0, 1) := by decide +kernel
theorem dX2_find_60 : decode cX2_find 60 = .ok (.getfield 28, 3) := by decide +kernel
theorem dX2_find_63 : decode cX2_find 63 = .ok (.iconst 0, 1) := by decide +kernel
theorem dX2_find_64 : decode cX2_find 64 = .ok (.invokestatic 64, 3) := by decide +kernel
theorem dX2_find_67 : decode cX2_find 67 = .ok (.aload_n 0, 1) := by decide +kernel
theorem dX2_find_68 : decode cX2_find 68 = .ok (.iconst 0, 1) := by decide +kernel
theorem dX2_find_69 : decode cX2_find 69 = .ok (.putfield 70, 3) := by decide +kernel
theorem dX2_find_72 : decode cX2_find 72 = .ok (.aload_n 0, 1) := by decide +kernel
theorem dX2_find_73 : decode cX2_find 73 = .ok (.iconst (-1), 1) := by decide +kernel
theorem dX2_find_74 : decode cX2_find 74 = .ok (.putfield 74, 3) := by decide +kernel
theorem dX2_find_77 : decode cX2_find 77 = .ok (.aload_n 0, 1) := by decide +kernel
theorem dX2_find_78 : decode cX2_find 78 = .ok (.getfield 41, 3) := by decide +kernel
theorem dX2_find_81 : decode cX2_find 81 = .ok (.aload_n 1, 1) := by decide +kernel
theorem dX2_find_82 : decode cX2_find 82 = .ok (.invokevirtual 52, 3) := by decide +kernel
theorem dX2_find_85 : decode cX2_find 85 = .ok (.aload_n 0, 1) := by decide +kernel
theorem dX2_find_86 : decode cX2_find 86 = .ok (.iconst (-1), 1) := by decide +kernel
theorem dX2_find_87 : decode cX2_find 87 = .ok (.iconst 0, 1) := by decide +kernel
theorem dX2_find_88 : decode cX2_find 88 = .ok (.invokevirtual 77, 3) := by decide +kernel
theorem dX2_find_91 : decode cX2_find 91 = .ok (.iconst 0, 1) := by decide +kernel
theorem dX2_find_92 : decode cX2_find 92 = .ok (.istore_n 3, 1) := by decide +kernel
theorem dX2_find_93 : decode cX2_find 93 = .ok (.iload_n 3, 1) := by decide +kernel
theorem dX2_find_94 : decode cX2_find 94 = .ok (.aload_n 0, 1) := by decide +kernel
theorem dX2_find_95 : decode cX2_find 95 = .ok (.getfield 70, 3) := by decide +kernel
theorem dX2_find_98 : decode cX2_find 98 = .ok (.if_icmp .ge 28, 3) := by decide +kernel
theorem dX2_find_101 : decode cX2_find 101 = .ok (.iload_n 3, 1) := by decide +kernel
theorem dX2_find_102 : decode cX2_find 102 = .ok (.sipush 1500, 3) := by decide +kernel
theorem dX2_find_105 : decode cX2_find 105 = .ok (.if_icmp .ge 21, 3) := by decide +kernel
theorem dX2_find_108 : decode cX2_find 108 = .ok (.aload_n 0, 1) := by decide +kernel
theorem dX2_find_109 : decode cX2_find 109 = .ok (.invokevirtual 81, 3) := by decide +kernel
theorem dX2_find_112 : decode cX2_find 112 = .ok (.ifCond .eq 14, 3) := by decide +kernel
theorem dX2_find_115 : decode cX2_find 115 = .ok (.aload_n 0, 1) := by decide +kernel
theorem dX2_find_116 : decode cX2_find 116 = .ok (.iload_n 3, 1) := by decide +kernel
theorem dX2_find_117 : decode cX2_find 117 = .ok (.invokevirtual 85, 3) := by decide +kernel
theorem dX2_find_120 : decode cX2_find 120 = .ok (.iinc 3 1, 3) := by decide +kernel
theorem dX2_find_123 : decode cX2_find 123 = .ok (.goto (-30), 3) := by decide +kernel
theorem dX2_find_126 : decode cX2_find 126 = .ok (.aload_n 0, 1) := by decide +kernel
theorem dX2_find_127 : decode cX2_find 127 = .ok (.aload_n 0, 1) := by decide +kernel
theorem dX2_find_128 : decode cX2_find 128 = .ok (.getfield 74, 3) := by decide +kernel
theorem dX2_find_131 : decode cX2_find 131 = .ok (.ifCond .lt 10, 3) := by decide +kernel
theorem dX2_find_134 : decode cX2_find 134 = .ok (.aload_n 0, 1) := by decide +kernel
theorem dX2_find_135 : decode cX2_find 135 = .ok (.invokevirtual 89, 3) := by decide +kernel
theorem dX2_find_138 : decode cX2_find 138 = .ok (.goto 20, 3) := by decide +kernel
theorem dX2_find_141 : decode cX2_find 141 = .ok (.aload_n 0, 1) := by decide +kernel
theorem dX2_find_142 : decode cX2_find 142 = .ok (.getfield 70, 3) := by decide +kernel
theorem dX2_find_145 : decode cX2_find 145 = .ok (.sipush 1500, 3) := by decide +kernel
theorem dX2_find_148 : decode cX2_find 148 = .ok (.if_icmp .lt 8, 3) := by decide +kernel
theorem dX2_find_151 : decode cX2_find 151 = .ok (.bipush (-6), 2) := by decide +kernel
theorem dX2_find_153 : decode cX2_find 153 = .ok (.goto 5, 3) := by decide +kernel
theorem dX2_find_156 : decode cX2_find 156 = .ok (.bipush (-4), 2) := by decide +kernel
theorem dX2_find_158 : decode cX2_find 158 = .ok (.putfield 93, 3) := by decide +kernel
theorem dX2_find_161 : decode cX2_find 161 = .ok (.return_, 1) := by decide +kernel
theorem dX2_goesOn_0 : decode cX2_goesOn 0 = .ok (.aload_n 0, 1) := by decide +kernel
theorem dX2_goesOn_1 : decode cX2_goesOn 1 = .ok (.getfield 74, 3) := by decide +kernel
theorem dX2_goesOn_4 : decode cX2_goesOn 4 = .ok (.ifCond .ge 17, 3) := by decide +kernel
theorem dX2_goesOn_7 : decode cX2_goesOn 7 = .ok (.aload_n 0, 1) := by decide +kernel
theorem dX2_goesOn_8 : decode cX2_goesOn 8 = .ok (.getfield 70, 3) := by decide +kernel
theorem dX2_goesOn_11 : decode cX2_goesOn 11 = .ok (.sipush 1500, 3) := by decide +kernel
theorem dX2_goesOn_14 : decode cX2_goesOn 14 = .ok (.if_icmp .ge 7, 3) := by decide +kernel
theorem dX2_goesOn_17 : decode cX2_goesOn 17 = .ok (.iconst 1, 1) := by decide +kernel
theorem dX2_goesOn_18 : decode cX2_goesOn 18 = .ok (.goto 4, 3) := by decide +kernel
theorem dX2_goesOn_21 : decode cX2_goesOn 21 = .ok (.iconst 0, 1) := by decide +kernel
theorem dX2_goesOn_22 : decode cX2_goesOn 22 = .ok (.ireturn, 1) := by decide +kernel
theorem dX2_ask_0 : decode cX2_ask 0 = .ok (.iconst 0, 1) := by decide +kernel
theorem dX2_ask_1 : decode cX2_ask 1 = .ok (.istore_n 2, 1) := by decide +kernel
theorem dX2_ask_2 : decode cX2_ask 2 = .ok (.iload_n 2, 1) := by decide +kernel
theorem dX2_ask_3 : decode cX2_ask 3 = .ok (.iconst 2, 1) := by decide +kernel
theorem dX2_ask_4 : decode cX2_ask 4 = .ok (.aload_n 0, 1) := by decide +kernel
theorem dX2_ask_5 : decode cX2_ask 5 = .ok (.getfield 34, 3) := by decide +kernel
theorem dX2_ask_8 : decode cX2_ask 8 = .ok (.getfield 96, 3) := by decide +kernel
theorem dX2_ask_11 : decode cX2_ask 11 = .ok (.imul, 1) := by decide +kernel
theorem dX2_ask_12 : decode cX2_ask 12 = .ok (.if_icmp .ge 65, 3) := by decide +kernel
theorem dX2_ask_15 : decode cX2_ask 15 = .ok (.aload_n 0, 1) := by decide +kernel
theorem dX2_ask_16 : decode cX2_ask 16 = .ok (.invokevirtual 81, 3) := by decide +kernel
theorem dX2_ask_19 : decode cX2_ask 19 = .ok (.ifCond .eq 58, 3) := by decide +kernel
theorem dX2_ask_22 : decode cX2_ask 22 = .ok (.aload_n 0, 1) := by decide +kernel
theorem dX2_ask_23 : decode cX2_ask 23 = .ok (.getfield 41, 3) := by decide +kernel
theorem dX2_ask_26 : decode cX2_ask 26 = .ok (.aload_n 0, 1) := by decide +kernel
theorem dX2_ask_27 : decode cX2_ask 27 = .ok (.getfield 9, 3) := by decide +kernel
theorem dX2_ask_30 : decode cX2_ask 30 = .ok (.iload_n 1, 1) := by decide +kernel
theorem dX2_ask_31 : decode cX2_ask 31 = .ok (.laload, 1) := by decide +kernel
theorem dX2_ask_32 : decode cX2_ask 32 = .ok (.putfield 99, 3) := by decide +kernel
theorem dX2_ask_35 : decode cX2_ask 35 = .ok (.aload_n 0, 1) := by decide +kernel
theorem dX2_ask_36 : decode cX2_ask 36 = .ok (.getfield 41, 3) := by decide +kernel
theorem dX2_ask_39 : decode cX2_ask 39 = .ok (.aload_n 0, 1) := by decide +kernel
theorem dX2_ask_40 : decode cX2_ask 40 = .ok (.getfield 15, 3) := by decide +kernel
theorem dX2_ask_43 : decode cX2_ask 43 = .ok (.iload_n 1, 1) := by decide +kernel
theorem dX2_ask_44 : decode cX2_ask 44 = .ok (.laload, 1) := by decide +kernel
theorem dX2_ask_45 : decode cX2_ask 45 = .ok (.putfield 101, 3) := by decide +kernel
theorem dX2_ask_48 : decode cX2_ask 48 = .ok (.aload_n 0, 1) := by decide +kernel
theorem dX2_ask_49 : decode cX2_ask 49 = .ok (.getfield 41, 3) := by decide +kernel
theorem dX2_ask_52 : decode cX2_ask 52 = .ok (.iload_n 2, 1) := by decide +kernel
theorem dX2_ask_53 : decode cX2_ask 53 = .ok (.iconst 1, 1) := by decide +kernel
theorem dX2_ask_54 : decode cX2_ask 54 = .ok (.iand, 1) := by decide +kernel
theorem dX2_ask_55 : decode cX2_ask 55 = .ok (.iload_n 2, 1) := by decide +kernel
theorem dX2_ask_56 : decode cX2_ask 56 = .ok (.iconst 1, 1) := by decide +kernel
theorem dX2_ask_57 : decode cX2_ask 57 = .ok (.ishr, 1) := by decide +kernel
theorem dX2_ask_58 : decode cX2_ask 58 = .ok (.invokevirtual 103, 3) := by decide +kernel
theorem dX2_ask_61 : decode cX2_ask 61 = .ok (.iconst 1, 1) := by decide +kernel
theorem dX2_ask_62 : decode cX2_ask 62 = .ok (.if_icmp .ne 9, 3) := by decide +kernel
theorem dX2_ask_65 : decode cX2_ask 65 = .ok (.aload_n 0, 1) := by decide +kernel
theorem dX2_ask_66 : decode cX2_ask 66 = .ok (.iload_n 1, 1) := by decide +kernel
theorem dX2_ask_67 : decode cX2_ask 67 = .ok (.iload_n 2, 1) := by decide +kernel
theorem dX2_ask_68 : decode cX2_ask 68 = .ok (.invokevirtual 77, 3) := by decide +kernel
theorem dX2_ask_71 : decode cX2_ask 71 = .ok (.iinc 2 1, 3) := by decide +kernel
theorem dX2_ask_74 : decode cX2_ask 74 = .ok (.goto (-72), 3) := by decide +kernel
theorem dX2_ask_77 : decode cX2_ask 77 = .ok (.return_, 1) := by decide +kernel
theorem dX2_meet_0 : decode cX2_meet 0 = .ok (.aload_n 0, 1) := by decide +kernel
theorem dX2_meet_1 : decode cX2_meet 1 = .ok (.getfield 41, 3) := by decide +kernel
theorem dX2_meet_4 : decode cX2_meet 4 = .ok (.invokevirtual 56, 3) := by decide +kernel
theorem dX2_meet_7 : decode cX2_meet 7 = .ok (.lstore_n 3, 1) := by decide +kernel
theorem dX2_meet_8 : decode cX2_meet 8 = .ok (.aload_n 0, 1) := by decide +kernel
theorem dX2_meet_9 : decode cX2_meet 9 = .ok (.lload_n 3, 1) := by decide +kernel
theorem dX2_meet_10 : decode cX2_meet 10 = .ok (.aload_n 0, 1) := by decide +kernel
theorem dX2_meet_11 : decode cX2_meet 11 = .ok (.getfield 41, 3) := by decide +kernel
theorem dX2_meet_14 : decode cX2_meet 14 = .ok (.getfield 101, 3) := by decide +kernel
theorem dX2_meet_17 : decode cX2_meet 17 = .ok (.invokevirtual 107, 3) := by decide +kernel
theorem dX2_meet_20 : decode cX2_meet 20 = .ok (.istore 5, 2) := by decide +kernel
theorem dX2_meet_22 : decode cX2_meet 22 = .ok (.aload_n 0, 1) := by decide +kernel
theorem dX2_meet_23 : decode cX2_meet 23 = .ok (.getfield 28, 3) := by decide +kernel
theorem dX2_meet_26 : decode cX2_meet 26 = .ok (.iload 5, 2) := by decide +kernel
theorem dX2_meet_28 : decode cX2_meet 28 = .ok (.iaload, 1) := by decide +kernel
theorem dX2_meet_29 : decode cX2_meet 29 = .ok (.ifCond .ne 13, 3) := by decide +kernel
theorem dX2_meet_32 : decode cX2_meet 32 = .ok (.aload_n 0, 1) := by decide +kernel
theorem dX2_meet_33 : decode cX2_meet 33 = .ok (.getfield 70, 3) := by decide +kernel
theorem dX2_meet_36 : decode cX2_meet 36 = .ok (.sipush 1500, 3) := by decide +kernel
theorem dX2_meet_39 : decode cX2_meet 39 = .ok (.if_icmp .lt 4, 3) := by decide +kernel
theorem dX2_meet_42 : decode cX2_meet 42 = .ok (.return_, 1) := by decide +kernel
theorem dX2_meet_43 : decode cX2_meet 43 = .ok (.aload_n 0, 1) := by decide +kernel
theorem dX2_meet_44 : decode cX2_meet 44 = .ok (.getfield 9, 3) := by decide +kernel
theorem dX2_meet_47 : decode cX2_meet 47 = .ok (.aload_n 0, 1) := by decide +kernel
theorem dX2_meet_48 : decode cX2_meet 48 = .ok (.getfield 70, 3) := by decide +kernel
theorem dX2_meet_51 : decode cX2_meet 51 = .ok (.aload_n 0, 1) := by decide +kernel
theorem dX2_meet_52 : decode cX2_meet 52 = .ok (.getfield 41, 3) := by decide +kernel
theorem dX2_meet_55 : decode cX2_meet 55 = .ok (.getfield 99, 3) := by decide +kernel
theorem dX2_meet_58 : decode cX2_meet 58 = .ok (.lastore, 1) := by decide +kernel
theorem dX2_meet_59 : decode cX2_meet 59 = .ok (.aload_n 0, 1) := by decide +kernel
theorem dX2_meet_60 : decode cX2_meet 60 = .ok (.getfield 15, 3) := by decide +kernel
theorem dX2_meet_63 : decode cX2_meet 63 = .ok (.aload_n 0, 1) := by decide +kernel
theorem dX2_meet_64 : decode cX2_meet 64 = .ok (.getfield 70, 3) := by decide +kernel
theorem dX2_meet_67 : decode cX2_meet 67 = .ok (.aload_n 0, 1) := by decide +kernel
theorem dX2_meet_68 : decode cX2_meet 68 = .ok (.getfield 41, 3) := by decide +kernel
theorem dX2_meet_71 : decode cX2_meet 71 = .ok (.getfield 101, 3) := by decide +kernel
theorem dX2_meet_74 : decode cX2_meet 74 = .ok (.lastore, 1) := by decide +kernel
theorem dX2_meet_75 : decode cX2_meet 75 = .ok (.aload_n 0, 1) := by decide +kernel
theorem dX2_meet_76 : decode cX2_meet 76 = .ok (.getfield 18, 3) := by decide +kernel
theorem dX2_meet_79 : decode cX2_meet 79 = .ok (.aload_n 0, 1) := by decide +kernel
theorem dX2_meet_80 : decode cX2_meet 80 = .ok (.getfield 70, 3) := by decide +kernel
theorem dX2_meet_83 : decode cX2_meet 83 = .ok (.lload_n 3, 1) := by decide +kernel
theorem dX2_meet_84 : decode cX2_meet 84 = .ok (.lastore, 1) := by decide +kernel
theorem dX2_meet_85 : decode cX2_meet 85 = .ok (.aload_n 0, 1) := by decide +kernel
theorem dX2_meet_86 : decode cX2_meet 86 = .ok (.getfield 21, 3) := by decide +kernel
theorem dX2_meet_89 : decode cX2_meet 89 = .ok (.aload_n 0, 1) := by decide +kernel
theorem dX2_meet_90 : decode cX2_meet 90 = .ok (.getfield 70, 3) := by decide +kernel
theorem dX2_meet_93 : decode cX2_meet 93 = .ok (.iload_n 1, 1) := by decide +kernel
theorem dX2_meet_94 : decode cX2_meet 94 = .ok (.iastore, 1) := by decide +kernel
theorem dX2_meet_95 : decode cX2_meet 95 = .ok (.aload_n 0, 1) := by decide +kernel
theorem dX2_meet_96 : decode cX2_meet 96 = .ok (.getfield 25, 3) := by decide +kernel
theorem dX2_meet_99 : decode cX2_meet 99 = .ok (.aload_n 0, 1) := by decide +kernel
theorem dX2_meet_100 : decode cX2_meet 100 = .ok (.getfield 70, 3) := by decide +kernel
theorem dX2_meet_103 : decode cX2_meet 103 = .ok (.iload_n 2, 1) := by decide +kernel
theorem dX2_meet_104 : decode cX2_meet 104 = .ok (.iastore, 1) := by decide +kernel
theorem dX2_meet_105 : decode cX2_meet 105 = .ok (.lload_n 3, 1) := by decide +kernel
theorem dX2_meet_106 : decode cX2_meet 106 = .ok (.aload_n 0, 1) := by decide +kernel
theorem dX2_meet_107 : decode cX2_meet 107 = .ok (.getfield 60, 3) := by decide +kernel
theorem dX2_meet_110 : decode cX2_meet 110 = .ok (.lcmp, 1) := by decide +kernel
theorem dX2_meet_111 : decode cX2_meet 111 = .ok (.ifCond .ne 46, 3) := by decide +kernel
theorem dX2_meet_114 : decode cX2_meet 114 = .ok (.aload_n 0, 1) := by decide +kernel
theorem dX2_meet_115 : decode cX2_meet 115 = .ok (.getfield 41, 3) := by decide +kernel
theorem dX2_meet_118 : decode cX2_meet 118 = .ok (.getfield 101, 3) := by decide +kernel
theorem dX2_meet_121 : decode cX2_meet 121 = .ok (.aload_n 0, 1) := by decide +kernel
theorem dX2_meet_122 : decode cX2_meet 122 = .ok (.getfield 38, 3) := by decide +kernel
theorem dX2_meet_125 : decode cX2_meet 125 = .ok (.getfield 101, 3) := by decide +kernel
theorem dX2_meet_128 : decode cX2_meet 128 = .ok (.lcmp, 1) := by decide +kernel
theorem dX2_meet_129 : decode cX2_meet 129 = .ok (.ifCond .ne 28, 3) := by decide +kernel
theorem dX2_meet_132 : decode cX2_meet 132 = .ok (.aload_n 0, 1) := by decide +kernel
theorem dX2_meet_133 : decode cX2_meet 133 = .ok (.getfield 41, 3) := by decide +kernel
theorem dX2_meet_136 : decode cX2_meet 136 = .ok (.getfield 111, 3) := by decide +kernel
theorem dX2_meet_139 : decode cX2_meet 139 = .ok (.aload_n 0, 1) := by decide +kernel
theorem dX2_meet_140 : decode cX2_meet 140 = .ok (.getfield 38, 3) := by decide +kernel
theorem dX2_meet_143 : decode cX2_meet 143 = .ok (.getfield 111, 3) := by decide +kernel
theorem dX2_meet_146 : decode cX2_meet 146 = .ok (.if_icmp .ne 11, 3) := by decide +kernel
theorem dX2_meet_149 : decode cX2_meet 149 = .ok (.aload_n 0, 1) := by decide +kernel
theorem dX2_meet_150 : decode cX2_meet 150 = .ok (.aload_n 0, 1) := by decide +kernel
theorem dX2_meet_151 : decode cX2_meet 151 = .ok (.getfield 70, 3) := by decide +kernel
theorem dX2_meet_154 : decode cX2_meet 154 = .ok (.putfield 74, 3) := by decide +kernel
theorem dX2_meet_157 : decode cX2_meet 157 = .ok (.aload_n 0, 1) := by decide +kernel
theorem dX2_meet_158 : decode cX2_meet 158 = .ok (.dup, 1) := by decide +kernel
theorem dX2_meet_159 : decode cX2_meet 159 = .ok (.getfield 70, 3) := by decide +kernel
theorem dX2_meet_162 : decode cX2_meet 162 = .ok (.iconst 1, 1) := by decide +kernel
theorem dX2_meet_163 : decode cX2_meet 163 = .ok (.iadd, 1) := by decide +kernel
theorem dX2_meet_164 : decode cX2_meet 164 = .ok (.putfield 70, 3) := by decide +kernel
theorem dX2_meet_167 : decode cX2_meet 167 = .ok (.aload_n 0, 1) := by decide +kernel
theorem dX2_meet_168 : decode cX2_meet 168 = .ok (.getfield 28, 3) := by decide +kernel
theorem dX2_meet_171 : decode cX2_meet 171 = .ok (.iload 5, 2) := by decide +kernel
theorem dX2_meet_173 : decode cX2_meet 173 = .ok (.aload_n 0, 1) := by decide +kernel
theorem dX2_meet_174 : decode cX2_meet 174 = .ok (.getfield 70, 3) := by decide +kernel
theorem dX2_meet_177 : decode cX2_meet 177 = .ok (.iastore, 1) := by decide +kernel
theorem dX2_meet_178 : decode cX2_meet 178 = .ok (.return_, 1) := by decide +kernel
theorem dX2_slotOf_0 : decode cX2_slotOf 0 = .ok (.lload_n 1, 1) := by decide +kernel
theorem dX2_slotOf_1 : decode cX2_slotOf 1 = .ok (.ldc2_w 114, 3) := by decide +kernel
theorem dX2_slotOf_4 : decode cX2_slotOf 4 = .ok (.lmul, 1) := by decide +kernel
theorem dX2_slotOf_5 : decode cX2_slotOf 5 = .ok (.lload_n 3, 1) := by decide +kernel
theorem dX2_slotOf_6 : decode cX2_slotOf 6 = .ok (.lxor, 1) := by decide +kernel
theorem dX2_slotOf_7 : decode cX2_slotOf 7 = .ok (.ldc2_w 116, 3) := by decide +kernel
theorem dX2_slotOf_10 : decode cX2_slotOf 10 = .ok (.lmul, 1) := by decide +kernel
theorem dX2_slotOf_11 : decode cX2_slotOf 11 = .ok (.lstore 5, 2) := by decide +kernel
theorem dX2_slotOf_13 : decode cX2_slotOf 13 = .ok (.lload 5, 2) := by decide +kernel
theorem dX2_slotOf_15 : decode cX2_slotOf 15 = .ok (.bipush 52, 2) := by decide +kernel
theorem dX2_slotOf_17 : decode cX2_slotOf 17 = .ok (.lushr, 1) := by decide +kernel
theorem dX2_slotOf_18 : decode cX2_slotOf 18 = .ok (.l2i, 1) := by decide +kernel
theorem dX2_slotOf_19 : decode cX2_slotOf 19 = .ok (.sipush 4095, 3) := by decide +kernel
theorem dX2_slotOf_22 : decode cX2_slotOf 22 = .ok (.iand, 1) := by decide +kernel
theorem dX2_slotOf_23 : decode cX2_slotOf 23 = .ok (.istore 7, 2) := by decide +kernel
theorem dX2_slotOf_25 : decode cX2_slotOf 25 = .ok (.iconst 0, 1) := by decide +kernel
theorem dX2_slotOf_26 : decode cX2_slotOf 26 = .ok (.istore 8, 2) := by decide +kernel
theorem dX2_slotOf_28 : decode cX2_slotOf 28 = .ok (.iload 8, 2) := by decide +kernel
theorem dX2_slotOf_30 : decode cX2_slotOf 30 = .ok (.sipush 4096, 3) := by decide +kernel
theorem dX2_slotOf_33 : decode cX2_slotOf 33 = .ok (.if_icmp .ge 80, 3) := by decide +kernel
theorem dX2_slotOf_36 : decode cX2_slotOf 36 = .ok (.aload_n 0, 1) := by decide +kernel
theorem dX2_slotOf_37 : decode cX2_slotOf 37 = .ok (.getfield 28, 3) := by decide +kernel
theorem dX2_slotOf_40 : decode cX2_slotOf 40 = .ok (.iload 7, 2) := by decide +kernel
theorem dX2_slotOf_42 : decode cX2_slotOf 42 = .ok (.iaload, 1) := by decide +kernel
theorem dX2_slotOf_43 : decode cX2_slotOf 43 = .ok (.ifCond .eq 70, 3) := by decide +kernel
theorem dX2_slotOf_46 : decode cX2_slotOf 46 = .ok (.aload_n 0, 1) := by decide +kernel
theorem dX2_slotOf_47 : decode cX2_slotOf 47 = .ok (.getfield 28, 3) := by decide +kernel
theorem dX2_slotOf_50 : decode cX2_slotOf 50 = .ok (.iload 7, 2) := by decide +kernel
theorem dX2_slotOf_52 : decode cX2_slotOf 52 = .ok (.iaload, 1) := by decide +kernel
theorem dX2_slotOf_53 : decode cX2_slotOf 53 = .ok (.iconst 1, 1) := by decide +kernel
theorem dX2_slotOf_54 : decode cX2_slotOf 54 = .ok (.isub, 1) := by decide +kernel
theorem dX2_slotOf_55 : decode cX2_slotOf 55 = .ok (.istore 9, 2) := by decide +kernel
theorem dX2_slotOf_57 : decode cX2_slotOf 57 = .ok (.iload 9, 2) := by decide +kernel
theorem dX2_slotOf_59 : decode cX2_slotOf 59 = .ok (.ifCond .lt 54, 3) := by decide +kernel
theorem dX2_slotOf_62 : decode cX2_slotOf 62 = .ok (.iload 9, 2) := by decide +kernel
theorem dX2_slotOf_64 : decode cX2_slotOf 64 = .ok (.sipush 1500, 3) := by decide +kernel
theorem dX2_slotOf_67 : decode cX2_slotOf 67 = .ok (.if_icmp .ge 46, 3) := by decide +kernel
theorem dX2_slotOf_70 : decode cX2_slotOf 70 = .ok (.aload_n 0, 1) := by decide +kernel
theorem dX2_slotOf_71 : decode cX2_slotOf 71 = .ok (.getfield 18, 3) := by decide +kernel
theorem dX2_slotOf_74 : decode cX2_slotOf 74 = .ok (.iload 9, 2) := by decide +kernel
theorem dX2_slotOf_76 : decode cX2_slotOf 76 = .ok (.laload, 1) := by decide +kernel
theorem dX2_slotOf_77 : decode cX2_slotOf 77 = .ok (.lload_n 1, 1) := by decide +kernel
theorem dX2_slotOf_78 : decode cX2_slotOf 78 = .ok (.lcmp, 1) := by decide +kernel
theorem dX2_slotOf_79 : decode cX2_slotOf 79 = .ok (.ifCond .ne 18, 3) := by decide +kernel
theorem dX2_slotOf_82 : decode cX2_slotOf 82 = .ok (.aload_n 0, 1) := by decide +kernel
theorem dX2_slotOf_83 : decode cX2_slotOf 83 = .ok (.getfield 15, 3) := by decide +kernel
theorem dX2_slotOf_86 : decode cX2_slotOf 86 = .ok (.iload 9, 2) := by decide +kernel
theorem dX2_slotOf_88 : decode cX2_slotOf 88 = .ok (.laload, 1) := by decide +kernel
theorem dX2_slotOf_89 : decode cX2_slotOf 89 = .ok (.lload_n 3, 1) := by decide +kernel
theorem dX2_slotOf_90 : decode cX2_slotOf 90 = .ok (.lcmp, 1) := by decide +kernel
theorem dX2_slotOf_91 : decode cX2_slotOf 91 = .ok (.ifCond .ne 6, 3) := by decide +kernel
theorem dX2_slotOf_94 : decode cX2_slotOf 94 = .ok (.goto 19, 3) := by decide +kernel
theorem dX2_slotOf_97 : decode cX2_slotOf 97 = .ok (.iload 7, 2) := by decide +kernel
theorem dX2_slotOf_99 : decode cX2_slotOf 99 = .ok (.iconst 1, 1) := by decide +kernel
theorem dX2_slotOf_100 : decode cX2_slotOf 100 = .ok (.iadd, 1) := by decide +kernel
theorem dX2_slotOf_101 : decode cX2_slotOf 101 = .ok (.sipush 4095, 3) := by decide +kernel
theorem dX2_slotOf_104 : decode cX2_slotOf 104 = .ok (.iand, 1) := by decide +kernel
theorem dX2_slotOf_105 : decode cX2_slotOf 105 = .ok (.istore 7, 2) := by decide +kernel
theorem dX2_slotOf_107 : decode cX2_slotOf 107 = .ok (.iinc 8 1, 3) := by decide +kernel
theorem dX2_slotOf_110 : decode cX2_slotOf 110 = .ok (.goto (-82), 3) := by decide +kernel
theorem dX2_slotOf_113 : decode cX2_slotOf 113 = .ok (.iload 7, 2) := by decide +kernel
theorem dX2_slotOf_115 : decode cX2_slotOf 115 = .ok (.ireturn, 1) := by decide +kernel
theorem dX2_lengthOfWay_0 : decode cX2_lengthOfWay 0 = .ok (.iconst 0, 1) := by decide +kernel
theorem dX2_lengthOfWay_1 : decode cX2_lengthOfWay 1 = .ok (.istore_n 1, 1) := by decide +kernel
theorem dX2_lengthOfWay_2 : decode cX2_lengthOfWay 2 = .ok (.aload_n 0, 1) := by decide +kernel
theorem dX2_lengthOfWay_3 : decode cX2_lengthOfWay 3 = .ok (.getfield 74, 3) := by decide +kernel
theorem dX2_lengthOfWay_6 : decode cX2_lengthOfWay 6 = .ok (.istore_n 2, 1) := by decide +kernel
theorem dX2_lengthOfWay_7 : decode cX2_lengthOfWay 7 = .ok (.iconst 0, 1) := by decide +kernel
theorem dX2_lengthOfWay_8 : decode cX2_lengthOfWay 8 = .ok (.istore_n 3, 1) := by decide +kernel
theorem dX2_lengthOfWay_9 : decode cX2_lengthOfWay 9 = .ok (.iload_n 3, 1) := by decide +kernel
theorem dX2_lengthOfWay_10 : decode cX2_lengthOfWay 10 = .ok (.sipush 1500, 3) := by decide +kernel
theorem dX2_lengthOfWay_13 : decode cX2_lengthOfWay 13 = .ok (.if_icmp .ge 30, 3) := by decide +kernel
theorem dX2_lengthOfWay_16 : decode cX2_lengthOfWay 16 = .ok (.iload_n 2, 1) := by decide +kernel
theorem dX2_lengthOfWay_17 : decode cX2_lengthOfWay 17 = .ok (.ifCond .le 26, 3) := by decide +kernel
theorem dX2_lengthOfWay_20 : decode cX2_lengthOfWay 20 = .ok (.iload_n 2, 1) := by decide +kernel
theorem dX2_lengthOfWay_21 : decode cX2_lengthOfWay 21 = .ok (.sipush 1500, 3) := by decide +kernel
theorem dX2_lengthOfWay_24 : decode cX2_lengthOfWay 24 = .ok (.if_icmp .ge 19, 3) := by decide +kernel
theorem dX2_lengthOfWay_27 : decode cX2_lengthOfWay 27 = .ok (.aload_n 0, 1) := by decide +kernel
theorem dX2_lengthOfWay_28 : decode cX2_lengthOfWay 28 = .ok (.getfield 21, 3) := by decide +kernel
theorem dX2_lengthOfWay_31 : decode cX2_lengthOfWay 31 = .ok (.iload_n 2, 1) := by decide +kernel
theorem dX2_lengthOfWay_32 : decode cX2_lengthOfWay 32 = .ok (.iaload, 1) := by decide +kernel
theorem dX2_lengthOfWay_33 : decode cX2_lengthOfWay 33 = .ok (.istore_n 2, 1) := by decide +kernel
theorem dX2_lengthOfWay_34 : decode cX2_lengthOfWay 34 = .ok (.iinc 1 1, 3) := by decide +kernel
theorem dX2_lengthOfWay_37 : decode cX2_lengthOfWay 37 = .ok (.iinc 3 1, 3) := by decide +kernel
theorem dX2_lengthOfWay_40 : decode cX2_lengthOfWay 40 = .ok (.goto (-31), 3) := by decide +kernel
theorem dX2_lengthOfWay_43 : decode cX2_lengthOfWay 43 = .ok (.iload_n 1, 1) := by decide +kernel
theorem dX2_lengthOfWay_44 : decode cX2_lengthOfWay 44 = .ok (.ireturn, 1) := by decide +kernel
theorem dX2_actOfWay_0 : decode cX2_actOfWay 0 = .ok (.aload_n 0, 1) := by decide +kernel
theorem dX2_actOfWay_1 : decode cX2_actOfWay 1 = .ok (.getfield 74, 3) := by decide +kernel
theorem dX2_actOfWay_4 : decode cX2_actOfWay 4 = .ok (.istore_n 2, 1) := by decide +kernel
theorem dX2_actOfWay_5 : decode cX2_actOfWay 5 = .ok (.aload_n 0, 1) := by decide +kernel
theorem dX2_actOfWay_6 : decode cX2_actOfWay 6 = .ok (.getfield 93, 3) := by decide +kernel
theorem dX2_actOfWay_9 : decode cX2_actOfWay 9 = .ok (.iconst 1, 1) := by decide +kernel
theorem dX2_actOfWay_10 : decode cX2_actOfWay 10 = .ok (.isub, 1) := by decide +kernel
theorem dX2_actOfWay_11 : decode cX2_actOfWay 11 = .ok (.istore_n 3, 1) := by decide +kernel
theorem dX2_actOfWay_12 : decode cX2_actOfWay 12 = .ok (.iload_n 3, 1) := by decide +kernel
theorem dX2_actOfWay_13 : decode cX2_actOfWay 13 = .ok (.iload_n 1, 1) := by decide +kernel
theorem dX2_actOfWay_14 : decode cX2_actOfWay 14 = .ok (.if_icmp .le 27, 3) := by decide +kernel
theorem dX2_actOfWay_17 : decode cX2_actOfWay 17 = .ok (.iload_n 2, 1) := by decide +kernel
theorem dX2_actOfWay_18 : decode cX2_actOfWay 18 = .ok (.ifCond .le 23, 3) := by decide +kernel
theorem dX2_actOfWay_21 : decode cX2_actOfWay 21 = .ok (.iload_n 2, 1) := by decide +kernel
theorem dX2_actOfWay_22 : decode cX2_actOfWay 22 = .ok (.sipush 1500, 3) := by decide +kernel
theorem dX2_actOfWay_25 : decode cX2_actOfWay 25 = .ok (.if_icmp .ge 16, 3) := by decide +kernel
theorem dX2_actOfWay_28 : decode cX2_actOfWay 28 = .ok (.aload_n 0, 1) := by decide +kernel
theorem dX2_actOfWay_29 : decode cX2_actOfWay 29 = .ok (.getfield 21, 3) := by decide +kernel
theorem dX2_actOfWay_32 : decode cX2_actOfWay 32 = .ok (.iload_n 2, 1) := by decide +kernel
theorem dX2_actOfWay_33 : decode cX2_actOfWay 33 = .ok (.iaload, 1) := by decide +kernel
theorem dX2_actOfWay_34 : decode cX2_actOfWay 34 = .ok (.istore_n 2, 1) := by decide +kernel
theorem dX2_actOfWay_35 : decode cX2_actOfWay 35 = .ok (.iinc 3 (-1), 3) := by decide +kernel
theorem dX2_actOfWay_38 : decode cX2_actOfWay 38 = .ok (.goto (-26), 3) := by decide +kernel
theorem dX2_actOfWay_41 : decode cX2_actOfWay 41 = .ok (.iload_n 2, 1) := by decide +kernel
theorem dX2_actOfWay_42 : decode cX2_actOfWay 42 = .ok (.ifCond .lt 19, 3) := by decide +kernel
theorem dX2_actOfWay_45 : decode cX2_actOfWay 45 = .ok (.iload_n 2, 1) := by decide +kernel
theorem dX2_actOfWay_46 : decode cX2_actOfWay 46 = .ok (.sipush 1500, 3) := by decide +kernel
theorem dX2_actOfWay_49 : decode cX2_actOfWay 49 = .ok (.if_icmp .ge 12, 3) := by decide +kernel
theorem dX2_actOfWay_52 : decode cX2_actOfWay 52 = .ok (.aload_n 0, 1) := by decide +kernel
theorem dX2_actOfWay_53 : decode cX2_actOfWay 53 = .ok (.getfield 25, 3) := by decide +kernel
theorem dX2_actOfWay_56 : decode cX2_actOfWay 56 = .ok (.iload_n 2, 1) := by decide +kernel
theorem dX2_actOfWay_57 : decode cX2_actOfWay 57 = .ok (.iaload, 1) := by decide +kernel
theorem dX2_actOfWay_58 : decode cX2_actOfWay 58 = .ok (.goto 5, 3) := by decide +kernel
theorem dX2_actOfWay_61 : decode cX2_actOfWay 61 = .ok (.bipush (-4), 2) := by decide +kernel
theorem dX2_actOfWay_63 : decode cX2_actOfWay 63 = .ok (.ireturn, 1) := by decide +kernel
theorem dX3_init_0 : decode cX3_init 0 = .ok (.aload_n 0, 1) := by decide +kernel
theorem dX3_init_1 : decode cX3_init 1 = .ok (.invokespecial 3, 3) := by decide +kernel
theorem dX3_init_4 : decode cX3_init 4 = .ok (.aload_n 0, 1) := by decide +kernel
theorem dX3_init_5 : decode cX3_init 5 = .ok (.bipush 17, 2) := by decide +kernel
theorem dX3_init_7 : decode cX3_init 7 = .ok (.bipush 17, 2) := by decide +kernel
theorem dX3_init_9 : decode cX3_init 9 = .ok (.multianewarray 9 2, 4) := by decide +kernel
theorem dX3_init_13 : decode cX3_init 13 = .ok (.putfield 11, 3) := by decide +kernel
theorem dX3_init_16 : decode cX3_init 16 = .ok (.aload_n 0, 1) := by decide +kernel
theorem dX3_init_17 : decode cX3_init 17 = .ok (.new 16, 3) := by decide +kernel
theorem dX3_init_20 : decode cX3_init 20 = .ok (.dup, 1) := by decide +kernel
theorem dX3_init_21 : decode cX3_init 21 = .ok (.invokespecial 18, 3) := by decide +kernel
theorem dX3_init_24 : decode cX3_init 24 = .ok (.putfield 19, 3) := by decide +kernel
theorem dX3_init_27 : decode cX3_init 27 = .ok (.return_, 1) := by decide +kernel
theorem dX3_find_0 : decode cX3_find 0 = .ok (.aload_n 0, 1) := by decide +kernel
theorem dX3_find_1 : decode cX3_find 1 = .ok (.aload_n 1, 1) := by decide +kernel
theorem dX3_find_2 : decode cX3_find 2 = .ok (.aload_n 2, 1) := by decide +kernel
theorem dX3_find_3 : decode cX3_find 3 = .ok (.invokevirtual 23, 3) := by decide +kernel
theorem dX3_find_6 : decode cX3_find 6 = .ok (.aload_n 0, 1) := by decide +kernel
theorem dX3_find_7 : decode cX3_find 7 = .ok (.getfield 19, 3) := by decide +kernel
theorem dX3_find_10 : decode cX3_find 10 = .ok (.iconst 0, 1) := by decide +kernel
theorem dX3_find_11 : decode cX3_find 11 = .ok (.putfield 27, 3) := by decide +kernel
theorem dX3_find_14 : decode cX3_find 14 = .ok (.iconst 0, 1) := by decide +kernel
theorem dX3_find_15 : decode cX3_find 15 = .ok (.istore_n 3, 1) := by decide +kernel
theorem dX3_find_16 : decode cX3_find 16 = .ok (.iconst 0, 1) := by decide +kernel
theorem dX3_find_17 : decode cX3_find 17 = .ok (.istore 4, 2) := by decide +kernel
theorem dX3_find_19 : decode cX3_find 19 = .ok (.aload_n 0, 1) := by decide +kernel
theorem dX3_find_20 : decode cX3_find 20 = .ok (.getfield 11, 3) := by decide +kernel
theorem dX3_find_23 : decode cX3_find 23 = .ok (.iconst 0, 1) := by decide +kernel
theorem dX3_find_24 : decode cX3_find 24 = .ok (.aaload, 1) := by decide +kernel
theorem dX3_find_25 : decode cX3_find 25 = .ok (.iconst 0, 1) := by decide +kernel
theorem dX3_find_26 : decode cX3_find 26 = .ok (.iaload, 1) := by decide +kernel
theorem dX3_find_27 : decode cX3_find 27 = .ok (.istore 5, 2) := by decide +kernel
theorem dX3_find_29 : decode cX3_find 29 = .ok (.iload 5, 2) := by decide +kernel
theorem dX3_find_31 : decode cX3_find 31 = .ok (.ifCond .le 54, 3) := by decide +kernel
theorem dX3_find_34 : decode cX3_find 34 = .ok (.aload_n 0, 1) := by decide +kernel
theorem dX3_find_35 : decode cX3_find 35 = .ok (.aload_n 1, 1) := by decide +kernel
theorem dX3_find_36 : decode cX3_find 36 = .ok (.iload_n 3, 1) := by decide +kernel
theorem dX3_find_37 : decode cX3_find 37 = .ok (.aload_n 2, 1) := by decide +kernel
theorem dX3_find_38 : decode cX3_find 38 = .ok (.iload 4, 2) := by decide +kernel
theorem dX3_find_40 : decode cX3_find 40 = .ok (.iload 5, 2) := by decide +kernel
theorem dX3_find_42 : decode cX3_find 42 = .ok (.invokevirtual 31, 3) := by decide +kernel
theorem dX3_find_45 : decode cX3_find 45 = .ok (.istore 6, 2) := by decide +kernel
theorem dX3_find_47 : decode cX3_find 47 = .ok (.aload_n 1, 1) := by decide +kernel
theorem dX3_find_48 : decode cX3_find 48 = .ok (.iload_n 3, 1) := by decide +kernel
theorem dX3_find_49 : decode cX3_find 49 = .ok (.iload 6, 2) := by decide +kernel
theorem dX3_find_51 : decode cX3_find 51 = .ok (.invokevirtual 35, 3) := by decide +kernel
theorem dX3_find_54 : decode cX3_find 54 = .ok (.iconst 1, 1) := by decide +kernel
theorem dX3_find_55 : decode cX3_find 55 = .ok (.iadd, 1) := by decide +kernel
theorem dX3_find_56 : decode cX3_find 56 = .ok (.istore_n 3, 1) := by decide +kernel
theorem dX3_find_57 : decode cX3_find 57 = .ok (.aload_n 2, 1) := by decide +kernel
theorem dX3_find_58 : decode cX3_find 58 = .ok (.iload 4, 2) := by decide +kernel
theorem dX3_find_60 : decode cX3_find 60 = .ok (.iload 6, 2) := by decide +kernel
theorem dX3_find_62 : decode cX3_find 62 = .ok (.invokevirtual 35, 3) := by decide +kernel
theorem dX3_find_65 : decode cX3_find 65 = .ok (.iconst 1, 1) := by decide +kernel
theorem dX3_find_66 : decode cX3_find 66 = .ok (.iadd, 1) := by decide +kernel
theorem dX3_find_67 : decode cX3_find 67 = .ok (.istore 4, 2) := by decide +kernel
theorem dX3_find_69 : decode cX3_find 69 = .ok (.aload_n 0, 1) := by decide +kernel
theorem dX3_find_70 : decode cX3_find 70 = .ok (.getfield 19, 3) := by decide +kernel
theorem dX3_find_73 : decode cX3_find 73 = .ok (.iload 6, 2) := by decide +kernel
theorem dX3_find_75 : decode cX3_find 75 = .ok (.invokevirtual 39, 3) := by decide +kernel
theorem dX3_find_78 : decode cX3_find 78 = .ok (.pop, 1) := by decide +kernel
theorem dX3_find_79 : decode cX3_find 79 = .ok (.iinc 5 (-1), 3) := by decide +kernel
theorem dX3_find_82 : decode cX3_find 82 = .ok (.goto (-53), 3) := by decide +kernel
theorem dX3_find_85 : decode cX3_find 85 = .ok (.return_, 1) := by decide +kernel
theorem dX3_measure_0 : decode cX3_measure 0 = .ok (.bipush 16, 2) := by decide +kernel
theorem dX3_measure_2 : decode cX3_measure 2 = .ok (.istore_n 3, 1) := by decide +kernel
theorem dX3_measure_3 : decode cX3_measure 3 = .ok (.iload_n 3, 1) := by decide +kernel
theorem dX3_measure_4 : decode cX3_measure 4 = .ok (.ifCond .lt 63, 3) := by decide +kernel
theorem dX3_measure_7 : decode cX3_measure 7 = .ok (.bipush 16, 2) := by decide +kernel
theorem dX3_measure_9 : decode cX3_measure 9 = .ok (.istore 4, 2) := by decide +kernel
theorem dX3_measure_11 : decode cX3_measure 11 = .ok (.iload 4, 2) := by decide +kernel
theorem dX3_measure_13 : decode cX3_measure 13 = .ok (.ifCond .lt 48, 3) := by decide +kernel
theorem dX3_measure_16 : decode cX3_measure 16 = .ok (.aload_n 0, 1) := by decide +kernel
theorem dX3_measure_17 : decode cX3_measure 17 = .ok (.getfield 11, 3) := by decide +kernel
theorem dX3_measure_20 : decode cX3_measure 20 = .ok (.iload_n 3, 1) := by decide +kernel
theorem dX3_measure_21 : decode cX3_measure 21 = .ok (.aaload, 1) := by decide +kernel
theorem dX3_measure_22 : decode cX3_measure 22 = .ok (.iload 4, 2) := by decide +kernel
theorem dX3_measure_24 : decode cX3_measure 24 = .ok (.iload_n 3, 1) := by decide +kernel
theorem dX3_measure_25 : decode cX3_measure 25 = .ok (.aload_n 1, 1) := by decide +kernel
theorem dX3_measure_26 : decode cX3_measure 26 = .ok (.getfield 27, 3) := by decide +kernel
theorem dX3_measure_29 : decode cX3_measure 29 = .ok (.if_icmp .ge 24, 3) := by decide +kernel
theorem dX3_measure_32 : decode cX3_measure 32 = .ok (.iload 4, 2) := by decide +kernel
theorem dX3_measure_34 : decode cX3_measure 34 = .ok (.aload_n 2, 1) := by decide +kernel
theorem dX3_measure_35 : decode cX3_measure 35 = .ok (.getfield 27, 3) := by decide +kernel
theorem dX3_measure_38 : decode cX3_measure 38 = .ok (.if_icmp .ge 15, 3) := by decide +kernel
theorem dX3_measure_41 : decode cX3_measure 41 = .ok (.aload_n 0, 1) := by decide +kernel
theorem dX3_measure_42 : decode cX3_measure 42 = .ok (.aload_n 1, 1) := by decide +kernel
theorem dX3_measure_43 : decode cX3_measure 43 = .ok (.iload_n 3, 1) := by decide +kernel
theorem dX3_measure_44 : decode cX3_measure 44 = .ok (.aload_n 2, 1) := by decide +kernel
theorem dX3_measure_45 : decode cX3_measure 45 = .ok (.iload 4, 2) := by decide +kernel
theorem dX3_measure_47 : decode cX3_measure 47 = .ok (.invokevirtual 43, 3) := by decide +kernel
theorem dX3_measure_50 : decode cX3_measure 50 = .ok (.goto 4, 3) := by decide +kernel
theorem dX3_measure_53 : decode cX3_measure 53 = .ok (.iconst 0, 1) := by decide +kernel
theorem dX3_measure_54 : decode cX3_measure 54 = .ok (.iastore, 1) := by decide +kernel
theorem dX3_measure_55 : decode cX3_measure 55 = .ok (.iinc 4 (-1), 3) := by decide +kernel
theorem dX3_measure_58 : decode cX3_measure 58 = .ok (.goto (-47), 3) := by decide +kernel
theorem dX3_measure_61 : decode cX3_measure 61 = .ok (.iinc 3 (-1), 3) := by decide +kernel
theorem dX3_measure_64 : decode cX3_measure 64 = .ok (.goto (-61), 3) := by decide +kernel
theorem dX3_measure_67 : decode cX3_measure 67 = .ok (.return_, 1) := by decide +kernel
theorem dX3_lengthAt_0 : decode cX3_lengthAt 0 = .ok (.iload_n 2, 1) := by decide +kernel
theorem dX3_lengthAt_1 : decode cX3_lengthAt 1 = .ok (.ifCond .lt 21, 3) := by decide +kernel
theorem dX3_lengthAt_4 : decode cX3_lengthAt 4 = .ok (.iload_n 2, 1) := by decide +kernel
theorem dX3_lengthAt_5 : decode cX3_lengthAt 5 = .ok (.bipush 16, 2) := by decide +kernel
theorem dX3_lengthAt_7 : decode cX3_lengthAt 7 = .ok (.if_icmp .ge 15, 3) := by decide +kernel
theorem dX3_lengthAt_10 : decode cX3_lengthAt 10 = .ok (.iload 4, 2) := by decide +kernel
theorem dX3_lengthAt_12 : decode cX3_lengthAt 12 = .ok (.ifCond .lt 10, 3) := by decide +kernel
theorem dX3_lengthAt_15 : decode cX3_lengthAt 15 = .ok (.iload 4, 2) := by decide +kernel
theorem dX3_lengthAt_17 : decode cX3_lengthAt 17 = .ok (.bipush 16, 2) := by decide +kernel
theorem dX3_lengthAt_19 : decode cX3_lengthAt 19 = .ok (.if_icmp .lt 5, 3) := by decide +kernel
theorem dX3_lengthAt_22 : decode cX3_lengthAt 22 = .ok (.iconst 0, 1) := by decide +kernel
theorem dX3_lengthAt_23 : decode cX3_lengthAt 23 = .ok (.ireturn, 1) := by decide +kernel
theorem dX3_lengthAt_24 : decode cX3_lengthAt 24 = .ok (.aload_n 1, 1) := by decide +kernel
theorem dX3_lengthAt_25 : decode cX3_lengthAt 25 = .ok (.iload_n 2, 1) := by decide +kernel
theorem dX3_lengthAt_26 : decode cX3_lengthAt 26 = .ok (.invokevirtual 47, 3) := by decide +kernel
theorem dX3_lengthAt_29 : decode cX3_lengthAt 29 = .ok (.aload_n 3, 1) := by decide +kernel
theorem dX3_lengthAt_30 : decode cX3_lengthAt 30 = .ok (.iload 4, 2) := by decide +kernel
theorem dX3_lengthAt_32 : decode cX3_lengthAt 32 = .ok (.invokevirtual 47, 3) := by decide +kernel
theorem dX3_lengthAt_35 : decode cX3_lengthAt 35 = .ok (.if_icmp .ne 19, 3) := by decide +kernel
theorem dX3_lengthAt_38 : decode cX3_lengthAt 38 = .ok (.aload_n 0, 1) := by decide +kernel
theorem dX3_lengthAt_39 : decode cX3_lengthAt 39 = .ok (.getfield 11, 3) := by decide +kernel
theorem dX3_lengthAt_42 : decode cX3_lengthAt 42 = .ok (.iload_n 2, 1) := by decide +kernel
theorem dX3_lengthAt_43 : decode cX3_lengthAt 43 = .ok (.iconst 1, 1) := by decide +kernel
theorem dX3_lengthAt_44 : decode cX3_lengthAt 44 = .ok (.iadd, 1) := by decide +kernel
theorem dX3_lengthAt_45 : decode cX3_lengthAt 45 = .ok (.aaload, 1) := by decide +kernel
theorem dX3_lengthAt_46 : decode cX3_lengthAt 46 = .ok (.iload 4, 2) := by decide +kernel
theorem dX3_lengthAt_48 : decode cX3_lengthAt 48 = .ok (.iconst 1, 1) := by decide +kernel
theorem dX3_lengthAt_49 : decode cX3_lengthAt 49 = .ok (.iadd, 1) := by decide +kernel
theorem dX3_lengthAt_50 : decode cX3_lengthAt 50 = .ok (.iaload, 1) := by decide +kernel
theorem dX3_lengthAt_51 : decode cX3_lengthAt 51 = .ok (.iconst 1, 1) := by decide +kernel
theorem dX3_lengthAt_52 : decode cX3_lengthAt 52 = .ok (.iadd, 1) := by decide +kernel
theorem dX3_lengthAt_53 : decode cX3_lengthAt 53 = .ok (.ireturn, 1) := by decide +kernel
theorem dX3_lengthAt_54 : decode cX3_lengthAt 54 = .ok (.aload_n 0, 1) := by decide +kernel
theorem dX3_lengthAt_55 : decode cX3_lengthAt 55 = .ok (.getfield 11, 3) := by decide +kernel
theorem dX3_lengthAt_58 : decode cX3_lengthAt 58 = .ok (.iload_n 2, 1) := by decide +kernel
theorem dX3_lengthAt_59 : decode cX3_lengthAt 59 = .ok (.iconst 1, 1) := by decide +kernel
theorem dX3_lengthAt_60 : decode cX3_lengthAt 60 = .ok (.iadd, 1) := by decide +kernel
theorem dX3_lengthAt_61 : decode cX3_lengthAt 61 = .ok (.aaload, 1) := by decide +kernel
theorem dX3_lengthAt_62 : decode cX3_lengthAt 62 = .ok (.iload 4, 2) := by decide +kernel
theorem dX3_lengthAt_64 : decode cX3_lengthAt 64 = .ok (.iaload, 1) := by decide +kernel
theorem dX3_lengthAt_65 : decode cX3_lengthAt 65 = .ok (.aload_n 0, 1) := by decide +kernel
theorem dX3_lengthAt_66 : decode cX3_lengthAt 66 = .ok (.getfield 11, 3) := by decide +kernel
theorem dX3_lengthAt_69 : decode cX3_lengthAt 69 = .ok (.iload_n 2, 1) := by decide +kernel
theorem dX3_lengthAt_70 : decode cX3_lengthAt 70 = .ok (.aaload, 1) := by decide +kernel
theorem dX3_lengthAt_71 : decode cX3_lengthAt 71 = .ok (.iload 4, 2) := by decide +kernel
theorem dX3_lengthAt_73 : decode cX3_lengthAt 73 = .ok (.iconst 1, 1) := by decide +kernel
theorem dX3_lengthAt_74 : decode cX3_lengthAt 74 = .ok (.iadd, 1) := by decide +kernel
theorem dX3_lengthAt_75 : decode cX3_lengthAt 75 = .ok (.iaload, 1) := by decide +kernel
theorem dX3_lengthAt_76 : decode cX3_lengthAt 76 = .ok (.invokestatic 51, 3) := by decide +kernel
theorem dX3_lengthAt_79 : decode cX3_lengthAt 79 = .ok (.ireturn, 1) := by decide +kernel
theorem dX3_leastNext_0 : decode cX3_leastNext 0 = .ok (.iconst 0, 1) := by decide +kernel
theorem dX3_leastNext_1 : decode cX3_leastNext 1 = .ok (.istore 6, 2) := by decide +kernel
theorem dX3_leastNext_3 : decode cX3_leastNext 3 = .ok (.iload 6, 2) := by decide +kernel
theorem dX3_leastNext_5 : decode cX3_leastNext 5 = .ok (.bipush 8, 2) := by decide +kernel
theorem dX3_leastNext_7 : decode cX3_leastNext 7 = .ok (.if_icmp .ge 76, 3) := by decide +kernel
theorem dX3_leastNext_10 : decode cX3_leastNext 10 = .ok (.aload_n 1, 1) := by decide +kernel
theorem dX3_leastNext_11 : decode cX3_leastNext 11 = .ok (.iload_n 2, 1) := by decide +kernel
theorem dX3_leastNext_12 : decode cX3_leastNext 12 = .ok (.iload 6, 2) := by decide +kernel
theorem dX3_leastNext_14 : decode cX3_leastNext 14 = .ok (.invokevirtual 35, 3) := by decide +kernel
theorem dX3_leastNext_17 : decode cX3_leastNext 17 = .ok (.istore 7, 2) := by decide +kernel
theorem dX3_leastNext_19 : decode cX3_leastNext 19 = .ok (.aload_n 3, 1) := by decide +kernel
theorem dX3_leastNext_20 : decode cX3_leastNext 20 = .ok (.iload 4, 2) := by decide +kernel
theorem dX3_leastNext_22 : decode cX3_leastNext 22 = .ok (.iload 6, 2) := by decide +kernel
theorem dX3_leastNext_24 : decode cX3_leastNext 24 = .ok (.invokevirtual 35, 3) := by decide +kernel
theorem dX3_leastNext_27 : decode cX3_leastNext 27 = .ok (.istore 8, 2) := by decide +kernel
theorem dX3_leastNext_29 : decode cX3_leastNext 29 = .ok (.iload 7, 2) := by decide +kernel
theorem dX3_leastNext_31 : decode cX3_leastNext 31 = .ok (.ifCond .lt 46, 3) := by decide +kernel
theorem dX3_leastNext_34 : decode cX3_leastNext 34 = .ok (.iload 7, 2) := by decide +kernel
theorem dX3_leastNext_36 : decode cX3_leastNext 36 = .ok (.bipush 16, 2) := by decide +kernel
theorem dX3_leastNext_38 : decode cX3_leastNext 38 = .ok (.if_icmp .ge 39, 3) := by decide +kernel
theorem dX3_leastNext_41 : decode cX3_leastNext 41 = .ok (.iload 8, 2) := by decide +kernel
theorem dX3_leastNext_43 : decode cX3_leastNext 43 = .ok (.ifCond .lt 34, 3) := by decide +kernel
theorem dX3_leastNext_46 : decode cX3_leastNext 46 = .ok (.iload 8, 2) := by decide +kernel
theorem dX3_leastNext_48 : decode cX3_leastNext 48 = .ok (.bipush 16, 2) := by decide +kernel
theorem dX3_leastNext_50 : decode cX3_leastNext 50 = .ok (.if_icmp .ge 27, 3) := by decide +kernel
theorem dX3_leastNext_53 : decode cX3_leastNext 53 = .ok (.aload_n 0, 1) := by decide +kernel
theorem dX3_leastNext_54 : decode cX3_leastNext 54 = .ok (.getfield 11, 3) := by decide +kernel
theorem dX3_leastNext_57 : decode cX3_leastNext 57 = .ok (.iload 7, 2) := by decide +kernel
theorem dX3_leastNext_59 : decode cX3_leastNext 59 = .ok (.iconst 1, 1) := by decide +kernel
theorem dX3_leastNext_60 : decode cX3_leastNext 60 = .ok (.iadd, 1) := by decide +kernel
theorem dX3_leastNext_61 : decode cX3_leastNext 61 = .ok (.aaload, 1) := by decide +kernel
theorem dX3_leastNext_62 : decode cX3_leastNext 62 = .ok (.iload 8, 2) := by decide +kernel
theorem dX3_leastNext_64 : decode cX3_leastNext 64 = .ok (.iconst 1, 1) := by decide +kernel
theorem dX3_leastNext_65 : decode cX3_leastNext 65 = .ok (.iadd, 1) := by decide +kernel
theorem dX3_leastNext_66 : decode cX3_leastNext 66 = .ok (.iaload, 1) := by decide +kernel
theorem dX3_leastNext_67 : decode cX3_leastNext 67 = .ok (.iload 5, 2) := by decide +kernel
theorem dX3_leastNext_69 : decode cX3_leastNext 69 = .ok (.iconst 1, 1) := by decide +kernel
theorem dX3_leastNext_70 : decode cX3_leastNext 70 = .ok (.isub, 1) := by decide +kernel
theorem dX3_leastNext_71 : decode cX3_leastNext 71 = .ok (.if_icmp .ne 6, 3) := by decide +kernel
theorem dX3_leastNext_74 : decode cX3_leastNext 74 = .ok (.iload 6, 2) := by decide +kernel
theorem dX3_leastNext_76 : decode cX3_leastNext 76 = .ok (.ireturn, 1) := by decide +kernel
theorem dX3_leastNext_77 : decode cX3_leastNext 77 = .ok (.iinc 6 1, 3) := by decide +kernel
theorem dX3_leastNext_80 : decode cX3_leastNext 80 = .ok (.goto (-77), 3) := by decide +kernel
theorem dX3_leastNext_83 : decode cX3_leastNext 83 = .ok (.bipush (-4), 2) := by decide +kernel
theorem dX3_leastNext_85 : decode cX3_leastNext 85 = .ok (.ireturn, 1) := by decide +kernel
theorem dX4_init_0 : decode cX4_init 0 = .ok (.aload_n 0, 1) := by decide +kernel
theorem dX4_init_1 : decode cX4_init 1 = .ok (.invokespecial 3, 3) := by decide +kernel
theorem dX4_init_4 : decode cX4_init 4 = .ok (.aload_n 0, 1) := by decide +kernel
theorem dX4_init_5 : decode cX4_init 5 = .ok (.bipush 60, 2) := by decide +kernel
theorem dX4_init_7 : decode cX4_init 7 = .ok (.newarray .int, 2) := by decide +kernel
theorem dX4_init_9 : decode cX4_init 9 = .ok (.putfield 9, 3) := by decide +kernel
theorem dX4_init_12 : decode cX4_init 12 = .ok (.aload_n 0, 1) := by decide +kernel
theorem dX4_init_13 : decode cX4_init 13 = .ok (.iconst (-1), 1) := by decide +kernel
theorem dX4_init_14 : decode cX4_init 14 = .ok (.putfield 15, 3) := by decide +kernel
theorem dX4_init_17 : decode cX4_init 17 = .ok (.return_, 1) := by decide +kernel
theorem dX4_make_0 : decode cX4_make 0 = .ok (.aload_n 0, 1) := by decide +kernel
theorem dX4_make_1 : decode cX4_make 1 = .ok (.getfield 9, 3) := by decide +kernel
theorem dX4_make_4 : decode cX4_make 4 = .ok (.iconst 0, 1) := by decide +kernel
theorem dX4_make_5 : decode cX4_make 5 = .ok (.invokestatic 19, 3) := by decide +kernel
theorem dX4_make_8 : decode cX4_make 8 = .ok (.aload_n 0, 1) := by decide +kernel
theorem dX4_make_9 : decode cX4_make 9 = .ok (.iload_n 1, 1) := by decide +kernel
theorem dX4_make_10 : decode cX4_make 10 = .ok (.putfield 15, 3) := by decide +kernel
theorem dX4_make_13 : decode cX4_make 13 = .ok (.aload_n 0, 1) := by decide +kernel
theorem dX4_make_14 : decode cX4_make 14 = .ok (.iload_n 2, 1) := by decide +kernel
theorem dX4_make_15 : decode cX4_make 15 = .ok (.putfield 25, 3) := by decide +kernel
theorem dX4_make_18 : decode cX4_make 18 = .ok (.return_, 1) := by decide +kernel
theorem dX4_isNothing_0 : decode cX4_isNothing 0 = .ok (.aload_n 0, 1) := by decide +kernel
theorem dX4_isNothing_1 : decode cX4_isNothing 1 = .ok (.getfield 15, 3) := by decide +kernel
theorem dX4_isNothing_4 : decode cX4_isNothing 4 = .ok (.iconst (-1), 1) := by decide +kernel
theorem dX4_isNothing_5 : decode cX4_isNothing 5 = .ok (.if_icmp .ne 7, 3) := by decide +kernel
theorem dX4_isNothing_8 : decode cX4_isNothing 8 = .ok (.iconst 1, 1) := by decide +kernel
theorem dX4_isNothing_9 : decode cX4_isNothing 9 = .ok (.goto 4, 3) := by decide +kernel
theorem dX4_isNothing_12 : decode cX4_isNothing 12 = .ok (.iconst 0, 1) := by decide +kernel
theorem dX4_isNothing_13 : decode cX4_isNothing 13 = .ok (.ireturn, 1) := by decide +kernel
theorem dX4_has_0 : decode cX4_has 0 = .ok (.iload_n 1, 1) := by decide +kernel
theorem dX4_has_1 : decode cX4_has 1 = .ok (.ifCond .lt 24, 3) := by decide +kernel
theorem dX4_has_4 : decode cX4_has 4 = .ok (.iload_n 1, 1) := by decide +kernel
theorem dX4_has_5 : decode cX4_has 5 = .ok (.aload_n 0, 1) := by decide +kernel
theorem dX4_has_6 : decode cX4_has 6 = .ok (.getfield 25, 3) := by decide +kernel
theorem dX4_has_9 : decode cX4_has 9 = .ok (.if_icmp .ge 16, 3) := by decide +kernel
theorem dX4_has_12 : decode cX4_has 12 = .ok (.iload_n 1, 1) := by decide +kernel
theorem dX4_has_13 : decode cX4_has 13 = .ok (.aload_n 0, 1) := by decide +kernel
theorem dX4_has_14 : decode cX4_has 14 = .ok (.getfield 9, 3) := by decide +kernel
theorem dX4_has_17 : decode cX4_has 17 = .ok (.arraylength, 1) := by decide +kernel
theorem dX4_has_18 : decode cX4_has 18 = .ok (.if_icmp .ge 7, 3) := by decide +kernel
theorem dX4_has_21 : decode cX4_has 21 = .ok (.iconst 1, 1) := by decide +kernel
theorem dX4_has_22 : decode cX4_has 22 = .ok (.goto 4, 3) := by decide +kernel
theorem dX4_has_25 : decode cX4_has 25 = .ok (.iconst 0, 1) := by decide +kernel
theorem dX4_has_26 : decode cX4_has 26 = .ok (.ireturn, 1) := by decide +kernel
theorem dX4_cellAt_0 : decode cX4_cellAt 0 = .ok (.aload_n 0, 1) := by decide +kernel
theorem dX4_cellAt_1 : decode cX4_cellAt 1 = .ok (.iload_n 1, 1) := by decide +kernel
theorem dX4_cellAt_2 : decode cX4_cellAt 2 = .ok (.invokevirtual 28, 3) := by decide +kernel
theorem dX4_cellAt_5 : decode cX4_cellAt 5 = .ok (.ifCond .eq 12, 3) := by decide +kernel
theorem dX4_cellAt_8 : decode cX4_cellAt 8 = .ok (.aload_n 0, 1) := by decide +kernel
theorem dX4_cellAt_9 : decode cX4_cellAt 9 = .ok (.getfield 9, 3) := by decide +kernel
theorem dX4_cellAt_12 : decode cX4_cellAt 12 = .ok (.iload_n 1, 1) := by decide +kernel
theorem dX4_cellAt_13 : decode cX4_cellAt 13 = .ok (.iaload, 1) := by decide +kernel
theorem dX4_cellAt_14 : decode cX4_cellAt 14 = .ok (.goto 4, 3) := by decide +kernel
theorem dX4_cellAt_17 : decode cX4_cellAt 17 = .ok (.iconst 0, 1) := by decide +kernel
theorem dX4_cellAt_18 : decode cX4_cellAt 18 = .ok (.ireturn, 1) := by decide +kernel
theorem dX4_put_0 : decode cX4_put 0 = .ok (.aload_n 0, 1) := by decide +kernel
theorem dX4_put_1 : decode cX4_put 1 = .ok (.iload_n 1, 1) := by decide +kernel
theorem dX4_put_2 : decode cX4_put 2 = .ok (.invokevirtual 28, 3) := by decide +kernel
theorem dX4_put_5 : decode cX4_put 5 = .ok (.ifCond .ne 5, 3) := by decide +kernel
theorem dX4_put_8 : decode cX4_put 8 = .ok (.iconst 0, 1) := by decide +kernel
theorem dX4_put_9 : decode cX4_put 9 = .ok (.ireturn, 1) := by decide +kernel
theorem dX4_put_10 : decode cX4_put 10 = .ok (.aload_n 0, 1) := by decide +kernel
theorem dX4_put_11 : decode cX4_put 11 = .ok (.getfield 9, 3) := by decide +kernel
theorem dX4_put_14 : decode cX4_put 14 = .ok (.iload_n 1, 1) := by decide +kernel
theorem dX4_put_15 : decode cX4_put 15 = .ok (.aload_n 0, 1) := by decide +kernel
theorem dX4_put_16 : decode cX4_put 16 = .ok (.getfield 15, 3) := by decide +kernel
theorem dX4_put_19 : decode cX4_put 19 = .ok (.ifCond .ne 8, 3) := by decide +kernel
theorem dX4_put_22 : decode cX4_put 22 = .ok (.iload_n 2, 1) := by decide +kernel
theorem dX4_put_23 : decode cX4_put 23 = .ok (.i2b, 1) := by decide +kernel
theorem dX4_put_24 : decode cX4_put 24 = .ok (.goto 17, 3) := by decide +kernel
theorem dX4_put_27 : decode cX4_put 27 = .ok (.aload_n 0, 1) := by decide +kernel
theorem dX4_put_28 : decode cX4_put 28 = .ok (.getfield 15, 3) := by decide +kernel
theorem dX4_put_31 : decode cX4_put 31 = .ok (.iconst 1, 1) := by decide +kernel
theorem dX4_put_32 : decode cX4_put 32 = .ok (.if_icmp .ne 8, 3) := by decide +kernel
theorem dX4_put_35 : decode cX4_put 35 = .ok (.iload_n 2, 1) := by decide +kernel
theorem dX4_put_36 : decode cX4_put 36 = .ok (.i2s, 1) := by decide +kernel
theorem dX4_put_37 : decode cX4_put 37 = .ok (.goto 4, 3) := by decide +kernel
theorem dX4_put_40 : decode cX4_put 40 = .ok (.iload_n 2, 1) := by decide +kernel
theorem dX4_put_41 : decode cX4_put 41 = .ok (.iastore, 1) := by decide +kernel
theorem dX4_put_42 : decode cX4_put 42 = .ok (.iconst 1, 1) := by decide +kernel
theorem dX4_put_43 : decode cX4_put 43 = .ok (.ireturn, 1) := by decide +kernel
theorem dX5_init_0 : decode cX5_init 0 = .ok (.aload_n 0, 1) := by decide +kernel
theorem dX5_init_1 : decode cX5_init 1 = .ok (.invokespecial 3, 3) := by decide +kernel
theorem dX5_init_4 : decode cX5_init 4 = .ok (.aload_n 0, 1) := by decide +kernel
theorem dX5_init_5 : decode cX5_init 5 = .ok (.sipush 160, 3) := by decide +kernel
theorem dX5_init_8 : decode cX5_init 8 = .ok (.newarray .byte, 2) := by decide +kernel
theorem dX5_init_10 : decode cX5_init 10 = .ok (.putfield 9, 3) := by decide +kernel
theorem dX5_init_13 : decode cX5_init 13 = .ok (.return_, 1) := by decide +kernel
theorem dX5_append_0 : decode cX5_append 0 = .ok (.aload_n 0, 1) := by decide +kernel
theorem dX5_append_1 : decode cX5_append 1 = .ok (.getfield 15, 3) := by decide +kernel
theorem dX5_append_4 : decode cX5_append 4 = .ok (.ifCond .lt 18, 3) := by decide +kernel
theorem dX5_append_7 : decode cX5_append 7 = .ok (.aload_n 0, 1) := by decide +kernel
theorem dX5_append_8 : decode cX5_append 8 = .ok (.getfield 15, 3) := by decide +kernel
theorem dX5_append_11 : decode cX5_append 11 = .ok (.bipush 8, 2) := by decide +kernel
theorem dX5_append_13 : decode cX5_append 13 = .ok (.iadd, 1) := by decide +kernel
theorem dX5_append_14 : decode cX5_append 14 = .ok (.aload_n 0, 1) := by decide +kernel
theorem dX5_append_15 : decode cX5_append 15 = .ok (.getfield 9, 3) := by decide +kernel
theorem dX5_append_18 : decode cX5_append 18 = .ok (.arraylength, 1) := by decide +kernel
theorem dX5_append_19 : decode cX5_append 19 = .ok (.if_icmp .le 5, 3) := by decide +kernel
theorem dX5_append_22 : decode cX5_append 22 = .ok (.iconst 0, 1) := by decide +kernel
theorem dX5_append_23 : decode cX5_append 23 = .ok (.ireturn, 1) := by decide +kernel
theorem dX5_append_24 : decode cX5_append 24 = .ok (.iconst 0, 1) := by decide +kernel
theorem dX5_append_25 : decode cX5_append 25 = .ok (.istore_n 3, 1) := by decide +kernel
theorem dX5_append_26 : decode cX5_append 26 = .ok (.iload_n 3, 1) := by decide +kernel
theorem dX5_append_27 : decode cX5_append 27 = .ok (.bipush 8, 2) := by decide +kernel
theorem dX5_append_29 : decode cX5_append 29 = .ok (.if_icmp .ge 31, 3) := by decide +kernel
theorem dX5_append_32 : decode cX5_append 32 = .ok (.aload_n 0, 1) := by decide +kernel
theorem dX5_append_33 : decode cX5_append 33 = .ok (.getfield 9, 3) := by decide +kernel
theorem dX5_append_36 : decode cX5_append 36 = .ok (.aload_n 0, 1) := by decide +kernel
theorem dX5_append_37 : decode cX5_append 37 = .ok (.getfield 15, 3) := by decide +kernel
theorem dX5_append_40 : decode cX5_append 40 = .ok (.iload_n 3, 1) := by decide +kernel
theorem dX5_append_41 : decode cX5_append 41 = .ok (.iadd, 1) := by decide +kernel
theorem dX5_append_42 : decode cX5_append 42 = .ok (.lload_n 1, 1) := by decide +kernel
theorem dX5_append_43 : decode cX5_append 43 = .ok (.bipush 56, 2) := by decide +kernel
theorem dX5_append_45 : decode cX5_append 45 = .ok (.bipush 8, 2) := by decide +kernel
theorem dX5_append_47 : decode cX5_append 47 = .ok (.iload_n 3, 1) := by decide +kernel
theorem dX5_append_48 : decode cX5_append 48 = .ok (.imul, 1) := by decide +kernel
theorem dX5_append_49 : decode cX5_append 49 = .ok (.isub, 1) := by decide +kernel
theorem dX5_append_50 : decode cX5_append 50 = .ok (.lushr, 1) := by decide +kernel
theorem dX5_append_51 : decode cX5_append 51 = .ok (.l2i, 1) := by decide +kernel
theorem dX5_append_52 : decode cX5_append 52 = .ok (.i2b, 1) := by decide +kernel
theorem dX5_append_53 : decode cX5_append 53 = .ok (.bastore, 1) := by decide +kernel
theorem dX5_append_54 : decode cX5_append 54 = .ok (.iinc 3 1, 3) := by decide +kernel
theorem dX5_append_57 : decode cX5_append 57 = .ok (.goto (-31), 3) := by decide +kernel
theorem dX5_append_60 : decode cX5_append 60 = .ok (.aload_n 0, 1) := by decide +kernel
theorem dX5_append_61 : decode cX5_append 61 = .ok (.dup, 1) := by decide +kernel
theorem dX5_append_62 : decode cX5_append 62 = .ok (.getfield 15, 3) := by decide +kernel
theorem dX5_append_65 : decode cX5_append 65 = .ok (.bipush 8, 2) := by decide +kernel
theorem dX5_append_67 : decode cX5_append 67 = .ok (.iadd, 1) := by decide +kernel
theorem dX5_append_68 : decode cX5_append 68 = .ok (.putfield 15, 3) := by decide +kernel
theorem dX5_append_71 : decode cX5_append 71 = .ok (.iconst 1, 1) := by decide +kernel
theorem dX5_append_72 : decode cX5_append 72 = .ok (.ireturn, 1) := by decide +kernel
theorem dX5_byteAt_0 : decode cX5_byteAt 0 = .ok (.iload_n 1, 1) := by decide +kernel
theorem dX5_byteAt_1 : decode cX5_byteAt 1 = .ok (.ifCond .lt 33, 3) := by decide +kernel
theorem dX5_byteAt_4 : decode cX5_byteAt 4 = .ok (.iload_n 1, 1) := by decide +kernel
theorem dX5_byteAt_5 : decode cX5_byteAt 5 = .ok (.aload_n 0, 1) := by decide +kernel
theorem dX5_byteAt_6 : decode cX5_byteAt 6 = .ok (.getfield 15, 3) := by decide +kernel
theorem dX5_byteAt_9 : decode cX5_byteAt 9 = .ok (.if_icmp .ge 25, 3) := by decide +kernel
theorem dX5_byteAt_12 : decode cX5_byteAt 12 = .ok (.iload_n 1, 1) := by decide +kernel
theorem dX5_byteAt_13 : decode cX5_byteAt 13 = .ok (.aload_n 0, 1) := by decide +kernel
theorem dX5_byteAt_14 : decode cX5_byteAt 14 = .ok (.getfield 9, 3) := by decide +kernel
theorem dX5_byteAt_17 : decode cX5_byteAt 17 = .ok (.arraylength, 1) := by decide +kernel
theorem dX5_byteAt_18 : decode cX5_byteAt 18 = .ok (.if_icmp .ge 16, 3) := by decide +kernel
theorem dX5_byteAt_21 : decode cX5_byteAt 21 = .ok (.aload_n 0, 1) := by decide +kernel
theorem dX5_byteAt_22 : decode cX5_byteAt 22 = .ok (.getfield 9, 3) := by decide +kernel
theorem dX5_byteAt_25 : decode cX5_byteAt 25 = .ok (.iload_n 1, 1) := by decide +kernel
theorem dX5_byteAt_26 : decode cX5_byteAt 26 = .ok (.baload, 1) := by decide +kernel
theorem dX5_byteAt_27 : decode cX5_byteAt 27 = .ok (.sipush 255, 3) := by decide +kernel
theorem dX5_byteAt_30 : decode cX5_byteAt 30 = .ok (.iand, 1) := by decide +kernel
theorem dX5_byteAt_31 : decode cX5_byteAt 31 = .ok (.goto 4, 3) := by decide +kernel
theorem dX5_byteAt_34 : decode cX5_byteAt 34 = .ok (.iconst (-1), 1) := by decide +kernel
theorem dX5_byteAt_35 : decode cX5_byteAt 35 = .ok (.ireturn, 1) := by decide +kernel
theorem dX5_rewind_0 : decode cX5_rewind 0 = .ok (.aload_n 0, 1) := by decide +kernel
theorem dX5_rewind_1 : decode cX5_rewind 1 = .ok (.iconst 0, 1) := by decide +kernel
theorem dX5_rewind_2 : decode cX5_rewind 2 = .ok (.putfield 19, 3) := by decide +kernel
theorem dX5_rewind_5 : decode cX5_rewind 5 = .ok (.return_, 1) := by decide +kernel
theorem dX5_readToken_0 : decode cX5_readToken 0 = .ok (.iconst 0, 1) := by decide +kernel
theorem dX5_readToken_1 : decode cX5_readToken 1 = .ok (.istore_n 1, 1) := by decide +kernel
theorem dX5_readToken_2 : decode cX5_readToken 2 = .ok (.iload_n 1, 1) := by decide +kernel
theorem dX5_readToken_3 : decode cX5_readToken 3 = .ok (.sipush 160, 3) := by decide +kernel
theorem dX5_readToken_6 : decode cX5_readToken 6 = .ok (.if_icmp .ge 32, 3) := by decide +kernel
theorem dX5_readToken_9 : decode cX5_readToken 9 = .ok (.aload_n 0, 1) := by decide +kernel
theorem dX5_readToken_10 : decode cX5_readToken 10 = .ok (.aload_n 0, 1) := by decide +kernel
theorem dX5_readToken_11 : decode cX5_readToken 11 = .ok (.getfield 19, 3) := by decide +kernel
theorem dX5_readToken_14 : decode cX5_readToken 14 = .ok (.invokevirtual 22, 3) := by decide +kernel
theorem dX5_readToken_17 : decode cX5_readToken 17 = .ok (.bipush 32, 2) := by decide +kernel
theorem dX5_readToken_19 : decode cX5_readToken 19 = .ok (.if_icmp .ne 19, 3) := by decide +kernel
theorem dX5_readToken_22 : decode cX5_readToken 22 = .ok (.aload_n 0, 1) := by decide +kernel
theorem dX5_readToken_23 : decode cX5_readToken 23 = .ok (.dup, 1) := by decide +kernel
theorem dX5_readToken_24 : decode cX5_readToken 24 = .ok (.getfield 19, 3) := by decide +kernel
theorem dX5_readToken_27 : decode cX5_readToken 27 = .ok (.iconst 1, 1) := by decide +kernel
theorem dX5_readToken_28 : decode cX5_readToken 28 = .ok (.iadd, 1) := by decide +kernel
theorem dX5_readToken_29 : decode cX5_readToken 29 = .ok (.putfield 19, 3) := by decide +kernel
theorem dX5_readToken_32 : decode cX5_readToken 32 = .ok (.iinc 1 1, 3) := by decide +kernel
theorem dX5_readToken_35 : decode cX5_readToken 35 = .ok (.goto (-33), 3) := by decide +kernel
theorem dX5_readToken_38 : decode cX5_readToken 38 = .ok (.aload_n 0, 1) := by decide +kernel
theorem dX5_readToken_39 : decode cX5_readToken 39 = .ok (.aload_n 0, 1) := by decide +kernel
theorem dX5_readToken_40 : decode cX5_readToken 40 = .ok (.getfield 19, 3) := by decide +kernel
theorem dX5_readToken_43 : decode cX5_readToken 43 = .ok (.putfield 26, 3) := by decide +kernel
theorem dX5_readToken_46 : decode cX5_readToken 46 = .ok (.aload_n 0, 1) := by decide +kernel
theorem dX5_readToken_47 : decode cX5_readToken 47 = .ok (.aload_n 0, 1) := by decide +kernel
theorem dX5_readToken_48 : decode cX5_readToken 48 = .ok (.getfield 19, 3) := by decide +kernel
theorem dX5_readToken_51 : decode cX5_readToken 51 = .ok (.invokevirtual 22, 3) := by decide +kernel
theorem dX5_readToken_54 : decode cX5_readToken 54 = .ok (.istore_n 1, 1) := by decide +kernel
theorem dX5_readToken_55 : decode cX5_readToken 55 = .ok (.aload_n 0, 1) := by decide +kernel
theorem dX5_readToken_56 : decode cX5_readToken 56 = .ok (.iload_n 1, 1) := by decide +kernel
theorem dX5_readToken_57 : decode cX5_readToken 57 = .ok (.invokevirtual 29, 3) := by decide +kernel
theorem dX5_readToken_60 : decode cX5_readToken 60 = .ok (.ifCond .eq 10, 3) := by decide +kernel
theorem dX5_readToken_63 : decode cX5_readToken 63 = .ok (.aload_n 0, 1) := by decide +kernel
theorem dX5_readToken_64 : decode cX5_readToken 64 = .ok (.invokevirtual 33, 3) := by decide +kernel
theorem dX5_readToken_67 : decode cX5_readToken 67 = .ok (.goto 56, 3) := by decide +kernel
theorem dX5_readToken_70 : decode cX5_readToken 70 = .ok (.iload_n 1, 1) := by decide +kernel
theorem dX5_readToken_71 : decode cX5_readToken 71 = .ok (.ifCond .ge 11, 3) := by decide +kernel
theorem dX5_readToken_74 : decode cX5_readToken 74 = .ok (.aload_n 0, 1) := by decide +kernel
theorem dX5_readToken_75 : decode cX5_readToken 75 = .ok (.iconst 5, 1) := by decide +kernel
theorem dX5_readToken_76 : decode cX5_readToken 76 = .ok (.putfield 36, 3) := by decide +kernel
theorem dX5_readToken_79 : decode cX5_readToken 79 = .ok (.goto 44, 3) := by decide +kernel
theorem dX5_readToken_82 : decode cX5_readToken 82 = .ok (.aload_n 0, 1) := by decide +kernel
theorem dX5_readToken_83 : decode cX5_readToken 83 = .ok (.dup, 1) := by decide +kernel
theorem dX5_readToken_84 : decode cX5_readToken 84 = .ok (.getfield 19, 3) := by decide +kernel
theorem dX5_readToken_87 : decode cX5_readToken 87 = .ok (.iconst 1, 1) := by decide +kernel
theorem dX5_readToken_88 : decode cX5_readToken 88 = .ok (.iadd, 1) := by decide +kernel
theorem dX5_readToken_89 : decode cX5_readToken 89 = .ok (.putfield 19, 3) := by decide +kernel
theorem dX5_readToken_92 : decode cX5_readToken 92 = .ok (.aload_n 0, 1) := by decide +kernel
theorem dX5_readToken_93 : decode cX5_readToken 93 = .ok (.ldc 39, 2) := by decide +kernel
theorem dX5_readToken_95 : decode cX5_readToken 95 = .ok (.iload_n 1, 1) := by decide +kernel
theorem dX5_readToken_96 : decode cX5_readToken 96 = .ok (.i2c, 1) := by decide +kernel
theorem dX5_readToken_97 : decode cX5_readToken 97 = .ok (.invokevirtual 41, 3) := by decide +kernel
theorem dX5_readToken_100 : decode cX5_readToken 100 = .ok (.putfield 46, 3) := by decide +kernel
theorem dX5_readToken_103 : decode cX5_readToken 103 = .ok (.aload_n 0, 1) := by decide +kernel
theorem dX5_readToken_104 : decode cX5_readToken 104 = .ok (.aload_n 0, 1) := by decide +kernel
theorem dX5_readToken_105 : decode cX5_readToken 105 = .ok (.getfield 46, 3) := by decide +kernel
theorem dX5_readToken_108 : decode cX5_readToken 108 = .ok (.ifCond .lt 7, 3) := by decide +kernel
theorem dX5_readToken_111 : decode cX5_readToken 111 = .ok (.iconst 0, 1) := by decide +kernel
theorem dX5_readToken_112 : decode cX5_readToken 112 = .ok (.goto 8, 3) := by decide +kernel
theorem dX5_readToken_115 : decode cX5_readToken 115 = .ok (.aload_n 0, 1) := by decide +kernel
theorem dX5_readToken_116 : decode cX5_readToken 116 = .ok (.iload_n 1, 1) := by decide +kernel
theorem dX5_readToken_117 : decode cX5_readToken 117 = .ok (.invokevirtual 49, 3) := by decide +kernel
theorem dX5_readToken_120 : decode cX5_readToken 120 = .ok (.putfield 36, 3) := by decide +kernel
theorem dX5_readToken_123 : decode cX5_readToken 123 = .ok (.return_, 1) := by decide +kernel
theorem dX5_readNumber_0 : decode cX5_readNumber 0 = .ok (.iconst 0, 1) := by decide +kernel
theorem dX5_readNumber_1 : decode cX5_readNumber 1 = .ok (.istore_n 1, 1) := by decide +kernel
theorem dX5_readNumber_2 : decode cX5_readNumber 2 = .ok (.aload_n 0, 1) := by decide +kernel
theorem dX5_readNumber_3 : decode cX5_readNumber 3 = .ok (.iconst 0, 1) := by decide +kernel
theorem dX5_readNumber_4 : decode cX5_readNumber 4 = .ok (.putfield 46, 3) := by decide +kernel
theorem dX5_readNumber_7 : decode cX5_readNumber 7 = .ok (.iconst 0, 1) := by decide +kernel
theorem dX5_readNumber_8 : decode cX5_readNumber 8 = .ok (.istore_n 2, 1) := by decide +kernel
theorem dX5_readNumber_9 : decode cX5_readNumber 9 = .ok (.iload_n 2, 1) := by decide +kernel
theorem dX5_readNumber_10 : decode cX5_readNumber 10 = .ok (.sipush 160, 3) := by decide +kernel
theorem dX5_readNumber_13 : decode cX5_readNumber 13 = .ok (.if_icmp .ge 72, 3) := by decide +kernel
theorem dX5_readNumber_16 : decode cX5_readNumber 16 = .ok (.aload_n 0, 1) := by decide +kernel
theorem dX5_readNumber_17 : decode cX5_readNumber 17 = .ok (.aload_n 0, 1) := by decide +kernel
theorem dX5_readNumber_18 : decode cX5_readNumber 18 = .ok (.aload_n 0, 1) := by decide +kernel
theorem dX5_readNumber_19 : decode cX5_readNumber 19 = .ok (.getfield 19, 3) := by decide +kernel
theorem dX5_readNumber_22 : decode cX5_readNumber 22 = .ok (.invokevirtual 22, 3) := by decide +kernel
theorem dX5_readNumber_25 : decode cX5_readNumber 25 = .ok (.invokevirtual 29, 3) := by decide +kernel
theorem dX5_readNumber_28 : decode cX5_readNumber 28 = .ok (.ifCond .eq 57, 3) := by decide +kernel
theorem dX5_readNumber_31 : decode cX5_readNumber 31 = .ok (.aload_n 0, 1) := by decide +kernel
theorem dX5_readNumber_32 : decode cX5_readNumber 32 = .ok (.iload_n 1, 1) := by decide +kernel
theorem dX5_readNumber_33 : decode cX5_readNumber 33 = .ok (.iconst 2, 1) := by decide +kernel
theorem dX5_readNumber_34 : decode cX5_readNumber 34 = .ok (.if_icmp .ge 25, 3) := by decide +kernel
theorem dX5_readNumber_37 : decode cX5_readNumber 37 = .ok (.bipush 10, 2) := by decide +kernel
theorem dX5_readNumber_39 : decode cX5_readNumber 39 = .ok (.aload_n 0, 1) := by decide +kernel
theorem dX5_readNumber_40 : decode cX5_readNumber 40 = .ok (.getfield 46, 3) := by decide +kernel
theorem dX5_readNumber_43 : decode cX5_readNumber 43 = .ok (.imul, 1) := by decide +kernel
theorem dX5_readNumber_44 : decode cX5_readNumber 44 = .ok (.aload_n 0, 1) := by decide +kernel
theorem dX5_readNumber_45 : decode cX5_readNumber 45 = .ok (.aload_n 0, 1) := by decide +kernel
theorem dX5_readNumber_46 : decode cX5_readNumber 46 = .ok (.getfield 19, 3) := by decide +kernel
theorem dX5_readNumber_49 : decode cX5_readNumber 49 = .ok (.invokevirtual 22, 3) := by decide +kernel
theorem dX5_readNumber_52 : decode cX5_readNumber 52 = .ok (.iadd, 1) := by decide +kernel
theorem dX5_readNumber_53 : decode cX5_readNumber 53 = .ok (.bipush 48, 2) := by decide +kernel
theorem dX5_readNumber_55 : decode cX5_readNumber 55 = .ok (.isub, 1) := by decide +kernel
theorem dX5_readNumber_56 : decode cX5_readNumber 56 = .ok (.goto 7, 3) := by decide +kernel
theorem dX5_readNumber_59 : decode cX5_readNumber 59 = .ok (.aload_n 0, 1) := by decide +kernel
theorem dX5_readNumber_60 : decode cX5_readNumber 60 = .ok (.getfield 46, 3) := by decide +kernel
theorem dX5_readNumber_63 : decode cX5_readNumber 63 = .ok (.putfield 46, 3) := by decide +kernel
theorem dX5_readNumber_66 : decode cX5_readNumber 66 = .ok (.iinc 1 1, 3) := by decide +kernel
theorem dX5_readNumber_69 : decode cX5_readNumber 69 = .ok (.aload_n 0, 1) := by decide +kernel
theorem dX5_readNumber_70 : decode cX5_readNumber 70 = .ok (.dup, 1) := by decide +kernel
theorem dX5_readNumber_71 : decode cX5_readNumber 71 = .ok (.getfield 19, 3) := by decide +kernel
theorem dX5_readNumber_74 : decode cX5_readNumber 74 = .ok (.iconst 1, 1) := by decide +kernel
theorem dX5_readNumber_75 : decode cX5_readNumber 75 = .ok (.iadd, 1) := by decide +kernel
theorem dX5_readNumber_76 : decode cX5_readNumber 76 = .ok (.putfield 19, 3) := by decide +kernel
theorem dX5_readNumber_79 : decode cX5_readNumber 79 = .ok (.iinc 2 1, 3) := by decide +kernel
theorem dX5_readNumber_82 : decode cX5_readNumber 82 = .ok (.goto (-73), 3) := by decide +kernel
theorem dX5_readNumber_85 : decode cX5_readNumber 85 = .ok (.aload_n 0, 1) := by decide +kernel
theorem dX5_readNumber_86 : decode cX5_readNumber 86 = .ok (.iload_n 1, 1) := by decide +kernel
theorem dX5_readNumber_87 : decode cX5_readNumber 87 = .ok (.iconst 2, 1) := by decide +kernel
theorem dX5_readNumber_88 : decode cX5_readNumber 88 = .ok (.if_icmp .gt 7, 3) := by decide +kernel
theorem dX5_readNumber_91 : decode cX5_readNumber 91 = .ok (.iconst 1, 1) := by decide +kernel
theorem dX5_readNumber_92 : decode cX5_readNumber 92 = .ok (.goto 5, 3) := by decide +kernel
theorem dX5_readNumber_95 : decode cX5_readNumber 95 = .ok (.bipush 6, 2) := by decide +kernel
theorem dX5_readNumber_97 : decode cX5_readNumber 97 = .ok (.putfield 36, 3) := by decide +kernel
theorem dX5_readNumber_100 : decode cX5_readNumber 100 = .ok (.return_, 1) := by decide +kernel
theorem dX5_isDigit_0 : decode cX5_isDigit 0 = .ok (.iload_n 1, 1) := by decide +kernel
theorem dX5_isDigit_1 : decode cX5_isDigit 1 = .ok (.bipush 48, 2) := by decide +kernel
theorem dX5_isDigit_3 : decode cX5_isDigit 3 = .ok (.if_icmp .lt 13, 3) := by decide +kernel
theorem dX5_isDigit_6 : decode cX5_isDigit 6 = .ok (.iload_n 1, 1) := by decide +kernel
theorem dX5_isDigit_7 : decode cX5_isDigit 7 = .ok (.bipush 57, 2) := by decide +kernel
theorem dX5_isDigit_9 : decode cX5_isDigit 9 = .ok (.if_icmp .gt 7, 3) := by decide +kernel
theorem dX5_isDigit_12 : decode cX5_isDigit 12 = .ok (.iconst 1, 1) := by decide +kernel
theorem dX5_isDigit_13 : decode cX5_isDigit 13 = .ok (.goto 4, 3) := by decide +kernel
theorem dX5_isDigit_16 : decode cX5_isDigit 16 = .ok (.iconst 0, 1) := by decide +kernel
theorem dX5_isDigit_17 : decode cX5_isDigit 17 = .ok (.ireturn, 1) := by decide +kernel
theorem dX5_kindOf_0 : decode cX5_kindOf 0 = .ok (.iload_n 1, 1) := by decide +kernel
theorem dX5_kindOf_1 : decode cX5_kindOf 1 = .ok (.lookupswitch 41 #[(40, 35), (41, 37), (46, 39)], 35) := by decide +kernel
theorem dX5_kindOf_36 : decode cX5_kindOf 36 = .ok (.iconst 2, 1) := by decide +kernel
theorem dX5_kindOf_37 : decode cX5_kindOf 37 = .ok (.ireturn, 1) := by decide +kernel
theorem dX5_kindOf_38 : decode cX5_kindOf 38 = .ok (.iconst 3, 1) := by decide +kernel
theorem dX5_kindOf_39 : decode cX5_kindOf 39 = .ok (.ireturn, 1) := by decide +kernel
theorem dX5_kindOf_40 : decode cX5_kindOf 40 = .ok (.iconst 4, 1) := by decide +kernel
theorem dX5_kindOf_41 : decode cX5_kindOf 41 = .ok (.ireturn, 1) := by decide +kernel
theorem dX5_kindOf_42 : decode cX5_kindOf 42 = .ok (.bipush 6, 2) := by decide +kernel
theorem dX5_kindOf_44 : decode cX5_kindOf 44 = .ok (.ireturn, 1) := by decide +kernel
theorem dX6_init_0 : decode cX6_init 0 = .ok (.aload_n 0, 1) := by decide +kernel
theorem dX6_init_1 : decode cX6_init 1 = .ok (.invokespecial 3, 3) := by decide +kernel
theorem dX6_init_4 : decode cX6_init 4 = .ok (.aload_n 0, 1) := by decide +kernel
theorem dX6_init_5 : decode cX6_init 5 = .ok (.new 9, 3) := by decide +kernel
theorem dX6_init_8 : decode cX6_init 8 = .ok (.dup, 1) := by decide +kernel
theorem dX6_init_9 : decode cX6_init 9 = .ok (.invokespecial 11, 3) := by decide +kernel
theorem dX6_init_12 : decode cX6_init 12 = .ok (.putfield 12, 3) := by decide +kernel
theorem dX6_init_15 : decode cX6_init 15 = .ok (.aload_n 0, 1) := by decide +kernel
theorem dX6_init_16 : decode cX6_init 16 = .ok (.iconst 4, 1) := by decide +kernel
theorem dX6_init_17 : decode cX6_init 17 = .ok (.newarray .int, 2) := by decide +kernel
theorem dX6_init_19 : decode cX6_init 19 = .ok (.putfield 18, 3) := by decide +kernel
theorem dX6_init_22 : decode cX6_init 22 = .ok (.aload_n 0, 1) := by decide +kernel
theorem dX6_init_23 : decode cX6_init 23 = .ok (.iconst 4, 1) := by decide +kernel
theorem dX6_init_24 : decode cX6_init 24 = .ok (.newarray .int, 2) := by decide +kernel
theorem dX6_init_26 : decode cX6_init 26 = .ok (.putfield 22, 3) := by decide +kernel
theorem dX6_init_29 : decode cX6_init 29 = .ok (.return_, 1) := by decide +kernel
theorem dX6_tell_0 : decode cX6_tell 0 = .ok (.aload_n 0, 1) := by decide +kernel
theorem dX6_tell_1 : decode cX6_tell 1 = .ok (.invokevirtual 25, 3) := by decide +kernel
theorem dX6_tell_4 : decode cX6_tell 4 = .ok (.aload_n 1, 1) := by decide +kernel
theorem dX6_tell_5 : decode cX6_tell 5 = .ok (.invokevirtual 28, 3) := by decide +kernel
theorem dX6_tell_8 : decode cX6_tell 8 = .ok (.iconst 0, 1) := by decide +kernel
theorem dX6_tell_9 : decode cX6_tell 9 = .ok (.istore 4, 2) := by decide +kernel
theorem dX6_tell_11 : decode cX6_tell 11 = .ok (.iload 4, 2) := by decide +kernel
theorem dX6_tell_13 : decode cX6_tell 13 = .ok (.sipush 160, 3) := by decide +kernel
theorem dX6_tell_16 : decode cX6_tell 16 = .ok (.if_icmp .gt 50, 3) := by decide +kernel
theorem dX6_tell_19 : decode cX6_tell 19 = .ok (.aload_n 1, 1) := by decide +kernel
theorem dX6_tell_20 : decode cX6_tell 20 = .ok (.invokevirtual 33, 3) := by decide +kernel
theorem dX6_tell_23 : decode cX6_tell 23 = .ok (.aload_n 0, 1) := by decide +kernel
theorem dX6_tell_24 : decode cX6_tell 24 = .ok (.aload_n 0, 1) := by decide +kernel
theorem dX6_tell_25 : decode cX6_tell 25 = .ok (.aload_n 1, 1) := by decide +kernel
theorem dX6_tell_26 : decode cX6_tell 26 = .ok (.aload_n 2, 1) := by decide +kernel
theorem dX6_tell_27 : decode cX6_tell 27 = .ok (.iload_n 3, 1) := by decide +kernel
theorem dX6_tell_28 : decode cX6_tell 28 = .ok (.invokevirtual 36, 3) := by decide +kernel
theorem dX6_tell_31 : decode cX6_tell 31 = .ok (.putfield 40, 3) := by decide +kernel
theorem dX6_tell_34 : decode cX6_tell 34 = .ok (.aload_n 0, 1) := by decide +kernel
theorem dX6_tell_35 : decode cX6_tell 35 = .ok (.aload_n 1, 1) := by decide +kernel
theorem dX6_tell_36 : decode cX6_tell 36 = .ok (.getfield 44, 3) := by decide +kernel
theorem dX6_tell_39 : decode cX6_tell 39 = .ok (.putfield 47, 3) := by decide +kernel
theorem dX6_tell_42 : decode cX6_tell 42 = .ok (.aload_n 0, 1) := by decide +kernel
theorem dX6_tell_43 : decode cX6_tell 43 = .ok (.getfield 40, 3) := by decide +kernel
theorem dX6_tell_46 : decode cX6_tell 46 = .ok (.ifCond .ne 20, 3) := by decide +kernel
theorem dX6_tell_49 : decode cX6_tell 49 = .ok (.aload_n 1, 1) := by decide +kernel
theorem dX6_tell_50 : decode cX6_tell 50 = .ok (.getfield 50, 3) := by decide +kernel
theorem dX6_tell_53 : decode cX6_tell 53 = .ok (.iconst 5, 1) := by decide +kernel
theorem dX6_tell_54 : decode cX6_tell 54 = .ok (.if_icmp .ne 6, 3) := by decide +kernel
theorem dX6_tell_57 : decode cX6_tell 57 = .ok (.goto 9, 3) := by decide +kernel
theorem dX6_tell_60 : decode cX6_tell 60 = .ok (.iinc 4 1, 3) := by decide +kernel
theorem dX6_tell_63 : decode cX6_tell 63 = .ok (.goto (-52), 3) := by decide +kernel
theorem dX6_tell_66 : decode cX6_tell 66 = .ok (.aload_n 0, 1) := by decide +kernel
theorem dX6_tell_67 : decode cX6_tell 67 = .ok (.getfield 40, 3) := by decide +kernel
theorem dX6_tell_70 : decode cX6_tell 70 = .ok (.ifCond .ne 20, 3) := by decide +kernel
theorem dX6_tell_73 : decode cX6_tell 73 = .ok (.aload_n 0, 1) := by decide +kernel
theorem dX6_tell_74 : decode cX6_tell 74 = .ok (.getfield 53, 3) := by decide +kernel
theorem dX6_tell_77 : decode cX6_tell 77 = .ok (.ifCond .eq 13, 3) := by decide +kernel
theorem dX6_tell_80 : decode cX6_tell 80 = .ok (.aload_n 0, 1) := by decide +kernel
theorem dX6_tell_81 : decode cX6_tell 81 = .ok (.iconst 5, 1) := by decide +kernel
theorem dX6_tell_82 : decode cX6_tell 82 = .ok (.putfield 40, 3) := by decide +kernel
theorem dX6_tell_85 : decode cX6_tell 85 = .ok (.aload_n 0, 1) := by decide +kernel
theorem dX6_tell_86 : decode cX6_tell 86 = .ok (.iconst 0, 1) := by decide +kernel
theorem dX6_tell_87 : decode cX6_tell 87 = .ok (.putfield 47, 3) := by decide +kernel
theorem dX6_tell_90 : decode cX6_tell 90 = .ok (.return_, 1) := by decide +kernel
theorem dX6_begin_0 : decode cX6_begin 0 = .ok (.aload_n 0, 1) := by decide +kernel
theorem dX6_begin_1 : decode cX6_begin 1 = .ok (.getfield 12, 3) := by decide +kernel
theorem dX6_begin_4 : decode cX6_begin 4 = .ok (.iconst 0, 1) := by decide +kernel
theorem dX6_begin_5 : decode cX6_begin 5 = .ok (.putfield 57, 3) := by decide +kernel
theorem dX6_begin_8 : decode cX6_begin 8 = .ok (.aload_n 0, 1) := by decide +kernel
theorem dX6_begin_9 : decode cX6_begin 9 = .ok (.iconst 0, 1) := by decide +kernel
theorem dX6_begin_10 : decode cX6_begin 10 = .ok (.putfield 60, 3) := by decide +kernel
theorem dX6_begin_13 : decode cX6_begin 13 = .ok (.aload_n 0, 1) := by decide +kernel
theorem dX6_begin_14 : decode cX6_begin 14 = .ok (.iconst 0, 1) := by decide +kernel
theorem dX6_begin_15 : decode cX6_begin 15 = .ok (.putfield 63, 3) := by decide +kernel
theorem dX6_begin_18 : decode cX6_begin 18 = .ok (.aload_n 0, 1) := by decide +kernel
theorem dX6_begin_19 : decode cX6_begin 19 = .ok (.iconst 1, 1) := by decide +kernel
theorem dX6_begin_20 : decode cX6_begin 20 = .ok (.putfield 66, 3) := by decide +kernel
theorem dX6_begin_23 : decode cX6_begin 23 = .ok (.aload_n 0, 1) := by decide +kernel
theorem dX6_begin_24 : decode cX6_begin 24 = .ok (.iconst 0, 1) := by decide +kernel
theorem dX6_begin_25 : decode cX6_begin 25 = .ok (.putfield 53, 3) := by decide +kernel
theorem dX6_begin_28 : decode cX6_begin 28 = .ok (.aload_n 0, 1) := by decide +kernel
theorem dX6_begin_29 : decode cX6_begin 29 = .ok (.iconst 0, 1) := by decide +kernel
theorem dX6_begin_30 : decode cX6_begin 30 = .ok (.putfield 40, 3) := by decide +kernel
theorem dX6_begin_33 : decode cX6_begin 33 = .ok (.aload_n 0, 1) := by decide +kernel
theorem dX6_begin_34 : decode cX6_begin 34 = .ok (.iconst 0, 1) := by decide +kernel
theorem dX6_begin_35 : decode cX6_begin 35 = .ok (.putfield 47, 3) := by decide +kernel
theorem dX6_begin_38 : decode cX6_begin 38 = .ok (.return_, 1) := by decide +kernel
theorem dX6_taken_0 : decode cX6_taken 0 = .ok (.aload_n 1, 1) := by decide +kernel
theorem dX6_taken_1 : decode cX6_taken 1 = .ok (.getfield 50, 3) := by decide +kernel
theorem dX6_taken_4 : decode cX6_taken 4 = .ok (.bipush 6, 2) := by decide +kernel
theorem dX6_taken_6 : decode cX6_taken 6 = .ok (.if_icmp .ne 5, 3) := by decide +kernel
theorem dX6_taken_9 : decode cX6_taken 9 = .ok (.iconst 1, 1) := by decide +kernel
theorem dX6_taken_10 : decode cX6_taken 10 = .ok (.ireturn, 1) := by decide +kernel
theorem dX6_taken_11 : decode cX6_taken 11 = .ok (.aload_n 0, 1) := by decide +kernel
theorem dX6_taken_12 : decode cX6_taken 12 = .ok (.getfield 63, 3) := by decide +kernel
theorem dX6_taken_15 : decode cX6_taken 15 = .ok (.lookupswitch 39 #[(1, 25), (2, 33)], 25) := by decide +kernel
theorem dX6_taken_40 : decode cX6_taken 40 = .ok (.aload_n 0, 1) := by decide +kernel
theorem dX6_taken_41 : decode cX6_taken 41 = .ok (.aload_n 1, 1) := by decide +kernel
theorem dX6_taken_42 : decode cX6_taken 42 = .ok (.aload_n 2, 1) := by decide +kernel
theorem dX6_taken_43 : decode cX6_taken 43 = .ok (.iload_n 3, 1) := by decide +kernel
theorem dX6_taken_44 : decode cX6_taken 44 = .ok (.invokevirtual 69, 3) := by decide +kernel
theorem dX6_taken_47 : decode cX6_taken 47 = .ok (.ireturn, 1) := by decide +kernel
theorem dX6_taken_48 : decode cX6_taken 48 = .ok (.aload_n 0, 1) := by decide +kernel
theorem dX6_taken_49 : decode cX6_taken 49 = .ok (.aload_n 1, 1) := by decide +kernel
theorem dX6_taken_50 : decode cX6_taken 50 = .ok (.invokevirtual 72, 3) := by decide +kernel
theorem dX6_taken_53 : decode cX6_taken 53 = .ok (.ireturn, 1) := by decide +kernel
theorem dX6_taken_54 : decode cX6_taken 54 = .ok (.aload_n 0, 1) := by decide +kernel
theorem dX6_taken_55 : decode cX6_taken 55 = .ok (.aload_n 1, 1) := by decide +kernel
theorem dX6_taken_56 : decode cX6_taken 56 = .ok (.invokevirtual 76, 3) := by decide +kernel
theorem dX6_taken_59 : decode cX6_taken 59 = .ok (.ireturn, 1) := by decide +kernel
theorem dX6_takenItem_0 : decode cX6_takenItem 0 = .ok (.aload_n 1, 1) := by decide +kernel
theorem dX6_takenItem_1 : decode cX6_takenItem 1 = .ok (.getfield 50, 3) := by decide +kernel
theorem dX6_takenItem_4 : decode cX6_takenItem 4 = .ok (.tableswitch 143 0 5 #[40, 55, 143, 100, 91, 123], 40) := by decide +kernel
theorem dX6_takenItem_44 : decode cX6_takenItem 44 = .ok (.aload_n 0, 1) := by decide +kernel
theorem dX6_takenItem_45 : decode cX6_takenItem 45 = .ok (.aload_n 1, 1) := by decide +kernel
theorem dX6_takenItem_46 : decode cX6_takenItem 46 = .ok (.getfield 79, 3) := by decide +kernel
theorem dX6_takenItem_49 : decode cX6_takenItem 49 = .ok (.putfield 82, 3) := by decide +kernel
theorem dX6_takenItem_52 : decode cX6_takenItem 52 = .ok (.aload_n 0, 1) := by decide +kernel
theorem dX6_takenItem_53 : decode cX6_takenItem 53 = .ok (.iconst 1, 1) := by decide +kernel
theorem dX6_takenItem_54 : decode cX6_takenItem 54 = .ok (.putfield 63, 3) := by decide +kernel
theorem dX6_takenItem_57 : decode cX6_takenItem 57 = .ok (.iconst 0, 1) := by decide +kernel
theorem dX6_takenItem_58 : decode cX6_takenItem 58 = .ok (.ireturn, 1) := by decide +kernel
theorem dX6_takenItem_59 : decode cX6_takenItem 59 = .ok (.aload_n 0, 1) := by decide +kernel
theorem dX6_takenItem_60 : decode cX6_takenItem 60 = .ok (.aload_n 1, 1) := by decide +kernel
theorem dX6_takenItem_61 : decode cX6_takenItem 61 = .ok (.getfield 79, 3) := by decide +kernel
theorem dX6_takenItem_64 : decode cX6_takenItem 64 = .ok (.putfield 85, 3) := by decide +kernel
theorem dX6_takenItem_67 : decode cX6_takenItem 67 = .ok (.aload_n 0, 1) := by decide +kernel
theorem dX6_takenItem_68 : decode cX6_takenItem 68 = .ok (.iconst 2, 1) := by decide +kernel
theorem dX6_takenItem_69 : decode cX6_takenItem 69 = .ok (.putfield 63, 3) := by decide +kernel
theorem dX6_takenItem_72 : decode cX6_takenItem 72 = .ok (.aload_n 0, 1) := by decide +kernel
theorem dX6_takenItem_73 : decode cX6_takenItem 73 = .ok (.getfield 85, 3) := by decide +kernel
theorem dX6_takenItem_76 : decode cX6_takenItem 76 = .ok (.iconst 1, 1) := by decide +kernel
theorem dX6_takenItem_77 : decode cX6_takenItem 77 = .ok (.if_icmp .lt 12, 3) := by decide +kernel
theorem dX6_takenItem_80 : decode cX6_takenItem 80 = .ok (.aload_n 0, 1) := by decide +kernel
theorem dX6_takenItem_81 : decode cX6_takenItem 81 = .ok (.getfield 85, 3) := by decide +kernel
theorem dX6_takenItem_84 : decode cX6_takenItem 84 = .ok (.bipush 20, 2) := by decide +kernel
theorem dX6_takenItem_86 : decode cX6_takenItem 86 = .ok (.if_icmp .le 7, 3) := by decide +kernel
theorem dX6_takenItem_89 : decode cX6_takenItem 89 = .ok (.iconst 3, 1) := by decide +kernel
theorem dX6_takenItem_90 : decode cX6_takenItem 90 = .ok (.goto 4, 3) := by decide +kernel
theorem dX6_takenItem_93 : decode cX6_takenItem 93 = .ok (.iconst 0, 1) := by decide +kernel
theorem dX6_takenItem_94 : decode cX6_takenItem 94 = .ok (.ireturn, 1) := by decide +kernel
theorem dX6_takenItem_95 : decode cX6_takenItem 95 = .ok (.aload_n 0, 1) := by decide +kernel
theorem dX6_takenItem_96 : decode cX6_takenItem 96 = .ok (.bipush 6, 2) := by decide +kernel
theorem dX6_takenItem_98 : decode cX6_takenItem 98 = .ok (.iconst 0, 1) := by decide +kernel
theorem dX6_takenItem_99 : decode cX6_takenItem 99 = .ok (.invokevirtual 88, 3) := by decide +kernel
theorem dX6_takenItem_102 : decode cX6_takenItem 102 = .ok (.iconst 0, 1) := by decide +kernel
theorem dX6_takenItem_103 : decode cX6_takenItem 103 = .ok (.ireturn, 1) := by decide +kernel
theorem dX6_takenItem_104 : decode cX6_takenItem 104 = .ok (.aload_n 0, 1) := by decide +kernel
theorem dX6_takenItem_105 : decode cX6_takenItem 105 = .ok (.getfield 66, 3) := by decide +kernel
theorem dX6_takenItem_108 : decode cX6_takenItem 108 = .ok (.ifCond .ne 10, 3) := by decide +kernel
theorem dX6_takenItem_111 : decode cX6_takenItem 111 = .ok (.aload_n 0, 1) := by decide +kernel
theorem dX6_takenItem_112 : decode cX6_takenItem 112 = .ok (.getfield 60, 3) := by decide +kernel
theorem dX6_takenItem_115 : decode cX6_takenItem 115 = .ok (.ifCond .gt 7, 3) := by decide +kernel
theorem dX6_takenItem_118 : decode cX6_takenItem 118 = .ok (.iconst 2, 1) := by decide +kernel
theorem dX6_takenItem_119 : decode cX6_takenItem 119 = .ok (.goto 7, 3) := by decide +kernel
theorem dX6_takenItem_122 : decode cX6_takenItem 122 = .ok (.aload_n 0, 1) := by decide +kernel
theorem dX6_takenItem_123 : decode cX6_takenItem 123 = .ok (.invokevirtual 92, 3) := by decide +kernel
theorem dX6_takenItem_126 : decode cX6_takenItem 126 = .ok (.ireturn, 1) := by decide +kernel
theorem dX6_takenItem_127 : decode cX6_takenItem 127 = .ok (.aload_n 0, 1) := by decide +kernel
theorem dX6_takenItem_128 : decode cX6_takenItem 128 = .ok (.getfield 66, 3) := by decide +kernel
theorem dX6_takenItem_131 : decode cX6_takenItem 131 = .ok (.ifCond .ne 10, 3) := by decide +kernel
theorem dX6_takenItem_134 : decode cX6_takenItem 134 = .ok (.aload_n 0, 1) := by decide +kernel
theorem dX6_takenItem_135 : decode cX6_takenItem 135 = .ok (.getfield 60, 3) := by decide +kernel
theorem dX6_takenItem_138 : decode cX6_takenItem 138 = .ok (.ifCond .le 7, 3) := by decide +kernel
theorem dX6_takenItem_141 : decode cX6_takenItem 141 = .ok (.iconst 2, 1) := by decide +kernel
theorem dX6_takenItem_142 : decode cX6_takenItem 142 = .ok (.goto 4, 3) := by decide +kernel
theorem dX6_takenItem_145 : decode cX6_takenItem 145 = .ok (.iconst 0, 1) := by decide +kernel
theorem dX6_takenItem_146 : decode cX6_takenItem 146 = .ok (.ireturn, 1) := by decide +kernel
theorem dX6_takenItem_147 : decode cX6_takenItem 147 = .ok (.iconst 2, 1) := by decide +kernel
theorem dX6_takenItem_148 : decode cX6_takenItem 148 = .ok (.ireturn, 1) := by decide +kernel
theorem dX6_takenNumber_0 : decode cX6_takenNumber 0 = .ok (.aload_n 1, 1) := by decide +kernel
theorem dX6_takenNumber_1 : decode cX6_takenNumber 1 = .ok (.getfield 50, 3) := by decide +kernel
theorem dX6_takenNumber_4 : decode cX6_takenNumber 4 = .ok (.iconst 1, 1) := by decide +kernel
theorem dX6_takenNumber_5 : decode cX6_takenNumber 5 = .ok (.if_icmp .eq 5, 3) := by decide +kernel
theorem dX6_takenNumber_8 : decode cX6_takenNumber 8 = .ok (.iconst 2, 1) := by decide +kernel
theorem dX6_takenNumber_9 : decode cX6_takenNumber 9 = .ok (.ireturn, 1) := by decide +kernel
theorem dX6_takenNumber_10 : decode cX6_takenNumber 10 = .ok (.aload_n 1, 1) := by decide +kernel
theorem dX6_takenNumber_11 : decode cX6_takenNumber 11 = .ok (.getfield 79, 3) := by decide +kernel
theorem dX6_takenNumber_14 : decode cX6_takenNumber 14 = .ok (.istore 4, 2) := by decide +kernel
theorem dX6_takenNumber_16 : decode cX6_takenNumber 16 = .ok (.iload 4, 2) := by decide +kernel
theorem dX6_takenNumber_18 : decode cX6_takenNumber 18 = .ok (.ifCond .lt 28, 3) := by decide +kernel
theorem dX6_takenNumber_21 : decode cX6_takenNumber 21 = .ok (.iload 4, 2) := by decide +kernel
theorem dX6_takenNumber_23 : decode cX6_takenNumber 23 = .ok (.aload_n 0, 1) := by decide +kernel
theorem dX6_takenNumber_24 : decode cX6_takenNumber 24 = .ok (.getfield 82, 3) := by decide +kernel
theorem dX6_takenNumber_27 : decode cX6_takenNumber 27 = .ok (.bipush 6, 2) := by decide +kernel
theorem dX6_takenNumber_29 : decode cX6_takenNumber 29 = .ok (.if_icmp .ne 12, 3) := by decide +kernel
theorem dX6_takenNumber_32 : decode cX6_takenNumber 32 = .ok (.iload_n 3, 1) := by decide +kernel
theorem dX6_takenNumber_33 : decode cX6_takenNumber 33 = .ok (.aload_n 2, 1) := by decide +kernel
theorem dX6_takenNumber_34 : decode cX6_takenNumber 34 = .ok (.arraylength, 1) := by decide +kernel
theorem dX6_takenNumber_35 : decode cX6_takenNumber 35 = .ok (.invokestatic 96, 3) := by decide +kernel
theorem dX6_takenNumber_38 : decode cX6_takenNumber 38 = .ok (.goto 5, 3) := by decide +kernel
theorem dX6_takenNumber_41 : decode cX6_takenNumber 41 = .ok (.bipush 8, 2) := by decide +kernel
theorem dX6_takenNumber_43 : decode cX6_takenNumber 43 = .ok (.if_icmp .lt 5, 3) := by decide +kernel
theorem dX6_takenNumber_46 : decode cX6_takenNumber 46 = .ok (.iconst 3, 1) := by decide +kernel
theorem dX6_takenNumber_47 : decode cX6_takenNumber 47 = .ok (.ireturn, 1) := by decide +kernel
theorem dX6_takenNumber_48 : decode cX6_takenNumber 48 = .ok (.aload_n 0, 1) := by decide +kernel
theorem dX6_takenNumber_49 : decode cX6_takenNumber 49 = .ok (.iconst 0, 1) := by decide +kernel
theorem dX6_takenNumber_50 : decode cX6_takenNumber 50 = .ok (.putfield 63, 3) := by decide +kernel
theorem dX6_takenNumber_53 : decode cX6_takenNumber 53 = .ok (.aload_n 0, 1) := by decide +kernel
theorem dX6_takenNumber_54 : decode cX6_takenNumber 54 = .ok (.getfield 82, 3) := by decide +kernel
theorem dX6_takenNumber_57 : decode cX6_takenNumber 57 = .ok (.bipush 6, 2) := by decide +kernel
theorem dX6_takenNumber_59 : decode cX6_takenNumber 59 = .ok (.if_icmp .ne 22, 3) := by decide +kernel
theorem dX6_takenNumber_62 : decode cX6_takenNumber 62 = .ok (.aload_n 0, 1) := by decide +kernel
theorem dX6_takenNumber_63 : decode cX6_takenNumber 63 = .ok (.aload_n 2, 1) := by decide +kernel
theorem dX6_takenNumber_64 : decode cX6_takenNumber 64 = .ok (.iload 4, 2) := by decide +kernel
theorem dX6_takenNumber_66 : decode cX6_takenNumber 66 = .ok (.aaload, 1) := by decide +kernel
theorem dX6_takenNumber_67 : decode cX6_takenNumber 67 = .ok (.iconst 0, 1) := by decide +kernel
theorem dX6_takenNumber_68 : decode cX6_takenNumber 68 = .ok (.aload_n 2, 1) := by decide +kernel
theorem dX6_takenNumber_69 : decode cX6_takenNumber 69 = .ok (.iload 4, 2) := by decide +kernel
theorem dX6_takenNumber_71 : decode cX6_takenNumber 71 = .ok (.aaload, 1) := by decide +kernel
theorem dX6_takenNumber_72 : decode cX6_takenNumber 72 = .ok (.getfield 57, 3) := by decide +kernel
theorem dX6_takenNumber_75 : decode cX6_takenNumber 75 = .ok (.invokevirtual 102, 3) := by decide +kernel
theorem dX6_takenNumber_78 : decode cX6_takenNumber 78 = .ok (.goto 13, 3) := by decide +kernel
theorem dX6_takenNumber_81 : decode cX6_takenNumber 81 = .ok (.aload_n 0, 1) := by decide +kernel
theorem dX6_takenNumber_82 : decode cX6_takenNumber 82 = .ok (.aload_n 0, 1) := by decide +kernel
theorem dX6_takenNumber_83 : decode cX6_takenNumber 83 = .ok (.getfield 82, 3) := by decide +kernel
theorem dX6_takenNumber_86 : decode cX6_takenNumber 86 = .ok (.iload 4, 2) := by decide +kernel
theorem dX6_takenNumber_88 : decode cX6_takenNumber 88 = .ok (.invokevirtual 88, 3) := by decide +kernel
theorem dX6_takenNumber_91 : decode cX6_takenNumber 91 = .ok (.iconst 0, 1) := by decide +kernel
theorem dX6_takenNumber_92 : decode cX6_takenNumber 92 = .ok (.ireturn, 1) := by decide +kernel
theorem dX6_takenOpen_0 : decode cX6_takenOpen 0 = .ok (.aload_n 1, 1) := by decide +kernel
theorem dX6_takenOpen_1 : decode cX6_takenOpen 1 = .ok (.getfield 50, 3) := by decide +kernel
theorem dX6_takenOpen_4 : decode cX6_takenOpen 4 = .ok (.iconst 2, 1) := by decide +kernel
theorem dX6_takenOpen_5 : decode cX6_takenOpen 5 = .ok (.if_icmp .eq 5, 3) := by decide +kernel
theorem dX6_takenOpen_8 : decode cX6_takenOpen 8 = .ok (.iconst 2, 1) := by decide +kernel
theorem dX6_takenOpen_9 : decode cX6_takenOpen 9 = .ok (.ireturn, 1) := by decide +kernel
theorem dX6_takenOpen_10 : decode cX6_takenOpen 10 = .ok (.aload_n 0, 1) := by decide +kernel
theorem dX6_takenOpen_11 : decode cX6_takenOpen 11 = .ok (.getfield 60, 3) := by decide +kernel
theorem dX6_takenOpen_14 : decode cX6_takenOpen 14 = .ok (.ifCond .lt 27, 3) := by decide +kernel
theorem dX6_takenOpen_17 : decode cX6_takenOpen 17 = .ok (.aload_n 0, 1) := by decide +kernel
theorem dX6_takenOpen_18 : decode cX6_takenOpen 18 = .ok (.getfield 60, 3) := by decide +kernel
theorem dX6_takenOpen_21 : decode cX6_takenOpen 21 = .ok (.aload_n 0, 1) := by decide +kernel
theorem dX6_takenOpen_22 : decode cX6_takenOpen 22 = .ok (.getfield 18, 3) := by decide +kernel
theorem dX6_takenOpen_25 : decode cX6_takenOpen 25 = .ok (.arraylength, 1) := by decide +kernel
theorem dX6_takenOpen_26 : decode cX6_takenOpen 26 = .ok (.if_icmp .ge 15, 3) := by decide +kernel
theorem dX6_takenOpen_29 : decode cX6_takenOpen 29 = .ok (.aload_n 0, 1) := by decide +kernel
theorem dX6_takenOpen_30 : decode cX6_takenOpen 30 = .ok (.getfield 60, 3) := by decide +kernel
theorem dX6_takenOpen_33 : decode cX6_takenOpen 33 = .ok (.aload_n 0, 1) := by decide +kernel
theorem dX6_takenOpen_34 : decode cX6_takenOpen 34 = .ok (.getfield 22, 3) := by decide +kernel
theorem dX6_takenOpen_37 : decode cX6_takenOpen 37 = .ok (.arraylength, 1) := by decide +kernel
theorem dX6_takenOpen_38 : decode cX6_takenOpen 38 = .ok (.if_icmp .lt 5, 3) := by decide +kernel
theorem dX6_takenOpen_41 : decode cX6_takenOpen 41 = .ok (.iconst 4, 1) := by decide +kernel
theorem dX6_takenOpen_42 : decode cX6_takenOpen 42 = .ok (.ireturn, 1) := by decide +kernel
theorem dX6_takenOpen_43 : decode cX6_takenOpen 43 = .ok (.aload_n 0, 1) := by decide +kernel
theorem dX6_takenOpen_44 : decode cX6_takenOpen 44 = .ok (.getfield 18, 3) := by decide +kernel
theorem dX6_takenOpen_47 : decode cX6_takenOpen 47 = .ok (.aload_n 0, 1) := by decide +kernel
theorem dX6_takenOpen_48 : decode cX6_takenOpen 48 = .ok (.getfield 60, 3) := by decide +kernel
theorem dX6_takenOpen_51 : decode cX6_takenOpen 51 = .ok (.aload_n 0, 1) := by decide +kernel
theorem dX6_takenOpen_52 : decode cX6_takenOpen 52 = .ok (.getfield 12, 3) := by decide +kernel
theorem dX6_takenOpen_55 : decode cX6_takenOpen 55 = .ok (.getfield 57, 3) := by decide +kernel
theorem dX6_takenOpen_58 : decode cX6_takenOpen 58 = .ok (.iastore, 1) := by decide +kernel
theorem dX6_takenOpen_59 : decode cX6_takenOpen 59 = .ok (.aload_n 0, 1) := by decide +kernel
theorem dX6_takenOpen_60 : decode cX6_takenOpen 60 = .ok (.getfield 22, 3) := by decide +kernel
theorem dX6_takenOpen_63 : decode cX6_takenOpen 63 = .ok (.aload_n 0, 1) := by decide +kernel
theorem dX6_takenOpen_64 : decode cX6_takenOpen 64 = .ok (.getfield 60, 3) := by decide +kernel
theorem dX6_takenOpen_67 : decode cX6_takenOpen 67 = .ok (.aload_n 0, 1) := by decide +kernel
theorem dX6_takenOpen_68 : decode cX6_takenOpen 68 = .ok (.getfield 85, 3) := by decide +kernel
theorem dX6_takenOpen_71 : decode cX6_takenOpen 71 = .ok (.iastore, 1) := by decide +kernel
theorem dX6_takenOpen_72 : decode cX6_takenOpen 72 = .ok (.aload_n 0, 1) := by decide +kernel
theorem dX6_takenOpen_73 : decode cX6_takenOpen 73 = .ok (.dup, 1) := by decide +kernel
theorem dX6_takenOpen_74 : decode cX6_takenOpen 74 = .ok (.getfield 60, 3) := by decide +kernel
theorem dX6_takenOpen_77 : decode cX6_takenOpen 77 = .ok (.iconst 1, 1) := by decide +kernel
theorem dX6_takenOpen_78 : decode cX6_takenOpen 78 = .ok (.iadd, 1) := by decide +kernel
theorem dX6_takenOpen_79 : decode cX6_takenOpen 79 = .ok (.putfield 60, 3) := by decide +kernel
theorem dX6_takenOpen_82 : decode cX6_takenOpen 82 = .ok (.aload_n 0, 1) := by decide +kernel
theorem dX6_takenOpen_83 : decode cX6_takenOpen 83 = .ok (.iconst 1, 1) := by decide +kernel
theorem dX6_takenOpen_84 : decode cX6_takenOpen 84 = .ok (.putfield 66, 3) := by decide +kernel
theorem dX6_takenOpen_87 : decode cX6_takenOpen 87 = .ok (.aload_n 0, 1) := by decide +kernel
theorem dX6_takenOpen_88 : decode cX6_takenOpen 88 = .ok (.iconst 0, 1) := by decide +kernel
theorem dX6_takenOpen_89 : decode cX6_takenOpen 89 = .ok (.putfield 63, 3) := by decide +kernel
theorem dX6_takenOpen_92 : decode cX6_takenOpen 92 = .ok (.iconst 0, 1) := by decide +kernel
theorem dX6_takenOpen_93 : decode cX6_takenOpen 93 = .ok (.ireturn, 1) := by decide +kernel
theorem dX6_closed_0 : decode cX6_closed 0 = .ok (.aload_n 0, 1) := by decide +kernel
theorem dX6_closed_1 : decode cX6_closed 1 = .ok (.dup, 1) := by decide +kernel
theorem dX6_closed_2 : decode cX6_closed 2 = .ok (.getfield 60, 3) := by decide +kernel
theorem dX6_closed_5 : decode cX6_closed 5 = .ok (.iconst 1, 1) := by decide +kernel
theorem dX6_closed_6 : decode cX6_closed 6 = .ok (.isub, 1) := by decide +kernel
theorem dX6_closed_7 : decode cX6_closed 7 = .ok (.putfield 60, 3) := by decide +kernel
theorem dX6_closed_10 : decode cX6_closed 10 = .ok (.aload_n 0, 1) := by decide +kernel
theorem dX6_closed_11 : decode cX6_closed 11 = .ok (.getfield 60, 3) := by decide +kernel
theorem dX6_closed_14 : decode cX6_closed 14 = .ok (.ifCond .lt 83, 3) := by decide +kernel
theorem dX6_closed_17 : decode cX6_closed 17 = .ok (.aload_n 0, 1) := by decide +kernel
theorem dX6_closed_18 : decode cX6_closed 18 = .ok (.getfield 60, 3) := by decide +kernel
theorem dX6_closed_21 : decode cX6_closed 21 = .ok (.aload_n 0, 1) := by decide +kernel
theorem dX6_closed_22 : decode cX6_closed 22 = .ok (.getfield 18, 3) := by decide +kernel
theorem dX6_closed_25 : decode cX6_closed 25 = .ok (.arraylength, 1) := by decide +kernel
theorem dX6_closed_26 : decode cX6_closed 26 = .ok (.if_icmp .ge 71, 3) := by decide +kernel
theorem dX6_closed_29 : decode cX6_closed 29 = .ok (.aload_n 0, 1) := by decide +kernel
theorem dX6_closed_30 : decode cX6_closed 30 = .ok (.getfield 60, 3) := by decide +kernel
theorem dX6_closed_33 : decode cX6_closed 33 = .ok (.aload_n 0, 1) := by decide +kernel
theorem dX6_closed_34 : decode cX6_closed 34 = .ok (.getfield 22, 3) := by decide +kernel
theorem dX6_closed_37 : decode cX6_closed 37 = .ok (.arraylength, 1) := by decide +kernel
theorem dX6_closed_38 : decode cX6_closed 38 = .ok (.if_icmp .ge 59, 3) := by decide +kernel
theorem dX6_closed_41 : decode cX6_closed 41 = .ok (.aload_n 0, 1) := by decide +kernel
theorem dX6_closed_42 : decode cX6_closed 42 = .ok (.getfield 18, 3) := by decide +kernel
theorem dX6_closed_45 : decode cX6_closed 45 = .ok (.aload_n 0, 1) := by decide +kernel
theorem dX6_closed_46 : decode cX6_closed 46 = .ok (.getfield 60, 3) := by decide +kernel
theorem dX6_closed_49 : decode cX6_closed 49 = .ok (.iaload, 1) := by decide +kernel
theorem dX6_closed_50 : decode cX6_closed 50 = .ok (.istore_n 1, 1) := by decide +kernel
theorem dX6_closed_51 : decode cX6_closed 51 = .ok (.aload_n 0, 1) := by decide +kernel
theorem dX6_closed_52 : decode cX6_closed 52 = .ok (.getfield 12, 3) := by decide +kernel
theorem dX6_closed_55 : decode cX6_closed 55 = .ok (.getfield 57, 3) := by decide +kernel
theorem dX6_closed_58 : decode cX6_closed 58 = .ok (.istore_n 2, 1) := by decide +kernel
theorem dX6_closed_59 : decode cX6_closed 59 = .ok (.iconst 1, 1) := by decide +kernel
theorem dX6_closed_60 : decode cX6_closed 60 = .ok (.istore_n 3, 1) := by decide +kernel
theorem dX6_closed_61 : decode cX6_closed 61 = .ok (.iload_n 3, 1) := by decide +kernel
theorem dX6_closed_62 : decode cX6_closed 62 = .ok (.aload_n 0, 1) := by decide +kernel
theorem dX6_closed_63 : decode cX6_closed 63 = .ok (.getfield 22, 3) := by decide +kernel
theorem dX6_closed_66 : decode cX6_closed 66 = .ok (.aload_n 0, 1) := by decide +kernel
theorem dX6_closed_67 : decode cX6_closed 67 = .ok (.getfield 60, 3) := by decide +kernel
theorem dX6_closed_70 : decode cX6_closed 70 = .ok (.iaload, 1) := by decide +kernel
theorem dX6_closed_71 : decode cX6_closed 71 = .ok (.if_icmp .ge 26, 3) := by decide +kernel
theorem dX6_closed_74 : decode cX6_closed 74 = .ok (.aload_n 0, 1) := by decide +kernel
theorem dX6_closed_75 : decode cX6_closed 75 = .ok (.getfield 53, 3) := by decide +kernel
theorem dX6_closed_78 : decode cX6_closed 78 = .ok (.ifCond .ne 19, 3) := by decide +kernel
theorem dX6_closed_81 : decode cX6_closed 81 = .ok (.aload_n 0, 1) := by decide +kernel
theorem dX6_closed_82 : decode cX6_closed 82 = .ok (.aload_n 0, 1) := by decide +kernel
theorem dX6_closed_83 : decode cX6_closed 83 = .ok (.getfield 12, 3) := by decide +kernel
theorem dX6_closed_86 : decode cX6_closed 86 = .ok (.iload_n 1, 1) := by decide +kernel
theorem dX6_closed_87 : decode cX6_closed 87 = .ok (.iload_n 2, 1) := by decide +kernel
theorem dX6_closed_88 : decode cX6_closed 88 = .ok (.invokevirtual 102, 3) := by decide +kernel
theorem dX6_closed_91 : decode cX6_closed 91 = .ok (.iinc 3 1, 3) := by decide +kernel
theorem dX6_closed_94 : decode cX6_closed 94 = .ok (.goto (-33), 3) := by decide +kernel
theorem dX6_closed_97 : decode cX6_closed 97 = .ok (.iconst 0, 1) := by decide +kernel
theorem dX6_closed_98 : decode cX6_closed 98 = .ok (.ireturn, 1) := by decide +kernel
theorem dX6_writeOut_0 : decode cX6_writeOut 0 = .ok (.iload_n 2, 1) := by decide +kernel
theorem dX6_writeOut_1 : decode cX6_writeOut 1 = .ok (.istore 4, 2) := by decide +kernel
theorem dX6_writeOut_3 : decode cX6_writeOut 3 = .ok (.iload 4, 2) := by decide +kernel
theorem dX6_writeOut_5 : decode cX6_writeOut 5 = .ok (.iload_n 3, 1) := by decide +kernel
theorem dX6_writeOut_6 : decode cX6_writeOut 6 = .ok (.if_icmp .ge 41, 3) := by decide +kernel
theorem dX6_writeOut_9 : decode cX6_writeOut 9 = .ok (.aload_n 0, 1) := by decide +kernel
theorem dX6_writeOut_10 : decode cX6_writeOut 10 = .ok (.getfield 53, 3) := by decide +kernel
theorem dX6_writeOut_13 : decode cX6_writeOut 13 = .ok (.ifCond .ne 34, 3) := by decide +kernel
theorem dX6_writeOut_16 : decode cX6_writeOut 16 = .ok (.aload_n 0, 1) := by decide +kernel
theorem dX6_writeOut_17 : decode cX6_writeOut 17 = .ok (.aload_n 0, 1) := by decide +kernel
theorem dX6_writeOut_18 : decode cX6_writeOut 18 = .ok (.getfield 12, 3) := by decide +kernel
theorem dX6_writeOut_21 : decode cX6_writeOut 21 = .ok (.aload_n 1, 1) := by decide +kernel
theorem dX6_writeOut_22 : decode cX6_writeOut 22 = .ok (.iload 4, 2) := by decide +kernel
theorem dX6_writeOut_24 : decode cX6_writeOut 24 = .ok (.invokevirtual 106, 3) := by decide +kernel
theorem dX6_writeOut_27 : decode cX6_writeOut 27 = .ok (.invokevirtual 110, 3) := by decide +kernel
theorem dX6_writeOut_30 : decode cX6_writeOut 30 = .ok (.ifCond .ne 7, 3) := by decide +kernel
theorem dX6_writeOut_33 : decode cX6_writeOut 33 = .ok (.iconst 1, 1) := by decide +kernel
theorem dX6_writeOut_34 : decode cX6_writeOut 34 = .ok (.goto 4, 3) := by decide +kernel
theorem dX6_writeOut_37 : decode cX6_writeOut 37 = .ok (.iconst 0, 1) := by decide +kernel
theorem dX6_writeOut_38 : decode cX6_writeOut 38 = .ok (.putfield 53, 3) := by decide +kernel
theorem dX6_writeOut_41 : decode cX6_writeOut 41 = .ok (.iinc 4 1, 3) := by decide +kernel
theorem dX6_writeOut_44 : decode cX6_writeOut 44 = .ok (.goto (-41), 3) := by decide +kernel
theorem dX6_writeOut_47 : decode cX6_writeOut 47 = .ok (.aload_n 0, 1) := by decide +kernel
theorem dX6_writeOut_48 : decode cX6_writeOut 48 = .ok (.iconst 0, 1) := by decide +kernel
theorem dX6_writeOut_49 : decode cX6_writeOut 49 = .ok (.putfield 66, 3) := by decide +kernel
theorem dX6_writeOut_52 : decode cX6_writeOut 52 = .ok (.return_, 1) := by decide +kernel
theorem dX6_write_0 : decode cX6_write 0 = .ok (.aload_n 0, 1) := by decide +kernel
theorem dX6_write_1 : decode cX6_write 1 = .ok (.aload_n 0, 1) := by decide +kernel
theorem dX6_write_2 : decode cX6_write 2 = .ok (.getfield 12, 3) := by decide +kernel
theorem dX6_write_5 : decode cX6_write 5 = .ok (.bipush 8, 2) := by decide +kernel
theorem dX6_write_7 : decode cX6_write 7 = .ok (.iload_n 1, 1) := by decide +kernel
theorem dX6_write_8 : decode cX6_write 8 = .ok (.imul, 1) := by decide +kernel
theorem dX6_write_9 : decode cX6_write 9 = .ok (.iload_n 2, 1) := by decide +kernel
theorem dX6_write_10 : decode cX6_write 10 = .ok (.iadd, 1) := by decide +kernel
theorem dX6_write_11 : decode cX6_write 11 = .ok (.invokevirtual 110, 3) := by decide +kernel
theorem dX6_write_14 : decode cX6_write 14 = .ok (.ifCond .ne 7, 3) := by decide +kernel
theorem dX6_write_17 : decode cX6_write 17 = .ok (.iconst 1, 1) := by decide +kernel
theorem dX6_write_18 : decode cX6_write 18 = .ok (.goto 4, 3) := by decide +kernel
theorem dX6_write_21 : decode cX6_write 21 = .ok (.iconst 0, 1) := by decide +kernel
theorem dX6_write_22 : decode cX6_write 22 = .ok (.putfield 53, 3) := by decide +kernel
theorem dX6_write_25 : decode cX6_write 25 = .ok (.aload_n 0, 1) := by decide +kernel
theorem dX6_write_26 : decode cX6_write 26 = .ok (.iconst 0, 1) := by decide +kernel
theorem dX6_write_27 : decode cX6_write 27 = .ok (.putfield 66, 3) := by decide +kernel
theorem dX6_write_30 : decode cX6_write 30 = .ok (.return_, 1) := by decide +kernel
theorem dX7_init_0 : decode cX7_init 0 = .ok (.aload_n 0, 1) := by decide +kernel
theorem dX7_init_1 : decode cX7_init 1 = .ok (.invokespecial 3, 3) := by decide +kernel
theorem dX7_init_4 : decode cX7_init 4 = .ok (.aload_n 0, 1) := by decide +kernel
theorem dX7_init_5 : decode cX7_init 5 = .ok (.bipush 16, 2) := by decide +kernel
theorem dX7_init_7 : decode cX7_init 7 = .ok (.newarray .int, 2) := by decide +kernel
theorem dX7_init_9 : decode cX7_init 9 = .ok (.putfield 9, 3) := by decide +kernel
theorem dX7_init_12 : decode cX7_init 12 = .ok (.return_, 1) := by decide +kernel
theorem dX7_append_0 : decode cX7_append 0 = .ok (.aload_n 0, 1) := by decide +kernel
theorem dX7_append_1 : decode cX7_append 1 = .ok (.getfield 15, 3) := by decide +kernel
theorem dX7_append_4 : decode cX7_append 4 = .ok (.ifCond .lt 15, 3) := by decide +kernel
theorem dX7_append_7 : decode cX7_append 7 = .ok (.aload_n 0, 1) := by decide +kernel
theorem dX7_append_8 : decode cX7_append 8 = .ok (.getfield 15, 3) := by decide +kernel
theorem dX7_append_11 : decode cX7_append 11 = .ok (.aload_n 0, 1) := by decide +kernel
theorem dX7_append_12 : decode cX7_append 12 = .ok (.getfield 9, 3) := by decide +kernel
theorem dX7_append_15 : decode cX7_append 15 = .ok (.arraylength, 1) := by decide +kernel
theorem dX7_append_16 : decode cX7_append 16 = .ok (.if_icmp .lt 5, 3) := by decide +kernel
theorem dX7_append_19 : decode cX7_append 19 = .ok (.iconst 0, 1) := by decide +kernel
theorem dX7_append_20 : decode cX7_append 20 = .ok (.ireturn, 1) := by decide +kernel
theorem dX7_append_21 : decode cX7_append 21 = .ok (.aload_n 0, 1) := by decide +kernel
theorem dX7_append_22 : decode cX7_append 22 = .ok (.getfield 9, 3) := by decide +kernel
theorem dX7_append_25 : decode cX7_append 25 = .ok (.aload_n 0, 1) := by decide +kernel
theorem dX7_append_26 : decode cX7_append 26 = .ok (.getfield 15, 3) := by decide +kernel
theorem dX7_append_29 : decode cX7_append 29 = .ok (.iload_n 1, 1) := by decide +kernel
theorem dX7_append_30 : decode cX7_append 30 = .ok (.iastore, 1) := by decide +kernel
theorem dX7_append_31 : decode cX7_append 31 = .ok (.aload_n 0, 1) := by decide +kernel
theorem dX7_append_32 : decode cX7_append 32 = .ok (.dup, 1) := by decide +kernel
theorem dX7_append_33 : decode cX7_append 33 = .ok (.getfield 15, 3) := by decide +kernel
theorem dX7_append_36 : decode cX7_append 36 = .ok (.iconst 1, 1) := by decide +kernel
theorem dX7_append_37 : decode cX7_append 37 = .ok (.iadd, 1) := by decide +kernel
theorem dX7_append_38 : decode cX7_append 38 = .ok (.putfield 15, 3) := by decide +kernel
theorem dX7_append_41 : decode cX7_append 41 = .ok (.iconst 1, 1) := by decide +kernel
theorem dX7_append_42 : decode cX7_append 42 = .ok (.ireturn, 1) := by decide +kernel
theorem dX7_figureAt_0 : decode cX7_figureAt 0 = .ok (.iload_n 1, 1) := by decide +kernel
theorem dX7_figureAt_1 : decode cX7_figureAt 1 = .ok (.ifCond .lt 29, 3) := by decide +kernel
theorem dX7_figureAt_4 : decode cX7_figureAt 4 = .ok (.iload_n 1, 1) := by decide +kernel
theorem dX7_figureAt_5 : decode cX7_figureAt 5 = .ok (.aload_n 0, 1) := by decide +kernel
theorem dX7_figureAt_6 : decode cX7_figureAt 6 = .ok (.getfield 15, 3) := by decide +kernel
theorem dX7_figureAt_9 : decode cX7_figureAt 9 = .ok (.if_icmp .ge 21, 3) := by decide +kernel
theorem dX7_figureAt_12 : decode cX7_figureAt 12 = .ok (.iload_n 1, 1) := by decide +kernel
theorem dX7_figureAt_13 : decode cX7_figureAt 13 = .ok (.aload_n 0, 1) := by decide +kernel
theorem dX7_figureAt_14 : decode cX7_figureAt 14 = .ok (.getfield 9, 3) := by decide +kernel
theorem dX7_figureAt_17 : decode cX7_figureAt 17 = .ok (.arraylength, 1) := by decide +kernel
theorem dX7_figureAt_18 : decode cX7_figureAt 18 = .ok (.if_icmp .ge 12, 3) := by decide +kernel
theorem dX7_figureAt_21 : decode cX7_figureAt 21 = .ok (.aload_n 0, 1) := by decide +kernel
theorem dX7_figureAt_22 : decode cX7_figureAt 22 = .ok (.getfield 9, 3) := by decide +kernel
theorem dX7_figureAt_25 : decode cX7_figureAt 25 = .ok (.iload_n 1, 1) := by decide +kernel
theorem dX7_figureAt_26 : decode cX7_figureAt 26 = .ok (.iaload, 1) := by decide +kernel
theorem dX7_figureAt_27 : decode cX7_figureAt 27 = .ok (.goto 5, 3) := by decide +kernel
theorem dX7_figureAt_30 : decode cX7_figureAt 30 = .ok (.bipush (-4), 2) := by decide +kernel
theorem dX7_figureAt_32 : decode cX7_figureAt 32 = .ok (.ireturn, 1) := by decide +kernel
theorem dX7_placeFrom_0 : decode cX7_placeFrom 0 = .ok (.iload_n 1, 1) := by decide +kernel
theorem dX7_placeFrom_1 : decode cX7_placeFrom 1 = .ok (.istore_n 3, 1) := by decide +kernel
theorem dX7_placeFrom_2 : decode cX7_placeFrom 2 = .ok (.iload_n 3, 1) := by decide +kernel
theorem dX7_placeFrom_3 : decode cX7_placeFrom 3 = .ok (.aload_n 0, 1) := by decide +kernel
theorem dX7_placeFrom_4 : decode cX7_placeFrom 4 = .ok (.getfield 15, 3) := by decide +kernel
theorem dX7_placeFrom_7 : decode cX7_placeFrom 7 = .ok (.if_icmp .ge 20, 3) := by decide +kernel
theorem dX7_placeFrom_10 : decode cX7_placeFrom 10 = .ok (.aload_n 0, 1) := by decide +kernel
theorem dX7_placeFrom_11 : decode cX7_placeFrom 11 = .ok (.iload_n 3, 1) := by decide +kernel
theorem dX7_placeFrom_12 : decode cX7_placeFrom 12 = .ok (.invokevirtual 19, 3) := by decide +kernel
theorem dX7_placeFrom_15 : decode cX7_placeFrom 15 = .ok (.iload_n 2, 1) := by decide +kernel
theorem dX7_placeFrom_16 : decode cX7_placeFrom 16 = .ok (.if_icmp .ne 5, 3) := by decide +kernel
theorem dX7_placeFrom_19 : decode cX7_placeFrom 19 = .ok (.iload_n 3, 1) := by decide +kernel
theorem dX7_placeFrom_20 : decode cX7_placeFrom 20 = .ok (.ireturn, 1) := by decide +kernel
theorem dX7_placeFrom_21 : decode cX7_placeFrom 21 = .ok (.iinc 3 1, 3) := by decide +kernel
theorem dX7_placeFrom_24 : decode cX7_placeFrom 24 = .ok (.goto (-22), 3) := by decide +kernel
theorem dX7_placeFrom_27 : decode cX7_placeFrom 27 = .ok (.bipush (-4), 2) := by decide +kernel
theorem dX7_placeFrom_29 : decode cX7_placeFrom 29 = .ok (.ireturn, 1) := by decide +kernel
theorem dX8_init_0 : decode cX8_init 0 = .ok (.aload_n 0, 1) := by decide +kernel
theorem dX8_init_1 : decode cX8_init 1 = .ok (.invokespecial 3, 3) := by decide +kernel
theorem dX8_init_4 : decode cX8_init 4 = .ok (.aload_n 0, 1) := by decide +kernel
theorem dX8_init_5 : decode cX8_init 5 = .ok (.iconst 5, 1) := by decide +kernel
theorem dX8_init_6 : decode cX8_init 6 = .ok (.invokevirtual 9, 3) := by decide +kernel
theorem dX8_init_9 : decode cX8_init 9 = .ok (.return_, 1) := by decide +kernel
theorem dX8_begin_0 : decode cX8_begin 0 = .ok (.aload_n 0, 1) := by decide +kernel
theorem dX8_begin_1 : decode cX8_begin 1 = .ok (.iload_n 1, 1) := by decide +kernel
theorem dX8_begin_2 : decode cX8_begin 2 = .ok (.putfield 15, 3) := by decide +kernel
theorem dX8_begin_5 : decode cX8_begin 5 = .ok (.aload_n 0, 1) := by decide +kernel
theorem dX8_begin_6 : decode cX8_begin 6 = .ok (.ldc2_w 19, 3) := by decide +kernel
theorem dX8_begin_9 : decode cX8_begin 9 = .ok (.aload_n 0, 1) := by decide +kernel
theorem dX8_begin_10 : decode cX8_begin 10 = .ok (.invokevirtual 21, 3) := by decide +kernel
theorem dX8_begin_13 : decode cX8_begin 13 = .ok (.land, 1) := by decide +kernel
theorem dX8_begin_14 : decode cX8_begin 14 = .ok (.putfield 25, 3) := by decide +kernel
theorem dX8_begin_17 : decode cX8_begin 17 = .ok (.aload_n 0, 1) := by decide +kernel
theorem dX8_begin_18 : decode cX8_begin 18 = .ok (.iconst 1, 1) := by decide +kernel
theorem dX8_begin_19 : decode cX8_begin 19 = .ok (.iload_n 1, 1) := by decide +kernel
theorem dX8_begin_20 : decode cX8_begin 20 = .ok (.ishl, 1) := by decide +kernel
theorem dX8_begin_21 : decode cX8_begin 21 = .ok (.iconst 1, 1) := by decide +kernel
theorem dX8_begin_22 : decode cX8_begin 22 = .ok (.isub, 1) := by decide +kernel
theorem dX8_begin_23 : decode cX8_begin 23 = .ok (.putfield 29, 3) := by decide +kernel
theorem dX8_begin_26 : decode cX8_begin 26 = .ok (.aload_n 0, 1) := by decide +kernel
theorem dX8_begin_27 : decode cX8_begin 27 = .ok (.iconst 1, 1) := by decide +kernel
theorem dX8_begin_28 : decode cX8_begin 28 = .ok (.iload_n 1, 1) := by decide +kernel
theorem dX8_begin_29 : decode cX8_begin 29 = .ok (.ishl, 1) := by decide +kernel
theorem dX8_begin_30 : decode cX8_begin 30 = .ok (.iconst 1, 1) := by decide +kernel
theorem dX8_begin_31 : decode cX8_begin 31 = .ok (.isub, 1) := by decide +kernel
theorem dX8_begin_32 : decode cX8_begin 32 = .ok (.putfield 32, 3) := by decide +kernel
theorem dX8_begin_35 : decode cX8_begin 35 = .ok (.aload_n 0, 1) := by decide +kernel
theorem dX8_begin_36 : decode cX8_begin 36 = .ok (.lconst 0, 1) := by decide +kernel
theorem dX8_begin_37 : decode cX8_begin 37 = .ok (.putfield 35, 3) := by decide +kernel
theorem dX8_begin_40 : decode cX8_begin 40 = .ok (.return_, 1) := by decide +kernel
theorem dX8_become_0 : decode cX8_become 0 = .ok (.aload_n 0, 1) := by decide +kernel
theorem dX8_become_1 : decode cX8_become 1 = .ok (.aload_n 1, 1) := by decide +kernel
theorem dX8_become_2 : decode cX8_become 2 = .ok (.getfield 15, 3) := by decide +kernel
theorem dX8_become_5 : decode cX8_become 5 = .ok (.putfield 15, 3) := by decide +kernel
theorem dX8_become_8 : decode cX8_become 8 = .ok (.aload_n 0, 1) := by decide +kernel
theorem dX8_become_9 : decode cX8_become 9 = .ok (.aload_n 1, 1) := by decide +kernel
theorem dX8_become_10 : decode cX8_become 10 = .ok (.getfield 25, 3) := by decide +kernel
theorem dX8_become_13 : decode cX8_become 13 = .ok (.putfield 25, 3) := by decide +kernel
theorem dX8_become_16 : decode cX8_become 16 = .ok (.aload_n 0, 1) := by decide +kernel
theorem dX8_become_17 : decode cX8_become 17 = .ok (.aload_n 1, 1) := by decide +kernel
theorem dX8_become_18 : decode cX8_become 18 = .ok (.getfield 29, 3) := by decide +kernel
theorem dX8_become_21 : decode cX8_become 21 = .ok (.putfield 29, 3) := by decide +kernel
theorem dX8_become_24 : decode cX8_become 24 = .ok (.aload_n 0, 1) := by decide +kernel
theorem dX8_become_25 : decode cX8_become 25 = .ok (.aload_n 1, 1) := by decide +kernel
theorem dX8_become_26 : decode cX8_become 26 = .ok (.getfield 32, 3) := by decide +kernel
theorem dX8_become_29 : decode cX8_become 29 = .ok (.putfield 32, 3) := by decide +kernel
theorem dX8_become_32 : decode cX8_become 32 = .ok (.aload_n 0, 1) := by decide +kernel
theorem dX8_become_33 : decode cX8_become 33 = .ok (.aload_n 1, 1) := by decide +kernel
theorem dX8_become_34 : decode cX8_become 34 = .ok (.getfield 35, 3) := by decide +kernel
theorem dX8_become_37 : decode cX8_become 37 = .ok (.putfield 35, 3) := by decide +kernel
theorem dX8_become_40 : decode cX8_become 40 = .ok (.return_, 1) := by decide +kernel
theorem dX8_isAs_0 : decode cX8_isAs 0 = .ok (.aload_n 0, 1) := by decide +kernel
theorem dX8_isAs_1 : decode cX8_isAs 1 = .ok (.getfield 15, 3) := by decide +kernel
theorem dX8_isAs_4 : decode cX8_isAs 4 = .ok (.aload_n 1, 1) := by decide +kernel
theorem dX8_isAs_5 : decode cX8_isAs 5 = .ok (.getfield 15, 3) := by decide +kernel
theorem dX8_isAs_8 : decode cX8_isAs 8 = .ok (.if_icmp .ne 53, 3) := by decide +kernel
theorem dX8_isAs_11 : decode cX8_isAs 11 = .ok (.aload_n 0, 1) := by decide +kernel
theorem dX8_isAs_12 : decode cX8_isAs 12 = .ok (.getfield 25, 3) := by decide +kernel
theorem dX8_isAs_15 : decode cX8_isAs 15 = .ok (.aload_n 1, 1) := by decide +kernel
theorem dX8_isAs_16 : decode cX8_isAs 16 = .ok (.getfield 25, 3) := by decide +kernel
theorem dX8_isAs_19 : decode cX8_isAs 19 = .ok (.lcmp, 1) := by decide +kernel
theorem dX8_isAs_20 : decode cX8_isAs 20 = .ok (.ifCond .ne 41, 3) := by decide +kernel
theorem dX8_isAs_23 : decode cX8_isAs 23 = .ok (.aload_n 0, 1) := by decide +kernel
theorem dX8_isAs_24 : decode cX8_isAs 24 = .ok (.getfield 29, 3) := by decide +kernel
theorem dX8_isAs_27 : decode cX8_isAs 27 = .ok (.aload_n 1, 1) := by decide +kernel
theorem dX8_isAs_28 : decode cX8_isAs 28 = .ok (.getfield 29, 3) := by decide +kernel
theorem dX8_isAs_31 : decode cX8_isAs 31 = .ok (.if_icmp .ne 30, 3) := by decide +kernel
theorem dX8_isAs_34 : decode cX8_isAs 34 = .ok (.aload_n 0, 1) := by decide +kernel
theorem dX8_isAs_35 : decode cX8_isAs 35 = .ok (.getfield 32, 3) := by decide +kernel
theorem dX8_isAs_38 : decode cX8_isAs 38 = .ok (.aload_n 1, 1) := by decide +kernel
theorem dX8_isAs_39 : decode cX8_isAs 39 = .ok (.getfield 32, 3) := by decide +kernel
theorem dX8_isAs_42 : decode cX8_isAs 42 = .ok (.if_icmp .ne 19, 3) := by decide +kernel
theorem dX8_isAs_45 : decode cX8_isAs 45 = .ok (.aload_n 0, 1) := by decide +kernel
theorem dX8_isAs_46 : decode cX8_isAs 46 = .ok (.getfield 35, 3) := by decide +kernel
theorem dX8_isAs_49 : decode cX8_isAs 49 = .ok (.aload_n 1, 1) := by decide +kernel
theorem dX8_isAs_50 : decode cX8_isAs 50 = .ok (.getfield 35, 3) := by decide +kernel
theorem dX8_isAs_53 : decode cX8_isAs 53 = .ok (.lcmp, 1) := by decide +kernel
theorem dX8_isAs_54 : decode cX8_isAs 54 = .ok (.ifCond .ne 7, 3) := by decide +kernel
theorem dX8_isAs_57 : decode cX8_isAs 57 = .ok (.iconst 1, 1) := by decide +kernel
theorem dX8_isAs_58 : decode cX8_isAs 58 = .ok (.goto 4, 3) := by decide +kernel
theorem dX8_isAs_61 : decode cX8_isAs 61 = .ok (.iconst 0, 1) := by decide +kernel
theorem dX8_isAs_62 : decode cX8_isAs 62 = .ok (.ireturn, 1) := by decide +kernel
theorem dX8_isAlike_0 : decode cX8_isAlike 0 = .ok (.aload_n 0, 1) := by decide +kernel
theorem dX8_isAlike_1 : decode cX8_isAlike 1 = .ok (.getfield 15, 3) := by decide +kernel
theorem dX8_isAlike_4 : decode cX8_isAlike 4 = .ok (.aload_n 1, 1) := by decide +kernel
theorem dX8_isAlike_5 : decode cX8_isAlike 5 = .ok (.getfield 15, 3) := by decide +kernel
theorem dX8_isAlike_8 : decode cX8_isAlike 8 = .ok (.if_icmp .ne 42, 3) := by decide +kernel
theorem dX8_isAlike_11 : decode cX8_isAlike 11 = .ok (.aload_n 0, 1) := by decide +kernel
theorem dX8_isAlike_12 : decode cX8_isAlike 12 = .ok (.getfield 32, 3) := by decide +kernel
theorem dX8_isAlike_15 : decode cX8_isAlike 15 = .ok (.aload_n 1, 1) := by decide +kernel
theorem dX8_isAlike_16 : decode cX8_isAlike 16 = .ok (.getfield 32, 3) := by decide +kernel
theorem dX8_isAlike_19 : decode cX8_isAlike 19 = .ok (.if_icmp .ne 31, 3) := by decide +kernel
theorem dX8_isAlike_22 : decode cX8_isAlike 22 = .ok (.aload_n 0, 1) := by decide +kernel
theorem dX8_isAlike_23 : decode cX8_isAlike 23 = .ok (.getfield 35, 3) := by decide +kernel
theorem dX8_isAlike_26 : decode cX8_isAlike 26 = .ok (.aload_n 1, 1) := by decide +kernel
theorem dX8_isAlike_27 : decode cX8_isAlike 27 = .ok (.getfield 35, 3) := by decide +kernel
theorem dX8_isAlike_30 : decode cX8_isAlike 30 = .ok (.lcmp, 1) := by decide +kernel
theorem dX8_isAlike_31 : decode cX8_isAlike 31 = .ok (.ifCond .ne 19, 3) := by decide +kernel
theorem dX8_isAlike_34 : decode cX8_isAlike 34 = .ok (.aload_n 0, 1) := by decide +kernel
theorem dX8_isAlike_35 : decode cX8_isAlike 35 = .ok (.invokevirtual 38, 3) := by decide +kernel
theorem dX8_isAlike_38 : decode cX8_isAlike 38 = .ok (.aload_n 1, 1) := by decide +kernel
theorem dX8_isAlike_39 : decode cX8_isAlike 39 = .ok (.invokevirtual 38, 3) := by decide +kernel
theorem dX8_isAlike_42 : decode cX8_isAlike 42 = .ok (.lcmp, 1) := by decide +kernel
theorem dX8_isAlike_43 : decode cX8_isAlike 43 = .ok (.ifCond .ne 7, 3) := by decide +kernel
theorem dX8_isAlike_46 : decode cX8_isAlike 46 = .ok (.iconst 1, 1) := by decide +kernel
theorem dX8_isAlike_47 : decode cX8_isAlike 47 = .ok (.goto 4, 3) := by decide +kernel
theorem dX8_isAlike_50 : decode cX8_isAlike 50 = .ok (.iconst 0, 1) := by decide +kernel
theorem dX8_isAlike_51 : decode cX8_isAlike 51 = .ok (.ireturn, 1) := by decide +kernel
theorem dX8_next_0 : decode cX8_next 0 = .ok (.iload_n 1, 1) := by decide +kernel
theorem dX8_next_1 : decode cX8_next 1 = .ok (.iconst 1, 1) := by decide +kernel
theorem dX8_next_2 : decode cX8_next 2 = .ok (.iadd, 1) := by decide +kernel
theorem dX8_next_3 : decode cX8_next 3 = .ok (.aload_n 0, 1) := by decide +kernel
theorem dX8_next_4 : decode cX8_next 4 = .ok (.getfield 15, 3) := by decide +kernel
theorem dX8_next_7 : decode cX8_next 7 = .ok (.if_icmp .ge 9, 3) := by decide +kernel
theorem dX8_next_10 : decode cX8_next 10 = .ok (.iload_n 1, 1) := by decide +kernel
theorem dX8_next_11 : decode cX8_next 11 = .ok (.iconst 1, 1) := by decide +kernel
theorem dX8_next_12 : decode cX8_next 12 = .ok (.iadd, 1) := by decide +kernel
theorem dX8_next_13 : decode cX8_next 13 = .ok (.goto 4, 3) := by decide +kernel
theorem dX8_next_16 : decode cX8_next 16 = .ok (.iconst 0, 1) := by decide +kernel
theorem dX8_next_17 : decode cX8_next 17 = .ok (.ireturn, 1) := by decide +kernel
theorem dX8_previous_0 : decode cX8_previous 0 = .ok (.iload_n 1, 1) := by decide +kernel
theorem dX8_previous_1 : decode cX8_previous 1 = .ok (.ifCond .le 9, 3) := by decide +kernel
theorem dX8_previous_4 : decode cX8_previous 4 = .ok (.iload_n 1, 1) := by decide +kernel
theorem dX8_previous_5 : decode cX8_previous 5 = .ok (.iconst 1, 1) := by decide +kernel
theorem dX8_previous_6 : decode cX8_previous 6 = .ok (.isub, 1) := by decide +kernel
theorem dX8_previous_7 : decode cX8_previous 7 = .ok (.goto 9, 3) := by decide +kernel
theorem dX8_previous_10 : decode cX8_previous 10 = .ok (.aload_n 0, 1) := by decide +kernel
theorem dX8_previous_11 : decode cX8_previous 11 = .ok (.getfield 15, 3) := by decide +kernel
theorem dX8_previous_14 : decode cX8_previous 14 = .ok (.iconst 1, 1) := by decide +kernel
theorem dX8_previous_15 : decode cX8_previous 15 = .ok (.isub, 1) := by decide +kernel
theorem dX8_previous_16 : decode cX8_previous 16 = .ok (.ireturn, 1) := by decide +kernel
theorem dX8_dancerAt_0 : decode cX8_dancerAt 0 = .ok (.aload_n 0, 1) := by decide +kernel
theorem dX8_dancerAt_1 : decode cX8_dancerAt 1 = .ok (.getfield 25, 3) := by decide +kernel
theorem dX8_dancerAt_4 : decode cX8_dancerAt 4 = .ok (.iconst 4, 1) := by decide +kernel
theorem dX8_dancerAt_5 : decode cX8_dancerAt 5 = .ok (.iload_n 1, 1) := by decide +kernel
theorem dX8_dancerAt_6 : decode cX8_dancerAt 6 = .ok (.imul, 1) := by decide +kernel
theorem dX8_dancerAt_7 : decode cX8_dancerAt 7 = .ok (.lushr, 1) := by decide +kernel
theorem dX8_dancerAt_8 : decode cX8_dancerAt 8 = .ok (.l2i, 1) := by decide +kernel
theorem dX8_dancerAt_9 : decode cX8_dancerAt 9 = .ok (.bipush 15, 2) := by decide +kernel
theorem dX8_dancerAt_11 : decode cX8_dancerAt 11 = .ok (.iand, 1) := by decide +kernel
theorem dX8_dancerAt_12 : decode cX8_dancerAt 12 = .ok (.ireturn, 1) := by decide +kernel
theorem dX8_placeOf_0 : decode cX8_placeOf 0 = .ok (.iconst 0, 1) := by decide +kernel
theorem dX8_placeOf_1 : decode cX8_placeOf 1 = .ok (.istore_n 2, 1) := by decide +kernel
theorem dX8_placeOf_2 : decode cX8_placeOf 2 = .ok (.iload_n 2, 1) := by decide +kernel
theorem dX8_placeOf_3 : decode cX8_placeOf 3 = .ok (.aload_n 0, 1) := by decide +kernel
theorem dX8_placeOf_4 : decode cX8_placeOf 4 = .ok (.getfield 15, 3) := by decide +kernel
theorem dX8_placeOf_7 : decode cX8_placeOf 7 = .ok (.if_icmp .ge 29, 3) := by decide +kernel
theorem dX8_placeOf_10 : decode cX8_placeOf 10 = .ok (.aload_n 0, 1) := by decide +kernel
theorem dX8_placeOf_11 : decode cX8_placeOf 11 = .ok (.getfield 25, 3) := by decide +kernel
theorem dX8_placeOf_14 : decode cX8_placeOf 14 = .ok (.iconst 4, 1) := by decide +kernel
theorem dX8_placeOf_15 : decode cX8_placeOf 15 = .ok (.iload_n 2, 1) := by decide +kernel
theorem dX8_placeOf_16 : decode cX8_placeOf 16 = .ok (.imul, 1) := by decide +kernel
theorem dX8_placeOf_17 : decode cX8_placeOf 17 = .ok (.lushr, 1) := by decide +kernel
theorem dX8_placeOf_18 : decode cX8_placeOf 18 = .ok (.ldc2_w 41, 3) := by decide +kernel
theorem dX8_placeOf_21 : decode cX8_placeOf 21 = .ok (.land, 1) := by decide +kernel
theorem dX8_placeOf_22 : decode cX8_placeOf 22 = .ok (.iload_n 1, 1) := by decide +kernel
theorem dX8_placeOf_23 : decode cX8_placeOf 23 = .ok (.i2l, 1) := by decide +kernel
theorem dX8_placeOf_24 : decode cX8_placeOf 24 = .ok (.lcmp, 1) := by decide +kernel
theorem dX8_placeOf_25 : decode cX8_placeOf 25 = .ok (.ifCond .ne 5, 3) := by decide +kernel
theorem dX8_placeOf_28 : decode cX8_placeOf 28 = .ok (.iload_n 2, 1) := by decide +kernel
theorem dX8_placeOf_29 : decode cX8_placeOf 29 = .ok (.ireturn, 1) := by decide +kernel
theorem dX8_placeOf_30 : decode cX8_placeOf 30 = .ok (.iinc 2 1, 3) := by decide +kernel
theorem dX8_placeOf_33 : decode cX8_placeOf 33 = .ok (.goto (-31), 3) := by decide +kernel
theorem dX8_placeOf_36 : decode cX8_placeOf 36 = .ok (.iconst 0, 1) := by decide +kernel
theorem dX8_placeOf_37 : decode cX8_placeOf 37 = .ok (.ireturn, 1) := by decide +kernel
theorem dX8_stepsUp_0 : decode cX8_stepsUp 0 = .ok (.iload_n 2, 1) := by decide +kernel
theorem dX8_stepsUp_1 : decode cX8_stepsUp 1 = .ok (.iload_n 1, 1) := by decide +kernel
theorem dX8_stepsUp_2 : decode cX8_stepsUp 2 = .ok (.if_icmp .lt 9, 3) := by decide +kernel
theorem dX8_stepsUp_5 : decode cX8_stepsUp 5 = .ok (.iload_n 2, 1) := by decide +kernel
theorem dX8_stepsUp_6 : decode cX8_stepsUp 6 = .ok (.iload_n 1, 1) := by decide +kernel
theorem dX8_stepsUp_7 : decode cX8_stepsUp 7 = .ok (.isub, 1) := by decide +kernel
theorem dX8_stepsUp_8 : decode cX8_stepsUp 8 = .ok (.goto 11, 3) := by decide +kernel
theorem dX8_stepsUp_11 : decode cX8_stepsUp 11 = .ok (.iload_n 2, 1) := by decide +kernel
theorem dX8_stepsUp_12 : decode cX8_stepsUp 12 = .ok (.iload_n 1, 1) := by decide +kernel
theorem dX8_stepsUp_13 : decode cX8_stepsUp 13 = .ok (.isub, 1) := by decide +kernel
theorem dX8_stepsUp_14 : decode cX8_stepsUp 14 = .ok (.aload_n 0, 1) := by decide +kernel
theorem dX8_stepsUp_15 : decode cX8_stepsUp 15 = .ok (.getfield 15, 3) := by decide +kernel
theorem dX8_stepsUp_18 : decode cX8_stepsUp 18 = .ok (.iadd, 1) := by decide +kernel
theorem dX8_stepsUp_19 : decode cX8_stepsUp 19 = .ok (.ireturn, 1) := by decide +kernel
theorem dX8_seatBits_0 : decode cX8_seatBits 0 = .ok (.lconst 1, 1) := by decide +kernel
theorem dX8_seatBits_1 : decode cX8_seatBits 1 = .ok (.iconst 4, 1) := by decide +kernel
theorem dX8_seatBits_2 : decode cX8_seatBits 2 = .ok (.aload_n 0, 1) := by decide +kernel
theorem dX8_seatBits_3 : decode cX8_seatBits 3 = .ok (.getfield 15, 3) := by decide +kernel
theorem dX8_seatBits_6 : decode cX8_seatBits 6 = .ok (.imul, 1) := by decide +kernel
theorem dX8_seatBits_7 : decode cX8_seatBits 7 = .ok (.lshl, 1) := by decide +kernel
theorem dX8_seatBits_8 : decode cX8_seatBits 8 = .ok (.lconst 1, 1) := by decide +kernel
theorem dX8_seatBits_9 : decode cX8_seatBits 9 = .ok (.lsub, 1) := by decide +kernel
theorem dX8_seatBits_10 : decode cX8_seatBits 10 = .ok (.lreturn, 1) := by decide +kernel
theorem dX8_seatsAfter_0 : decode cX8_seatsAfter 0 = .ok (.aload_n 0, 1) := by decide +kernel
theorem dX8_seatsAfter_1 : decode cX8_seatsAfter 1 = .ok (.getfield 25, 3) := by decide +kernel
theorem dX8_seatsAfter_4 : decode cX8_seatsAfter 4 = .ok (.iconst 4, 1) := by decide +kernel
theorem dX8_seatsAfter_5 : decode cX8_seatsAfter 5 = .ok (.iload_n 1, 1) := by decide +kernel
theorem dX8_seatsAfter_6 : decode cX8_seatsAfter 6 = .ok (.imul, 1) := by decide +kernel
theorem dX8_seatsAfter_7 : decode cX8_seatsAfter 7 = .ok (.lshl, 1) := by decide +kernel
theorem dX8_seatsAfter_8 : decode cX8_seatsAfter 8 = .ok (.aload_n 0, 1) := by decide +kernel
theorem dX8_seatsAfter_9 : decode cX8_seatsAfter 9 = .ok (.getfield 25, 3) := by decide +kernel
theorem dX8_seatsAfter_12 : decode cX8_seatsAfter 12 = .ok (.iconst 4, 1) := by decide +kernel
theorem dX8_seatsAfter_13 : decode cX8_seatsAfter 13 = .ok (.aload_n 0, 1) := by decide +kernel
theorem dX8_seatsAfter_14 : decode cX8_seatsAfter 14 = .ok (.getfield 15, 3) := by decide +kernel
theorem dX8_seatsAfter_17 : decode cX8_seatsAfter 17 = .ok (.iload_n 1, 1) := by decide +kernel
theorem dX8_seatsAfter_18 : decode cX8_seatsAfter 18 = .ok (.isub, 1) := by decide +kernel
theorem dX8_seatsAfter_19 : decode cX8_seatsAfter 19 = .ok (.imul, 1) := by decide +kernel
theorem dX8_seatsAfter_20 : decode cX8_seatsAfter 20 = .ok (.lushr, 1) := by decide +kernel
theorem dX8_seatsAfter_21 : decode cX8_seatsAfter 21 = .ok (.lor, 1) := by decide +kernel
theorem dX8_seatsAfter_22 : decode cX8_seatsAfter 22 = .ok (.aload_n 0, 1) := by decide +kernel
theorem dX8_seatsAfter_23 : decode cX8_seatsAfter 23 = .ok (.invokevirtual 21, 3) := by decide +kernel
theorem dX8_seatsAfter_26 : decode cX8_seatsAfter 26 = .ok (.land, 1) := by decide +kernel
theorem dX8_seatsAfter_27 : decode cX8_seatsAfter 27 = .ok (.lreturn, 1) := by decide +kernel
theorem dX8_seatsFromFirst_0 : decode cX8_seatsFromFirst 0 = .ok (.aload_n 0, 1) := by decide +kernel
theorem dX8_seatsFromFirst_1 : decode cX8_seatsFromFirst 1 = .ok (.aload_n 0, 1) := by decide +kernel
theorem dX8_seatsFromFirst_2 : decode cX8_seatsFromFirst 2 = .ok (.getfield 15, 3) := by decide +kernel
theorem dX8_seatsFromFirst_5 : decode cX8_seatsFromFirst 5 = .ok (.aload_n 0, 1) := by decide +kernel
theorem dX8_seatsFromFirst_6 : decode cX8_seatsFromFirst 6 = .ok (.iconst 0, 1) := by decide +kernel
theorem dX8_seatsFromFirst_7 : decode cX8_seatsFromFirst 7 = .ok (.invokevirtual 43, 3) := by decide +kernel
theorem dX8_seatsFromFirst_10 : decode cX8_seatsFromFirst 10 = .ok (.isub, 1) := by decide +kernel
theorem dX8_seatsFromFirst_11 : decode cX8_seatsFromFirst 11 = .ok (.invokevirtual 47, 3) := by decide +kernel
theorem dX8_seatsFromFirst_14 : decode cX8_seatsFromFirst 14 = .ok (.lreturn, 1) := by decide +kernel
theorem dX8_overBit_0 : decode cX8_overBit 0 = .ok (.lconst 1, 1) := by decide +kernel
theorem dX8_overBit_1 : decode cX8_overBit 1 = .ok (.bipush 8, 2) := by decide +kernel
theorem dX8_overBit_3 : decode cX8_overBit 3 = .ok (.iload_n 1, 1) := by decide +kernel
theorem dX8_overBit_4 : decode cX8_overBit 4 = .ok (.imul, 1) := by decide +kernel
theorem dX8_overBit_5 : decode cX8_overBit 5 = .ok (.iload_n 2, 1) := by decide +kernel
theorem dX8_overBit_6 : decode cX8_overBit 6 = .ok (.iadd, 1) := by decide +kernel
theorem dX8_overBit_7 : decode cX8_overBit 7 = .ok (.lshl, 1) := by decide +kernel
theorem dX8_overBit_8 : decode cX8_overBit 8 = .ok (.lreturn, 1) := by decide +kernel
theorem dX8_lies_0 : decode cX8_lies 0 = .ok (.aload_n 0, 1) := by decide +kernel
theorem dX8_lies_1 : decode cX8_lies 1 = .ok (.getfield 35, 3) := by decide +kernel
theorem dX8_lies_4 : decode cX8_lies 4 = .ok (.aload_n 0, 1) := by decide +kernel
theorem dX8_lies_5 : decode cX8_lies 5 = .ok (.iload_n 1, 1) := by decide +kernel
theorem dX8_lies_6 : decode cX8_lies 6 = .ok (.iload_n 2, 1) := by decide +kernel
theorem dX8_lies_7 : decode cX8_lies 7 = .ok (.invokevirtual 51, 3) := by decide +kernel
theorem dX8_lies_10 : decode cX8_lies 10 = .ok (.land, 1) := by decide +kernel
theorem dX8_lies_11 : decode cX8_lies 11 = .ok (.lconst 0, 1) := by decide +kernel
theorem dX8_lies_12 : decode cX8_lies 12 = .ok (.lcmp, 1) := by decide +kernel
theorem dX8_lies_13 : decode cX8_lies 13 = .ok (.ifCond .eq 7, 3) := by decide +kernel
theorem dX8_lies_16 : decode cX8_lies 16 = .ok (.iconst 1, 1) := by decide +kernel
theorem dX8_lies_17 : decode cX8_lies 17 = .ok (.goto 4, 3) := by decide +kernel
theorem dX8_lies_20 : decode cX8_lies 20 = .ok (.iconst 0, 1) := by decide +kernel
theorem dX8_lies_21 : decode cX8_lies 21 = .ok (.ireturn, 1) := by decide +kernel
theorem dX8_thoseBelow_0 : decode cX8_thoseBelow 0 = .ok (.aload_n 0, 1) := by decide +kernel
theorem dX8_thoseBelow_1 : decode cX8_thoseBelow 1 = .ok (.getfield 35, 3) := by decide +kernel
theorem dX8_thoseBelow_4 : decode cX8_thoseBelow 4 = .ok (.bipush 8, 2) := by decide +kernel
theorem dX8_thoseBelow_6 : decode cX8_thoseBelow 6 = .ok (.iload_n 1, 1) := by decide +kernel
theorem dX8_thoseBelow_7 : decode cX8_thoseBelow 7 = .ok (.imul, 1) := by decide +kernel
theorem dX8_thoseBelow_8 : decode cX8_thoseBelow 8 = .ok (.lushr, 1) := by decide +kernel
theorem dX8_thoseBelow_9 : decode cX8_thoseBelow 9 = .ok (.l2i, 1) := by decide +kernel
theorem dX8_thoseBelow_10 : decode cX8_thoseBelow 10 = .ok (.sipush 255, 3) := by decide +kernel
theorem dX8_thoseBelow_13 : decode cX8_thoseBelow 13 = .ok (.iand, 1) := by decide +kernel
theorem dX8_thoseBelow_14 : decode cX8_thoseBelow 14 = .ok (.ireturn, 1) := by decide +kernel
theorem dX8_thoseAbove_0 : decode cX8_thoseAbove 0 = .ok (.iconst 0, 1) := by decide +kernel
theorem dX8_thoseAbove_1 : decode cX8_thoseAbove 1 = .ok (.istore_n 2, 1) := by decide +kernel
theorem dX8_thoseAbove_2 : decode cX8_thoseAbove 2 = .ok (.iconst 0, 1) := by decide +kernel
theorem dX8_thoseAbove_3 : decode cX8_thoseAbove 3 = .ok (.istore_n 3, 1) := by decide +kernel
theorem dX8_thoseAbove_4 : decode cX8_thoseAbove 4 = .ok (.iload_n 3, 1) := by decide +kernel
theorem dX8_thoseAbove_5 : decode cX8_thoseAbove 5 = .ok (.aload_n 0, 1) := by decide +kernel
theorem dX8_thoseAbove_6 : decode cX8_thoseAbove 6 = .ok (.getfield 15, 3) := by decide +kernel
theorem dX8_thoseAbove_9 : decode cX8_thoseAbove 9 = .ok (.if_icmp .ge 24, 3) := by decide +kernel
theorem dX8_thoseAbove_12 : decode cX8_thoseAbove 12 = .ok (.aload_n 0, 1) := by decide +kernel
theorem dX8_thoseAbove_13 : decode cX8_thoseAbove 13 = .ok (.iload_n 3, 1) := by decide +kernel
theorem dX8_thoseAbove_14 : decode cX8_thoseAbove 14 = .ok (.iload_n 1, 1) := by decide +kernel
theorem dX8_thoseAbove_15 : decode cX8_thoseAbove 15 = .ok (.invokevirtual 55, 3) := by decide +kernel
theorem dX8_thoseAbove_18 : decode cX8_thoseAbove 18 = .ok (.ifCond .eq 9, 3) := by decide +kernel
theorem dX8_thoseAbove_21 : decode cX8_thoseAbove 21 = .ok (.iload_n 2, 1) := by decide +kernel
theorem dX8_thoseAbove_22 : decode cX8_thoseAbove 22 = .ok (.iconst 1, 1) := by decide +kernel
theorem dX8_thoseAbove_23 : decode cX8_thoseAbove 23 = .ok (.iload_n 3, 1) := by decide +kernel
theorem dX8_thoseAbove_24 : decode cX8_thoseAbove 24 = .ok (.ishl, 1) := by decide +kernel
theorem dX8_thoseAbove_25 : decode cX8_thoseAbove 25 = .ok (.ior, 1) := by decide +kernel
theorem dX8_thoseAbove_26 : decode cX8_thoseAbove 26 = .ok (.istore_n 2, 1) := by decide +kernel
theorem dX8_thoseAbove_27 : decode cX8_thoseAbove 27 = .ok (.iinc 3 1, 3) := by decide +kernel
theorem dX8_thoseAbove_30 : decode cX8_thoseAbove 30 = .ok (.goto (-26), 3) := by decide +kernel
theorem dX8_thoseAbove_33 : decode cX8_thoseAbove 33 = .ok (.iload_n 2, 1) := by decide +kernel
theorem dX8_thoseAbove_34 : decode cX8_thoseAbove 34 = .ok (.ireturn, 1) := by decide +kernel
theorem dX8_change_0 : decode cX8_change 0 = .ok (.iload_n 1, 1) := by decide +kernel
theorem dX8_change_1 : decode cX8_change 1 = .ok (.ifCond .lt 30, 3) := by decide +kernel
theorem dX8_change_4 : decode cX8_change 4 = .ok (.iload_n 1, 1) := by decide +kernel
theorem dX8_change_5 : decode cX8_change 5 = .ok (.iconst 5, 1) := by decide +kernel
theorem dX8_change_6 : decode cX8_change 6 = .ok (.if_icmp .gt 25, 3) := by decide +kernel
theorem dX8_change_9 : decode cX8_change 9 = .ok (.iload_n 2, 1) := by decide +kernel
theorem dX8_change_10 : decode cX8_change 10 = .ok (.ifCond .lt 21, 3) := by decide +kernel
theorem dX8_change_13 : decode cX8_change 13 = .ok (.iload_n 2, 1) := by decide +kernel
theorem dX8_change_14 : decode cX8_change 14 = .ok (.iload_n 1, 1) := by decide +kernel
theorem dX8_change_15 : decode cX8_change 15 = .ok (.iconst 3, 1) := by decide +kernel
theorem dX8_change_16 : decode cX8_change 16 = .ok (.if_icmp .ne 8, 3) := by decide +kernel
theorem dX8_change_19 : decode cX8_change 19 = .ok (.bipush 8, 2) := by decide +kernel
theorem dX8_change_21 : decode cX8_change 21 = .ok (.goto 7, 3) := by decide +kernel
theorem dX8_change_24 : decode cX8_change 24 = .ok (.aload_n 0, 1) := by decide +kernel
theorem dX8_change_25 : decode cX8_change 25 = .ok (.getfield 15, 3) := by decide +kernel
theorem dX8_change_28 : decode cX8_change 28 = .ok (.if_icmp .lt 5, 3) := by decide +kernel
theorem dX8_change_31 : decode cX8_change 31 = .ok (.iconst (-1), 1) := by decide +kernel
theorem dX8_change_32 : decode cX8_change 32 = .ok (.ireturn, 1) := by decide +kernel
theorem dX8_change_33 : decode cX8_change 33 = .ok (.iload_n 1, 1) := by decide +kernel
theorem dX8_change_34 : decode cX8_change 34 = .ok (.tableswitch 87 0 4 #[34, 41, 48, 66, 81], 34) := by decide +kernel
theorem dX8_change_68 : decode cX8_change 68 = .ok (.aload_n 0, 1) := by decide +kernel
theorem dX8_change_69 : decode cX8_change 69 = .ok (.iload_n 2, 1) := by decide +kernel
theorem dX8_change_70 : decode cX8_change 70 = .ok (.iconst 0, 1) := by decide +kernel
theorem dX8_change_71 : decode cX8_change 71 = .ok (.invokevirtual 59, 3) := by decide +kernel
theorem dX8_change_74 : decode cX8_change 74 = .ok (.ireturn, 1) := by decide +kernel
theorem dX8_change_75 : decode cX8_change 75 = .ok (.aload_n 0, 1) := by decide +kernel
theorem dX8_change_76 : decode cX8_change 76 = .ok (.iload_n 2, 1) := by decide +kernel
theorem dX8_change_77 : decode cX8_change 77 = .ok (.iconst 1, 1) := by decide +kernel
theorem dX8_change_78 : decode cX8_change 78 = .ok (.invokevirtual 59, 3) := by decide +kernel
theorem dX8_change_81 : decode cX8_change 81 = .ok (.ireturn, 1) := by decide +kernel
theorem dX8_change_82 : decode cX8_change 82 = .ok (.aload_n 0, 1) := by decide +kernel
theorem dX8_change_83 : decode cX8_change 83 = .ok (.dup, 1) := by decide +kernel
theorem dX8_change_84 : decode cX8_change 84 = .ok (.getfield 29, 3) := by decide +kernel
theorem dX8_change_87 : decode cX8_change 87 = .ok (.iconst 1, 1) := by decide +kernel
theorem dX8_change_88 : decode cX8_change 88 = .ok (.aload_n 0, 1) := by decide +kernel
theorem dX8_change_89 : decode cX8_change 89 = .ok (.iload_n 2, 1) := by decide +kernel
theorem dX8_change_90 : decode cX8_change 90 = .ok (.invokevirtual 63, 3) := by decide +kernel
theorem dX8_change_93 : decode cX8_change 93 = .ok (.ishl, 1) := by decide +kernel
theorem dX8_change_94 : decode cX8_change 94 = .ok (.ixor, 1) := by decide +kernel
theorem dX8_change_95 : decode cX8_change 95 = .ok (.putfield 29, 3) := by decide +kernel
theorem dX8_change_98 : decode cX8_change 98 = .ok (.iconst 1, 1) := by decide +kernel
theorem dX8_change_99 : decode cX8_change 99 = .ok (.ireturn, 1) := by decide +kernel
theorem dX8_change_100 : decode cX8_change 100 = .ok (.aload_n 0, 1) := by decide +kernel
theorem dX8_change_101 : decode cX8_change 101 = .ok (.aload_n 0, 1) := by decide +kernel
theorem dX8_change_102 : decode cX8_change 102 = .ok (.aload_n 0, 1) := by decide +kernel
theorem dX8_change_103 : decode cX8_change 103 = .ok (.iload_n 2, 1) := by decide +kernel
theorem dX8_change_104 : decode cX8_change 104 = .ok (.invokevirtual 66, 3) := by decide +kernel
theorem dX8_change_107 : decode cX8_change 107 = .ok (.invokevirtual 47, 3) := by decide +kernel
theorem dX8_change_110 : decode cX8_change 110 = .ok (.putfield 25, 3) := by decide +kernel
theorem dX8_change_113 : decode cX8_change 113 = .ok (.iconst 1, 1) := by decide +kernel
theorem dX8_change_114 : decode cX8_change 114 = .ok (.ireturn, 1) := by decide +kernel
theorem dX8_change_115 : decode cX8_change 115 = .ok (.aload_n 0, 1) := by decide +kernel
theorem dX8_change_116 : decode cX8_change 116 = .ok (.iload_n 2, 1) := by decide +kernel
theorem dX8_change_117 : decode cX8_change 117 = .ok (.invokevirtual 69, 3) := by decide +kernel
theorem dX8_change_120 : decode cX8_change 120 = .ok (.ireturn, 1) := by decide +kernel
theorem dX8_change_121 : decode cX8_change 121 = .ok (.aload_n 0, 1) := by decide +kernel
theorem dX8_change_122 : decode cX8_change 122 = .ok (.iload_n 2, 1) := by decide +kernel
theorem dX8_change_123 : decode cX8_change 123 = .ok (.invokevirtual 72, 3) := by decide +kernel
theorem dX8_change_126 : decode cX8_change 126 = .ok (.ireturn, 1) := by decide +kernel
theorem dX8_withinRing_0 : decode cX8_withinRing 0 = .ok (.iload_n 1, 1) := by decide +kernel
theorem dX8_withinRing_1 : decode cX8_withinRing 1 = .ok (.aload_n 0, 1) := by decide +kernel
theorem dX8_withinRing_2 : decode cX8_withinRing 2 = .ok (.getfield 15, 3) := by decide +kernel
theorem dX8_withinRing_5 : decode cX8_withinRing 5 = .ok (.if_icmp .lt 12, 3) := by decide +kernel
theorem dX8_withinRing_8 : decode cX8_withinRing 8 = .ok (.iload_n 1, 1) := by decide +kernel
theorem dX8_withinRing_9 : decode cX8_withinRing 9 = .ok (.aload_n 0, 1) := by decide +kernel
theorem dX8_withinRing_10 : decode cX8_withinRing 10 = .ok (.getfield 15, 3) := by decide +kernel
theorem dX8_withinRing_13 : decode cX8_withinRing 13 = .ok (.isub, 1) := by decide +kernel
theorem dX8_withinRing_14 : decode cX8_withinRing 14 = .ok (.goto 4, 3) := by decide +kernel
theorem dX8_withinRing_17 : decode cX8_withinRing 17 = .ok (.iload_n 1, 1) := by decide +kernel
theorem dX8_withinRing_18 : decode cX8_withinRing 18 = .ok (.ireturn, 1) := by decide +kernel
theorem dX8_pass_0 : decode cX8_pass 0 = .ok (.aload_n 0, 1) := by decide +kernel
theorem dX8_pass_1 : decode cX8_pass 1 = .ok (.iload_n 1, 1) := by decide +kernel
theorem dX8_pass_2 : decode cX8_pass 2 = .ok (.invokevirtual 75, 3) := by decide +kernel
theorem dX8_pass_5 : decode cX8_pass 5 = .ok (.istore_n 3, 1) := by decide +kernel
theorem dX8_pass_6 : decode cX8_pass 6 = .ok (.aload_n 0, 1) := by decide +kernel
theorem dX8_pass_7 : decode cX8_pass 7 = .ok (.iload_n 1, 1) := by decide +kernel
theorem dX8_pass_8 : decode cX8_pass 8 = .ok (.invokevirtual 63, 3) := by decide +kernel
theorem dX8_pass_11 : decode cX8_pass 11 = .ok (.istore 4, 2) := by decide +kernel
theorem dX8_pass_13 : decode cX8_pass 13 = .ok (.aload_n 0, 1) := by decide +kernel
theorem dX8_pass_14 : decode cX8_pass 14 = .ok (.iload_n 3, 1) := by decide +kernel
theorem dX8_pass_15 : decode cX8_pass 15 = .ok (.invokevirtual 63, 3) := by decide +kernel
theorem dX8_pass_18 : decode cX8_pass 18 = .ok (.istore 5, 2) := by decide +kernel
theorem dX8_pass_20 : decode cX8_pass 20 = .ok (.aload_n 0, 1) := by decide +kernel
theorem dX8_pass_21 : decode cX8_pass 21 = .ok (.getfield 35, 3) := by decide +kernel
theorem dX8_pass_24 : decode cX8_pass 24 = .ok (.lstore 6, 2) := by decide +kernel
theorem dX8_pass_26 : decode cX8_pass 26 = .ok (.iconst 0, 1) := by decide +kernel
theorem dX8_pass_27 : decode cX8_pass 27 = .ok (.istore 8, 2) := by decide +kernel
theorem dX8_pass_29 : decode cX8_pass 29 = .ok (.iload 8, 2) := by decide +kernel
theorem dX8_pass_31 : decode cX8_pass 31 = .ok (.iconst 4, 1) := by decide +kernel
theorem dX8_pass_32 : decode cX8_pass 32 = .ok (.if_icmp .ge 129, 3) := by decide +kernel
theorem dX8_pass_35 : decode cX8_pass 35 = .ok (.iload 8, 2) := by decide +kernel
theorem dX8_pass_37 : decode cX8_pass 37 = .ok (.iconst 1, 1) := by decide +kernel
theorem dX8_pass_38 : decode cX8_pass 38 = .ok (.iand, 1) := by decide +kernel
theorem dX8_pass_39 : decode cX8_pass 39 = .ok (.ifCond .ne 8, 3) := by decide +kernel
theorem dX8_pass_42 : decode cX8_pass 42 = .ok (.iload 4, 2) := by decide +kernel
theorem dX8_pass_44 : decode cX8_pass 44 = .ok (.goto 9, 3) := by decide +kernel
theorem dX8_pass_47 : decode cX8_pass 47 = .ok (.aload_n 0, 1) := by decide +kernel
theorem dX8_pass_48 : decode cX8_pass 48 = .ok (.iload 4, 2) := by decide +kernel
theorem dX8_pass_50 : decode cX8_pass 50 = .ok (.invokevirtual 78, 3) := by decide +kernel
theorem dX8_pass_53 : decode cX8_pass 53 = .ok (.istore 9, 2) := by decide +kernel
theorem dX8_pass_55 : decode cX8_pass 55 = .ok (.iload 8, 2) := by decide +kernel
theorem dX8_pass_57 : decode cX8_pass 57 = .ok (.iconst 2, 1) := by decide +kernel
theorem dX8_pass_58 : decode cX8_pass 58 = .ok (.iand, 1) := by decide +kernel
theorem dX8_pass_59 : decode cX8_pass 59 = .ok (.ifCond .ne 8, 3) := by decide +kernel
theorem dX8_pass_62 : decode cX8_pass 62 = .ok (.iload 5, 2) := by decide +kernel
theorem dX8_pass_64 : decode cX8_pass 64 = .ok (.goto 9, 3) := by decide +kernel
theorem dX8_pass_67 : decode cX8_pass 67 = .ok (.aload_n 0, 1) := by decide +kernel
theorem dX8_pass_68 : decode cX8_pass 68 = .ok (.iload 5, 2) := by decide +kernel
theorem dX8_pass_70 : decode cX8_pass 70 = .ok (.invokevirtual 78, 3) := by decide +kernel
theorem dX8_pass_73 : decode cX8_pass 73 = .ok (.istore 10, 2) := by decide +kernel
theorem dX8_pass_75 : decode cX8_pass 75 = .ok (.aload_n 0, 1) := by decide +kernel
theorem dX8_pass_76 : decode cX8_pass 76 = .ok (.iload 9, 2) := by decide +kernel
theorem dX8_pass_78 : decode cX8_pass 78 = .ok (.iload 10, 2) := by decide +kernel
theorem dX8_pass_80 : decode cX8_pass 80 = .ok (.invokevirtual 81, 3) := by decide +kernel
theorem dX8_pass_83 : decode cX8_pass 83 = .ok (.ifCond .ne 6, 3) := by decide +kernel
theorem dX8_pass_86 : decode cX8_pass 86 = .ok (.goto 69, 3) := by decide +kernel
theorem dX8_pass_89 : decode cX8_pass 89 = .ok (.iload_n 2, 1) := by decide +kernel
theorem dX8_pass_90 : decode cX8_pass 90 = .ok (.ifCond .eq 14, 3) := by decide +kernel
theorem dX8_pass_93 : decode cX8_pass 93 = .ok (.aload_n 0, 1) := by decide +kernel
theorem dX8_pass_94 : decode cX8_pass 94 = .ok (.iload 10, 2) := by decide +kernel
theorem dX8_pass_96 : decode cX8_pass 96 = .ok (.iload 9, 2) := by decide +kernel
theorem dX8_pass_98 : decode cX8_pass 98 = .ok (.invokevirtual 51, 3) := by decide +kernel
theorem dX8_pass_101 : decode cX8_pass 101 = .ok (.goto 11, 3) := by decide +kernel
theorem dX8_pass_104 : decode cX8_pass 104 = .ok (.aload_n 0, 1) := by decide +kernel
theorem dX8_pass_105 : decode cX8_pass 105 = .ok (.iload 9, 2) := by decide +kernel
theorem dX8_pass_107 : decode cX8_pass 107 = .ok (.iload 10, 2) := by decide +kernel
theorem dX8_pass_109 : decode cX8_pass 109 = .ok (.invokevirtual 51, 3) := by decide +kernel
theorem dX8_pass_112 : decode cX8_pass 112 = .ok (.lstore 11, 2) := by decide +kernel
theorem dX8_pass_114 : decode cX8_pass 114 = .ok (.lload 6, 2) := by decide +kernel
theorem dX8_pass_116 : decode cX8_pass 116 = .ok (.lload 11, 2) := by decide +kernel
theorem dX8_pass_118 : decode cX8_pass 118 = .ok (.land, 1) := by decide +kernel
theorem dX8_pass_119 : decode cX8_pass 119 = .ok (.lconst 0, 1) := by decide +kernel
theorem dX8_pass_120 : decode cX8_pass 120 = .ok (.lcmp, 1) := by decide +kernel
theorem dX8_pass_121 : decode cX8_pass 121 = .ok (.ifCond .eq 6, 3) := by decide +kernel
theorem dX8_pass_124 : decode cX8_pass 124 = .ok (.bipush (-5), 2) := by decide +kernel
theorem dX8_pass_126 : decode cX8_pass 126 = .ok (.ireturn, 1) := by decide +kernel
theorem dX8_pass_127 : decode cX8_pass 127 = .ok (.lload 6, 2) := by decide +kernel
theorem dX8_pass_129 : decode cX8_pass 129 = .ok (.iload_n 2, 1) := by decide +kernel
theorem dX8_pass_130 : decode cX8_pass 130 = .ok (.ifCond .eq 14, 3) := by decide +kernel
theorem dX8_pass_133 : decode cX8_pass 133 = .ok (.aload_n 0, 1) := by decide +kernel
theorem dX8_pass_134 : decode cX8_pass 134 = .ok (.iload 9, 2) := by decide +kernel
theorem dX8_pass_136 : decode cX8_pass 136 = .ok (.iload 10, 2) := by decide +kernel
theorem dX8_pass_138 : decode cX8_pass 138 = .ok (.invokevirtual 51, 3) := by decide +kernel
theorem dX8_pass_141 : decode cX8_pass 141 = .ok (.goto 11, 3) := by decide +kernel
theorem dX8_pass_144 : decode cX8_pass 144 = .ok (.aload_n 0, 1) := by decide +kernel
theorem dX8_pass_145 : decode cX8_pass 145 = .ok (.iload 10, 2) := by decide +kernel
theorem dX8_pass_147 : decode cX8_pass 147 = .ok (.iload 9, 2) := by decide +kernel
theorem dX8_pass_149 : decode cX8_pass 149 = .ok (.invokevirtual 51, 3) := by decide +kernel
theorem dX8_pass_152 : decode cX8_pass 152 = .ok (.lxor, 1) := by decide +kernel
theorem dX8_pass_153 : decode cX8_pass 153 = .ok (.lstore 6, 2) := by decide +kernel
theorem dX8_pass_155 : decode cX8_pass 155 = .ok (.iinc 8 1, 3) := by decide +kernel
theorem dX8_pass_158 : decode cX8_pass 158 = .ok (.goto (-129), 3) := by decide +kernel
theorem dX8_pass_161 : decode cX8_pass 161 = .ok (.aload_n 0, 1) := by decide +kernel
theorem dX8_pass_162 : decode cX8_pass 162 = .ok (.lload 6, 2) := by decide +kernel
theorem dX8_pass_164 : decode cX8_pass 164 = .ok (.putfield 35, 3) := by decide +kernel
theorem dX8_pass_167 : decode cX8_pass 167 = .ok (.iload 4, 2) := by decide +kernel
theorem dX8_pass_169 : decode cX8_pass 169 = .ok (.iload 5, 2) := by decide +kernel
theorem dX8_pass_171 : decode cX8_pass 171 = .ok (.ixor, 1) := by decide +kernel
theorem dX8_pass_172 : decode cX8_pass 172 = .ok (.i2l, 1) := by decide +kernel
theorem dX8_pass_173 : decode cX8_pass 173 = .ok (.lstore 8, 2) := by decide +kernel
theorem dX8_pass_175 : decode cX8_pass 175 = .ok (.aload_n 0, 1) := by decide +kernel
theorem dX8_pass_176 : decode cX8_pass 176 = .ok (.dup, 1) := by decide +kernel
theorem dX8_pass_177 : decode cX8_pass 177 = .ok (.getfield 25, 3) := by decide +kernel
theorem dX8_pass_180 : decode cX8_pass 180 = .ok (.lload 8, 2) := by decide +kernel
theorem dX8_pass_182 : decode cX8_pass 182 = .ok (.iconst 4, 1) := by decide +kernel
theorem dX8_pass_183 : decode cX8_pass 183 = .ok (.iload_n 1, 1) := by decide +kernel
theorem dX8_pass_184 : decode cX8_pass 184 = .ok (.imul, 1) := by decide +kernel
theorem dX8_pass_185 : decode cX8_pass 185 = .ok (.lshl, 1) := by decide +kernel
theorem dX8_pass_186 : decode cX8_pass 186 = .ok (.lload 8, 2) := by decide +kernel
theorem dX8_pass_188 : decode cX8_pass 188 = .ok (.iconst 4, 1) := by decide +kernel
theorem dX8_pass_189 : decode cX8_pass 189 = .ok (.iload_n 3, 1) := by decide +kernel
theorem dX8_pass_190 : decode cX8_pass 190 = .ok (.imul, 1) := by decide +kernel
theorem dX8_pass_191 : decode cX8_pass 191 = .ok (.lshl, 1) := by decide +kernel
theorem dX8_pass_192 : decode cX8_pass 192 = .ok (.lor, 1) := by decide +kernel
theorem dX8_pass_193 : decode cX8_pass 193 = .ok (.lxor, 1) := by decide +kernel
theorem dX8_pass_194 : decode cX8_pass 194 = .ok (.putfield 25, 3) := by decide +kernel
theorem dX8_pass_197 : decode cX8_pass 197 = .ok (.iconst 1, 1) := by decide +kernel
theorem dX8_pass_198 : decode cX8_pass 198 = .ok (.ireturn, 1) := by decide +kernel
theorem dX8_canCross_0 : decode cX8_canCross 0 = .ok (.iload_n 1, 1) := by decide +kernel
theorem dX8_canCross_1 : decode cX8_canCross 1 = .ok (.iload_n 2, 1) := by decide +kernel
theorem dX8_canCross_2 : decode cX8_canCross 2 = .ok (.isub, 1) := by decide +kernel
theorem dX8_canCross_3 : decode cX8_canCross 3 = .ok (.invokestatic 84, 3) := by decide +kernel
theorem dX8_canCross_6 : decode cX8_canCross 6 = .ok (.istore_n 3, 1) := by decide +kernel
theorem dX8_canCross_7 : decode cX8_canCross 7 = .ok (.iload_n 3, 1) := by decide +kernel
theorem dX8_canCross_8 : decode cX8_canCross 8 = .ok (.iconst 1, 1) := by decide +kernel
theorem dX8_canCross_9 : decode cX8_canCross 9 = .ok (.if_icmp .le 35, 3) := by decide +kernel
theorem dX8_canCross_12 : decode cX8_canCross 12 = .ok (.iload_n 3, 1) := by decide +kernel
theorem dX8_canCross_13 : decode cX8_canCross 13 = .ok (.aload_n 0, 1) := by decide +kernel
theorem dX8_canCross_14 : decode cX8_canCross 14 = .ok (.getfield 15, 3) := by decide +kernel
theorem dX8_canCross_17 : decode cX8_canCross 17 = .ok (.iconst 1, 1) := by decide +kernel
theorem dX8_canCross_18 : decode cX8_canCross 18 = .ok (.isub, 1) := by decide +kernel
theorem dX8_canCross_19 : decode cX8_canCross 19 = .ok (.if_icmp .ge 25, 3) := by decide +kernel
theorem dX8_canCross_22 : decode cX8_canCross 22 = .ok (.aload_n 0, 1) := by decide +kernel
theorem dX8_canCross_23 : decode cX8_canCross 23 = .ok (.getfield 32, 3) := by decide +kernel
theorem dX8_canCross_26 : decode cX8_canCross 26 = .ok (.iload_n 1, 1) := by decide +kernel
theorem dX8_canCross_27 : decode cX8_canCross 27 = .ok (.iushr, 1) := by decide +kernel
theorem dX8_canCross_28 : decode cX8_canCross 28 = .ok (.aload_n 0, 1) := by decide +kernel
theorem dX8_canCross_29 : decode cX8_canCross 29 = .ok (.getfield 32, 3) := by decide +kernel
theorem dX8_canCross_32 : decode cX8_canCross 32 = .ok (.iload_n 2, 1) := by decide +kernel
theorem dX8_canCross_33 : decode cX8_canCross 33 = .ok (.iushr, 1) := by decide +kernel
theorem dX8_canCross_34 : decode cX8_canCross 34 = .ok (.iand, 1) := by decide +kernel
theorem dX8_canCross_35 : decode cX8_canCross 35 = .ok (.iconst 1, 1) := by decide +kernel
theorem dX8_canCross_36 : decode cX8_canCross 36 = .ok (.iand, 1) := by decide +kernel
theorem dX8_canCross_37 : decode cX8_canCross 37 = .ok (.ifCond .eq 7, 3) := by decide +kernel
theorem dX8_canCross_40 : decode cX8_canCross 40 = .ok (.iconst 1, 1) := by decide +kernel
theorem dX8_canCross_41 : decode cX8_canCross 41 = .ok (.goto 4, 3) := by decide +kernel
theorem dX8_canCross_44 : decode cX8_canCross 44 = .ok (.iconst 0, 1) := by decide +kernel
theorem dX8_canCross_45 : decode cX8_canCross 45 = .ok (.ireturn, 1) := by decide +kernel
theorem dX8_letGo_0 : decode cX8_letGo 0 = .ok (.aload_n 0, 1) := by decide +kernel
theorem dX8_letGo_1 : decode cX8_letGo 1 = .ok (.getfield 32, 3) := by decide +kernel
theorem dX8_letGo_4 : decode cX8_letGo 4 = .ok (.iload_n 1, 1) := by decide +kernel
theorem dX8_letGo_5 : decode cX8_letGo 5 = .ok (.iushr, 1) := by decide +kernel
theorem dX8_letGo_6 : decode cX8_letGo 6 = .ok (.iconst 1, 1) := by decide +kernel
theorem dX8_letGo_7 : decode cX8_letGo 7 = .ok (.iand, 1) := by decide +kernel
theorem dX8_letGo_8 : decode cX8_letGo 8 = .ok (.ifCond .ne 6, 3) := by decide +kernel
theorem dX8_letGo_11 : decode cX8_letGo 11 = .ok (.bipush (-2), 2) := by decide +kernel
theorem dX8_letGo_13 : decode cX8_letGo 13 = .ok (.ireturn, 1) := by decide +kernel
theorem dX8_letGo_14 : decode cX8_letGo 14 = .ok (.aload_n 0, 1) := by decide +kernel
theorem dX8_letGo_15 : decode cX8_letGo 15 = .ok (.dup, 1) := by decide +kernel
theorem dX8_letGo_16 : decode cX8_letGo 16 = .ok (.getfield 32, 3) := by decide +kernel
theorem dX8_letGo_19 : decode cX8_letGo 19 = .ok (.iconst 1, 1) := by decide +kernel
theorem dX8_letGo_20 : decode cX8_letGo 20 = .ok (.iload_n 1, 1) := by decide +kernel
theorem dX8_letGo_21 : decode cX8_letGo 21 = .ok (.ishl, 1) := by decide +kernel
theorem dX8_letGo_22 : decode cX8_letGo 22 = .ok (.iconst (-1), 1) := by decide +kernel
theorem dX8_letGo_23 : decode cX8_letGo 23 = .ok (.ixor, 1) := by decide +kernel
theorem dX8_letGo_24 : decode cX8_letGo 24 = .ok (.iand, 1) := by decide +kernel
theorem dX8_letGo_25 : decode cX8_letGo 25 = .ok (.putfield 32, 3) := by decide +kernel
theorem dX8_letGo_28 : decode cX8_letGo 28 = .ok (.aload_n 0, 1) := by decide +kernel
theorem dX8_letGo_29 : decode cX8_letGo 29 = .ok (.dup, 1) := by decide +kernel
theorem dX8_letGo_30 : decode cX8_letGo 30 = .ok (.getfield 35, 3) := by decide +kernel
theorem dX8_letGo_33 : decode cX8_letGo 33 = .ok (.ldc2_w 89, 3) := by decide +kernel
theorem dX8_letGo_36 : decode cX8_letGo 36 = .ok (.bipush 8, 2) := by decide +kernel
theorem dX8_letGo_38 : decode cX8_letGo 38 = .ok (.iload_n 1, 1) := by decide +kernel
theorem dX8_letGo_39 : decode cX8_letGo 39 = .ok (.imul, 1) := by decide +kernel
theorem dX8_letGo_40 : decode cX8_letGo 40 = .ok (.lshl, 1) := by decide +kernel
theorem dX8_letGo_41 : decode cX8_letGo 41 = .ok (.ldc2_w 91, 3) := by decide +kernel
theorem dX8_letGo_44 : decode cX8_letGo 44 = .ok (.iload_n 1, 1) := by decide +kernel
theorem dX8_letGo_45 : decode cX8_letGo 45 = .ok (.lshl, 1) := by decide +kernel
theorem dX8_letGo_46 : decode cX8_letGo 46 = .ok (.lor, 1) := by decide +kernel
theorem dX8_letGo_47 : decode cX8_letGo 47 = .ok (.ldc2_w 93, 3) := by decide +kernel
theorem dX8_letGo_50 : decode cX8_letGo 50 = .ok (.lxor, 1) := by decide +kernel
theorem dX8_letGo_51 : decode cX8_letGo 51 = .ok (.land, 1) := by decide +kernel
theorem dX8_letGo_52 : decode cX8_letGo 52 = .ok (.putfield 35, 3) := by decide +kernel
theorem dX8_letGo_55 : decode cX8_letGo 55 = .ok (.iconst 1, 1) := by decide +kernel
theorem dX8_letGo_56 : decode cX8_letGo 56 = .ok (.ireturn, 1) := by decide +kernel
theorem dX8_takeUp_0 : decode cX8_takeUp 0 = .ok (.aload_n 0, 1) := by decide +kernel
theorem dX8_takeUp_1 : decode cX8_takeUp 1 = .ok (.aload_n 0, 1) := by decide +kernel
theorem dX8_takeUp_2 : decode cX8_takeUp 2 = .ok (.iload_n 1, 1) := by decide +kernel
theorem dX8_takeUp_3 : decode cX8_takeUp 3 = .ok (.invokevirtual 43, 3) := by decide +kernel
theorem dX8_takeUp_6 : decode cX8_takeUp 6 = .ok (.aload_n 0, 1) := by decide +kernel
theorem dX8_takeUp_7 : decode cX8_takeUp 7 = .ok (.aload_n 0, 1) := by decide +kernel
theorem dX8_takeUp_8 : decode cX8_takeUp 8 = .ok (.iload_n 1, 1) := by decide +kernel
theorem dX8_takeUp_9 : decode cX8_takeUp 9 = .ok (.invokevirtual 75, 3) := by decide +kernel
theorem dX8_takeUp_12 : decode cX8_takeUp 12 = .ok (.invokevirtual 43, 3) := by decide +kernel
theorem dX8_takeUp_15 : decode cX8_takeUp 15 = .ok (.invokevirtual 95, 3) := by decide +kernel
theorem dX8_takeUp_18 : decode cX8_takeUp 18 = .ok (.istore_n 2, 1) := by decide +kernel
theorem dX8_takeUp_19 : decode cX8_takeUp 19 = .ok (.aload_n 0, 1) := by decide +kernel
theorem dX8_takeUp_20 : decode cX8_takeUp 20 = .ok (.getfield 32, 3) := by decide +kernel
theorem dX8_takeUp_23 : decode cX8_takeUp 23 = .ok (.iload_n 1, 1) := by decide +kernel
theorem dX8_takeUp_24 : decode cX8_takeUp 24 = .ok (.iushr, 1) := by decide +kernel
theorem dX8_takeUp_25 : decode cX8_takeUp 25 = .ok (.iconst 1, 1) := by decide +kernel
theorem dX8_takeUp_26 : decode cX8_takeUp 26 = .ok (.iand, 1) := by decide +kernel
theorem dX8_takeUp_27 : decode cX8_takeUp 27 = .ok (.ifCond .ne 18, 3) := by decide +kernel
theorem dX8_takeUp_30 : decode cX8_takeUp 30 = .ok (.iload_n 2, 1) := by decide +kernel
theorem dX8_takeUp_31 : decode cX8_takeUp 31 = .ok (.iconst 1, 1) := by decide +kernel
theorem dX8_takeUp_32 : decode cX8_takeUp 32 = .ok (.if_icmp .eq 16, 3) := by decide +kernel
theorem dX8_takeUp_35 : decode cX8_takeUp 35 = .ok (.iload_n 2, 1) := by decide +kernel
theorem dX8_takeUp_36 : decode cX8_takeUp 36 = .ok (.aload_n 0, 1) := by decide +kernel
theorem dX8_takeUp_37 : decode cX8_takeUp 37 = .ok (.getfield 15, 3) := by decide +kernel
theorem dX8_takeUp_40 : decode cX8_takeUp 40 = .ok (.iconst 1, 1) := by decide +kernel
theorem dX8_takeUp_41 : decode cX8_takeUp 41 = .ok (.isub, 1) := by decide +kernel
theorem dX8_takeUp_42 : decode cX8_takeUp 42 = .ok (.if_icmp .eq 6, 3) := by decide +kernel
theorem dX8_takeUp_45 : decode cX8_takeUp 45 = .ok (.bipush (-2), 2) := by decide +kernel
theorem dX8_takeUp_47 : decode cX8_takeUp 47 = .ok (.ireturn, 1) := by decide +kernel
theorem dX8_takeUp_48 : decode cX8_takeUp 48 = .ok (.aload_n 0, 1) := by decide +kernel
theorem dX8_takeUp_49 : decode cX8_takeUp 49 = .ok (.dup, 1) := by decide +kernel
theorem dX8_takeUp_50 : decode cX8_takeUp 50 = .ok (.getfield 32, 3) := by decide +kernel
theorem dX8_takeUp_53 : decode cX8_takeUp 53 = .ok (.iconst 1, 1) := by decide +kernel
theorem dX8_takeUp_54 : decode cX8_takeUp 54 = .ok (.iload_n 1, 1) := by decide +kernel
theorem dX8_takeUp_55 : decode cX8_takeUp 55 = .ok (.ishl, 1) := by decide +kernel
theorem dX8_takeUp_56 : decode cX8_takeUp 56 = .ok (.ior, 1) := by decide +kernel
theorem dX8_takeUp_57 : decode cX8_takeUp 57 = .ok (.putfield 32, 3) := by decide +kernel
theorem dX8_takeUp_60 : decode cX8_takeUp 60 = .ok (.iconst 1, 1) := by decide +kernel
theorem dX8_takeUp_61 : decode cX8_takeUp 61 = .ok (.ireturn, 1) := by decide +kernel
theorem dX8_isLock_0 : decode cX8_isLock 0 = .ok (.aload_n 0, 1) := by decide +kernel
theorem dX8_isLock_1 : decode cX8_isLock 1 = .ok (.getfield 32, 3) := by decide +kernel
theorem dX8_isLock_4 : decode cX8_isLock 4 = .ok (.iconst 1, 1) := by decide +kernel
theorem dX8_isLock_5 : decode cX8_isLock 5 = .ok (.aload_n 0, 1) := by decide +kernel
theorem dX8_isLock_6 : decode cX8_isLock 6 = .ok (.getfield 15, 3) := by decide +kernel
theorem dX8_isLock_9 : decode cX8_isLock 9 = .ok (.ishl, 1) := by decide +kernel
theorem dX8_isLock_10 : decode cX8_isLock 10 = .ok (.iconst 1, 1) := by decide +kernel
theorem dX8_isLock_11 : decode cX8_isLock 11 = .ok (.isub, 1) := by decide +kernel
theorem dX8_isLock_12 : decode cX8_isLock 12 = .ok (.if_icmp .eq 5, 3) := by decide +kernel
theorem dX8_isLock_15 : decode cX8_isLock 15 = .ok (.iconst 0, 1) := by decide +kernel
theorem dX8_isLock_16 : decode cX8_isLock 16 = .ok (.ireturn, 1) := by decide +kernel
theorem dX8_isLock_17 : decode cX8_isLock 17 = .ok (.iconst 0, 1) := by decide +kernel
theorem dX8_isLock_18 : decode cX8_isLock 18 = .ok (.istore_n 1, 1) := by decide +kernel
theorem dX8_isLock_19 : decode cX8_isLock 19 = .ok (.iload_n 1, 1) := by decide +kernel
theorem dX8_isLock_20 : decode cX8_isLock 20 = .ok (.aload_n 0, 1) := by decide +kernel
theorem dX8_isLock_21 : decode cX8_isLock 21 = .ok (.getfield 15, 3) := by decide +kernel
theorem dX8_isLock_24 : decode cX8_isLock 24 = .ok (.if_icmp .ge 27, 3) := by decide +kernel
theorem dX8_isLock_27 : decode cX8_isLock 27 = .ok (.aload_n 0, 1) := by decide +kernel
theorem dX8_isLock_28 : decode cX8_isLock 28 = .ok (.iload_n 1, 1) := by decide +kernel
theorem dX8_isLock_29 : decode cX8_isLock 29 = .ok (.invokevirtual 99, 3) := by decide +kernel
theorem dX8_isLock_32 : decode cX8_isLock 32 = .ok (.ifCond .eq 11, 3) := by decide +kernel
theorem dX8_isLock_35 : decode cX8_isLock 35 = .ok (.aload_n 0, 1) := by decide +kernel
theorem dX8_isLock_36 : decode cX8_isLock 36 = .ok (.iload_n 1, 1) := by decide +kernel
theorem dX8_isLock_37 : decode cX8_isLock 37 = .ok (.invokevirtual 102, 3) := by decide +kernel
theorem dX8_isLock_40 : decode cX8_isLock 40 = .ok (.ifCond .ne 5, 3) := by decide +kernel
theorem dX8_isLock_43 : decode cX8_isLock 43 = .ok (.iconst 0, 1) := by decide +kernel
theorem dX8_isLock_44 : decode cX8_isLock 44 = .ok (.ireturn, 1) := by decide +kernel
theorem dX8_isLock_45 : decode cX8_isLock 45 = .ok (.iinc 1 1, 3) := by decide +kernel
theorem dX8_isLock_48 : decode cX8_isLock 48 = .ok (.goto (-29), 3) := by decide +kernel
theorem dX8_isLock_51 : decode cX8_isLock 51 = .ok (.iconst 1, 1) := by decide +kernel
theorem dX8_isLock_52 : decode cX8_isLock 52 = .ok (.ireturn, 1) := by decide +kernel
theorem dX8_freeOf_0 : decode cX8_freeOf 0 = .ok (.iconst 0, 1) := by decide +kernel
theorem dX8_freeOf_1 : decode cX8_freeOf 1 = .ok (.istore_n 2, 1) := by decide +kernel
theorem dX8_freeOf_2 : decode cX8_freeOf 2 = .ok (.iconst 0, 1) := by decide +kernel
theorem dX8_freeOf_3 : decode cX8_freeOf 3 = .ok (.istore_n 3, 1) := by decide +kernel
theorem dX8_freeOf_4 : decode cX8_freeOf 4 = .ok (.iload_n 3, 1) := by decide +kernel
theorem dX8_freeOf_5 : decode cX8_freeOf 5 = .ok (.aload_n 0, 1) := by decide +kernel
theorem dX8_freeOf_6 : decode cX8_freeOf 6 = .ok (.getfield 15, 3) := by decide +kernel
theorem dX8_freeOf_9 : decode cX8_freeOf 9 = .ok (.if_icmp .ge 33, 3) := by decide +kernel
theorem dX8_freeOf_12 : decode cX8_freeOf 12 = .ok (.iload_n 1, 1) := by decide +kernel
theorem dX8_freeOf_13 : decode cX8_freeOf 13 = .ok (.iload_n 3, 1) := by decide +kernel
theorem dX8_freeOf_14 : decode cX8_freeOf 14 = .ok (.iushr, 1) := by decide +kernel
theorem dX8_freeOf_15 : decode cX8_freeOf 15 = .ok (.iconst 1, 1) := by decide +kernel
theorem dX8_freeOf_16 : decode cX8_freeOf 16 = .ok (.iand, 1) := by decide +kernel
theorem dX8_freeOf_17 : decode cX8_freeOf 17 = .ok (.ifCond .eq 19, 3) := by decide +kernel
theorem dX8_freeOf_20 : decode cX8_freeOf 20 = .ok (.aload_n 0, 1) := by decide +kernel
theorem dX8_freeOf_21 : decode cX8_freeOf 21 = .ok (.iload_n 3, 1) := by decide +kernel
theorem dX8_freeOf_22 : decode cX8_freeOf 22 = .ok (.invokevirtual 102, 3) := by decide +kernel
theorem dX8_freeOf_25 : decode cX8_freeOf 25 = .ok (.iload_n 1, 1) := by decide +kernel
theorem dX8_freeOf_26 : decode cX8_freeOf 26 = .ok (.iand, 1) := by decide +kernel
theorem dX8_freeOf_27 : decode cX8_freeOf 27 = .ok (.ifCond .ne 9, 3) := by decide +kernel
theorem dX8_freeOf_30 : decode cX8_freeOf 30 = .ok (.iload_n 2, 1) := by decide +kernel
theorem dX8_freeOf_31 : decode cX8_freeOf 31 = .ok (.iconst 1, 1) := by decide +kernel
theorem dX8_freeOf_32 : decode cX8_freeOf 32 = .ok (.iload_n 3, 1) := by decide +kernel
theorem dX8_freeOf_33 : decode cX8_freeOf 33 = .ok (.ishl, 1) := by decide +kernel
theorem dX8_freeOf_34 : decode cX8_freeOf 34 = .ok (.ior, 1) := by decide +kernel
theorem dX8_freeOf_35 : decode cX8_freeOf 35 = .ok (.istore_n 2, 1) := by decide +kernel
theorem dX8_freeOf_36 : decode cX8_freeOf 36 = .ok (.iinc 3 1, 3) := by decide +kernel
theorem dX8_freeOf_39 : decode cX8_freeOf 39 = .ok (.goto (-35), 3) := by decide +kernel
theorem dX8_freeOf_42 : decode cX8_freeOf 42 = .ok (.iload_n 2, 1) := by decide +kernel
theorem dX8_freeOf_43 : decode cX8_freeOf 43 = .ok (.ireturn, 1) := by decide +kernel
theorem dX8_layerOf_0 : decode cX8_layerOf 0 = .ok (.aload_n 0, 1) := by decide +kernel
theorem dX8_layerOf_1 : decode cX8_layerOf 1 = .ok (.getfield 32, 3) := by decide +kernel
theorem dX8_layerOf_4 : decode cX8_layerOf 4 = .ok (.istore_n 2, 1) := by decide +kernel
theorem dX8_layerOf_5 : decode cX8_layerOf 5 = .ok (.iconst 0, 1) := by decide +kernel
theorem dX8_layerOf_6 : decode cX8_layerOf 6 = .ok (.istore_n 3, 1) := by decide +kernel
theorem dX8_layerOf_7 : decode cX8_layerOf 7 = .ok (.iload_n 3, 1) := by decide +kernel
theorem dX8_layerOf_8 : decode cX8_layerOf 8 = .ok (.aload_n 0, 1) := by decide +kernel
theorem dX8_layerOf_9 : decode cX8_layerOf 9 = .ok (.getfield 15, 3) := by decide +kernel
theorem dX8_layerOf_12 : decode cX8_layerOf 12 = .ok (.if_icmp .ge 34, 3) := by decide +kernel
theorem dX8_layerOf_15 : decode cX8_layerOf 15 = .ok (.aload_n 0, 1) := by decide +kernel
theorem dX8_layerOf_16 : decode cX8_layerOf 16 = .ok (.iload_n 2, 1) := by decide +kernel
theorem dX8_layerOf_17 : decode cX8_layerOf 17 = .ok (.invokevirtual 105, 3) := by decide +kernel
theorem dX8_layerOf_20 : decode cX8_layerOf 20 = .ok (.istore 4, 2) := by decide +kernel
theorem dX8_layerOf_22 : decode cX8_layerOf 22 = .ok (.iload 4, 2) := by decide +kernel
theorem dX8_layerOf_24 : decode cX8_layerOf 24 = .ok (.iload_n 1, 1) := by decide +kernel
theorem dX8_layerOf_25 : decode cX8_layerOf 25 = .ok (.iushr, 1) := by decide +kernel
theorem dX8_layerOf_26 : decode cX8_layerOf 26 = .ok (.iconst 1, 1) := by decide +kernel
theorem dX8_layerOf_27 : decode cX8_layerOf 27 = .ok (.iand, 1) := by decide +kernel
theorem dX8_layerOf_28 : decode cX8_layerOf 28 = .ok (.ifCond .eq 5, 3) := by decide +kernel
theorem dX8_layerOf_31 : decode cX8_layerOf 31 = .ok (.iload_n 3, 1) := by decide +kernel
theorem dX8_layerOf_32 : decode cX8_layerOf 32 = .ok (.ireturn, 1) := by decide +kernel
theorem dX8_layerOf_33 : decode cX8_layerOf 33 = .ok (.iload_n 2, 1) := by decide +kernel
theorem dX8_layerOf_34 : decode cX8_layerOf 34 = .ok (.iload 4, 2) := by decide +kernel
theorem dX8_layerOf_36 : decode cX8_layerOf 36 = .ok (.iconst (-1), 1) := by decide +kernel
theorem dX8_layerOf_37 : decode cX8_layerOf 37 = .ok (.ixor, 1) := by decide +kernel
theorem dX8_layerOf_38 : decode cX8_layerOf 38 = .ok (.iand, 1) := by decide +kernel
theorem dX8_layerOf_39 : decode cX8_layerOf 39 = .ok (.istore_n 2, 1) := by decide +kernel
theorem dX8_layerOf_40 : decode cX8_layerOf 40 = .ok (.iinc 3 1, 3) := by decide +kernel
theorem dX8_layerOf_43 : decode cX8_layerOf 43 = .ok (.goto (-36), 3) := by decide +kernel
theorem dX8_layerOf_46 : decode cX8_layerOf 46 = .ok (.bipush (-4), 2) := by decide +kernel
theorem dX8_layerOf_48 : decode cX8_layerOf 48 = .ok (.ireturn, 1) := by decide +kernel
theorem dX8_layers_0 : decode cX8_layers 0 = .ok (.aload_n 0, 1) := by decide +kernel
theorem dX8_layers_1 : decode cX8_layers 1 = .ok (.getfield 32, 3) := by decide +kernel
theorem dX8_layers_4 : decode cX8_layers 4 = .ok (.istore_n 1, 1) := by decide +kernel
theorem dX8_layers_5 : decode cX8_layers 5 = .ok (.iconst 0, 1) := by decide +kernel
theorem dX8_layers_6 : decode cX8_layers 6 = .ok (.istore_n 2, 1) := by decide +kernel
theorem dX8_layers_7 : decode cX8_layers 7 = .ok (.iload_n 2, 1) := by decide +kernel
theorem dX8_layers_8 : decode cX8_layers 8 = .ok (.aload_n 0, 1) := by decide +kernel
theorem dX8_layers_9 : decode cX8_layers 9 = .ok (.getfield 15, 3) := by decide +kernel
theorem dX8_layers_12 : decode cX8_layers 12 = .ok (.if_icmp .ge 27, 3) := by decide +kernel
theorem dX8_layers_15 : decode cX8_layers 15 = .ok (.aload_n 0, 1) := by decide +kernel
theorem dX8_layers_16 : decode cX8_layers 16 = .ok (.iload_n 1, 1) := by decide +kernel
theorem dX8_layers_17 : decode cX8_layers 17 = .ok (.invokevirtual 105, 3) := by decide +kernel
theorem dX8_layers_20 : decode cX8_layers 20 = .ok (.istore_n 3, 1) := by decide +kernel
theorem dX8_layers_21 : decode cX8_layers 21 = .ok (.iload_n 3, 1) := by decide +kernel
theorem dX8_layers_22 : decode cX8_layers 22 = .ok (.ifCond .ne 5, 3) := by decide +kernel
theorem dX8_layers_25 : decode cX8_layers 25 = .ok (.iload_n 2, 1) := by decide +kernel
theorem dX8_layers_26 : decode cX8_layers 26 = .ok (.ireturn, 1) := by decide +kernel
theorem dX8_layers_27 : decode cX8_layers 27 = .ok (.iload_n 1, 1) := by decide +kernel
theorem dX8_layers_28 : decode cX8_layers 28 = .ok (.iload_n 3, 1) := by decide +kernel
theorem dX8_layers_29 : decode cX8_layers 29 = .ok (.iconst (-1), 1) := by decide +kernel
theorem dX8_layers_30 : decode cX8_layers 30 = .ok (.ixor, 1) := by decide +kernel
theorem dX8_layers_31 : decode cX8_layers 31 = .ok (.iand, 1) := by decide +kernel
theorem dX8_layers_32 : decode cX8_layers 32 = .ok (.istore_n 1, 1) := by decide +kernel
theorem dX8_layers_33 : decode cX8_layers 33 = .ok (.iinc 2 1, 3) := by decide +kernel
theorem dX8_layers_36 : decode cX8_layers 36 = .ok (.goto (-29), 3) := by decide +kernel
theorem dX8_layers_39 : decode cX8_layers 39 = .ok (.aload_n 0, 1) := by decide +kernel
theorem dX8_layers_40 : decode cX8_layers 40 = .ok (.getfield 15, 3) := by decide +kernel
theorem dX8_layers_43 : decode cX8_layers 43 = .ok (.ireturn, 1) := by decide +kernel
theorem dX8_bound_0 : decode cX8_bound 0 = .ok (.aload_n 0, 1) := by decide +kernel
theorem dX8_bound_1 : decode cX8_bound 1 = .ok (.getfield 32, 3) := by decide +kernel
theorem dX8_bound_4 : decode cX8_bound 4 = .ok (.istore_n 1, 1) := by decide +kernel
theorem dX8_bound_5 : decode cX8_bound 5 = .ok (.iconst 0, 1) := by decide +kernel
theorem dX8_bound_6 : decode cX8_bound 6 = .ok (.istore_n 2, 1) := by decide +kernel
theorem dX8_bound_7 : decode cX8_bound 7 = .ok (.iload_n 2, 1) := by decide +kernel
theorem dX8_bound_8 : decode cX8_bound 8 = .ok (.aload_n 0, 1) := by decide +kernel
theorem dX8_bound_9 : decode cX8_bound 9 = .ok (.getfield 15, 3) := by decide +kernel
theorem dX8_bound_12 : decode cX8_bound 12 = .ok (.if_icmp .ge 19, 3) := by decide +kernel
theorem dX8_bound_15 : decode cX8_bound 15 = .ok (.iload_n 1, 1) := by decide +kernel
theorem dX8_bound_16 : decode cX8_bound 16 = .ok (.aload_n 0, 1) := by decide +kernel
theorem dX8_bound_17 : decode cX8_bound 17 = .ok (.iload_n 1, 1) := by decide +kernel
theorem dX8_bound_18 : decode cX8_bound 18 = .ok (.invokevirtual 105, 3) := by decide +kernel
theorem dX8_bound_21 : decode cX8_bound 21 = .ok (.iconst (-1), 1) := by decide +kernel
theorem dX8_bound_22 : decode cX8_bound 22 = .ok (.ixor, 1) := by decide +kernel
theorem dX8_bound_23 : decode cX8_bound 23 = .ok (.iand, 1) := by decide +kernel
theorem dX8_bound_24 : decode cX8_bound 24 = .ok (.istore_n 1, 1) := by decide +kernel
theorem dX8_bound_25 : decode cX8_bound 25 = .ok (.iinc 2 1, 3) := by decide +kernel
theorem dX8_bound_28 : decode cX8_bound 28 = .ok (.goto (-21), 3) := by decide +kernel
theorem dX8_bound_31 : decode cX8_bound 31 = .ok (.iload_n 1, 1) := by decide +kernel
theorem dX8_bound_32 : decode cX8_bound 32 = .ok (.ireturn, 1) := by decide +kernel
theorem dX8_star_0 : decode cX8_star 0 = .ok (.aload_n 0, 1) := by decide +kernel
theorem dX8_star_1 : decode cX8_star 1 = .ok (.aload_n 0, 1) := by decide +kernel
theorem dX8_star_2 : decode cX8_star 2 = .ok (.iconst 0, 1) := by decide +kernel
theorem dX8_star_3 : decode cX8_star 3 = .ok (.invokevirtual 43, 3) := by decide +kernel
theorem dX8_star_6 : decode cX8_star 6 = .ok (.aload_n 0, 1) := by decide +kernel
theorem dX8_star_7 : decode cX8_star 7 = .ok (.iconst 1, 1) := by decide +kernel
theorem dX8_star_8 : decode cX8_star 8 = .ok (.invokevirtual 43, 3) := by decide +kernel
theorem dX8_star_11 : decode cX8_star 11 = .ok (.invokevirtual 95, 3) := by decide +kernel
theorem dX8_star_14 : decode cX8_star 14 = .ok (.istore_n 1, 1) := by decide +kernel
theorem dX8_star_15 : decode cX8_star 15 = .ok (.iload_n 1, 1) := by decide +kernel
theorem dX8_star_16 : decode cX8_star 16 = .ok (.iconst 2, 1) := by decide +kernel
theorem dX8_star_17 : decode cX8_star 17 = .ok (.if_icmp .lt 13, 3) := by decide +kernel
theorem dX8_star_20 : decode cX8_star 20 = .ok (.iload_n 1, 1) := by decide +kernel
theorem dX8_star_21 : decode cX8_star 21 = .ok (.aload_n 0, 1) := by decide +kernel
theorem dX8_star_22 : decode cX8_star 22 = .ok (.getfield 15, 3) := by decide +kernel
theorem dX8_star_25 : decode cX8_star 25 = .ok (.iconst 2, 1) := by decide +kernel
theorem dX8_star_26 : decode cX8_star 26 = .ok (.isub, 1) := by decide +kernel
theorem dX8_star_27 : decode cX8_star 27 = .ok (.if_icmp .le 6, 3) := by decide +kernel
theorem dX8_star_30 : decode cX8_star 30 = .ok (.bipush (-4), 2) := by decide +kernel
theorem dX8_star_32 : decode cX8_star 32 = .ok (.ireturn, 1) := by decide +kernel
theorem dX8_star_33 : decode cX8_star 33 = .ok (.iconst 1, 1) := by decide +kernel
theorem dX8_star_34 : decode cX8_star 34 = .ok (.istore_n 2, 1) := by decide +kernel
theorem dX8_star_35 : decode cX8_star 35 = .ok (.iload_n 2, 1) := by decide +kernel
theorem dX8_star_36 : decode cX8_star 36 = .ok (.aload_n 0, 1) := by decide +kernel
theorem dX8_star_37 : decode cX8_star 37 = .ok (.getfield 15, 3) := by decide +kernel
theorem dX8_star_40 : decode cX8_star 40 = .ok (.if_icmp .ge 34, 3) := by decide +kernel
theorem dX8_star_43 : decode cX8_star 43 = .ok (.aload_n 0, 1) := by decide +kernel
theorem dX8_star_44 : decode cX8_star 44 = .ok (.aload_n 0, 1) := by decide +kernel
theorem dX8_star_45 : decode cX8_star 45 = .ok (.iload_n 2, 1) := by decide +kernel
theorem dX8_star_46 : decode cX8_star 46 = .ok (.invokevirtual 43, 3) := by decide +kernel
theorem dX8_star_49 : decode cX8_star 49 = .ok (.aload_n 0, 1) := by decide +kernel
theorem dX8_star_50 : decode cX8_star 50 = .ok (.aload_n 0, 1) := by decide +kernel
theorem dX8_star_51 : decode cX8_star 51 = .ok (.iload_n 2, 1) := by decide +kernel
theorem dX8_star_52 : decode cX8_star 52 = .ok (.invokevirtual 75, 3) := by decide +kernel
theorem dX8_star_55 : decode cX8_star 55 = .ok (.invokevirtual 43, 3) := by decide +kernel
theorem dX8_star_58 : decode cX8_star 58 = .ok (.invokevirtual 95, 3) := by decide +kernel
theorem dX8_star_61 : decode cX8_star 61 = .ok (.iload_n 1, 1) := by decide +kernel
theorem dX8_star_62 : decode cX8_star 62 = .ok (.if_icmp .eq 6, 3) := by decide +kernel
theorem dX8_star_65 : decode cX8_star 65 = .ok (.bipush (-4), 2) := by decide +kernel
theorem dX8_star_67 : decode cX8_star 67 = .ok (.ireturn, 1) := by decide +kernel
theorem dX8_star_68 : decode cX8_star 68 = .ok (.iinc 2 1, 3) := by decide +kernel
theorem dX8_star_71 : decode cX8_star 71 = .ok (.goto (-36), 3) := by decide +kernel
theorem dX8_star_74 : decode cX8_star 74 = .ok (.iload_n 1, 1) := by decide +kernel
theorem dX8_star_75 : decode cX8_star 75 = .ok (.ireturn, 1) := by decide +kernel
theorem dX8_turns_0 : decode cX8_turns 0 = .ok (.iconst 0, 1) := by decide +kernel
theorem dX8_turns_1 : decode cX8_turns 1 = .ok (.istore_n 1, 1) := by decide +kernel
theorem dX8_turns_2 : decode cX8_turns 2 = .ok (.iconst 0, 1) := by decide +kernel
theorem dX8_turns_3 : decode cX8_turns 3 = .ok (.istore_n 2, 1) := by decide +kernel
theorem dX8_turns_4 : decode cX8_turns 4 = .ok (.iload_n 2, 1) := by decide +kernel
theorem dX8_turns_5 : decode cX8_turns 5 = .ok (.aload_n 0, 1) := by decide +kernel
theorem dX8_turns_6 : decode cX8_turns 6 = .ok (.getfield 15, 3) := by decide +kernel
theorem dX8_turns_9 : decode cX8_turns 9 = .ok (.if_icmp .ge 92, 3) := by decide +kernel
theorem dX8_turns_12 : decode cX8_turns 12 = .ok (.aload_n 0, 1) := by decide +kernel
theorem dX8_turns_13 : decode cX8_turns 13 = .ok (.iload_n 2, 1) := by decide +kernel
theorem dX8_turns_14 : decode cX8_turns 14 = .ok (.invokevirtual 43, 3) := by decide +kernel
theorem dX8_turns_17 : decode cX8_turns 17 = .ok (.istore_n 3, 1) := by decide +kernel
theorem dX8_turns_18 : decode cX8_turns 18 = .ok (.aload_n 0, 1) := by decide +kernel
theorem dX8_turns_19 : decode cX8_turns 19 = .ok (.aload_n 0, 1) := by decide +kernel
theorem dX8_turns_20 : decode cX8_turns 20 = .ok (.iload_n 2, 1) := by decide +kernel
theorem dX8_turns_21 : decode cX8_turns 21 = .ok (.invokevirtual 75, 3) := by decide +kernel
theorem dX8_turns_24 : decode cX8_turns 24 = .ok (.invokevirtual 43, 3) := by decide +kernel
theorem dX8_turns_27 : decode cX8_turns 27 = .ok (.istore 4, 2) := by decide +kernel
theorem dX8_turns_29 : decode cX8_turns 29 = .ok (.iconst 0, 1) := by decide +kernel
theorem dX8_turns_30 : decode cX8_turns 30 = .ok (.istore 5, 2) := by decide +kernel
theorem dX8_turns_32 : decode cX8_turns 32 = .ok (.iload 5, 2) := by decide +kernel
theorem dX8_turns_34 : decode cX8_turns 34 = .ok (.aload_n 0, 1) := by decide +kernel
theorem dX8_turns_35 : decode cX8_turns 35 = .ok (.getfield 15, 3) := by decide +kernel
theorem dX8_turns_38 : decode cX8_turns 38 = .ok (.if_icmp .ge 57, 3) := by decide +kernel
theorem dX8_turns_41 : decode cX8_turns 41 = .ok (.aload_n 0, 1) := by decide +kernel
theorem dX8_turns_42 : decode cX8_turns 42 = .ok (.iload_n 2, 1) := by decide +kernel
theorem dX8_turns_43 : decode cX8_turns 43 = .ok (.iload 5, 2) := by decide +kernel
theorem dX8_turns_45 : decode cX8_turns 45 = .ok (.invokevirtual 55, 3) := by decide +kernel
theorem dX8_turns_48 : decode cX8_turns 48 = .ok (.ifCond .eq 41, 3) := by decide +kernel
theorem dX8_turns_51 : decode cX8_turns 51 = .ok (.aload_n 0, 1) := by decide +kernel
theorem dX8_turns_52 : decode cX8_turns 52 = .ok (.aload_n 0, 1) := by decide +kernel
theorem dX8_turns_53 : decode cX8_turns 53 = .ok (.iload 5, 2) := by decide +kernel
theorem dX8_turns_55 : decode cX8_turns 55 = .ok (.invokevirtual 75, 3) := by decide +kernel
theorem dX8_turns_58 : decode cX8_turns 58 = .ok (.invokevirtual 43, 3) := by decide +kernel
theorem dX8_turns_61 : decode cX8_turns 61 = .ok (.istore 6, 2) := by decide +kernel
theorem dX8_turns_63 : decode cX8_turns 63 = .ok (.iload_n 1, 1) := by decide +kernel
theorem dX8_turns_64 : decode cX8_turns 64 = .ok (.aload_n 0, 1) := by decide +kernel
theorem dX8_turns_65 : decode cX8_turns 65 = .ok (.iload 4, 2) := by decide +kernel
theorem dX8_turns_67 : decode cX8_turns 67 = .ok (.iload 6, 2) := by decide +kernel
theorem dX8_turns_69 : decode cX8_turns 69 = .ok (.invokevirtual 95, 3) := by decide +kernel
theorem dX8_turns_72 : decode cX8_turns 72 = .ok (.aload_n 0, 1) := by decide +kernel
theorem dX8_turns_73 : decode cX8_turns 73 = .ok (.iload 4, 2) := by decide +kernel
theorem dX8_turns_75 : decode cX8_turns 75 = .ok (.iload_n 3, 1) := by decide +kernel
theorem dX8_turns_76 : decode cX8_turns 76 = .ok (.invokevirtual 95, 3) := by decide +kernel
theorem dX8_turns_79 : decode cX8_turns 79 = .ok (.if_icmp .ge 7, 3) := by decide +kernel
theorem dX8_turns_82 : decode cX8_turns 82 = .ok (.iconst 1, 1) := by decide +kernel
theorem dX8_turns_83 : decode cX8_turns 83 = .ok (.goto 4, 3) := by decide +kernel
theorem dX8_turns_86 : decode cX8_turns 86 = .ok (.iconst (-1), 1) := by decide +kernel
theorem dX8_turns_87 : decode cX8_turns 87 = .ok (.iadd, 1) := by decide +kernel
theorem dX8_turns_88 : decode cX8_turns 88 = .ok (.istore_n 1, 1) := by decide +kernel
theorem dX8_turns_89 : decode cX8_turns 89 = .ok (.iinc 5 1, 3) := by decide +kernel
theorem dX8_turns_92 : decode cX8_turns 92 = .ok (.goto (-60), 3) := by decide +kernel
theorem dX8_turns_95 : decode cX8_turns 95 = .ok (.iinc 2 1, 3) := by decide +kernel
theorem dX8_turns_98 : decode cX8_turns 98 = .ok (.goto (-94), 3) := by decide +kernel
theorem dX8_turns_101 : decode cX8_turns 101 = .ok (.iload_n 1, 1) := by decide +kernel
theorem dX8_turns_102 : decode cX8_turns 102 = .ok (.ireturn, 1) := by decide +kernel
theorem dX9_init_0 : decode cX9_init 0 = .ok (.aload_n 0, 1) := by decide +kernel
theorem dX9_init_1 : decode cX9_init 1 = .ok (.invokespecial 1, 3) := by decide +kernel
theorem dX9_init_4 : decode cX9_init 4 = .ok (.aload_n 0, 1) := by decide +kernel
theorem dX9_init_5 : decode cX9_init 5 = .ok (.new 7, 3) := by decide +kernel
theorem dX9_init_8 : decode cX9_init 8 = .ok (.dup, 1) := by decide +kernel
theorem dX9_init_9 : decode cX9_init 9 = .ok (.invokespecial 9, 3) := by decide +kernel
theorem dX9_init_12 : decode cX9_init 12 = .ok (.putfield 10, 3) := by decide +kernel
theorem dX9_init_15 : decode cX9_init 15 = .ok (.aload_n 0, 1) := by decide +kernel
theorem dX9_init_16 : decode cX9_init 16 = .ok (.new 7, 3) := by decide +kernel
theorem dX9_init_19 : decode cX9_init 19 = .ok (.dup, 1) := by decide +kernel
theorem dX9_init_20 : decode cX9_init 20 = .ok (.invokespecial 9, 3) := by decide +kernel
theorem dX9_init_23 : decode cX9_init 23 = .ok (.putfield 16, 3) := by decide +kernel
theorem dX9_init_26 : decode cX9_init 26 = .ok (.aload_n 0, 1) := by decide +kernel
theorem dX9_init_27 : decode cX9_init 27 = .ok (.new 19, 3) := by decide +kernel
theorem dX9_init_30 : decode cX9_init 30 = .ok (.dup, 1) := by decide +kernel
theorem dX9_init_31 : decode cX9_init 31 = .ok (.invokespecial 21, 3) := by decide +kernel
theorem dX9_init_34 : decode cX9_init 34 = .ok (.putfield 22, 3) := by decide +kernel
theorem dX9_init_37 : decode cX9_init 37 = .ok (.aload_n 0, 1) := by decide +kernel
theorem dX9_init_38 : decode cX9_init 38 = .ok (.bipush 6, 2) := by decide +kernel
theorem dX9_init_40 : decode cX9_init 40 = .ok (.anewarray 19, 3) := by decide +kernel
theorem dX9_init_43 : decode cX9_init 43 = .ok (.putfield 26, 3) := by decide +kernel
theorem dX9_init_46 : decode cX9_init 46 = .ok (.aload_n 0, 1) := by decide +kernel
theorem dX9_init_47 : decode cX9_init 47 = .ok (.new 30, 3) := by decide +kernel
theorem dX9_init_50 : decode cX9_init 50 = .ok (.dup, 1) := by decide +kernel
theorem dX9_init_51 : decode cX9_init 51 = .ok (.invokespecial 32, 3) := by decide +kernel
theorem dX9_init_54 : decode cX9_init 54 = .ok (.putfield 33, 3) := by decide +kernel
theorem dX9_init_57 : decode cX9_init 57 = .ok (.aload_n 0, 1) := by decide +kernel
theorem dX9_init_58 : decode cX9_init 58 = .ok (.new 37, 3) := by decide +kernel
theorem dX9_init_61 : decode cX9_init 61 = .ok (.dup, 1) := by decide +kernel
theorem dX9_init_62 : decode cX9_init 62 = .ok (.invokespecial 39, 3) := by decide +kernel
theorem dX9_init_65 : decode cX9_init 65 = .ok (.putfield 40, 3) := by decide +kernel
theorem dX9_init_68 : decode cX9_init 68 = .ok (.aload_n 0, 1) := by decide +kernel
theorem dX9_init_69 : decode cX9_init 69 = .ok (.new 44, 3) := by decide +kernel
theorem dX9_init_72 : decode cX9_init 72 = .ok (.dup, 1) := by decide +kernel
theorem dX9_init_73 : decode cX9_init 73 = .ok (.invokespecial 46, 3) := by decide +kernel
theorem dX9_init_76 : decode cX9_init 76 = .ok (.putfield 47, 3) := by decide +kernel
theorem dX9_init_79 : decode cX9_init 79 = .ok (.aload_n 0, 1) := by decide +kernel
theorem dX9_init_80 : decode cX9_init 80 = .ok (.bipush 8, 2) := by decide +kernel
theorem dX9_init_82 : decode cX9_init 82 = .ok (.anewarray 51, 3) := by decide +kernel
theorem dX9_init_85 : decode cX9_init 85 = .ok (.putfield 53, 3) := by decide +kernel
theorem dX9_init_88 : decode cX9_init 88 = .ok (.aload_n 0, 1) := by decide +kernel
theorem dX9_init_89 : decode cX9_init 89 = .ok (.iconst 4, 1) := by decide +kernel
theorem dX9_init_90 : decode cX9_init 90 = .ok (.anewarray 57, 3) := by decide +kernel
theorem dX9_init_93 : decode cX9_init 93 = .ok (.putfield 59, 3) := by decide +kernel
theorem dX9_init_96 : decode cX9_init 96 = .ok (.aload_n 0, 1) := by decide +kernel
theorem dX9_init_97 : decode cX9_init 97 = .ok (.new 63, 3) := by decide +kernel
theorem dX9_init_100 : decode cX9_init 100 = .ok (.dup, 1) := by decide +kernel
theorem dX9_init_101 : decode cX9_init 101 = .ok (.invokespecial 65, 3) := by decide +kernel
theorem dX9_init_104 : decode cX9_init 104 = .ok (.putfield 66, 3) := by decide +kernel
theorem dX9_init_107 : decode cX9_init 107 = .ok (.aload_n 0, 1) := by decide +kernel
theorem dX9_init_108 : decode cX9_init 108 = .ok (.iconst 4, 1) := by decide +kernel
theorem dX9_init_109 : decode cX9_init 109 = .ok (.anewarray 70, 3) := by decide +kernel
theorem dX9_init_112 : decode cX9_init 112 = .ok (.putfield 72, 3) := by decide +kernel
theorem dX9_init_115 : decode cX9_init 115 = .ok (.iconst 0, 1) := by decide +kernel
theorem dX9_init_116 : decode cX9_init 116 = .ok (.istore_n 1, 1) := by decide +kernel
theorem dX9_init_117 : decode cX9_init 117 = .ok (.iload_n 1, 1) := by decide +kernel
theorem dX9_init_118 : decode cX9_init 118 = .ok (.aload_n 0, 1) := by decide +kernel
theorem dX9_init_119 : decode cX9_init 119 = .ok (.getfield 26, 3) := by decide +kernel
theorem dX9_init_122 : decode cX9_init 122 = .ok (.arraylength, 1) := by decide +kernel
theorem dX9_init_123 : decode cX9_init 123 = .ok (.if_icmp .ge 22, 3) := by decide +kernel
theorem dX9_init_126 : decode cX9_init 126 = .ok (.aload_n 0, 1) := by decide +kernel
theorem dX9_init_127 : decode cX9_init 127 = .ok (.getfield 26, 3) := by decide +kernel
theorem dX9_init_130 : decode cX9_init 130 = .ok (.iload_n 1, 1) := by decide +kernel
theorem dX9_init_131 : decode cX9_init 131 = .ok (.new 19, 3) := by decide +kernel
theorem dX9_init_134 : decode cX9_init 134 = .ok (.dup, 1) := by decide +kernel
theorem dX9_init_135 : decode cX9_init 135 = .ok (.invokespecial 21, 3) := by decide +kernel
theorem dX9_init_138 : decode cX9_init 138 = .ok (.aastore, 1) := by decide +kernel
theorem dX9_init_139 : decode cX9_init 139 = .ok (.iinc 1 1, 3) := by decide +kernel
theorem dX9_init_142 : decode cX9_init 142 = .ok (.goto (-25), 3) := by decide +kernel
theorem dX9_init_145 : decode cX9_init 145 = .ok (.iconst 0, 1) := by decide +kernel
theorem dX9_init_146 : decode cX9_init 146 = .ok (.istore_n 1, 1) := by decide +kernel
theorem dX9_init_147 : decode cX9_init 147 = .ok (.iload_n 1, 1) := by decide +kernel
theorem dX9_init_148 : decode cX9_init 148 = .ok (.aload_n 0, 1) := by decide +kernel
theorem dX9_init_149 : decode cX9_init 149 = .ok (.getfield 53, 3) := by decide +kernel
theorem dX9_init_152 : decode cX9_init 152 = .ok (.arraylength, 1) := by decide +kernel
theorem dX9_init_153 : decode cX9_init 153 = .ok (.if_icmp .ge 22, 3) := by decide +kernel
theorem dX9_init_156 : decode cX9_init 156 = .ok (.aload_n 0, 1) := by decide +kernel
theorem dX9_init_157 : decode cX9_init 157 = .ok (.getfield 53, 3) := by decide +kernel
theorem dX9_init_160 : decode cX9_init 160 = .ok (.iload_n 1, 1) := by decide +kernel
theorem dX9_init_161 : decode cX9_init 161 = .ok (.new 51, 3) := by decide +kernel
theorem dX9_init_164 : decode cX9_init 164 = .ok (.dup, 1) := by decide +kernel
theorem dX9_init_165 : decode cX9_init 165 = .ok (.invokespecial 76, 3) := by decide +kernel
theorem dX9_init_168 : decode cX9_init 168 = .ok (.aastore, 1) := by decide +kernel
theorem dX9_init_169 : decode cX9_init 169 = .ok (.iinc 1 1, 3) := by decide +kernel
theorem dX9_init_172 : decode cX9_init 172 = .ok (.goto (-25), 3) := by decide +kernel
theorem dX9_init_175 : decode cX9_init 175 = .ok (.iconst 0, 1) := by decide +kernel
theorem dX9_init_176 : decode cX9_init 176 = .ok (.istore_n 1, 1) := by decide +kernel
theorem dX9_init_177 : decode cX9_init 177 = .ok (.iload_n 1, 1) := by decide +kernel
theorem dX9_init_178 : decode cX9_init 178 = .ok (.aload_n 0, 1) := by decide +kernel
theorem dX9_init_179 : decode cX9_init 179 = .ok (.getfield 59, 3) := by decide +kernel
theorem dX9_init_182 : decode cX9_init 182 = .ok (.arraylength, 1) := by decide +kernel
theorem dX9_init_183 : decode cX9_init 183 = .ok (.if_icmp .ge 22, 3) := by decide +kernel
theorem dX9_init_186 : decode cX9_init 186 = .ok (.aload_n 0, 1) := by decide +kernel
theorem dX9_init_187 : decode cX9_init 187 = .ok (.getfield 59, 3) := by decide +kernel
theorem dX9_init_190 : decode cX9_init 190 = .ok (.iload_n 1, 1) := by decide +kernel
theorem dX9_init_191 : decode cX9_init 191 = .ok (.new 57, 3) := by decide +kernel
theorem dX9_init_194 : decode cX9_init 194 = .ok (.dup, 1) := by decide +kernel
theorem dX9_init_195 : decode cX9_init 195 = .ok (.invokespecial 77, 3) := by decide +kernel
theorem dX9_init_198 : decode cX9_init 198 = .ok (.aastore, 1) := by decide +kernel
theorem dX9_init_199 : decode cX9_init 199 = .ok (.iinc 1 1, 3) := by decide +kernel
theorem dX9_init_202 : decode cX9_init 202 = .ok (.goto (-25), 3) := by decide +kernel
theorem dX9_init_205 : decode cX9_init 205 = .ok (.iconst 0, 1) := by decide +kernel
theorem dX9_init_206 : decode cX9_init 206 = .ok (.istore_n 1, 1) := by decide +kernel
theorem dX9_init_207 : decode cX9_init 207 = .ok (.iload_n 1, 1) := by decide +kernel
theorem dX9_init_208 : decode cX9_init 208 = .ok (.aload_n 0, 1) := by decide +kernel
theorem dX9_init_209 : decode cX9_init 209 = .ok (.getfield 72, 3) := by decide +kernel
theorem dX9_init_212 : decode cX9_init 212 = .ok (.arraylength, 1) := by decide +kernel
theorem dX9_init_213 : decode cX9_init 213 = .ok (.if_icmp .ge 22, 3) := by decide +kernel
theorem dX9_init_216 : decode cX9_init 216 = .ok (.aload_n 0, 1) := by decide +kernel
theorem dX9_init_217 : decode cX9_init 217 = .ok (.getfield 72, 3) := by decide +kernel
theorem dX9_init_220 : decode cX9_init 220 = .ok (.iload_n 1, 1) := by decide +kernel
theorem dX9_init_221 : decode cX9_init 221 = .ok (.new 70, 3) := by decide +kernel
theorem dX9_init_224 : decode cX9_init 224 = .ok (.dup, 1) := by decide +kernel
theorem dX9_init_225 : decode cX9_init 225 = .ok (.invokespecial 78, 3) := by decide +kernel
theorem dX9_init_228 : decode cX9_init 228 = .ok (.aastore, 1) := by decide +kernel
theorem dX9_init_229 : decode cX9_init 229 = .ok (.iinc 1 1, 3) := by decide +kernel
theorem dX9_init_232 : decode cX9_init 232 = .ok (.goto (-25), 3) := by decide +kernel
theorem dX9_init_235 : decode cX9_init 235 = .ok (.return_, 1) := by decide +kernel
theorem dX9_ring_0 : decode cX9_ring 0 = .ok (.iload_n 1, 1) := by decide +kernel
theorem dX9_ring_1 : decode cX9_ring 1 = .ok (.iconst 4, 1) := by decide +kernel
theorem dX9_ring_2 : decode cX9_ring 2 = .ok (.if_icmp .lt 9, 3) := by decide +kernel
theorem dX9_ring_5 : decode cX9_ring 5 = .ok (.iload_n 1, 1) := by decide +kernel
theorem dX9_ring_6 : decode cX9_ring 6 = .ok (.bipush 8, 2) := by decide +kernel
theorem dX9_ring_8 : decode cX9_ring 8 = .ok (.if_icmp .le 5, 3) := by decide +kernel
theorem dX9_ring_11 : decode cX9_ring 11 = .ok (.iconst (-1), 1) := by decide +kernel
theorem dX9_ring_12 : decode cX9_ring 12 = .ok (.ireturn, 1) := by decide +kernel
theorem dX9_ring_13 : decode cX9_ring 13 = .ok (.aload_n 0, 1) := by decide +kernel
theorem dX9_ring_14 : decode cX9_ring 14 = .ok (.getfield 10, 3) := by decide +kernel
theorem dX9_ring_17 : decode cX9_ring 17 = .ok (.getfield 79, 3) := by decide +kernel
theorem dX9_ring_20 : decode cX9_ring 20 = .ok (.iload_n 1, 1) := by decide +kernel
theorem dX9_ring_21 : decode cX9_ring 21 = .ok (.invokevirtual 82, 3) := by decide +kernel
theorem dX9_ring_24 : decode cX9_ring 24 = .ok (.aload_n 0, 1) := by decide +kernel
theorem dX9_ring_25 : decode cX9_ring 25 = .ok (.getfield 10, 3) := by decide +kernel
theorem dX9_ring_28 : decode cX9_ring 28 = .ok (.invokevirtual 86, 3) := by decide +kernel
theorem dX9_ring_31 : decode cX9_ring 31 = .ok (.aload_n 0, 1) := by decide +kernel
theorem dX9_ring_32 : decode cX9_ring 32 = .ok (.iconst 0, 1) := by decide +kernel
theorem dX9_ring_33 : decode cX9_ring 33 = .ok (.putfield 89, 3) := by decide +kernel
theorem dX9_ring_36 : decode cX9_ring 36 = .ok (.iconst 1, 1) := by decide +kernel
theorem dX9_ring_37 : decode cX9_ring 37 = .ok (.ireturn, 1) := by decide +kernel
theorem dX9_act_0 : decode cX9_act 0 = .ok (.aload_n 0, 1) := by decide +kernel
theorem dX9_act_1 : decode cX9_act 1 = .ok (.getfield 10, 3) := by decide +kernel
theorem dX9_act_4 : decode cX9_act 4 = .ok (.iload_n 1, 1) := by decide +kernel
theorem dX9_act_5 : decode cX9_act 5 = .ok (.iload_n 2, 1) := by decide +kernel
theorem dX9_act_6 : decode cX9_act 6 = .ok (.invokevirtual 93, 3) := by decide +kernel
theorem dX9_act_9 : decode cX9_act 9 = .ok (.ireturn, 1) := by decide +kernel
theorem dX9_undo_0 : decode cX9_undo 0 = .ok (.aload_n 0, 1) := by decide +kernel
theorem dX9_undo_1 : decode cX9_undo 1 = .ok (.getfield 10, 3) := by decide +kernel
theorem dX9_undo_4 : decode cX9_undo 4 = .ok (.invokevirtual 97, 3) := by decide +kernel
theorem dX9_undo_7 : decode cX9_undo 7 = .ok (.ireturn, 1) := by decide +kernel
theorem dX9_place_0 : decode cX9_place 0 = .ok (.aload_n 0, 1) := by decide +kernel
theorem dX9_place_1 : decode cX9_place 1 = .ok (.getfield 10, 3) := by decide +kernel
theorem dX9_place_4 : decode cX9_place 4 = .ok (.getfield 79, 3) := by decide +kernel
theorem dX9_place_7 : decode cX9_place 7 = .ok (.astore_n 3, 1) := by decide +kernel
theorem dX9_place_8 : decode cX9_place 8 = .ok (.iload_n 1, 1) := by decide +kernel
theorem dX9_place_9 : decode cX9_place 9 = .ok (.ifCond .lt 11, 3) := by decide +kernel
theorem dX9_place_12 : decode cX9_place 12 = .ok (.iload_n 1, 1) := by decide +kernel
theorem dX9_place_13 : decode cX9_place 13 = .ok (.aload_n 3, 1) := by decide +kernel
theorem dX9_place_14 : decode cX9_place 14 = .ok (.getfield 101, 3) := by decide +kernel
theorem dX9_place_17 : decode cX9_place 17 = .ok (.if_icmp .lt 5, 3) := by decide +kernel
theorem dX9_place_20 : decode cX9_place 20 = .ok (.iconst (-1), 1) := by decide +kernel
theorem dX9_place_21 : decode cX9_place 21 = .ok (.ireturn, 1) := by decide +kernel
theorem dX9_place_22 : decode cX9_place 22 = .ok (.iload_n 2, 1) := by decide +kernel
theorem dX9_place_23 : decode cX9_place 23 = .ok (.lookupswitch 44 #[(0, 25), (1, 31)], 25) := by decide +kernel
theorem dX9_place_48 : decode cX9_place 48 = .ok (.aload_n 3, 1) := by decide +kernel
theorem dX9_place_49 : decode cX9_place 49 = .ok (.iload_n 1, 1) := by decide +kernel
theorem dX9_place_50 : decode cX9_place 50 = .ok (.invokevirtual 104, 3) := by decide +kernel
theorem dX9_place_53 : decode cX9_place 53 = .ok (.ireturn, 1) := by decide +kernel
theorem dX9_place_54 : decode cX9_place 54 = .ok (.aload_n 3, 1) := by decide +kernel
theorem dX9_place_55 : decode cX9_place 55 = .ok (.getfield 108, 3) := by decide +kernel
theorem dX9_place_58 : decode cX9_place 58 = .ok (.aload_n 3, 1) := by decide +kernel
theorem dX9_place_59 : decode cX9_place 59 = .ok (.iload_n 1, 1) := by decide +kernel
theorem dX9_place_60 : decode cX9_place 60 = .ok (.invokevirtual 104, 3) := by decide +kernel
theorem dX9_place_63 : decode cX9_place 63 = .ok (.iushr, 1) := by decide +kernel
theorem dX9_place_64 : decode cX9_place 64 = .ok (.iconst 1, 1) := by decide +kernel
theorem dX9_place_65 : decode cX9_place 65 = .ok (.iand, 1) := by decide +kernel
theorem dX9_place_66 : decode cX9_place 66 = .ok (.ireturn, 1) := by decide +kernel
theorem dX9_place_67 : decode cX9_place 67 = .ok (.iconst (-1), 1) := by decide +kernel
theorem dX9_place_68 : decode cX9_place 68 = .ok (.ireturn, 1) := by decide +kernel
theorem dX9_blade_0 : decode cX9_blade 0 = .ok (.aload_n 0, 1) := by decide +kernel
theorem dX9_blade_1 : decode cX9_blade 1 = .ok (.getfield 10, 3) := by decide +kernel
theorem dX9_blade_4 : decode cX9_blade 4 = .ok (.getfield 79, 3) := by decide +kernel
theorem dX9_blade_7 : decode cX9_blade 7 = .ok (.astore_n 3, 1) := by decide +kernel
theorem dX9_blade_8 : decode cX9_blade 8 = .ok (.iload_n 1, 1) := by decide +kernel
theorem dX9_blade_9 : decode cX9_blade 9 = .ok (.ifCond .lt 11, 3) := by decide +kernel
theorem dX9_blade_12 : decode cX9_blade 12 = .ok (.iload_n 1, 1) := by decide +kernel
theorem dX9_blade_13 : decode cX9_blade 13 = .ok (.aload_n 3, 1) := by decide +kernel
theorem dX9_blade_14 : decode cX9_blade 14 = .ok (.getfield 101, 3) := by decide +kernel
theorem dX9_blade_17 : decode cX9_blade 17 = .ok (.if_icmp .lt 5, 3) := by decide +kernel
theorem dX9_blade_20 : decode cX9_blade 20 = .ok (.iconst (-1), 1) := by decide +kernel
theorem dX9_blade_21 : decode cX9_blade 21 = .ok (.ireturn, 1) := by decide +kernel
theorem dX9_blade_22 : decode cX9_blade 22 = .ok (.iload_n 2, 1) := by decide +kernel
theorem dX9_blade_23 : decode cX9_blade 23 = .ok (.tableswitch 78 0 4 #[33, 42, 51, 60, 72], 33) := by decide +kernel
theorem dX9_blade_56 : decode cX9_blade 56 = .ok (.aload_n 3, 1) := by decide +kernel
theorem dX9_blade_57 : decode cX9_blade 57 = .ok (.getfield 111, 3) := by decide +kernel
theorem dX9_blade_60 : decode cX9_blade 60 = .ok (.iload_n 1, 1) := by decide +kernel
theorem dX9_blade_61 : decode cX9_blade 61 = .ok (.iushr, 1) := by decide +kernel
theorem dX9_blade_62 : decode cX9_blade 62 = .ok (.iconst 1, 1) := by decide +kernel
theorem dX9_blade_63 : decode cX9_blade 63 = .ok (.iand, 1) := by decide +kernel
theorem dX9_blade_64 : decode cX9_blade 64 = .ok (.ireturn, 1) := by decide +kernel
theorem dX9_blade_65 : decode cX9_blade 65 = .ok (.aload_n 3, 1) := by decide +kernel
theorem dX9_blade_66 : decode cX9_blade 66 = .ok (.iload_n 1, 1) := by decide +kernel
theorem dX9_blade_67 : decode cX9_blade 67 = .ok (.invokevirtual 114, 3) := by decide +kernel
theorem dX9_blade_70 : decode cX9_blade 70 = .ok (.invokestatic 117, 3) := by decide +kernel
theorem dX9_blade_73 : decode cX9_blade 73 = .ok (.ireturn, 1) := by decide +kernel
theorem dX9_blade_74 : decode cX9_blade 74 = .ok (.aload_n 3, 1) := by decide +kernel
theorem dX9_blade_75 : decode cX9_blade 75 = .ok (.iload_n 1, 1) := by decide +kernel
theorem dX9_blade_76 : decode cX9_blade 76 = .ok (.invokevirtual 122, 3) := by decide +kernel
theorem dX9_blade_79 : decode cX9_blade 79 = .ok (.invokestatic 117, 3) := by decide +kernel
theorem dX9_blade_82 : decode cX9_blade 82 = .ok (.ireturn, 1) := by decide +kernel
theorem dX9_blade_83 : decode cX9_blade 83 = .ok (.aload_n 3, 1) := by decide +kernel
theorem dX9_blade_84 : decode cX9_blade 84 = .ok (.iload_n 1, 1) := by decide +kernel
theorem dX9_blade_85 : decode cX9_blade 85 = .ok (.invokevirtual 114, 3) := by decide +kernel
theorem dX9_blade_88 : decode cX9_blade 88 = .ok (.aload_n 3, 1) := by decide +kernel
theorem dX9_blade_89 : decode cX9_blade 89 = .ok (.iload_n 1, 1) := by decide +kernel
theorem dX9_blade_90 : decode cX9_blade 90 = .ok (.invokevirtual 122, 3) := by decide +kernel
theorem dX9_blade_93 : decode cX9_blade 93 = .ok (.ior, 1) := by decide +kernel
theorem dX9_blade_94 : decode cX9_blade 94 = .ok (.ireturn, 1) := by decide +kernel
theorem dX9_blade_95 : decode cX9_blade 95 = .ok (.aload_n 3, 1) := by decide +kernel
theorem dX9_blade_96 : decode cX9_blade 96 = .ok (.iload_n 1, 1) := by decide +kernel
theorem dX9_blade_97 : decode cX9_blade 97 = .ok (.invokevirtual 125, 3) := by decide +kernel
theorem dX9_blade_100 : decode cX9_blade 100 = .ok (.ireturn, 1) := by decide +kernel
theorem dX9_blade_101 : decode cX9_blade 101 = .ok (.iconst (-1), 1) := by decide +kernel
theorem dX9_blade_102 : decode cX9_blade 102 = .ok (.ireturn, 1) := by decide +kernel
theorem dX9_over_0 : decode cX9_over 0 = .ok (.aload_n 0, 1) := by decide +kernel
theorem dX9_over_1 : decode cX9_over 1 = .ok (.getfield 10, 3) := by decide +kernel
theorem dX9_over_4 : decode cX9_over 4 = .ok (.getfield 79, 3) := by decide +kernel
theorem dX9_over_7 : decode cX9_over 7 = .ok (.astore_n 3, 1) := by decide +kernel
theorem dX9_over_8 : decode cX9_over 8 = .ok (.iload_n 1, 1) := by decide +kernel
theorem dX9_over_9 : decode cX9_over 9 = .ok (.ifCond .lt 28, 3) := by decide +kernel
theorem dX9_over_12 : decode cX9_over 12 = .ok (.iload_n 1, 1) := by decide +kernel
theorem dX9_over_13 : decode cX9_over 13 = .ok (.aload_n 3, 1) := by decide +kernel
theorem dX9_over_14 : decode cX9_over 14 = .ok (.getfield 101, 3) := by decide +kernel
theorem dX9_over_17 : decode cX9_over 17 = .ok (.if_icmp .ge 20, 3) := by decide +kernel
theorem dX9_over_20 : decode cX9_over 20 = .ok (.iload_n 2, 1) := by decide +kernel
theorem dX9_over_21 : decode cX9_over 21 = .ok (.ifCond .lt 16, 3) := by decide +kernel
theorem dX9_over_24 : decode cX9_over 24 = .ok (.iload_n 2, 1) := by decide +kernel
theorem dX9_over_25 : decode cX9_over 25 = .ok (.aload_n 3, 1) := by decide +kernel
theorem dX9_over_26 : decode cX9_over 26 = .ok (.getfield 101, 3) := by decide +kernel
theorem dX9_over_29 : decode cX9_over 29 = .ok (.if_icmp .ge 8, 3) := by decide +kernel
theorem dX9_over_32 : decode cX9_over 32 = .ok (.iload_n 1, 1) := by decide +kernel
theorem dX9_over_33 : decode cX9_over 33 = .ok (.iload_n 2, 1) := by decide +kernel
theorem dX9_over_34 : decode cX9_over 34 = .ok (.if_icmp .ne 5, 3) := by decide +kernel
theorem dX9_over_37 : decode cX9_over 37 = .ok (.iconst (-1), 1) := by decide +kernel
theorem dX9_over_38 : decode cX9_over 38 = .ok (.ireturn, 1) := by decide +kernel
theorem dX9_over_39 : decode cX9_over 39 = .ok (.aload_n 3, 1) := by decide +kernel
theorem dX9_over_40 : decode cX9_over 40 = .ok (.iload_n 1, 1) := by decide +kernel
theorem dX9_over_41 : decode cX9_over 41 = .ok (.iload_n 2, 1) := by decide +kernel
theorem dX9_over_42 : decode cX9_over 42 = .ok (.invokevirtual 128, 3) := by decide +kernel
theorem dX9_over_45 : decode cX9_over 45 = .ok (.ifCond .eq 5, 3) := by decide +kernel
theorem dX9_over_48 : decode cX9_over 48 = .ok (.iconst 1, 1) := by decide +kernel
theorem dX9_over_49 : decode cX9_over 49 = .ok (.ireturn, 1) := by decide +kernel
theorem dX9_over_50 : decode cX9_over 50 = .ok (.aload_n 3, 1) := by decide +kernel
theorem dX9_over_51 : decode cX9_over 51 = .ok (.iload_n 2, 1) := by decide +kernel
theorem dX9_over_52 : decode cX9_over 52 = .ok (.iload_n 1, 1) := by decide +kernel
theorem dX9_over_53 : decode cX9_over 53 = .ok (.invokevirtual 128, 3) := by decide +kernel
theorem dX9_over_56 : decode cX9_over 56 = .ok (.ifCond .eq 7, 3) := by decide +kernel
theorem dX9_over_59 : decode cX9_over 59 = .ok (.iconst 0, 1) := by decide +kernel
theorem dX9_over_60 : decode cX9_over 60 = .ok (.goto 5, 3) := by decide +kernel
theorem dX9_over_63 : decode cX9_over 63 = .ok (.bipush (-4), 2) := by decide +kernel
theorem dX9_over_65 : decode cX9_over 65 = .ok (.ireturn, 1) := by decide +kernel
theorem dX9_about_0 : decode cX9_about 0 = .ok (.aload_n 0, 1) := by decide +kernel
theorem dX9_about_1 : decode cX9_about 1 = .ok (.getfield 10, 3) := by decide +kernel
theorem dX9_about_4 : decode cX9_about 4 = .ok (.getfield 79, 3) := by decide +kernel
theorem dX9_about_7 : decode cX9_about 7 = .ok (.astore_n 2, 1) := by decide +kernel
theorem dX9_about_8 : decode cX9_about 8 = .ok (.iload_n 1, 1) := by decide +kernel
theorem dX9_about_9 : decode cX9_about 9 = .ok (.tableswitch 128 0 9 #[55, 60, 68, 81, 86, 94, 99, 104, 112, 120], 55) := by decide +kernel
theorem dX9_about_64 : decode cX9_about 64 = .ok (.aload_n 2, 1) := by decide +kernel
theorem dX9_about_65 : decode cX9_about 65 = .ok (.getfield 101, 3) := by decide +kernel
theorem dX9_about_68 : decode cX9_about 68 = .ok (.ireturn, 1) := by decide +kernel
theorem dX9_about_69 : decode cX9_about 69 = .ok (.aload_n 2, 1) := by decide +kernel
theorem dX9_about_70 : decode cX9_about 70 = .ok (.getfield 132, 3) := by decide +kernel
theorem dX9_about_73 : decode cX9_about 73 = .ok (.invokestatic 136, 3) := by decide +kernel
theorem dX9_about_76 : decode cX9_about 76 = .ok (.ireturn, 1) := by decide +kernel
theorem dX9_about_77 : decode cX9_about 77 = .ok (.aload_n 2, 1) := by decide +kernel
theorem dX9_about_78 : decode cX9_about 78 = .ok (.invokevirtual 141, 3) := by decide +kernel
theorem dX9_about_81 : decode cX9_about 81 = .ok (.ifCond .eq 7, 3) := by decide +kernel
theorem dX9_about_84 : decode cX9_about 84 = .ok (.iconst 1, 1) := by decide +kernel
theorem dX9_about_85 : decode cX9_about 85 = .ok (.goto 4, 3) := by decide +kernel
theorem dX9_about_88 : decode cX9_about 88 = .ok (.iconst 0, 1) := by decide +kernel
theorem dX9_about_89 : decode cX9_about 89 = .ok (.ireturn, 1) := by decide +kernel
theorem dX9_about_90 : decode cX9_about 90 = .ok (.aload_n 2, 1) := by decide +kernel
theorem dX9_about_91 : decode cX9_about 91 = .ok (.invokevirtual 145, 3) := by decide +kernel
theorem dX9_about_94 : decode cX9_about 94 = .ok (.ireturn, 1) := by decide +kernel
theorem dX9_about_95 : decode cX9_about 95 = .ok (.aload_n 2, 1) := by decide +kernel
theorem dX9_about_96 : decode cX9_about 96 = .ok (.invokevirtual 148, 3) := by decide +kernel
theorem dX9_about_99 : decode cX9_about 99 = .ok (.invokestatic 117, 3) := by decide +kernel
theorem dX9_about_102 : decode cX9_about 102 = .ok (.ireturn, 1) := by decide +kernel
theorem dX9_about_103 : decode cX9_about 103 = .ok (.aload_n 2, 1) := by decide +kernel
theorem dX9_about_104 : decode cX9_about 104 = .ok (.invokevirtual 151, 3) := by decide +kernel
theorem dX9_about_107 : decode cX9_about 107 = .ok (.ireturn, 1) := by decide +kernel
theorem dX9_about_108 : decode cX9_about 108 = .ok (.aload_n 2, 1) := by decide +kernel
theorem dX9_about_109 : decode cX9_about 109 = .ok (.invokevirtual 154, 3) := by decide +kernel
theorem dX9_about_112 : decode cX9_about 112 = .ok (.ireturn, 1) := by decide +kernel
theorem dX9_about_113 : decode cX9_about 113 = .ok (.aload_n 2, 1) := by decide +kernel
theorem dX9_about_114 : decode cX9_about 114 = .ok (.getfield 108, 3) := by decide +kernel
theorem dX9_about_117 : decode cX9_about 117 = .ok (.invokestatic 117, 3) := by decide +kernel
theorem dX9_about_120 : decode cX9_about 120 = .ok (.ireturn, 1) := by decide +kernel
theorem dX9_about_121 : decode cX9_about 121 = .ok (.aload_n 2, 1) := by decide +kernel
theorem dX9_about_122 : decode cX9_about 122 = .ok (.getfield 111, 3) := by decide +kernel
theorem dX9_about_125 : decode cX9_about 125 = .ok (.invokestatic 117, 3) := by decide +kernel
theorem dX9_about_128 : decode cX9_about 128 = .ok (.ireturn, 1) := by decide +kernel
theorem dX9_about_129 : decode cX9_about 129 = .ok (.aload_n 0, 1) := by decide +kernel
theorem dX9_about_130 : decode cX9_about 130 = .ok (.getfield 10, 3) := by decide +kernel
theorem dX9_about_133 : decode cX9_about 133 = .ok (.getfield 157, 3) := by decide +kernel
theorem dX9_about_136 : decode cX9_about 136 = .ok (.ireturn, 1) := by decide +kernel
theorem dX9_about_137 : decode cX9_about 137 = .ok (.iconst (-1), 1) := by decide +kernel
theorem dX9_about_138 : decode cX9_about 138 = .ok (.ireturn, 1) := by decide +kernel
theorem dX9_can_0 : decode cX9_can 0 = .ok (.iload_n 1, 1) := by decide +kernel
theorem dX9_can_1 : decode cX9_can 1 = .ok (.ifCond .eq 10, 3) := by decide +kernel
theorem dX9_can_4 : decode cX9_can 4 = .ok (.iload_n 1, 1) := by decide +kernel
theorem dX9_can_5 : decode cX9_can 5 = .ok (.iconst 1, 1) := by decide +kernel
theorem dX9_can_6 : decode cX9_can 6 = .ok (.if_icmp .eq 5, 3) := by decide +kernel
theorem dX9_can_9 : decode cX9_can 9 = .ok (.iconst (-1), 1) := by decide +kernel
theorem dX9_can_10 : decode cX9_can 10 = .ok (.ireturn, 1) := by decide +kernel
theorem dX9_can_11 : decode cX9_can 11 = .ok (.iconst 0, 1) := by decide +kernel
theorem dX9_can_12 : decode cX9_can 12 = .ok (.istore_n 2, 1) := by decide +kernel
theorem dX9_can_13 : decode cX9_can 13 = .ok (.iconst 0, 1) := by decide +kernel
theorem dX9_can_14 : decode cX9_can 14 = .ok (.istore_n 3, 1) := by decide +kernel
theorem dX9_can_15 : decode cX9_can 15 = .ok (.iload_n 3, 1) := by decide +kernel
theorem dX9_can_16 : decode cX9_can 16 = .ok (.aload_n 0, 1) := by decide +kernel
theorem dX9_can_17 : decode cX9_can 17 = .ok (.getfield 10, 3) := by decide +kernel
theorem dX9_can_20 : decode cX9_can 20 = .ok (.getfield 79, 3) := by decide +kernel
theorem dX9_can_23 : decode cX9_can 23 = .ok (.getfield 101, 3) := by decide +kernel
theorem dX9_can_26 : decode cX9_can 26 = .ok (.if_icmp .ge 42, 3) := by decide +kernel
theorem dX9_can_29 : decode cX9_can 29 = .ok (.aload_n 0, 1) := by decide +kernel
theorem dX9_can_30 : decode cX9_can 30 = .ok (.getfield 22, 3) := by decide +kernel
theorem dX9_can_33 : decode cX9_can 33 = .ok (.aload_n 0, 1) := by decide +kernel
theorem dX9_can_34 : decode cX9_can 34 = .ok (.getfield 10, 3) := by decide +kernel
theorem dX9_can_37 : decode cX9_can 37 = .ok (.getfield 79, 3) := by decide +kernel
theorem dX9_can_40 : decode cX9_can 40 = .ok (.invokevirtual 160, 3) := by decide +kernel
theorem dX9_can_43 : decode cX9_can 43 = .ok (.aload_n 0, 1) := by decide +kernel
theorem dX9_can_44 : decode cX9_can 44 = .ok (.getfield 22, 3) := by decide +kernel
theorem dX9_can_47 : decode cX9_can 47 = .ok (.iload_n 1, 1) := by decide +kernel
theorem dX9_can_48 : decode cX9_can 48 = .ok (.iload_n 3, 1) := by decide +kernel
theorem dX9_can_49 : decode cX9_can 49 = .ok (.invokevirtual 164, 3) := by decide +kernel
theorem dX9_can_52 : decode cX9_can 52 = .ok (.iconst 1, 1) := by decide +kernel
theorem dX9_can_53 : decode cX9_can 53 = .ok (.if_icmp .ne 9, 3) := by decide +kernel
theorem dX9_can_56 : decode cX9_can 56 = .ok (.iload_n 2, 1) := by decide +kernel
theorem dX9_can_57 : decode cX9_can 57 = .ok (.iconst 1, 1) := by decide +kernel
theorem dX9_can_58 : decode cX9_can 58 = .ok (.iload_n 3, 1) := by decide +kernel
theorem dX9_can_59 : decode cX9_can 59 = .ok (.ishl, 1) := by decide +kernel
theorem dX9_can_60 : decode cX9_can 60 = .ok (.ior, 1) := by decide +kernel
theorem dX9_can_61 : decode cX9_can 61 = .ok (.istore_n 2, 1) := by decide +kernel
theorem dX9_can_62 : decode cX9_can 62 = .ok (.iinc 3 1, 3) := by decide +kernel
theorem dX9_can_65 : decode cX9_can 65 = .ok (.goto (-50), 3) := by decide +kernel
theorem dX9_can_68 : decode cX9_can 68 = .ok (.iload_n 2, 1) := by decide +kernel
theorem dX9_can_69 : decode cX9_can 69 = .ok (.ireturn, 1) := by decide +kernel
theorem dX9_feed_0 : decode cX9_feed 0 = .ok (.aload_n 0, 1) := by decide +kernel
theorem dX9_feed_1 : decode cX9_feed 1 = .ok (.getfield 40, 3) := by decide +kernel
theorem dX9_feed_4 : decode cX9_feed 4 = .ok (.lload_n 1, 1) := by decide +kernel
theorem dX9_feed_5 : decode cX9_feed 5 = .ok (.invokevirtual 167, 3) := by decide +kernel
theorem dX9_feed_8 : decode cX9_feed 8 = .ok (.ifCond .eq 13, 3) := by decide +kernel
theorem dX9_feed_11 : decode cX9_feed 11 = .ok (.aload_n 0, 1) := by decide +kernel
theorem dX9_feed_12 : decode cX9_feed 12 = .ok (.getfield 40, 3) := by decide +kernel
theorem dX9_feed_15 : decode cX9_feed 15 = .ok (.getfield 171, 3) := by decide +kernel
theorem dX9_feed_18 : decode cX9_feed 18 = .ok (.goto 5, 3) := by decide +kernel
theorem dX9_feed_21 : decode cX9_feed 21 = .ok (.bipush (-3), 2) := by decide +kernel
theorem dX9_feed_23 : decode cX9_feed 23 = .ok (.ireturn, 1) := by decide +kernel
theorem dX9_end_0 : decode cX9_end 0 = .ok (.aload_n 0, 1) := by decide +kernel
theorem dX9_end_1 : decode cX9_end 1 = .ok (.getfield 40, 3) := by decide +kernel
theorem dX9_end_4 : decode cX9_end 4 = .ok (.getfield 171, 3) := by decide +kernel
theorem dX9_end_7 : decode cX9_end 7 = .ok (.istore_n 2, 1) := by decide +kernel
theorem dX9_end_8 : decode cX9_end 8 = .ok (.iload_n 1, 1) := by decide +kernel
theorem dX9_end_9 : decode cX9_end 9 = .ok (.ifCond .lt 8, 3) := by decide +kernel
theorem dX9_end_12 : decode cX9_end 12 = .ok (.iload_n 1, 1) := by decide +kernel
theorem dX9_end_13 : decode cX9_end 13 = .ok (.iload_n 2, 1) := by decide +kernel
theorem dX9_end_14 : decode cX9_end 14 = .ok (.if_icmp .le 5, 3) := by decide +kernel
theorem dX9_end_17 : decode cX9_end 17 = .ok (.iconst (-1), 1) := by decide +kernel
theorem dX9_end_18 : decode cX9_end 18 = .ok (.ireturn, 1) := by decide +kernel
theorem dX9_end_19 : decode cX9_end 19 = .ok (.aload_n 0, 1) := by decide +kernel
theorem dX9_end_20 : decode cX9_end 20 = .ok (.getfield 40, 3) := by decide +kernel
theorem dX9_end_23 : decode cX9_end 23 = .ok (.iload_n 1, 1) := by decide +kernel
theorem dX9_end_24 : decode cX9_end 24 = .ok (.putfield 171, 3) := by decide +kernel
theorem dX9_end_27 : decode cX9_end 27 = .ok (.iload_n 2, 1) := by decide +kernel
theorem dX9_end_28 : decode cX9_end 28 = .ok (.ireturn, 1) := by decide +kernel
theorem dX9_figure_0 : decode cX9_figure 0 = .ok (.aload_n 0, 1) := by decide +kernel
theorem dX9_figure_1 : decode cX9_figure 1 = .ok (.getfield 174, 3) := by decide +kernel
theorem dX9_figure_4 : decode cX9_figure 4 = .ok (.aload_n 0, 1) := by decide +kernel
theorem dX9_figure_5 : decode cX9_figure 5 = .ok (.getfield 53, 3) := by decide +kernel
theorem dX9_figure_8 : decode cX9_figure 8 = .ok (.arraylength, 1) := by decide +kernel
theorem dX9_figure_9 : decode cX9_figure 9 = .ok (.if_icmp .lt 6, 3) := by decide +kernel
theorem dX9_figure_12 : decode cX9_figure 12 = .ok (.bipush (-3), 2) := by decide +kernel
theorem dX9_figure_14 : decode cX9_figure 14 = .ok (.ireturn, 1) := by decide +kernel
theorem dX9_figure_15 : decode cX9_figure 15 = .ok (.aload_n 0, 1) := by decide +kernel
theorem dX9_figure_16 : decode cX9_figure 16 = .ok (.getfield 47, 3) := by decide +kernel
theorem dX9_figure_19 : decode cX9_figure 19 = .ok (.aload_n 0, 1) := by decide +kernel
theorem dX9_figure_20 : decode cX9_figure 20 = .ok (.getfield 40, 3) := by decide +kernel
theorem dX9_figure_23 : decode cX9_figure 23 = .ok (.aload_n 0, 1) := by decide +kernel
theorem dX9_figure_24 : decode cX9_figure 24 = .ok (.getfield 53, 3) := by decide +kernel
theorem dX9_figure_27 : decode cX9_figure 27 = .ok (.aload_n 0, 1) := by decide +kernel
theorem dX9_figure_28 : decode cX9_figure 28 = .ok (.getfield 174, 3) := by decide +kernel
theorem dX9_figure_31 : decode cX9_figure 31 = .ok (.invokevirtual 177, 3) := by decide +kernel
theorem dX9_figure_34 : decode cX9_figure 34 = .ok (.aload_n 0, 1) := by decide +kernel
theorem dX9_figure_35 : decode cX9_figure 35 = .ok (.getfield 40, 3) := by decide +kernel
theorem dX9_figure_38 : decode cX9_figure 38 = .ok (.iconst 0, 1) := by decide +kernel
theorem dX9_figure_39 : decode cX9_figure 39 = .ok (.putfield 171, 3) := by decide +kernel
theorem dX9_figure_42 : decode cX9_figure 42 = .ok (.aload_n 0, 1) := by decide +kernel
theorem dX9_figure_43 : decode cX9_figure 43 = .ok (.aload_n 0, 1) := by decide +kernel
theorem dX9_figure_44 : decode cX9_figure 44 = .ok (.getfield 47, 3) := by decide +kernel
theorem dX9_figure_47 : decode cX9_figure 47 = .ok (.getfield 181, 3) := by decide +kernel
theorem dX9_figure_50 : decode cX9_figure 50 = .ok (.putfield 184, 3) := by decide +kernel
theorem dX9_figure_53 : decode cX9_figure 53 = .ok (.aload_n 0, 1) := by decide +kernel
theorem dX9_figure_54 : decode cX9_figure 54 = .ok (.getfield 184, 3) := by decide +kernel
theorem dX9_figure_57 : decode cX9_figure 57 = .ok (.ifCond .eq 14, 3) := by decide +kernel
theorem dX9_figure_60 : decode cX9_figure 60 = .ok (.bipush (-10), 2) := by decide +kernel
theorem dX9_figure_62 : decode cX9_figure 62 = .ok (.aload_n 0, 1) := by decide +kernel
theorem dX9_figure_63 : decode cX9_figure 63 = .ok (.getfield 47, 3) := by decide +kernel
theorem dX9_figure_66 : decode cX9_figure 66 = .ok (.getfield 187, 3) := by decide +kernel
theorem dX9_figure_69 : decode cX9_figure 69 = .ok (.isub, 1) := by decide +kernel
theorem dX9_figure_70 : decode cX9_figure 70 = .ok (.ireturn, 1) := by decide +kernel
theorem dX9_figure_71 : decode cX9_figure 71 = .ok (.aload_n 0, 1) := by decide +kernel
theorem dX9_figure_72 : decode cX9_figure 72 = .ok (.getfield 53, 3) := by decide +kernel
theorem dX9_figure_75 : decode cX9_figure 75 = .ok (.aload_n 0, 1) := by decide +kernel
theorem dX9_figure_76 : decode cX9_figure 76 = .ok (.getfield 174, 3) := by decide +kernel
theorem dX9_figure_79 : decode cX9_figure 79 = .ok (.aaload, 1) := by decide +kernel
theorem dX9_figure_80 : decode cX9_figure 80 = .ok (.aload_n 0, 1) := by decide +kernel
theorem dX9_figure_81 : decode cX9_figure 81 = .ok (.getfield 47, 3) := by decide +kernel
theorem dX9_figure_84 : decode cX9_figure 84 = .ok (.getfield 190, 3) := by decide +kernel
theorem dX9_figure_87 : decode cX9_figure 87 = .ok (.invokevirtual 194, 3) := by decide +kernel
theorem dX9_figure_90 : decode cX9_figure 90 = .ok (.aload_n 0, 1) := by decide +kernel
theorem dX9_figure_91 : decode cX9_figure 91 = .ok (.dup, 1) := by decide +kernel
theorem dX9_figure_92 : decode cX9_figure 92 = .ok (.getfield 174, 3) := by decide +kernel
theorem dX9_figure_95 : decode cX9_figure 95 = .ok (.iconst 1, 1) := by decide +kernel
theorem dX9_figure_96 : decode cX9_figure 96 = .ok (.iadd, 1) := by decide +kernel
theorem dX9_figure_97 : decode cX9_figure 97 = .ok (.putfield 174, 3) := by decide +kernel
theorem dX9_figure_100 : decode cX9_figure 100 = .ok (.aload_n 0, 1) := by decide +kernel
theorem dX9_figure_101 : decode cX9_figure 101 = .ok (.getfield 174, 3) := by decide +kernel
theorem dX9_figure_104 : decode cX9_figure 104 = .ok (.iconst 1, 1) := by decide +kernel
theorem dX9_figure_105 : decode cX9_figure 105 = .ok (.isub, 1) := by decide +kernel
theorem dX9_figure_106 : decode cX9_figure 106 = .ok (.ireturn, 1) := by decide +kernel
theorem dX9_fault_0 : decode cX9_fault 0 = .ok (.aload_n 0, 1) := by decide +kernel
theorem dX9_fault_1 : decode cX9_fault 1 = .ok (.getfield 184, 3) := by decide +kernel
theorem dX9_fault_4 : decode cX9_fault 4 = .ok (.ireturn, 1) := by decide +kernel
theorem dX9_told_0 : decode cX9_told 0 = .ok (.aload_n 0, 1) := by decide +kernel
theorem dX9_told_1 : decode cX9_told 1 = .ok (.iload_n 1, 1) := by decide +kernel
theorem dX9_told_2 : decode cX9_told 2 = .ok (.invokevirtual 197, 3) := by decide +kernel
theorem dX9_told_5 : decode cX9_told 5 = .ok (.ifCond .ne 5, 3) := by decide +kernel
theorem dX9_told_8 : decode cX9_told 8 = .ok (.iconst (-1), 1) := by decide +kernel
theorem dX9_told_9 : decode cX9_told 9 = .ok (.ireturn, 1) := by decide +kernel
theorem dX9_told_10 : decode cX9_told 10 = .ok (.aload_n 0, 1) := by decide +kernel
theorem dX9_told_11 : decode cX9_told 11 = .ok (.getfield 53, 3) := by decide +kernel
theorem dX9_told_14 : decode cX9_told 14 = .ok (.iload_n 1, 1) := by decide +kernel
theorem dX9_told_15 : decode cX9_told 15 = .ok (.aaload, 1) := by decide +kernel
theorem dX9_told_16 : decode cX9_told 16 = .ok (.astore_n 3, 1) := by decide +kernel
theorem dX9_told_17 : decode cX9_told 17 = .ok (.iload_n 2, 1) := by decide +kernel
theorem dX9_told_18 : decode cX9_told 18 = .ok (.tableswitch 41 0 2 #[26, 31, 36], 26) := by decide +kernel
theorem dX9_told_44 : decode cX9_told 44 = .ok (.aload_n 3, 1) := by decide +kernel
theorem dX9_told_45 : decode cX9_told 45 = .ok (.getfield 201, 3) := by decide +kernel
theorem dX9_told_48 : decode cX9_told 48 = .ok (.ireturn, 1) := by decide +kernel
theorem dX9_told_49 : decode cX9_told 49 = .ok (.aload_n 3, 1) := by decide +kernel
theorem dX9_told_50 : decode cX9_told 50 = .ok (.invokevirtual 202, 3) := by decide +kernel
theorem dX9_told_53 : decode cX9_told 53 = .ok (.ireturn, 1) := by decide +kernel
theorem dX9_told_54 : decode cX9_told 54 = .ok (.aload_n 3, 1) := by decide +kernel
theorem dX9_told_55 : decode cX9_told 55 = .ok (.invokevirtual 205, 3) := by decide +kernel
theorem dX9_told_58 : decode cX9_told 58 = .ok (.ireturn, 1) := by decide +kernel
theorem dX9_told_59 : decode cX9_told 59 = .ok (.iload_n 2, 1) := by decide +kernel
theorem dX9_told_60 : decode cX9_told 60 = .ok (.bipush 10, 2) := by decide +kernel
theorem dX9_told_62 : decode cX9_told 62 = .ok (.if_icmp .lt 23, 3) := by decide +kernel
theorem dX9_told_65 : decode cX9_told 65 = .ok (.iload_n 2, 1) := by decide +kernel
theorem dX9_told_66 : decode cX9_told 66 = .ok (.bipush 10, 2) := by decide +kernel
theorem dX9_told_68 : decode cX9_told 68 = .ok (.aload_n 3, 1) := by decide +kernel
theorem dX9_told_69 : decode cX9_told 69 = .ok (.getfield 201, 3) := by decide +kernel
theorem dX9_told_72 : decode cX9_told 72 = .ok (.iadd, 1) := by decide +kernel
theorem dX9_told_73 : decode cX9_told 73 = .ok (.if_icmp .ge 12, 3) := by decide +kernel
theorem dX9_told_76 : decode cX9_told 76 = .ok (.aload_n 3, 1) := by decide +kernel
theorem dX9_told_77 : decode cX9_told 77 = .ok (.iload_n 2, 1) := by decide +kernel
theorem dX9_told_78 : decode cX9_told 78 = .ok (.bipush 10, 2) := by decide +kernel
theorem dX9_told_80 : decode cX9_told 80 = .ok (.isub, 1) := by decide +kernel
theorem dX9_told_81 : decode cX9_told 81 = .ok (.invokevirtual 208, 3) := by decide +kernel
theorem dX9_told_84 : decode cX9_told 84 = .ok (.ireturn, 1) := by decide +kernel
theorem dX9_told_85 : decode cX9_told 85 = .ok (.iload_n 2, 1) := by decide +kernel
theorem dX9_told_86 : decode cX9_told 86 = .ok (.sipush 300, 3) := by decide +kernel
theorem dX9_told_89 : decode cX9_told 89 = .ok (.if_icmp .lt 25, 3) := by decide +kernel
theorem dX9_told_92 : decode cX9_told 92 = .ok (.iload_n 2, 1) := by decide +kernel
theorem dX9_told_93 : decode cX9_told 93 = .ok (.sipush 300, 3) := by decide +kernel
theorem dX9_told_96 : decode cX9_told 96 = .ok (.aload_n 3, 1) := by decide +kernel
theorem dX9_told_97 : decode cX9_told 97 = .ok (.getfield 201, 3) := by decide +kernel
theorem dX9_told_100 : decode cX9_told 100 = .ok (.iadd, 1) := by decide +kernel
theorem dX9_told_101 : decode cX9_told 101 = .ok (.if_icmp .ge 13, 3) := by decide +kernel
theorem dX9_told_104 : decode cX9_told 104 = .ok (.aload_n 3, 1) := by decide +kernel
theorem dX9_told_105 : decode cX9_told 105 = .ok (.iload_n 2, 1) := by decide +kernel
theorem dX9_told_106 : decode cX9_told 106 = .ok (.sipush 300, 3) := by decide +kernel
theorem dX9_told_109 : decode cX9_told 109 = .ok (.isub, 1) := by decide +kernel
theorem dX9_told_110 : decode cX9_told 110 = .ok (.invokevirtual 211, 3) := by decide +kernel
theorem dX9_told_113 : decode cX9_told 113 = .ok (.ireturn, 1) := by decide +kernel
theorem dX9_told_114 : decode cX9_told 114 = .ok (.iconst (-1), 1) := by decide +kernel
theorem dX9_told_115 : decode cX9_told 115 = .ok (.ireturn, 1) := by decide +kernel
theorem dX9_dance_0 : decode cX9_dance 0 = .ok (.aload_n 0, 1) := by decide +kernel
theorem dX9_dance_1 : decode cX9_dance 1 = .ok (.iload_n 1, 1) := by decide +kernel
theorem dX9_dance_2 : decode cX9_dance 2 = .ok (.invokevirtual 197, 3) := by decide +kernel
theorem dX9_dance_5 : decode cX9_dance 5 = .ok (.ifCond .eq 17, 3) := by decide +kernel
theorem dX9_dance_8 : decode cX9_dance 8 = .ok (.aload_n 0, 1) := by decide +kernel
theorem dX9_dance_9 : decode cX9_dance 9 = .ok (.aload_n 0, 1) := by decide +kernel
theorem dX9_dance_10 : decode cX9_dance 10 = .ok (.getfield 53, 3) := by decide +kernel
theorem dX9_dance_13 : decode cX9_dance 13 = .ok (.iload_n 1, 1) := by decide +kernel
theorem dX9_dance_14 : decode cX9_dance 14 = .ok (.aaload, 1) := by decide +kernel
theorem dX9_dance_15 : decode cX9_dance 15 = .ok (.iconst 0, 1) := by decide +kernel
theorem dX9_dance_16 : decode cX9_dance 16 = .ok (.invokevirtual 214, 3) := by decide +kernel
theorem dX9_dance_19 : decode cX9_dance 19 = .ok (.goto 4, 3) := by decide +kernel
theorem dX9_dance_22 : decode cX9_dance 22 = .ok (.iconst (-1), 1) := by decide +kernel
theorem dX9_dance_23 : decode cX9_dance 23 = .ok (.ireturn, 1) := by decide +kernel
theorem dX9_why_0 : decode cX9_why 0 = .ok (.aload_n 0, 1) := by decide +kernel
theorem dX9_why_1 : decode cX9_why 1 = .ok (.getfield 218, 3) := by decide +kernel
theorem dX9_why_4 : decode cX9_why 4 = .ok (.ireturn, 1) := by decide +kernel
theorem dX9_back_0 : decode cX9_back 0 = .ok (.aload_n 0, 1) := by decide +kernel
theorem dX9_back_1 : decode cX9_back 1 = .ok (.iload_n 1, 1) := by decide +kernel
theorem dX9_back_2 : decode cX9_back 2 = .ok (.invokevirtual 197, 3) := by decide +kernel
theorem dX9_back_5 : decode cX9_back 5 = .ok (.ifCond .eq 17, 3) := by decide +kernel
theorem dX9_back_8 : decode cX9_back 8 = .ok (.aload_n 0, 1) := by decide +kernel
theorem dX9_back_9 : decode cX9_back 9 = .ok (.aload_n 0, 1) := by decide +kernel
theorem dX9_back_10 : decode cX9_back 10 = .ok (.getfield 53, 3) := by decide +kernel
theorem dX9_back_13 : decode cX9_back 13 = .ok (.iload_n 1, 1) := by decide +kernel
theorem dX9_back_14 : decode cX9_back 14 = .ok (.aaload, 1) := by decide +kernel
theorem dX9_back_15 : decode cX9_back 15 = .ok (.iconst 1, 1) := by decide +kernel
theorem dX9_back_16 : decode cX9_back 16 = .ok (.invokevirtual 214, 3) := by decide +kernel
theorem dX9_back_19 : decode cX9_back 19 = .ok (.goto 4, 3) := by decide +kernel
theorem dX9_back_22 : decode cX9_back 22 = .ok (.iconst (-1), 1) := by decide +kernel
theorem dX9_back_23 : decode cX9_back 23 = .ok (.ireturn, 1) := by decide +kernel
theorem dX9_order_0 : decode cX9_order 0 = .ok (.aload_n 0, 1) := by decide +kernel
theorem dX9_order_1 : decode cX9_order 1 = .ok (.iload_n 1, 1) := by decide +kernel
theorem dX9_order_2 : decode cX9_order 2 = .ok (.invokevirtual 197, 3) := by decide +kernel
theorem dX9_order_5 : decode cX9_order 5 = .ok (.ifCond .ne 5, 3) := by decide +kernel
theorem dX9_order_8 : decode cX9_order 8 = .ok (.iconst (-1), 1) := by decide +kernel
theorem dX9_order_9 : decode cX9_order 9 = .ok (.ireturn, 1) := by decide +kernel
theorem dX9_order_10 : decode cX9_order 10 = .ok (.aload_n 0, 1) := by decide +kernel
theorem dX9_order_11 : decode cX9_order 11 = .ok (.getfield 16, 3) := by decide +kernel
theorem dX9_order_14 : decode cX9_order 14 = .ok (.getfield 79, 3) := by decide +kernel
theorem dX9_order_17 : decode cX9_order 17 = .ok (.aload_n 0, 1) := by decide +kernel
theorem dX9_order_18 : decode cX9_order 18 = .ok (.getfield 10, 3) := by decide +kernel
theorem dX9_order_21 : decode cX9_order 21 = .ok (.getfield 79, 3) := by decide +kernel
theorem dX9_order_24 : decode cX9_order 24 = .ok (.invokevirtual 160, 3) := by decide +kernel
theorem dX9_order_27 : decode cX9_order 27 = .ok (.iconst 1, 1) := by decide +kernel
theorem dX9_order_28 : decode cX9_order 28 = .ok (.istore_n 2, 1) := by decide +kernel
theorem dX9_order_29 : decode cX9_order 29 = .ok (.iload_n 2, 1) := by decide +kernel
theorem dX9_order_30 : decode cX9_order 30 = .ok (.bipush 60, 2) := by decide +kernel
theorem dX9_order_32 : decode cX9_order 32 = .ok (.if_icmp .gt 59, 3) := by decide +kernel
theorem dX9_order_35 : decode cX9_order 35 = .ok (.aload_n 0, 1) := by decide +kernel
theorem dX9_order_36 : decode cX9_order 36 = .ok (.getfield 16, 3) := by decide +kernel
theorem dX9_order_39 : decode cX9_order 39 = .ok (.aload_n 0, 1) := by decide +kernel
theorem dX9_order_40 : decode cX9_order 40 = .ok (.getfield 53, 3) := by decide +kernel
theorem dX9_order_43 : decode cX9_order 43 = .ok (.iload_n 1, 1) := by decide +kernel
theorem dX9_order_44 : decode cX9_order 44 = .ok (.aaload, 1) := by decide +kernel
theorem dX9_order_45 : decode cX9_order 45 = .ok (.iconst 0, 1) := by decide +kernel
theorem dX9_order_46 : decode cX9_order 46 = .ok (.invokevirtual 221, 3) := by decide +kernel
theorem dX9_order_49 : decode cX9_order 49 = .ok (.pop, 1) := by decide +kernel
theorem dX9_order_50 : decode cX9_order 50 = .ok (.aload_n 0, 1) := by decide +kernel
theorem dX9_order_51 : decode cX9_order 51 = .ok (.getfield 16, 3) := by decide +kernel
theorem dX9_order_54 : decode cX9_order 54 = .ok (.getfield 224, 3) := by decide +kernel
theorem dX9_order_57 : decode cX9_order 57 = .ok (.ifCond .eq 6, 3) := by decide +kernel
theorem dX9_order_60 : decode cX9_order 60 = .ok (.bipush (-2), 2) := by decide +kernel
theorem dX9_order_62 : decode cX9_order 62 = .ok (.ireturn, 1) := by decide +kernel
theorem dX9_order_63 : decode cX9_order 63 = .ok (.aload_n 0, 1) := by decide +kernel
theorem dX9_order_64 : decode cX9_order 64 = .ok (.getfield 16, 3) := by decide +kernel
theorem dX9_order_67 : decode cX9_order 67 = .ok (.getfield 79, 3) := by decide +kernel
theorem dX9_order_70 : decode cX9_order 70 = .ok (.aload_n 0, 1) := by decide +kernel
theorem dX9_order_71 : decode cX9_order 71 = .ok (.getfield 10, 3) := by decide +kernel
theorem dX9_order_74 : decode cX9_order 74 = .ok (.getfield 79, 3) := by decide +kernel
theorem dX9_order_77 : decode cX9_order 77 = .ok (.invokevirtual 227, 3) := by decide +kernel
theorem dX9_order_80 : decode cX9_order 80 = .ok (.ifCond .eq 5, 3) := by decide +kernel
theorem dX9_order_83 : decode cX9_order 83 = .ok (.iload_n 2, 1) := by decide +kernel
theorem dX9_order_84 : decode cX9_order 84 = .ok (.ireturn, 1) := by decide +kernel
theorem dX9_order_85 : decode cX9_order 85 = .ok (.iinc 2 1, 3) := by decide +kernel
theorem dX9_order_88 : decode cX9_order 88 = .ok (.goto (-59), 3) := by decide +kernel
theorem dX9_order_91 : decode cX9_order 91 = .ok (.bipush (-4), 2) := by decide +kernel
theorem dX9_order_93 : decode cX9_order 93 = .ok (.ireturn, 1) := by decide +kernel
theorem dX9_mirrors_0 : decode cX9_mirrors 0 = .ok (.aload_n 0, 1) := by decide +kernel
theorem dX9_mirrors_1 : decode cX9_mirrors 1 = .ok (.iload_n 1, 1) := by decide +kernel
theorem dX9_mirrors_2 : decode cX9_mirrors 2 = .ok (.invokevirtual 197, 3) := by decide +kernel
theorem dX9_mirrors_5 : decode cX9_mirrors 5 = .ok (.ifCond .ne 5, 3) := by decide +kernel
theorem dX9_mirrors_8 : decode cX9_mirrors 8 = .ok (.iconst (-1), 1) := by decide +kernel
theorem dX9_mirrors_9 : decode cX9_mirrors 9 = .ok (.ireturn, 1) := by decide +kernel
theorem dX9_mirrors_10 : decode cX9_mirrors 10 = .ok (.aload_n 0, 1) := by decide +kernel
theorem dX9_mirrors_11 : decode cX9_mirrors 11 = .ok (.getfield 16, 3) := by decide +kernel
theorem dX9_mirrors_14 : decode cX9_mirrors 14 = .ok (.getfield 79, 3) := by decide +kernel
theorem dX9_mirrors_17 : decode cX9_mirrors 17 = .ok (.aload_n 0, 1) := by decide +kernel
theorem dX9_mirrors_18 : decode cX9_mirrors 18 = .ok (.getfield 10, 3) := by decide +kernel
theorem dX9_mirrors_21 : decode cX9_mirrors 21 = .ok (.getfield 79, 3) := by decide +kernel
theorem dX9_mirrors_24 : decode cX9_mirrors 24 = .ok (.invokevirtual 160, 3) := by decide +kernel
theorem dX9_mirrors_27 : decode cX9_mirrors 27 = .ok (.aload_n 0, 1) := by decide +kernel
theorem dX9_mirrors_28 : decode cX9_mirrors 28 = .ok (.getfield 16, 3) := by decide +kernel
theorem dX9_mirrors_31 : decode cX9_mirrors 31 = .ok (.aload_n 0, 1) := by decide +kernel
theorem dX9_mirrors_32 : decode cX9_mirrors 32 = .ok (.getfield 53, 3) := by decide +kernel
theorem dX9_mirrors_35 : decode cX9_mirrors 35 = .ok (.iload_n 1, 1) := by decide +kernel
theorem dX9_mirrors_36 : decode cX9_mirrors 36 = .ok (.aaload, 1) := by decide +kernel
theorem dX9_mirrors_37 : decode cX9_mirrors 37 = .ok (.iconst 0, 1) := by decide +kernel
theorem dX9_mirrors_38 : decode cX9_mirrors 38 = .ok (.invokevirtual 221, 3) := by decide +kernel
theorem dX9_mirrors_41 : decode cX9_mirrors 41 = .ok (.pop, 1) := by decide +kernel
theorem dX9_mirrors_42 : decode cX9_mirrors 42 = .ok (.aload_n 0, 1) := by decide +kernel
theorem dX9_mirrors_43 : decode cX9_mirrors 43 = .ok (.getfield 16, 3) := by decide +kernel
theorem dX9_mirrors_46 : decode cX9_mirrors 46 = .ok (.getfield 224, 3) := by decide +kernel
theorem dX9_mirrors_49 : decode cX9_mirrors 49 = .ok (.ifCond .eq 5, 3) := by decide +kernel
theorem dX9_mirrors_52 : decode cX9_mirrors 52 = .ok (.iconst 0, 1) := by decide +kernel
theorem dX9_mirrors_53 : decode cX9_mirrors 53 = .ok (.ireturn, 1) := by decide +kernel
theorem dX9_mirrors_54 : decode cX9_mirrors 54 = .ok (.aload_n 0, 1) := by decide +kernel
theorem dX9_mirrors_55 : decode cX9_mirrors 55 = .ok (.getfield 16, 3) := by decide +kernel
theorem dX9_mirrors_58 : decode cX9_mirrors 58 = .ok (.aload_n 0, 1) := by decide +kernel
theorem dX9_mirrors_59 : decode cX9_mirrors 59 = .ok (.getfield 53, 3) := by decide +kernel
theorem dX9_mirrors_62 : decode cX9_mirrors 62 = .ok (.iload_n 1, 1) := by decide +kernel
theorem dX9_mirrors_63 : decode cX9_mirrors 63 = .ok (.aaload, 1) := by decide +kernel
theorem dX9_mirrors_64 : decode cX9_mirrors 64 = .ok (.iconst 1, 1) := by decide +kernel
theorem dX9_mirrors_65 : decode cX9_mirrors 65 = .ok (.invokevirtual 221, 3) := by decide +kernel
theorem dX9_mirrors_68 : decode cX9_mirrors 68 = .ok (.pop, 1) := by decide +kernel
theorem dX9_mirrors_69 : decode cX9_mirrors 69 = .ok (.aload_n 0, 1) := by decide +kernel
theorem dX9_mirrors_70 : decode cX9_mirrors 70 = .ok (.getfield 16, 3) := by decide +kernel
theorem dX9_mirrors_73 : decode cX9_mirrors 73 = .ok (.getfield 224, 3) := by decide +kernel
theorem dX9_mirrors_76 : decode cX9_mirrors 76 = .ok (.ifCond .eq 7, 3) := by decide +kernel
theorem dX9_mirrors_79 : decode cX9_mirrors 79 = .ok (.iconst 2, 1) := by decide +kernel
theorem dX9_mirrors_80 : decode cX9_mirrors 80 = .ok (.goto 4, 3) := by decide +kernel
theorem dX9_mirrors_83 : decode cX9_mirrors 83 = .ok (.iconst 1, 1) := by decide +kernel
theorem dX9_mirrors_84 : decode cX9_mirrors 84 = .ok (.ireturn, 1) := by decide +kernel
theorem dX9_keep_0 : decode cX9_keep 0 = .ok (.aload_n 0, 1) := by decide +kernel
theorem dX9_keep_1 : decode cX9_keep 1 = .ok (.getfield 89, 3) := by decide +kernel
theorem dX9_keep_4 : decode cX9_keep 4 = .ok (.aload_n 0, 1) := by decide +kernel
theorem dX9_keep_5 : decode cX9_keep 5 = .ok (.getfield 26, 3) := by decide +kernel
theorem dX9_keep_8 : decode cX9_keep 8 = .ok (.arraylength, 1) := by decide +kernel
theorem dX9_keep_9 : decode cX9_keep 9 = .ok (.if_icmp .lt 6, 3) := by decide +kernel
theorem dX9_keep_12 : decode cX9_keep 12 = .ok (.bipush (-3), 2) := by decide +kernel
theorem dX9_keep_14 : decode cX9_keep 14 = .ok (.ireturn, 1) := by decide +kernel
theorem dX9_keep_15 : decode cX9_keep 15 = .ok (.aload_n 0, 1) := by decide +kernel
theorem dX9_keep_16 : decode cX9_keep 16 = .ok (.getfield 26, 3) := by decide +kernel
theorem dX9_keep_19 : decode cX9_keep 19 = .ok (.aload_n 0, 1) := by decide +kernel
theorem dX9_keep_20 : decode cX9_keep 20 = .ok (.getfield 89, 3) := by decide +kernel
theorem dX9_keep_23 : decode cX9_keep 23 = .ok (.aaload, 1) := by decide +kernel
theorem dX9_keep_24 : decode cX9_keep 24 = .ok (.aload_n 0, 1) := by decide +kernel
theorem dX9_keep_25 : decode cX9_keep 25 = .ok (.getfield 10, 3) := by decide +kernel
theorem dX9_keep_28 : decode cX9_keep 28 = .ok (.getfield 79, 3) := by decide +kernel
theorem dX9_keep_31 : decode cX9_keep 31 = .ok (.invokevirtual 160, 3) := by decide +kernel
theorem dX9_keep_34 : decode cX9_keep 34 = .ok (.aload_n 0, 1) := by decide +kernel
theorem dX9_keep_35 : decode cX9_keep 35 = .ok (.dup, 1) := by decide +kernel
theorem dX9_keep_36 : decode cX9_keep 36 = .ok (.getfield 89, 3) := by decide +kernel
theorem dX9_keep_39 : decode cX9_keep 39 = .ok (.iconst 1, 1) := by decide +kernel
theorem dX9_keep_40 : decode cX9_keep 40 = .ok (.iadd, 1) := by decide +kernel
theorem dX9_keep_41 : decode cX9_keep 41 = .ok (.putfield 89, 3) := by decide +kernel
theorem dX9_keep_44 : decode cX9_keep 44 = .ok (.aload_n 0, 1) := by decide +kernel
theorem dX9_keep_45 : decode cX9_keep 45 = .ok (.getfield 89, 3) := by decide +kernel
theorem dX9_keep_48 : decode cX9_keep 48 = .ok (.iconst 1, 1) := by decide +kernel
theorem dX9_keep_49 : decode cX9_keep 49 = .ok (.isub, 1) := by decide +kernel
theorem dX9_keep_50 : decode cX9_keep 50 = .ok (.ireturn, 1) := by decide +kernel
theorem dX9_stand_0 : decode cX9_stand 0 = .ok (.aload_n 0, 1) := by decide +kernel
theorem dX9_stand_1 : decode cX9_stand 1 = .ok (.iload_n 1, 1) := by decide +kernel
theorem dX9_stand_2 : decode cX9_stand 2 = .ok (.invokevirtual 231, 3) := by decide +kernel
theorem dX9_stand_5 : decode cX9_stand 5 = .ok (.ifCond .ne 5, 3) := by decide +kernel
theorem dX9_stand_8 : decode cX9_stand 8 = .ok (.iconst (-1), 1) := by decide +kernel
theorem dX9_stand_9 : decode cX9_stand 9 = .ok (.ireturn, 1) := by decide +kernel
theorem dX9_stand_10 : decode cX9_stand 10 = .ok (.aload_n 0, 1) := by decide +kernel
theorem dX9_stand_11 : decode cX9_stand 11 = .ok (.getfield 10, 3) := by decide +kernel
theorem dX9_stand_14 : decode cX9_stand 14 = .ok (.getfield 79, 3) := by decide +kernel
theorem dX9_stand_17 : decode cX9_stand 17 = .ok (.aload_n 0, 1) := by decide +kernel
theorem dX9_stand_18 : decode cX9_stand 18 = .ok (.getfield 26, 3) := by decide +kernel
theorem dX9_stand_21 : decode cX9_stand 21 = .ok (.iload_n 1, 1) := by decide +kernel
theorem dX9_stand_22 : decode cX9_stand 22 = .ok (.aaload, 1) := by decide +kernel
theorem dX9_stand_23 : decode cX9_stand 23 = .ok (.invokevirtual 160, 3) := by decide +kernel
theorem dX9_stand_26 : decode cX9_stand 26 = .ok (.aload_n 0, 1) := by decide +kernel
theorem dX9_stand_27 : decode cX9_stand 27 = .ok (.getfield 10, 3) := by decide +kernel
theorem dX9_stand_30 : decode cX9_stand 30 = .ok (.invokevirtual 86, 3) := by decide +kernel
theorem dX9_stand_33 : decode cX9_stand 33 = .ok (.iconst 1, 1) := by decide +kernel
theorem dX9_stand_34 : decode cX9_stand 34 = .ok (.ireturn, 1) := by decide +kernel
theorem dX9_alike_0 : decode cX9_alike 0 = .ok (.aload_n 0, 1) := by decide +kernel
theorem dX9_alike_1 : decode cX9_alike 1 = .ok (.iload_n 1, 1) := by decide +kernel
theorem dX9_alike_2 : decode cX9_alike 2 = .ok (.invokevirtual 231, 3) := by decide +kernel
theorem dX9_alike_5 : decode cX9_alike 5 = .ok (.ifCond .ne 5, 3) := by decide +kernel
theorem dX9_alike_8 : decode cX9_alike 8 = .ok (.iconst (-1), 1) := by decide +kernel
theorem dX9_alike_9 : decode cX9_alike 9 = .ok (.ireturn, 1) := by decide +kernel
theorem dX9_alike_10 : decode cX9_alike 10 = .ok (.aload_n 0, 1) := by decide +kernel
theorem dX9_alike_11 : decode cX9_alike 11 = .ok (.getfield 10, 3) := by decide +kernel
theorem dX9_alike_14 : decode cX9_alike 14 = .ok (.getfield 79, 3) := by decide +kernel
theorem dX9_alike_17 : decode cX9_alike 17 = .ok (.aload_n 0, 1) := by decide +kernel
theorem dX9_alike_18 : decode cX9_alike 18 = .ok (.getfield 26, 3) := by decide +kernel
theorem dX9_alike_21 : decode cX9_alike 21 = .ok (.iload_n 1, 1) := by decide +kernel
theorem dX9_alike_22 : decode cX9_alike 22 = .ok (.aaload, 1) := by decide +kernel
theorem dX9_alike_23 : decode cX9_alike 23 = .ok (.invokevirtual 227, 3) := by decide +kernel
theorem dX9_alike_26 : decode cX9_alike 26 = .ok (.ifCond .eq 5, 3) := by decide +kernel
theorem dX9_alike_29 : decode cX9_alike 29 = .ok (.iconst 2, 1) := by decide +kernel
theorem dX9_alike_30 : decode cX9_alike 30 = .ok (.ireturn, 1) := by decide +kernel
theorem dX9_alike_31 : decode cX9_alike 31 = .ok (.aload_n 0, 1) := by decide +kernel
theorem dX9_alike_32 : decode cX9_alike 32 = .ok (.getfield 10, 3) := by decide +kernel
theorem dX9_alike_35 : decode cX9_alike 35 = .ok (.getfield 79, 3) := by decide +kernel
theorem dX9_alike_38 : decode cX9_alike 38 = .ok (.aload_n 0, 1) := by decide +kernel
theorem dX9_alike_39 : decode cX9_alike 39 = .ok (.getfield 26, 3) := by decide +kernel
theorem dX9_alike_42 : decode cX9_alike 42 = .ok (.iload_n 1, 1) := by decide +kernel
theorem dX9_alike_43 : decode cX9_alike 43 = .ok (.aaload, 1) := by decide +kernel
theorem dX9_alike_44 : decode cX9_alike 44 = .ok (.invokevirtual 234, 3) := by decide +kernel
theorem dX9_alike_47 : decode cX9_alike 47 = .ok (.ifCond .eq 7, 3) := by decide +kernel
theorem dX9_alike_50 : decode cX9_alike 50 = .ok (.iconst 1, 1) := by decide +kernel
theorem dX9_alike_51 : decode cX9_alike 51 = .ok (.goto 4, 3) := by decide +kernel
theorem dX9_alike_54 : decode cX9_alike 54 = .ok (.iconst 0, 1) := by decide +kernel
theorem dX9_alike_55 : decode cX9_alike 55 = .ok (.ireturn, 1) := by decide +kernel
theorem dX9_way_0 : decode cX9_way 0 = .ok (.aload_n 0, 1) := by decide +kernel
theorem dX9_way_1 : decode cX9_way 1 = .ok (.iload_n 1, 1) := by decide +kernel
theorem dX9_way_2 : decode cX9_way 2 = .ok (.invokevirtual 231, 3) := by decide +kernel
theorem dX9_way_5 : decode cX9_way 5 = .ok (.ifCond .ne 5, 3) := by decide +kernel
theorem dX9_way_8 : decode cX9_way 8 = .ok (.iconst (-1), 1) := by decide +kernel
theorem dX9_way_9 : decode cX9_way 9 = .ok (.ireturn, 1) := by decide +kernel
theorem dX9_way_10 : decode cX9_way 10 = .ok (.aload_n 0, 1) := by decide +kernel
theorem dX9_way_11 : decode cX9_way 11 = .ok (.getfield 33, 3) := by decide +kernel
theorem dX9_way_14 : decode cX9_way 14 = .ok (.aload_n 0, 1) := by decide +kernel
theorem dX9_way_15 : decode cX9_way 15 = .ok (.getfield 10, 3) := by decide +kernel
theorem dX9_way_18 : decode cX9_way 18 = .ok (.getfield 79, 3) := by decide +kernel
theorem dX9_way_21 : decode cX9_way 21 = .ok (.aload_n 0, 1) := by decide +kernel
theorem dX9_way_22 : decode cX9_way 22 = .ok (.getfield 26, 3) := by decide +kernel
theorem dX9_way_25 : decode cX9_way 25 = .ok (.iload_n 1, 1) := by decide +kernel
theorem dX9_way_26 : decode cX9_way 26 = .ok (.aaload, 1) := by decide +kernel
theorem dX9_way_27 : decode cX9_way 27 = .ok (.invokevirtual 237, 3) := by decide +kernel
theorem dX9_way_30 : decode cX9_way 30 = .ok (.aload_n 0, 1) := by decide +kernel
theorem dX9_way_31 : decode cX9_way 31 = .ok (.getfield 33, 3) := by decide +kernel
theorem dX9_way_34 : decode cX9_way 34 = .ok (.getfield 241, 3) := by decide +kernel
theorem dX9_way_37 : decode cX9_way 37 = .ok (.ireturn, 1) := by decide +kernel
theorem dX9_wayAt_0 : decode cX9_wayAt 0 = .ok (.aload_n 0, 1) := by decide +kernel
theorem dX9_wayAt_1 : decode cX9_wayAt 1 = .ok (.iload_n 1, 1) := by decide +kernel
theorem dX9_wayAt_2 : decode cX9_wayAt 2 = .ok (.invokevirtual 231, 3) := by decide +kernel
theorem dX9_wayAt_5 : decode cX9_wayAt 5 = .ok (.ifCond .eq 7, 3) := by decide +kernel
theorem dX9_wayAt_8 : decode cX9_wayAt 8 = .ok (.iload_n 2, 1) := by decide +kernel
theorem dX9_wayAt_9 : decode cX9_wayAt 9 = .ok (.ifCond .ge 5, 3) := by decide +kernel
theorem dX9_wayAt_12 : decode cX9_wayAt 12 = .ok (.iconst (-1), 1) := by decide +kernel
theorem dX9_wayAt_13 : decode cX9_wayAt 13 = .ok (.ireturn, 1) := by decide +kernel
theorem dX9_wayAt_14 : decode cX9_wayAt 14 = .ok (.aload_n 0, 1) := by decide +kernel
theorem dX9_wayAt_15 : decode cX9_wayAt 15 = .ok (.getfield 33, 3) := by decide +kernel
theorem dX9_wayAt_18 : decode cX9_wayAt 18 = .ok (.aload_n 0, 1) := by decide +kernel
theorem dX9_wayAt_19 : decode cX9_wayAt 19 = .ok (.getfield 10, 3) := by decide +kernel
theorem dX9_wayAt_22 : decode cX9_wayAt 22 = .ok (.getfield 79, 3) := by decide +kernel
theorem dX9_wayAt_25 : decode cX9_wayAt 25 = .ok (.aload_n 0, 1) := by decide +kernel
theorem dX9_wayAt_26 : decode cX9_wayAt 26 = .ok (.getfield 26, 3) := by decide +kernel
theorem dX9_wayAt_29 : decode cX9_wayAt 29 = .ok (.iload_n 1, 1) := by decide +kernel
theorem dX9_wayAt_30 : decode cX9_wayAt 30 = .ok (.aaload, 1) := by decide +kernel
theorem dX9_wayAt_31 : decode cX9_wayAt 31 = .ok (.invokevirtual 237, 3) := by decide +kernel
theorem dX9_wayAt_34 : decode cX9_wayAt 34 = .ok (.aload_n 0, 1) := by decide +kernel
theorem dX9_wayAt_35 : decode cX9_wayAt 35 = .ok (.getfield 33, 3) := by decide +kernel
theorem dX9_wayAt_38 : decode cX9_wayAt 38 = .ok (.getfield 241, 3) := by decide +kernel
theorem dX9_wayAt_41 : decode cX9_wayAt 41 = .ok (.bipush (-6), 2) := by decide +kernel
theorem dX9_wayAt_43 : decode cX9_wayAt 43 = .ok (.if_icmp .ne 6, 3) := by decide +kernel
theorem dX9_wayAt_46 : decode cX9_wayAt 46 = .ok (.bipush (-6), 2) := by decide +kernel
theorem dX9_wayAt_48 : decode cX9_wayAt 48 = .ok (.ireturn, 1) := by decide +kernel
theorem dX9_wayAt_49 : decode cX9_wayAt 49 = .ok (.iload_n 2, 1) := by decide +kernel
theorem dX9_wayAt_50 : decode cX9_wayAt 50 = .ok (.aload_n 0, 1) := by decide +kernel
theorem dX9_wayAt_51 : decode cX9_wayAt 51 = .ok (.getfield 33, 3) := by decide +kernel
theorem dX9_wayAt_54 : decode cX9_wayAt 54 = .ok (.getfield 241, 3) := by decide +kernel
theorem dX9_wayAt_57 : decode cX9_wayAt 57 = .ok (.if_icmp .ge 14, 3) := by decide +kernel
theorem dX9_wayAt_60 : decode cX9_wayAt 60 = .ok (.aload_n 0, 1) := by decide +kernel
theorem dX9_wayAt_61 : decode cX9_wayAt 61 = .ok (.getfield 33, 3) := by decide +kernel
theorem dX9_wayAt_64 : decode cX9_wayAt 64 = .ok (.iload_n 2, 1) := by decide +kernel
theorem dX9_wayAt_65 : decode cX9_wayAt 65 = .ok (.invokevirtual 244, 3) := by decide +kernel
theorem dX9_wayAt_68 : decode cX9_wayAt 68 = .ok (.goto 5, 3) := by decide +kernel
theorem dX9_wayAt_71 : decode cX9_wayAt 71 = .ok (.bipush (-4), 2) := by decide +kernel
theorem dX9_wayAt_73 : decode cX9_wayAt 73 = .ok (.ireturn, 1) := by decide +kernel
theorem dX9_met_0 : decode cX9_met 0 = .ok (.aload_n 0, 1) := by decide +kernel
theorem dX9_met_1 : decode cX9_met 1 = .ok (.iload_n 1, 1) := by decide +kernel
theorem dX9_met_2 : decode cX9_met 2 = .ok (.invokevirtual 231, 3) := by decide +kernel
theorem dX9_met_5 : decode cX9_met 5 = .ok (.ifCond .ne 5, 3) := by decide +kernel
theorem dX9_met_8 : decode cX9_met 8 = .ok (.iconst (-1), 1) := by decide +kernel
theorem dX9_met_9 : decode cX9_met 9 = .ok (.ireturn, 1) := by decide +kernel
theorem dX9_met_10 : decode cX9_met 10 = .ok (.aload_n 0, 1) := by decide +kernel
theorem dX9_met_11 : decode cX9_met 11 = .ok (.getfield 33, 3) := by decide +kernel
theorem dX9_met_14 : decode cX9_met 14 = .ok (.aload_n 0, 1) := by decide +kernel
theorem dX9_met_15 : decode cX9_met 15 = .ok (.getfield 10, 3) := by decide +kernel
theorem dX9_met_18 : decode cX9_met 18 = .ok (.getfield 79, 3) := by decide +kernel
theorem dX9_met_21 : decode cX9_met 21 = .ok (.aload_n 0, 1) := by decide +kernel
theorem dX9_met_22 : decode cX9_met 22 = .ok (.getfield 26, 3) := by decide +kernel
theorem dX9_met_25 : decode cX9_met 25 = .ok (.iload_n 1, 1) := by decide +kernel
theorem dX9_met_26 : decode cX9_met 26 = .ok (.aaload, 1) := by decide +kernel
theorem dX9_met_27 : decode cX9_met 27 = .ok (.invokevirtual 237, 3) := by decide +kernel
theorem dX9_met_30 : decode cX9_met 30 = .ok (.aload_n 0, 1) := by decide +kernel
theorem dX9_met_31 : decode cX9_met 31 = .ok (.getfield 33, 3) := by decide +kernel
theorem dX9_met_34 : decode cX9_met 34 = .ok (.getfield 247, 3) := by decide +kernel
theorem dX9_met_37 : decode cX9_met 37 = .ok (.ireturn, 1) := by decide +kernel
theorem dX9_village_0 : decode cX9_village 0 = .ok (.aload_n 0, 1) := by decide +kernel
theorem dX9_village_1 : decode cX9_village 1 = .ok (.getfield 250, 3) := by decide +kernel
theorem dX9_village_4 : decode cX9_village 4 = .ok (.aload_n 0, 1) := by decide +kernel
theorem dX9_village_5 : decode cX9_village 5 = .ok (.getfield 59, 3) := by decide +kernel
theorem dX9_village_8 : decode cX9_village 8 = .ok (.arraylength, 1) := by decide +kernel
theorem dX9_village_9 : decode cX9_village 9 = .ok (.if_icmp .lt 6, 3) := by decide +kernel
theorem dX9_village_12 : decode cX9_village 12 = .ok (.bipush (-3), 2) := by decide +kernel
theorem dX9_village_14 : decode cX9_village 14 = .ok (.ireturn, 1) := by decide +kernel
theorem dX9_village_15 : decode cX9_village 15 = .ok (.aload_n 0, 1) := by decide +kernel
theorem dX9_village_16 : decode cX9_village 16 = .ok (.dup, 1) := by decide +kernel
theorem dX9_village_17 : decode cX9_village 17 = .ok (.getfield 250, 3) := by decide +kernel
theorem dX9_village_20 : decode cX9_village 20 = .ok (.iconst 1, 1) := by decide +kernel
theorem dX9_village_21 : decode cX9_village 21 = .ok (.iadd, 1) := by decide +kernel
theorem dX9_village_22 : decode cX9_village 22 = .ok (.putfield 250, 3) := by decide +kernel
theorem dX9_village_25 : decode cX9_village 25 = .ok (.aload_n 0, 1) := by decide +kernel
theorem dX9_village_26 : decode cX9_village 26 = .ok (.getfield 250, 3) := by decide +kernel
theorem dX9_village_29 : decode cX9_village 29 = .ok (.iconst 1, 1) := by decide +kernel
theorem dX9_village_30 : decode cX9_village 30 = .ok (.isub, 1) := by decide +kernel
theorem dX9_village_31 : decode cX9_village 31 = .ok (.ireturn, 1) := by decide +kernel
theorem dX9_add_0 : decode cX9_add 0 = .ok (.aload_n 0, 1) := by decide +kernel
theorem dX9_add_1 : decode cX9_add 1 = .ok (.iload_n 1, 1) := by decide +kernel
theorem dX9_add_2 : decode cX9_add 2 = .ok (.invokevirtual 253, 3) := by decide +kernel
theorem dX9_add_5 : decode cX9_add 5 = .ok (.ifCond .eq 11, 3) := by decide +kernel
theorem dX9_add_8 : decode cX9_add 8 = .ok (.aload_n 0, 1) := by decide +kernel
theorem dX9_add_9 : decode cX9_add 9 = .ok (.iload_n 2, 1) := by decide +kernel
theorem dX9_add_10 : decode cX9_add 10 = .ok (.invokevirtual 197, 3) := by decide +kernel
theorem dX9_add_13 : decode cX9_add 13 = .ok (.ifCond .ne 5, 3) := by decide +kernel
theorem dX9_add_16 : decode cX9_add 16 = .ok (.iconst (-1), 1) := by decide +kernel
theorem dX9_add_17 : decode cX9_add 17 = .ok (.ireturn, 1) := by decide +kernel
theorem dX9_add_18 : decode cX9_add 18 = .ok (.aload_n 0, 1) := by decide +kernel
theorem dX9_add_19 : decode cX9_add 19 = .ok (.getfield 59, 3) := by decide +kernel
theorem dX9_add_22 : decode cX9_add 22 = .ok (.iload_n 1, 1) := by decide +kernel
theorem dX9_add_23 : decode cX9_add 23 = .ok (.aaload, 1) := by decide +kernel
theorem dX9_add_24 : decode cX9_add 24 = .ok (.iload_n 2, 1) := by decide +kernel
theorem dX9_add_25 : decode cX9_add 25 = .ok (.invokevirtual 256, 3) := by decide +kernel
theorem dX9_add_28 : decode cX9_add 28 = .ok (.ifCond .eq 15, 3) := by decide +kernel
theorem dX9_add_31 : decode cX9_add 31 = .ok (.aload_n 0, 1) := by decide +kernel
theorem dX9_add_32 : decode cX9_add 32 = .ok (.getfield 59, 3) := by decide +kernel
theorem dX9_add_35 : decode cX9_add 35 = .ok (.iload_n 1, 1) := by decide +kernel
theorem dX9_add_36 : decode cX9_add 36 = .ok (.aaload, 1) := by decide +kernel
theorem dX9_add_37 : decode cX9_add 37 = .ok (.getfield 258, 3) := by decide +kernel
theorem dX9_add_40 : decode cX9_add 40 = .ok (.goto 5, 3) := by decide +kernel
theorem dX9_add_43 : decode cX9_add 43 = .ok (.bipush (-3), 2) := by decide +kernel
theorem dX9_add_45 : decode cX9_add 45 = .ok (.ireturn, 1) := by decide +kernel
theorem dX9_danceOf_0 : decode cX9_danceOf 0 = .ok (.aload_n 0, 1) := by decide +kernel
theorem dX9_danceOf_1 : decode cX9_danceOf 1 = .ok (.iload_n 1, 1) := by decide +kernel
theorem dX9_danceOf_2 : decode cX9_danceOf 2 = .ok (.invokevirtual 253, 3) := by decide +kernel
theorem dX9_danceOf_5 : decode cX9_danceOf 5 = .ok (.ifCond .ne 5, 3) := by decide +kernel
theorem dX9_danceOf_8 : decode cX9_danceOf 8 = .ok (.iconst (-1), 1) := by decide +kernel
theorem dX9_danceOf_9 : decode cX9_danceOf 9 = .ok (.ireturn, 1) := by decide +kernel
theorem dX9_danceOf_10 : decode cX9_danceOf 10 = .ok (.aload_n 0, 1) := by decide +kernel
theorem dX9_danceOf_11 : decode cX9_danceOf 11 = .ok (.getfield 59, 3) := by decide +kernel
theorem dX9_danceOf_14 : decode cX9_danceOf 14 = .ok (.iload_n 1, 1) := by decide +kernel
theorem dX9_danceOf_15 : decode cX9_danceOf 15 = .ok (.aaload, 1) := by decide +kernel
theorem dX9_danceOf_16 : decode cX9_danceOf 16 = .ok (.astore_n 3, 1) := by decide +kernel
theorem dX9_danceOf_17 : decode cX9_danceOf 17 = .ok (.iload_n 2, 1) := by decide +kernel
theorem dX9_danceOf_18 : decode cX9_danceOf 18 = .ok (.lookupswitch 37 #[(0, 26), (1, 31)], 26) := by decide +kernel
theorem dX9_danceOf_44 : decode cX9_danceOf 44 = .ok (.aload_n 3, 1) := by decide +kernel
theorem dX9_danceOf_45 : decode cX9_danceOf 45 = .ok (.getfield 258, 3) := by decide +kernel
theorem dX9_danceOf_48 : decode cX9_danceOf 48 = .ok (.ireturn, 1) := by decide +kernel
theorem dX9_danceOf_49 : decode cX9_danceOf 49 = .ok (.aload_n 0, 1) := by decide +kernel
theorem dX9_danceOf_50 : decode cX9_danceOf 50 = .ok (.aload_n 3, 1) := by decide +kernel
theorem dX9_danceOf_51 : decode cX9_danceOf 51 = .ok (.invokevirtual 259, 3) := by decide +kernel
theorem dX9_danceOf_54 : decode cX9_danceOf 54 = .ok (.ireturn, 1) := by decide +kernel
theorem dX9_danceOf_55 : decode cX9_danceOf 55 = .ok (.iload_n 2, 1) := by decide +kernel
theorem dX9_danceOf_56 : decode cX9_danceOf 56 = .ok (.bipush 10, 2) := by decide +kernel
theorem dX9_danceOf_58 : decode cX9_danceOf 58 = .ok (.if_icmp .lt 25, 3) := by decide +kernel
theorem dX9_danceOf_61 : decode cX9_danceOf 61 = .ok (.iload_n 2, 1) := by decide +kernel
theorem dX9_danceOf_62 : decode cX9_danceOf 62 = .ok (.bipush 10, 2) := by decide +kernel
theorem dX9_danceOf_64 : decode cX9_danceOf 64 = .ok (.aload_n 3, 1) := by decide +kernel
theorem dX9_danceOf_65 : decode cX9_danceOf 65 = .ok (.getfield 258, 3) := by decide +kernel
theorem dX9_danceOf_68 : decode cX9_danceOf 68 = .ok (.iadd, 1) := by decide +kernel
theorem dX9_danceOf_69 : decode cX9_danceOf 69 = .ok (.if_icmp .ge 14, 3) := by decide +kernel
theorem dX9_danceOf_72 : decode cX9_danceOf 72 = .ok (.aload_n 3, 1) := by decide +kernel
theorem dX9_danceOf_73 : decode cX9_danceOf 73 = .ok (.iload_n 2, 1) := by decide +kernel
theorem dX9_danceOf_74 : decode cX9_danceOf 74 = .ok (.bipush 10, 2) := by decide +kernel
theorem dX9_danceOf_76 : decode cX9_danceOf 76 = .ok (.isub, 1) := by decide +kernel
theorem dX9_danceOf_77 : decode cX9_danceOf 77 = .ok (.invokevirtual 263, 3) := by decide +kernel
theorem dX9_danceOf_80 : decode cX9_danceOf 80 = .ok (.goto 4, 3) := by decide +kernel
theorem dX9_danceOf_83 : decode cX9_danceOf 83 = .ok (.iconst (-1), 1) := by decide +kernel
theorem dX9_danceOf_84 : decode cX9_danceOf 84 = .ok (.ireturn, 1) := by decide +kernel
theorem dX9_shared_0 : decode cX9_shared 0 = .ok (.aload_n 0, 1) := by decide +kernel
theorem dX9_shared_1 : decode cX9_shared 1 = .ok (.iload_n 1, 1) := by decide +kernel
theorem dX9_shared_2 : decode cX9_shared 2 = .ok (.invokevirtual 253, 3) := by decide +kernel
theorem dX9_shared_5 : decode cX9_shared 5 = .ok (.ifCond .eq 21, 3) := by decide +kernel
theorem dX9_shared_8 : decode cX9_shared 8 = .ok (.aload_n 0, 1) := by decide +kernel
theorem dX9_shared_9 : decode cX9_shared 9 = .ok (.iload_n 2, 1) := by decide +kernel
theorem dX9_shared_10 : decode cX9_shared 10 = .ok (.invokevirtual 253, 3) := by decide +kernel
theorem dX9_shared_13 : decode cX9_shared 13 = .ok (.ifCond .eq 13, 3) := by decide +kernel
theorem dX9_shared_16 : decode cX9_shared 16 = .ok (.iload_n 3, 1) := by decide +kernel
theorem dX9_shared_17 : decode cX9_shared 17 = .ok (.ifCond .ge 11, 3) := by decide +kernel
theorem dX9_shared_20 : decode cX9_shared 20 = .ok (.iload_n 3, 1) := by decide +kernel
theorem dX9_shared_21 : decode cX9_shared 21 = .ok (.bipush (-4), 2) := by decide +kernel
theorem dX9_shared_23 : decode cX9_shared 23 = .ok (.if_icmp .eq 5, 3) := by decide +kernel
theorem dX9_shared_26 : decode cX9_shared 26 = .ok (.iconst (-1), 1) := by decide +kernel
theorem dX9_shared_27 : decode cX9_shared 27 = .ok (.ireturn, 1) := by decide +kernel
theorem dX9_shared_28 : decode cX9_shared 28 = .ok (.aload_n 0, 1) := by decide +kernel
theorem dX9_shared_29 : decode cX9_shared 29 = .ok (.getfield 66, 3) := by decide +kernel
theorem dX9_shared_32 : decode cX9_shared 32 = .ok (.aload_n 0, 1) := by decide +kernel
theorem dX9_shared_33 : decode cX9_shared 33 = .ok (.getfield 59, 3) := by decide +kernel
theorem dX9_shared_36 : decode cX9_shared 36 = .ok (.iload_n 1, 1) := by decide +kernel
theorem dX9_shared_37 : decode cX9_shared 37 = .ok (.aaload, 1) := by decide +kernel
theorem dX9_shared_38 : decode cX9_shared 38 = .ok (.aload_n 0, 1) := by decide +kernel
theorem dX9_shared_39 : decode cX9_shared 39 = .ok (.getfield 59, 3) := by decide +kernel
theorem dX9_shared_42 : decode cX9_shared 42 = .ok (.iload_n 2, 1) := by decide +kernel
theorem dX9_shared_43 : decode cX9_shared 43 = .ok (.aaload, 1) := by decide +kernel
theorem dX9_shared_44 : decode cX9_shared 44 = .ok (.invokevirtual 266, 3) := by decide +kernel
theorem dX9_shared_47 : decode cX9_shared 47 = .ok (.iload_n 3, 1) := by decide +kernel
theorem dX9_shared_48 : decode cX9_shared 48 = .ok (.bipush (-4), 2) := by decide +kernel
theorem dX9_shared_50 : decode cX9_shared 50 = .ok (.if_icmp .ne 14, 3) := by decide +kernel
theorem dX9_shared_53 : decode cX9_shared 53 = .ok (.aload_n 0, 1) := by decide +kernel
theorem dX9_shared_54 : decode cX9_shared 54 = .ok (.getfield 66, 3) := by decide +kernel
theorem dX9_shared_57 : decode cX9_shared 57 = .ok (.getfield 269, 3) := by decide +kernel
theorem dX9_shared_60 : decode cX9_shared 60 = .ok (.getfield 258, 3) := by decide +kernel
theorem dX9_shared_63 : decode cX9_shared 63 = .ok (.ireturn, 1) := by decide +kernel
theorem dX9_shared_64 : decode cX9_shared 64 = .ok (.iload_n 3, 1) := by decide +kernel
theorem dX9_shared_65 : decode cX9_shared 65 = .ok (.aload_n 0, 1) := by decide +kernel
theorem dX9_shared_66 : decode cX9_shared 66 = .ok (.getfield 66, 3) := by decide +kernel
theorem dX9_shared_69 : decode cX9_shared 69 = .ok (.getfield 269, 3) := by decide +kernel
theorem dX9_shared_72 : decode cX9_shared 72 = .ok (.getfield 258, 3) := by decide +kernel
theorem dX9_shared_75 : decode cX9_shared 75 = .ok (.if_icmp .ge 17, 3) := by decide +kernel
theorem dX9_shared_78 : decode cX9_shared 78 = .ok (.aload_n 0, 1) := by decide +kernel
theorem dX9_shared_79 : decode cX9_shared 79 = .ok (.getfield 66, 3) := by decide +kernel
theorem dX9_shared_82 : decode cX9_shared 82 = .ok (.getfield 269, 3) := by decide +kernel
theorem dX9_shared_85 : decode cX9_shared 85 = .ok (.iload_n 3, 1) := by decide +kernel
theorem dX9_shared_86 : decode cX9_shared 86 = .ok (.invokevirtual 263, 3) := by decide +kernel
theorem dX9_shared_89 : decode cX9_shared 89 = .ok (.goto 5, 3) := by decide +kernel
theorem dX9_shared_92 : decode cX9_shared 92 = .ok (.bipush (-4), 2) := by decide +kernel
theorem dX9_shared_94 : decode cX9_shared 94 = .ok (.ireturn, 1) := by decide +kernel
theorem dX9_perform_0 : decode cX9_perform 0 = .ok (.aload_n 0, 1) := by decide +kernel
theorem dX9_perform_1 : decode cX9_perform 1 = .ok (.iload_n 1, 1) := by decide +kernel
theorem dX9_perform_2 : decode cX9_perform 2 = .ok (.invokevirtual 253, 3) := by decide +kernel
theorem dX9_perform_5 : decode cX9_perform 5 = .ok (.ifCond .ne 5, 3) := by decide +kernel
theorem dX9_perform_8 : decode cX9_perform 8 = .ok (.iconst (-1), 1) := by decide +kernel
theorem dX9_perform_9 : decode cX9_perform 9 = .ok (.ireturn, 1) := by decide +kernel
theorem dX9_perform_10 : decode cX9_perform 10 = .ok (.aload_n 0, 1) := by decide +kernel
theorem dX9_perform_11 : decode cX9_perform 11 = .ok (.getfield 59, 3) := by decide +kernel
theorem dX9_perform_14 : decode cX9_perform 14 = .ok (.iload_n 1, 1) := by decide +kernel
theorem dX9_perform_15 : decode cX9_perform 15 = .ok (.aaload, 1) := by decide +kernel
theorem dX9_perform_16 : decode cX9_perform 16 = .ok (.astore_n 2, 1) := by decide +kernel
theorem dX9_perform_17 : decode cX9_perform 17 = .ok (.iconst 0, 1) := by decide +kernel
theorem dX9_perform_18 : decode cX9_perform 18 = .ok (.istore_n 3, 1) := by decide +kernel
theorem dX9_perform_19 : decode cX9_perform 19 = .ok (.iload_n 3, 1) := by decide +kernel
theorem dX9_perform_20 : decode cX9_perform 20 = .ok (.aload_n 2, 1) := by decide +kernel
theorem dX9_perform_21 : decode cX9_perform 21 = .ok (.getfield 258, 3) := by decide +kernel
theorem dX9_perform_24 : decode cX9_perform 24 = .ok (.if_icmp .ge 45, 3) := by decide +kernel
theorem dX9_perform_27 : decode cX9_perform 27 = .ok (.aload_n 2, 1) := by decide +kernel
theorem dX9_perform_28 : decode cX9_perform 28 = .ok (.iload_n 3, 1) := by decide +kernel
theorem dX9_perform_29 : decode cX9_perform 29 = .ok (.invokevirtual 263, 3) := by decide +kernel
theorem dX9_perform_32 : decode cX9_perform 32 = .ok (.istore 4, 2) := by decide +kernel
theorem dX9_perform_34 : decode cX9_perform 34 = .ok (.aload_n 0, 1) := by decide +kernel
theorem dX9_perform_35 : decode cX9_perform 35 = .ok (.iload 4, 2) := by decide +kernel
theorem dX9_perform_37 : decode cX9_perform 37 = .ok (.invokevirtual 197, 3) := by decide +kernel
theorem dX9_perform_40 : decode cX9_perform 40 = .ok (.ifCond .eq 23, 3) := by decide +kernel
theorem dX9_perform_43 : decode cX9_perform 43 = .ok (.aload_n 0, 1) := by decide +kernel
theorem dX9_perform_44 : decode cX9_perform 44 = .ok (.aload_n 0, 1) := by decide +kernel
theorem dX9_perform_45 : decode cX9_perform 45 = .ok (.getfield 53, 3) := by decide +kernel
theorem dX9_perform_48 : decode cX9_perform 48 = .ok (.iload 4, 2) := by decide +kernel
theorem dX9_perform_50 : decode cX9_perform 50 = .ok (.aaload, 1) := by decide +kernel
theorem dX9_perform_51 : decode cX9_perform 51 = .ok (.iconst 0, 1) := by decide +kernel
theorem dX9_perform_52 : decode cX9_perform 52 = .ok (.invokevirtual 214, 3) := by decide +kernel
theorem dX9_perform_55 : decode cX9_perform 55 = .ok (.ifCond .ge 8, 3) := by decide +kernel
theorem dX9_perform_58 : decode cX9_perform 58 = .ok (.bipush (-100), 2) := by decide +kernel
theorem dX9_perform_60 : decode cX9_perform 60 = .ok (.iload_n 3, 1) := by decide +kernel
theorem dX9_perform_61 : decode cX9_perform 61 = .ok (.isub, 1) := by decide +kernel
theorem dX9_perform_62 : decode cX9_perform 62 = .ok (.ireturn, 1) := by decide +kernel
theorem dX9_perform_63 : decode cX9_perform 63 = .ok (.iinc 3 1, 3) := by decide +kernel
theorem dX9_perform_66 : decode cX9_perform 66 = .ok (.goto (-47), 3) := by decide +kernel
theorem dX9_perform_69 : decode cX9_perform 69 = .ok (.aload_n 2, 1) := by decide +kernel
theorem dX9_perform_70 : decode cX9_perform 70 = .ok (.getfield 258, 3) := by decide +kernel
theorem dX9_perform_73 : decode cX9_perform 73 = .ok (.ireturn, 1) := by decide +kernel
theorem dX9_sheet_0 : decode cX9_sheet 0 = .ok (.aload_n 0, 1) := by decide +kernel
theorem dX9_sheet_1 : decode cX9_sheet 1 = .ok (.iload_n 1, 1) := by decide +kernel
theorem dX9_sheet_2 : decode cX9_sheet 2 = .ok (.invokevirtual 273, 3) := by decide +kernel
theorem dX9_sheet_5 : decode cX9_sheet 5 = .ok (.ifCond .eq 17, 3) := by decide +kernel
theorem dX9_sheet_8 : decode cX9_sheet 8 = .ok (.aload_n 0, 1) := by decide +kernel
theorem dX9_sheet_9 : decode cX9_sheet 9 = .ok (.iload_n 2, 1) := by decide +kernel
theorem dX9_sheet_10 : decode cX9_sheet 10 = .ok (.invokevirtual 276, 3) := by decide +kernel
theorem dX9_sheet_13 : decode cX9_sheet 13 = .ok (.ifCond .eq 9, 3) := by decide +kernel
theorem dX9_sheet_16 : decode cX9_sheet 16 = .ok (.iload_n 3, 1) := by decide +kernel
theorem dX9_sheet_17 : decode cX9_sheet 17 = .ok (.bipush 60, 2) := by decide +kernel
theorem dX9_sheet_19 : decode cX9_sheet 19 = .ok (.if_icmp .le 5, 3) := by decide +kernel
theorem dX9_sheet_22 : decode cX9_sheet 22 = .ok (.iconst (-1), 1) := by decide +kernel
theorem dX9_sheet_23 : decode cX9_sheet 23 = .ok (.ireturn, 1) := by decide +kernel
theorem dX9_sheet_24 : decode cX9_sheet 24 = .ok (.iload_n 3, 1) := by decide +kernel
theorem dX9_sheet_25 : decode cX9_sheet 25 = .ok (.ifCond .ge 6, 3) := by decide +kernel
theorem dX9_sheet_28 : decode cX9_sheet 28 = .ok (.bipush (-14), 2) := by decide +kernel
theorem dX9_sheet_30 : decode cX9_sheet 30 = .ok (.ireturn, 1) := by decide +kernel
theorem dX9_sheet_31 : decode cX9_sheet 31 = .ok (.aload_n 0, 1) := by decide +kernel
theorem dX9_sheet_32 : decode cX9_sheet 32 = .ok (.getfield 72, 3) := by decide +kernel
theorem dX9_sheet_35 : decode cX9_sheet 35 = .ok (.iload_n 1, 1) := by decide +kernel
theorem dX9_sheet_36 : decode cX9_sheet 36 = .ok (.aaload, 1) := by decide +kernel
theorem dX9_sheet_37 : decode cX9_sheet 37 = .ok (.iload_n 2, 1) := by decide +kernel
theorem dX9_sheet_38 : decode cX9_sheet 38 = .ok (.iload_n 3, 1) := by decide +kernel
theorem dX9_sheet_39 : decode cX9_sheet 39 = .ok (.invokevirtual 279, 3) := by decide +kernel
theorem dX9_sheet_42 : decode cX9_sheet 42 = .ok (.iconst 1, 1) := by decide +kernel
theorem dX9_sheet_43 : decode cX9_sheet 43 = .ok (.ireturn, 1) := by decide +kernel
theorem dX9_lay_0 : decode cX9_lay 0 = .ok (.aload_n 0, 1) := by decide +kernel
theorem dX9_lay_1 : decode cX9_lay 1 = .ok (.iload_n 1, 1) := by decide +kernel
theorem dX9_lay_2 : decode cX9_lay 2 = .ok (.invokevirtual 273, 3) := by decide +kernel
theorem dX9_lay_5 : decode cX9_lay 5 = .ok (.ifCond .ne 5, 3) := by decide +kernel
theorem dX9_lay_8 : decode cX9_lay 8 = .ok (.iconst (-1), 1) := by decide +kernel
theorem dX9_lay_9 : decode cX9_lay 9 = .ok (.ireturn, 1) := by decide +kernel
theorem dX9_lay_10 : decode cX9_lay 10 = .ok (.aload_n 0, 1) := by decide +kernel
theorem dX9_lay_11 : decode cX9_lay 11 = .ok (.getfield 72, 3) := by decide +kernel
theorem dX9_lay_14 : decode cX9_lay 14 = .ok (.iload_n 1, 1) := by decide +kernel
theorem dX9_lay_15 : decode cX9_lay 15 = .ok (.aaload, 1) := by decide +kernel
theorem dX9_lay_16 : decode cX9_lay 16 = .ok (.invokevirtual 283, 3) := by decide +kernel
theorem dX9_lay_19 : decode cX9_lay 19 = .ok (.ifCond .eq 6, 3) := by decide +kernel
theorem dX9_lay_22 : decode cX9_lay 22 = .ok (.bipush (-11), 2) := by decide +kernel
theorem dX9_lay_24 : decode cX9_lay 24 = .ok (.ireturn, 1) := by decide +kernel
theorem dX9_lay_25 : decode cX9_lay 25 = .ok (.aload_n 0, 1) := by decide +kernel
theorem dX9_lay_26 : decode cX9_lay 26 = .ok (.getfield 72, 3) := by decide +kernel
theorem dX9_lay_29 : decode cX9_lay 29 = .ok (.iload_n 1, 1) := by decide +kernel
theorem dX9_lay_30 : decode cX9_lay 30 = .ok (.aaload, 1) := by decide +kernel
theorem dX9_lay_31 : decode cX9_lay 31 = .ok (.iload_n 2, 1) := by decide +kernel
theorem dX9_lay_32 : decode cX9_lay 32 = .ok (.iload_n 3, 1) := by decide +kernel
theorem dX9_lay_33 : decode cX9_lay 33 = .ok (.invokevirtual 286, 3) := by decide +kernel
theorem dX9_lay_36 : decode cX9_lay 36 = .ok (.ifCond .eq 7, 3) := by decide +kernel
theorem dX9_lay_39 : decode cX9_lay 39 = .ok (.iconst 1, 1) := by decide +kernel
theorem dX9_lay_40 : decode cX9_lay 40 = .ok (.goto 5, 3) := by decide +kernel
theorem dX9_lay_43 : decode cX9_lay 43 = .ok (.bipush (-12), 2) := by decide +kernel
theorem dX9_lay_45 : decode cX9_lay 45 = .ok (.ireturn, 1) := by decide +kernel
theorem dX9_scan_0 : decode cX9_scan 0 = .ok (.aload_n 0, 1) := by decide +kernel
theorem dX9_scan_1 : decode cX9_scan 1 = .ok (.iload_n 1, 1) := by decide +kernel
theorem dX9_scan_2 : decode cX9_scan 2 = .ok (.invokevirtual 273, 3) := by decide +kernel
theorem dX9_scan_5 : decode cX9_scan 5 = .ok (.ifCond .eq 23, 3) := by decide +kernel
theorem dX9_scan_8 : decode cX9_scan 8 = .ok (.aload_n 0, 1) := by decide +kernel
theorem dX9_scan_9 : decode cX9_scan 9 = .ok (.iload_n 2, 1) := by decide +kernel
theorem dX9_scan_10 : decode cX9_scan 10 = .ok (.invokevirtual 276, 3) := by decide +kernel
theorem dX9_scan_13 : decode cX9_scan 13 = .ok (.ifCond .eq 15, 3) := by decide +kernel
theorem dX9_scan_16 : decode cX9_scan 16 = .ok (.iload 4, 2) := by decide +kernel
theorem dX9_scan_18 : decode cX9_scan 18 = .ok (.ifCond .lt 10, 3) := by decide +kernel
theorem dX9_scan_21 : decode cX9_scan 21 = .ok (.iload 4, 2) := by decide +kernel
theorem dX9_scan_23 : decode cX9_scan 23 = .ok (.bipush 30, 2) := by decide +kernel
theorem dX9_scan_25 : decode cX9_scan 25 = .ok (.if_icmp .le 5, 3) := by decide +kernel
theorem dX9_scan_28 : decode cX9_scan 28 = .ok (.iconst (-1), 1) := by decide +kernel
theorem dX9_scan_29 : decode cX9_scan 29 = .ok (.ireturn, 1) := by decide +kernel
theorem dX9_scan_30 : decode cX9_scan 30 = .ok (.aload_n 0, 1) := by decide +kernel
theorem dX9_scan_31 : decode cX9_scan 31 = .ok (.getfield 72, 3) := by decide +kernel
theorem dX9_scan_34 : decode cX9_scan 34 = .ok (.iload_n 1, 1) := by decide +kernel
theorem dX9_scan_35 : decode cX9_scan 35 = .ok (.aaload, 1) := by decide +kernel
theorem dX9_scan_36 : decode cX9_scan 36 = .ok (.astore 5, 2) := by decide +kernel
theorem dX9_scan_38 : decode cX9_scan 38 = .ok (.aload 5, 2) := by decide +kernel
theorem dX9_scan_40 : decode cX9_scan 40 = .ok (.invokevirtual 283, 3) := by decide +kernel
theorem dX9_scan_43 : decode cX9_scan 43 = .ok (.ifCond .eq 6, 3) := by decide +kernel
theorem dX9_scan_46 : decode cX9_scan 46 = .ok (.bipush (-11), 2) := by decide +kernel
theorem dX9_scan_48 : decode cX9_scan 48 = .ok (.ireturn, 1) := by decide +kernel
theorem dX9_scan_49 : decode cX9_scan 49 = .ok (.aload 5, 2) := by decide +kernel
theorem dX9_scan_51 : decode cX9_scan 51 = .ok (.getfield 289, 3) := by decide +kernel
theorem dX9_scan_54 : decode cX9_scan 54 = .ok (.iload_n 2, 1) := by decide +kernel
theorem dX9_scan_55 : decode cX9_scan 55 = .ok (.if_icmp .eq 6, 3) := by decide +kernel
theorem dX9_scan_58 : decode cX9_scan 58 = .ok (.bipush (-13), 2) := by decide +kernel
theorem dX9_scan_60 : decode cX9_scan 60 = .ok (.ireturn, 1) := by decide +kernel
theorem dX9_scan_61 : decode cX9_scan 61 = .ok (.iconst 0, 1) := by decide +kernel
theorem dX9_scan_62 : decode cX9_scan 62 = .ok (.istore 6, 2) := by decide +kernel
theorem dX9_scan_64 : decode cX9_scan 64 = .ok (.iload 6, 2) := by decide +kernel
theorem dX9_scan_66 : decode cX9_scan 66 = .ok (.iload 4, 2) := by decide +kernel
theorem dX9_scan_68 : decode cX9_scan 68 = .ok (.if_icmp .ge 79, 3) := by decide +kernel
theorem dX9_scan_71 : decode cX9_scan 71 = .ok (.iload_n 3, 1) := by decide +kernel
theorem dX9_scan_72 : decode cX9_scan 72 = .ok (.iconst 2, 1) := by decide +kernel
theorem dX9_scan_73 : decode cX9_scan 73 = .ok (.iload 6, 2) := by decide +kernel
theorem dX9_scan_75 : decode cX9_scan 75 = .ok (.imul, 1) := by decide +kernel
theorem dX9_scan_76 : decode cX9_scan 76 = .ok (.iadd, 1) := by decide +kernel
theorem dX9_scan_77 : decode cX9_scan 77 = .ok (.istore 7, 2) := by decide +kernel
theorem dX9_scan_79 : decode cX9_scan 79 = .ok (.aload 5, 2) := by decide +kernel
theorem dX9_scan_81 : decode cX9_scan 81 = .ok (.iload 7, 2) := by decide +kernel
theorem dX9_scan_83 : decode cX9_scan 83 = .ok (.invokevirtual 292, 3) := by decide +kernel
theorem dX9_scan_86 : decode cX9_scan 86 = .ok (.ifCond .eq 15, 3) := by decide +kernel
theorem dX9_scan_89 : decode cX9_scan 89 = .ok (.aload 5, 2) := by decide +kernel
theorem dX9_scan_91 : decode cX9_scan 91 = .ok (.iload 7, 2) := by decide +kernel
theorem dX9_scan_93 : decode cX9_scan 93 = .ok (.iconst 1, 1) := by decide +kernel
theorem dX9_scan_94 : decode cX9_scan 94 = .ok (.iadd, 1) := by decide +kernel
theorem dX9_scan_95 : decode cX9_scan 95 = .ok (.invokevirtual 292, 3) := by decide +kernel
theorem dX9_scan_98 : decode cX9_scan 98 = .ok (.ifCond .ne 6, 3) := by decide +kernel
theorem dX9_scan_101 : decode cX9_scan 101 = .ok (.bipush (-12), 2) := by decide +kernel
theorem dX9_scan_103 : decode cX9_scan 103 = .ok (.ireturn, 1) := by decide +kernel
theorem dX9_scan_104 : decode cX9_scan 104 = .ok (.aload_n 0, 1) := by decide +kernel
theorem dX9_scan_105 : decode cX9_scan 105 = .ok (.getfield 10, 3) := by decide +kernel
theorem dX9_scan_108 : decode cX9_scan 108 = .ok (.aload 5, 2) := by decide +kernel
theorem dX9_scan_110 : decode cX9_scan 110 = .ok (.iload 7, 2) := by decide +kernel
theorem dX9_scan_112 : decode cX9_scan 112 = .ok (.invokevirtual 295, 3) := by decide +kernel
theorem dX9_scan_115 : decode cX9_scan 115 = .ok (.aload 5, 2) := by decide +kernel
theorem dX9_scan_117 : decode cX9_scan 117 = .ok (.iload 7, 2) := by decide +kernel
theorem dX9_scan_119 : decode cX9_scan 119 = .ok (.iconst 1, 1) := by decide +kernel
theorem dX9_scan_120 : decode cX9_scan 120 = .ok (.iadd, 1) := by decide +kernel
theorem dX9_scan_121 : decode cX9_scan 121 = .ok (.invokevirtual 295, 3) := by decide +kernel
theorem dX9_scan_124 : decode cX9_scan 124 = .ok (.invokevirtual 93, 3) := by decide +kernel
theorem dX9_scan_127 : decode cX9_scan 127 = .ok (.istore 8, 2) := by decide +kernel
theorem dX9_scan_129 : decode cX9_scan 129 = .ok (.iload 8, 2) := by decide +kernel
theorem dX9_scan_131 : decode cX9_scan 131 = .ok (.iconst 1, 1) := by decide +kernel
theorem dX9_scan_132 : decode cX9_scan 132 = .ok (.if_icmp .eq 9, 3) := by decide +kernel
theorem dX9_scan_135 : decode cX9_scan 135 = .ok (.bipush (-20), 2) := by decide +kernel
theorem dX9_scan_137 : decode cX9_scan 137 = .ok (.iload 8, 2) := by decide +kernel
theorem dX9_scan_139 : decode cX9_scan 139 = .ok (.iadd, 1) := by decide +kernel
theorem dX9_scan_140 : decode cX9_scan 140 = .ok (.ireturn, 1) := by decide +kernel
theorem dX9_scan_141 : decode cX9_scan 141 = .ok (.iinc 6 1, 3) := by decide +kernel
theorem dX9_scan_144 : decode cX9_scan 144 = .ok (.goto (-80), 3) := by decide +kernel
theorem dX9_scan_147 : decode cX9_scan 147 = .ok (.iload 4, 2) := by decide +kernel
theorem dX9_scan_149 : decode cX9_scan 149 = .ok (.ireturn, 1) := by decide +kernel
theorem dX9_count_0 : decode cX9_count 0 = .ok (.iload_n 1, 1) := by decide +kernel
theorem dX9_count_1 : decode cX9_count 1 = .ok (.tableswitch 85 0 4 #[35, 40, 45, 50, 58], 35) := by decide +kernel
theorem dX9_count_36 : decode cX9_count 36 = .ok (.aload_n 0, 1) := by decide +kernel
theorem dX9_count_37 : decode cX9_count 37 = .ok (.getfield 174, 3) := by decide +kernel
theorem dX9_count_40 : decode cX9_count 40 = .ok (.ireturn, 1) := by decide +kernel
theorem dX9_count_41 : decode cX9_count 41 = .ok (.aload_n 0, 1) := by decide +kernel
theorem dX9_count_42 : decode cX9_count 42 = .ok (.getfield 89, 3) := by decide +kernel
theorem dX9_count_45 : decode cX9_count 45 = .ok (.ireturn, 1) := by decide +kernel
theorem dX9_count_46 : decode cX9_count 46 = .ok (.aload_n 0, 1) := by decide +kernel
theorem dX9_count_47 : decode cX9_count 47 = .ok (.getfield 250, 3) := by decide +kernel
theorem dX9_count_50 : decode cX9_count 50 = .ok (.ireturn, 1) := by decide +kernel
theorem dX9_count_51 : decode cX9_count 51 = .ok (.aload_n 0, 1) := by decide +kernel
theorem dX9_count_52 : decode cX9_count 52 = .ok (.getfield 40, 3) := by decide +kernel
theorem dX9_count_55 : decode cX9_count 55 = .ok (.getfield 171, 3) := by decide +kernel
theorem dX9_count_58 : decode cX9_count 58 = .ok (.ireturn, 1) := by decide +kernel
theorem dX9_count_59 : decode cX9_count 59 = .ok (.aload_n 0, 1) := by decide +kernel
theorem dX9_count_60 : decode cX9_count 60 = .ok (.getfield 72, 3) := by decide +kernel
theorem dX9_count_63 : decode cX9_count 63 = .ok (.iconst 0, 1) := by decide +kernel
theorem dX9_count_64 : decode cX9_count 64 = .ok (.aaload, 1) := by decide +kernel
theorem dX9_count_65 : decode cX9_count 65 = .ok (.invokevirtual 283, 3) := by decide +kernel
theorem dX9_count_68 : decode cX9_count 68 = .ok (.ifCond .eq 8, 3) := by decide +kernel
theorem dX9_count_71 : decode cX9_count 71 = .ok (.bipush (-4), 2) := by decide +kernel
theorem dX9_count_73 : decode cX9_count 73 = .ok (.goto 12, 3) := by decide +kernel
theorem dX9_count_76 : decode cX9_count 76 = .ok (.aload_n 0, 1) := by decide +kernel
theorem dX9_count_77 : decode cX9_count 77 = .ok (.getfield 72, 3) := by decide +kernel
theorem dX9_count_80 : decode cX9_count 80 = .ok (.iconst 0, 1) := by decide +kernel
theorem dX9_count_81 : decode cX9_count 81 = .ok (.aaload, 1) := by decide +kernel
theorem dX9_count_82 : decode cX9_count 82 = .ok (.getfield 298, 3) := by decide +kernel
theorem dX9_count_85 : decode cX9_count 85 = .ok (.ireturn, 1) := by decide +kernel
theorem dX9_count_86 : decode cX9_count 86 = .ok (.iconst (-1), 1) := by decide +kernel
theorem dX9_count_87 : decode cX9_count 87 = .ok (.ireturn, 1) := by decide +kernel
theorem dX9_isFigure_0 : decode cX9_isFigure 0 = .ok (.iload_n 1, 1) := by decide +kernel
theorem dX9_isFigure_1 : decode cX9_isFigure 1 = .ok (.ifCond .lt 24, 3) := by decide +kernel
theorem dX9_isFigure_4 : decode cX9_isFigure 4 = .ok (.iload_n 1, 1) := by decide +kernel
theorem dX9_isFigure_5 : decode cX9_isFigure 5 = .ok (.aload_n 0, 1) := by decide +kernel
theorem dX9_isFigure_6 : decode cX9_isFigure 6 = .ok (.getfield 174, 3) := by decide +kernel
theorem dX9_isFigure_9 : decode cX9_isFigure 9 = .ok (.if_icmp .ge 16, 3) := by decide +kernel
theorem dX9_isFigure_12 : decode cX9_isFigure 12 = .ok (.iload_n 1, 1) := by decide +kernel
theorem dX9_isFigure_13 : decode cX9_isFigure 13 = .ok (.aload_n 0, 1) := by decide +kernel
theorem dX9_isFigure_14 : decode cX9_isFigure 14 = .ok (.getfield 53, 3) := by decide +kernel
theorem dX9_isFigure_17 : decode cX9_isFigure 17 = .ok (.arraylength, 1) := by decide +kernel
theorem dX9_isFigure_18 : decode cX9_isFigure 18 = .ok (.if_icmp .ge 7, 3) := by decide +kernel
theorem dX9_isFigure_21 : decode cX9_isFigure 21 = .ok (.iconst 1, 1) := by decide +kernel
theorem dX9_isFigure_22 : decode cX9_isFigure 22 = .ok (.goto 4, 3) := by decide +kernel
theorem dX9_isFigure_25 : decode cX9_isFigure 25 = .ok (.iconst 0, 1) := by decide +kernel
theorem dX9_isFigure_26 : decode cX9_isFigure 26 = .ok (.ireturn, 1) := by decide +kernel
theorem dX9_isPose_0 : decode cX9_isPose 0 = .ok (.iload_n 1, 1) := by decide +kernel
theorem dX9_isPose_1 : decode cX9_isPose 1 = .ok (.ifCond .lt 24, 3) := by decide +kernel
theorem dX9_isPose_4 : decode cX9_isPose 4 = .ok (.iload_n 1, 1) := by decide +kernel
theorem dX9_isPose_5 : decode cX9_isPose 5 = .ok (.aload_n 0, 1) := by decide +kernel
theorem dX9_isPose_6 : decode cX9_isPose 6 = .ok (.getfield 89, 3) := by decide +kernel
theorem dX9_isPose_9 : decode cX9_isPose 9 = .ok (.if_icmp .ge 16, 3) := by decide +kernel
theorem dX9_isPose_12 : decode cX9_isPose 12 = .ok (.iload_n 1, 1) := by decide +kernel
theorem dX9_isPose_13 : decode cX9_isPose 13 = .ok (.aload_n 0, 1) := by decide +kernel
theorem dX9_isPose_14 : decode cX9_isPose 14 = .ok (.getfield 26, 3) := by decide +kernel
theorem dX9_isPose_17 : decode cX9_isPose 17 = .ok (.arraylength, 1) := by decide +kernel
theorem dX9_isPose_18 : decode cX9_isPose 18 = .ok (.if_icmp .ge 7, 3) := by decide +kernel
theorem dX9_isPose_21 : decode cX9_isPose 21 = .ok (.iconst 1, 1) := by decide +kernel
theorem dX9_isPose_22 : decode cX9_isPose 22 = .ok (.goto 4, 3) := by decide +kernel
theorem dX9_isPose_25 : decode cX9_isPose 25 = .ok (.iconst 0, 1) := by decide +kernel
theorem dX9_isPose_26 : decode cX9_isPose 26 = .ok (.ireturn, 1) := by decide +kernel
theorem dX9_isVillage_0 : decode cX9_isVillage 0 = .ok (.iload_n 1, 1) := by decide +kernel
theorem dX9_isVillage_1 : decode cX9_isVillage 1 = .ok (.ifCond .lt 24, 3) := by decide +kernel
theorem dX9_isVillage_4 : decode cX9_isVillage 4 = .ok (.iload_n 1, 1) := by decide +kernel
theorem dX9_isVillage_5 : decode cX9_isVillage 5 = .ok (.aload_n 0, 1) := by decide +kernel
theorem dX9_isVillage_6 : decode cX9_isVillage 6 = .ok (.getfield 250, 3) := by decide +kernel
theorem dX9_isVillage_9 : decode cX9_isVillage 9 = .ok (.if_icmp .ge 16, 3) := by decide +kernel
theorem dX9_isVillage_12 : decode cX9_isVillage 12 = .ok (.iload_n 1, 1) := by decide +kernel
theorem dX9_isVillage_13 : decode cX9_isVillage 13 = .ok (.aload_n 0, 1) := by decide +kernel
theorem dX9_isVillage_14 : decode cX9_isVillage 14 = .ok (.getfield 59, 3) := by decide +kernel
theorem dX9_isVillage_17 : decode cX9_isVillage 17 = .ok (.arraylength, 1) := by decide +kernel
theorem dX9_isVillage_18 : decode cX9_isVillage 18 = .ok (.if_icmp .ge 7, 3) := by decide +kernel
theorem dX9_isVillage_21 : decode cX9_isVillage 21 = .ok (.iconst 1, 1) := by decide +kernel
theorem dX9_isVillage_22 : decode cX9_isVillage 22 = .ok (.goto 4, 3) := by decide +kernel
theorem dX9_isVillage_25 : decode cX9_isVillage 25 = .ok (.iconst 0, 1) := by decide +kernel
theorem dX9_isVillage_26 : decode cX9_isVillage 26 = .ok (.ireturn, 1) := by decide +kernel
theorem dX9_isSheet_0 : decode cX9_isSheet 0 = .ok (.iload_n 1, 1) := by decide +kernel
theorem dX9_isSheet_1 : decode cX9_isSheet 1 = .ok (.ifCond .lt 16, 3) := by decide +kernel
theorem dX9_isSheet_4 : decode cX9_isSheet 4 = .ok (.iload_n 1, 1) := by decide +kernel
theorem dX9_isSheet_5 : decode cX9_isSheet 5 = .ok (.aload_n 0, 1) := by decide +kernel
theorem dX9_isSheet_6 : decode cX9_isSheet 6 = .ok (.getfield 72, 3) := by decide +kernel
theorem dX9_isSheet_9 : decode cX9_isSheet 9 = .ok (.arraylength, 1) := by decide +kernel
theorem dX9_isSheet_10 : decode cX9_isSheet 10 = .ok (.if_icmp .ge 7, 3) := by decide +kernel
theorem dX9_isSheet_13 : decode cX9_isSheet 13 = .ok (.iconst 1, 1) := by decide +kernel
theorem dX9_isSheet_14 : decode cX9_isSheet 14 = .ok (.goto 4, 3) := by decide +kernel
theorem dX9_isSheet_17 : decode cX9_isSheet 17 = .ok (.iconst 0, 1) := by decide +kernel
theorem dX9_isSheet_18 : decode cX9_isSheet 18 = .ok (.ireturn, 1) := by decide +kernel
theorem dX9_isLane_0 : decode cX9_isLane 0 = .ok (.iload_n 1, 1) := by decide +kernel
theorem dX9_isLane_1 : decode cX9_isLane 1 = .ok (.ifCond .lt 12, 3) := by decide +kernel
theorem dX9_isLane_4 : decode cX9_isLane 4 = .ok (.iload_n 1, 1) := by decide +kernel
theorem dX9_isLane_5 : decode cX9_isLane 5 = .ok (.iconst 3, 1) := by decide +kernel
theorem dX9_isLane_6 : decode cX9_isLane 6 = .ok (.if_icmp .ge 7, 3) := by decide +kernel
theorem dX9_isLane_9 : decode cX9_isLane 9 = .ok (.iconst 1, 1) := by decide +kernel
theorem dX9_isLane_10 : decode cX9_isLane 10 = .ok (.goto 4, 3) := by decide +kernel
theorem dX9_isLane_13 : decode cX9_isLane 13 = .ok (.iconst 0, 1) := by decide +kernel
theorem dX9_isLane_14 : decode cX9_isLane 14 = .ok (.ireturn, 1) := by decide +kernel
theorem dX9_doneOnFloor_0 : decode cX9_doneOnFloor 0 = .ok (.aload_n 0, 1) := by decide +kernel
theorem dX9_doneOnFloor_1 : decode cX9_doneOnFloor 1 = .ok (.getfield 10, 3) := by decide +kernel
theorem dX9_doneOnFloor_4 : decode cX9_doneOnFloor 4 = .ok (.aload_n 1, 1) := by decide +kernel
theorem dX9_doneOnFloor_5 : decode cX9_doneOnFloor 5 = .ok (.iload_n 2, 1) := by decide +kernel
theorem dX9_doneOnFloor_6 : decode cX9_doneOnFloor 6 = .ok (.invokevirtual 221, 3) := by decide +kernel
theorem dX9_doneOnFloor_9 : decode cX9_doneOnFloor 9 = .ok (.istore_n 3, 1) := by decide +kernel
theorem dX9_doneOnFloor_10 : decode cX9_doneOnFloor 10 = .ok (.aload_n 0, 1) := by decide +kernel
theorem dX9_doneOnFloor_11 : decode cX9_doneOnFloor 11 = .ok (.aload_n 0, 1) := by decide +kernel
theorem dX9_doneOnFloor_12 : decode cX9_doneOnFloor 12 = .ok (.getfield 10, 3) := by decide +kernel
theorem dX9_doneOnFloor_15 : decode cX9_doneOnFloor 15 = .ok (.getfield 224, 3) := by decide +kernel
theorem dX9_doneOnFloor_18 : decode cX9_doneOnFloor 18 = .ok (.putfield 218, 3) := by decide +kernel
theorem dX9_doneOnFloor_21 : decode cX9_doneOnFloor 21 = .ok (.aload_n 0, 1) := by decide +kernel
theorem dX9_doneOnFloor_22 : decode cX9_doneOnFloor 22 = .ok (.getfield 218, 3) := by decide +kernel
theorem dX9_doneOnFloor_25 : decode cX9_doneOnFloor 25 = .ok (.ifCond .ne 7, 3) := by decide +kernel
theorem dX9_doneOnFloor_28 : decode cX9_doneOnFloor 28 = .ok (.iload_n 3, 1) := by decide +kernel
theorem dX9_doneOnFloor_29 : decode cX9_doneOnFloor 29 = .ok (.goto 7, 3) := by decide +kernel
theorem dX9_doneOnFloor_32 : decode cX9_doneOnFloor 32 = .ok (.bipush (-100), 2) := by decide +kernel
theorem dX9_doneOnFloor_34 : decode cX9_doneOnFloor 34 = .ok (.iload_n 3, 1) := by decide +kernel
theorem dX9_doneOnFloor_35 : decode cX9_doneOnFloor 35 = .ok (.isub, 1) := by decide +kernel
theorem dX9_doneOnFloor_36 : decode cX9_doneOnFloor 36 = .ok (.ireturn, 1) := by decide +kernel
theorem dX9_beatsOf_0 : decode cX9_beatsOf 0 = .ok (.iconst 0, 1) := by decide +kernel
theorem dX9_beatsOf_1 : decode cX9_beatsOf 1 = .ok (.istore_n 2, 1) := by decide +kernel
theorem dX9_beatsOf_2 : decode cX9_beatsOf 2 = .ok (.iconst 0, 1) := by decide +kernel
theorem dX9_beatsOf_3 : decode cX9_beatsOf 3 = .ok (.istore_n 3, 1) := by decide +kernel
theorem dX9_beatsOf_4 : decode cX9_beatsOf 4 = .ok (.iload_n 3, 1) := by decide +kernel
theorem dX9_beatsOf_5 : decode cX9_beatsOf 5 = .ok (.aload_n 1, 1) := by decide +kernel
theorem dX9_beatsOf_6 : decode cX9_beatsOf 6 = .ok (.getfield 258, 3) := by decide +kernel
theorem dX9_beatsOf_9 : decode cX9_beatsOf 9 = .ok (.if_icmp .ge 38, 3) := by decide +kernel
theorem dX9_beatsOf_12 : decode cX9_beatsOf 12 = .ok (.aload_n 1, 1) := by decide +kernel
theorem dX9_beatsOf_13 : decode cX9_beatsOf 13 = .ok (.iload_n 3, 1) := by decide +kernel
theorem dX9_beatsOf_14 : decode cX9_beatsOf 14 = .ok (.invokevirtual 263, 3) := by decide +kernel
theorem dX9_beatsOf_17 : decode cX9_beatsOf 17 = .ok (.istore 4, 2) := by decide +kernel
theorem dX9_beatsOf_19 : decode cX9_beatsOf 19 = .ok (.aload_n 0, 1) := by decide +kernel
theorem dX9_beatsOf_20 : decode cX9_beatsOf 20 = .ok (.iload 4, 2) := by decide +kernel
theorem dX9_beatsOf_22 : decode cX9_beatsOf 22 = .ok (.invokevirtual 197, 3) := by decide +kernel
theorem dX9_beatsOf_25 : decode cX9_beatsOf 25 = .ok (.ifCond .eq 16, 3) := by decide +kernel
theorem dX9_beatsOf_28 : decode cX9_beatsOf 28 = .ok (.iload_n 2, 1) := by decide +kernel
theorem dX9_beatsOf_29 : decode cX9_beatsOf 29 = .ok (.aload_n 0, 1) := by decide +kernel
theorem dX9_beatsOf_30 : decode cX9_beatsOf 30 = .ok (.getfield 53, 3) := by decide +kernel
theorem dX9_beatsOf_33 : decode cX9_beatsOf 33 = .ok (.iload 4, 2) := by decide +kernel
theorem dX9_beatsOf_35 : decode cX9_beatsOf 35 = .ok (.aaload, 1) := by decide +kernel
theorem dX9_beatsOf_36 : decode cX9_beatsOf 36 = .ok (.getfield 201, 3) := by decide +kernel
theorem dX9_beatsOf_39 : decode cX9_beatsOf 39 = .ok (.iadd, 1) := by decide +kernel
theorem dX9_beatsOf_40 : decode cX9_beatsOf 40 = .ok (.istore_n 2, 1) := by decide +kernel
theorem dX9_beatsOf_41 : decode cX9_beatsOf 41 = .ok (.iinc 3 1, 3) := by decide +kernel
theorem dX9_beatsOf_44 : decode cX9_beatsOf 44 = .ok (.goto (-40), 3) := by decide +kernel
theorem dX9_beatsOf_47 : decode cX9_beatsOf 47 = .ok (.iload_n 2, 1) := by decide +kernel
theorem dX9_beatsOf_48 : decode cX9_beatsOf 48 = .ok (.ireturn, 1) := by decide +kernel
theorem dX10_init_0 : decode cX10_init 0 = .ok (.aload_n 0, 1) := by decide +kernel
theorem dX10_init_1 : decode cX10_init 1 = .ok (.invokespecial 1, 3) := by decide +kernel
theorem dX10_init_4 : decode cX10_init 4 = .ok (.aload_n 0, 1) := by decide +kernel
theorem dX10_init_5 : decode cX10_init 5 = .ok (.iconst 5, 1) := by decide +kernel
theorem dX10_init_6 : decode cX10_init 6 = .ok (.putfield 7, 3) := by decide +kernel
theorem dX10_init_9 : decode cX10_init 9 = .ok (.aload_n 0, 1) := by decide +kernel
theorem dX10_init_10 : decode cX10_init 10 = .ok (.bipush 8, 2) := by decide +kernel
theorem dX10_init_12 : decode cX10_init 12 = .ok (.newarray .int, 2) := by decide +kernel
theorem dX10_init_14 : decode cX10_init 14 = .ok (.dup, 1) := by decide +kernel
theorem dX10_init_15 : decode cX10_init 15 = .ok (.iconst 0, 1) := by decide +kernel
theorem dX10_init_16 : decode cX10_init 16 = .ok (.iconst 0, 1) := by decide +kernel
theorem dX10_init_17 : decode cX10_init 17 = .ok (.iastore, 1) := by decide +kernel
theorem dX10_init_18 : decode cX10_init 18 = .ok (.dup, 1) := by decide +kernel
theorem dX10_init_19 : decode cX10_init 19 = .ok (.iconst 1, 1) := by decide +kernel
theorem dX10_init_20 : decode cX10_init 20 = .ok (.iconst 1, 1) := by decide +kernel
theorem dX10_init_21 : decode cX10_init 21 = .ok (.iastore, 1) := by decide +kernel
theorem dX10_init_22 : decode cX10_init 22 = .ok (.dup, 1) := by decide +kernel
theorem dX10_init_23 : decode cX10_init 23 = .ok (.iconst 2, 1) := by decide +kernel
theorem dX10_init_24 : decode cX10_init 24 = .ok (.iconst 2, 1) := by decide +kernel
theorem dX10_init_25 : decode cX10_init 25 = .ok (.iastore, 1) := by decide +kernel
theorem dX10_init_26 : decode cX10_init 26 = .ok (.dup, 1) := by decide +kernel
theorem dX10_init_27 : decode cX10_init 27 = .ok (.iconst 3, 1) := by decide +kernel
theorem dX10_init_28 : decode cX10_init 28 = .ok (.iconst 3, 1) := by decide +kernel
theorem dX10_init_29 : decode cX10_init 29 = .ok (.iastore, 1) := by decide +kernel
theorem dX10_init_30 : decode cX10_init 30 = .ok (.dup, 1) := by decide +kernel
theorem dX10_init_31 : decode cX10_init 31 = .ok (.iconst 4, 1) := by decide +kernel
theorem dX10_init_32 : decode cX10_init 32 = .ok (.iconst 4, 1) := by decide +kernel
theorem dX10_init_33 : decode cX10_init 33 = .ok (.iastore, 1) := by decide +kernel
theorem dX10_init_34 : decode cX10_init 34 = .ok (.dup, 1) := by decide +kernel
theorem dX10_init_35 : decode cX10_init 35 = .ok (.iconst 5, 1) := by decide +kernel
theorem dX10_init_36 : decode cX10_init 36 = .ok (.iconst 5, 1) := by decide +kernel
theorem dX10_init_37 : decode cX10_init 37 = .ok (.iastore, 1) := by decide +kernel
theorem dX10_init_38 : decode cX10_init 38 = .ok (.dup, 1) := by decide +kernel
theorem dX10_init_39 : decode cX10_init 39 = .ok (.bipush 6, 2) := by decide +kernel
theorem dX10_init_41 : decode cX10_init 41 = .ok (.bipush 6, 2) := by decide +kernel
theorem dX10_init_43 : decode cX10_init 43 = .ok (.iastore, 1) := by decide +kernel
theorem dX10_init_44 : decode cX10_init 44 = .ok (.dup, 1) := by decide +kernel
theorem dX10_init_45 : decode cX10_init 45 = .ok (.bipush 7, 2) := by decide +kernel
theorem dX10_init_47 : decode cX10_init 47 = .ok (.bipush 7, 2) := by decide +kernel
theorem dX10_init_49 : decode cX10_init 49 = .ok (.iastore, 1) := by decide +kernel
theorem dX10_init_50 : decode cX10_init 50 = .ok (.putfield 13, 3) := by decide +kernel
theorem dX10_init_53 : decode cX10_init 53 = .ok (.aload_n 0, 1) := by decide +kernel
theorem dX10_init_54 : decode cX10_init 54 = .ok (.bipush 31, 2) := by decide +kernel
theorem dX10_init_56 : decode cX10_init 56 = .ok (.putfield 17, 3) := by decide +kernel
theorem dX10_init_59 : decode cX10_init 59 = .ok (.aload_n 0, 1) := by decide +kernel
theorem dX10_init_60 : decode cX10_init 60 = .ok (.bipush 31, 2) := by decide +kernel
theorem dX10_init_62 : decode cX10_init 62 = .ok (.putfield 20, 3) := by decide +kernel
theorem dX10_init_65 : decode cX10_init 65 = .ok (.aload_n 0, 1) := by decide +kernel
theorem dX10_init_66 : decode cX10_init 66 = .ok (.bipush 12, 2) := by decide +kernel
theorem dX10_init_68 : decode cX10_init 68 = .ok (.newarray .int, 2) := by decide +kernel
theorem dX10_init_70 : decode cX10_init 70 = .ok (.putfield 23, 3) := by decide +kernel
theorem dX10_init_73 : decode cX10_init 73 = .ok (.aload_n 0, 1) := by decide +kernel
theorem dX10_init_74 : decode cX10_init 74 = .ok (.bipush 12, 2) := by decide +kernel
theorem dX10_init_76 : decode cX10_init 76 = .ok (.newarray .int, 2) := by decide +kernel
theorem dX10_init_78 : decode cX10_init 78 = .ok (.putfield 26, 3) := by decide +kernel
theorem dX10_init_81 : decode cX10_init 81 = .ok (.aload_n 0, 1) := by decide +kernel
theorem dX10_init_82 : decode cX10_init 82 = .ok (.bipush 12, 2) := by decide +kernel
theorem dX10_init_84 : decode cX10_init 84 = .ok (.newarray .int, 2) := by decide +kernel
theorem dX10_init_86 : decode cX10_init 86 = .ok (.putfield 29, 3) := by decide +kernel
theorem dX10_init_89 : decode cX10_init 89 = .ok (.aload_n 0, 1) := by decide +kernel
theorem dX10_init_90 : decode cX10_init 90 = .ok (.bipush 12, 2) := by decide +kernel
theorem dX10_init_92 : decode cX10_init 92 = .ok (.newarray .long, 2) := by decide +kernel
theorem dX10_init_94 : decode cX10_init 94 = .ok (.putfield 32, 3) := by decide +kernel
theorem dX10_init_97 : decode cX10_init 97 = .ok (.aload_n 0, 1) := by decide +kernel
theorem dX10_init_98 : decode cX10_init 98 = .ok (.bipush 8, 2) := by decide +kernel
theorem dX10_init_100 : decode cX10_init 100 = .ok (.newarray .int, 2) := by decide +kernel
theorem dX10_init_102 : decode cX10_init 102 = .ok (.putfield 36, 3) := by decide +kernel
theorem dX10_init_105 : decode cX10_init 105 = .ok (.aload_n 0, 1) := by decide +kernel
theorem dX10_init_106 : decode cX10_init 106 = .ok (.sipush 160, 3) := by decide +kernel
theorem dX10_init_109 : decode cX10_init 109 = .ok (.newarray .int, 2) := by decide +kernel
theorem dX10_init_111 : decode cX10_init 111 = .ok (.putfield 39, 3) := by decide +kernel
theorem dX10_init_114 : decode cX10_init 114 = .ok (.aload_n 0, 1) := by decide +kernel
theorem dX10_init_115 : decode cX10_init 115 = .ok (.bipush 8, 2) := by decide +kernel
theorem dX10_init_117 : decode cX10_init 117 = .ok (.newarray .int, 2) := by decide +kernel
theorem dX10_init_119 : decode cX10_init 119 = .ok (.putfield 42, 3) := by decide +kernel
theorem dX10_init_122 : decode cX10_init 122 = .ok (.aload_n 0, 1) := by decide +kernel
theorem dX10_init_123 : decode cX10_init 123 = .ok (.sipush 1600, 3) := by decide +kernel
theorem dX10_init_126 : decode cX10_init 126 = .ok (.newarray .int, 2) := by decide +kernel
theorem dX10_init_128 : decode cX10_init 128 = .ok (.putfield 45, 3) := by decide +kernel
theorem dX10_init_131 : decode cX10_init 131 = .ok (.aload_n 0, 1) := by decide +kernel
theorem dX10_init_132 : decode cX10_init 132 = .ok (.sipush 1600, 3) := by decide +kernel
theorem dX10_init_135 : decode cX10_init 135 = .ok (.newarray .int, 2) := by decide +kernel
theorem dX10_init_137 : decode cX10_init 137 = .ok (.putfield 48, 3) := by decide +kernel
theorem dX10_init_140 : decode cX10_init 140 = .ok (.aload_n 0, 1) := by decide +kernel
theorem dX10_init_141 : decode cX10_init 141 = .ok (.sipush 201, 3) := by decide +kernel
theorem dX10_init_144 : decode cX10_init 144 = .ok (.newarray .int, 2) := by decide +kernel
theorem dX10_init_146 : decode cX10_init 146 = .ok (.putfield 51, 3) := by decide +kernel
theorem dX10_init_149 : decode cX10_init 149 = .ok (.aload_n 0, 1) := by decide +kernel
theorem dX10_init_150 : decode cX10_init 150 = .ok (.sipush 201, 3) := by decide +kernel
theorem dX10_init_153 : decode cX10_init 153 = .ok (.newarray .int, 2) := by decide +kernel
theorem dX10_init_155 : decode cX10_init 155 = .ok (.putfield 54, 3) := by decide +kernel
theorem dX10_init_158 : decode cX10_init 158 = .ok (.aload_n 0, 1) := by decide +kernel
theorem dX10_init_159 : decode cX10_init 159 = .ok (.iconst 5, 1) := by decide +kernel
theorem dX10_init_160 : decode cX10_init 160 = .ok (.newarray .int, 2) := by decide +kernel
theorem dX10_init_162 : decode cX10_init 162 = .ok (.putfield 57, 3) := by decide +kernel
theorem dX10_init_165 : decode cX10_init 165 = .ok (.aload_n 0, 1) := by decide +kernel
theorem dX10_init_166 : decode cX10_init 166 = .ok (.iconst 5, 1) := by decide +kernel
theorem dX10_init_167 : decode cX10_init 167 = .ok (.newarray .int, 2) := by decide +kernel
theorem dX10_init_169 : decode cX10_init 169 = .ok (.putfield 60, 3) := by decide +kernel
theorem dX10_init_172 : decode cX10_init 172 = .ok (.aload_n 0, 1) := by decide +kernel
theorem dX10_init_173 : decode cX10_init 173 = .ok (.iconst 5, 1) := by decide +kernel
theorem dX10_init_174 : decode cX10_init 174 = .ok (.newarray .int, 2) := by decide +kernel
theorem dX10_init_176 : decode cX10_init 176 = .ok (.putfield 63, 3) := by decide +kernel
theorem dX10_init_179 : decode cX10_init 179 = .ok (.aload_n 0, 1) := by decide +kernel
theorem dX10_init_180 : decode cX10_init 180 = .ok (.bipush 6, 2) := by decide +kernel
theorem dX10_init_182 : decode cX10_init 182 = .ok (.newarray .int, 2) := by decide +kernel
theorem dX10_init_184 : decode cX10_init 184 = .ok (.putfield 66, 3) := by decide +kernel
theorem dX10_init_187 : decode cX10_init 187 = .ok (.aload_n 0, 1) := by decide +kernel
theorem dX10_init_188 : decode cX10_init 188 = .ok (.bipush 6, 2) := by decide +kernel
theorem dX10_init_190 : decode cX10_init 190 = .ok (.newarray .int, 2) := by decide +kernel
theorem dX10_init_192 : decode cX10_init 192 = .ok (.putfield 69, 3) := by decide +kernel
theorem dX10_init_195 : decode cX10_init 195 = .ok (.aload_n 0, 1) := by decide +kernel
theorem dX10_init_196 : decode cX10_init 196 = .ok (.bipush 6, 2) := by decide +kernel
theorem dX10_init_198 : decode cX10_init 198 = .ok (.newarray .int, 2) := by decide +kernel
theorem dX10_init_200 : decode cX10_init 200 = .ok (.putfield 72, 3) := by decide +kernel
theorem dX10_init_203 : decode cX10_init 203 = .ok (.aload_n 0, 1) := by decide +kernel
theorem dX10_init_204 : decode cX10_init 204 = .ok (.bipush 6, 2) := by decide +kernel
theorem dX10_init_206 : decode cX10_init 206 = .ok (.newarray .long, 2) := by decide +kernel
theorem dX10_init_208 : decode cX10_init 208 = .ok (.putfield 75, 3) := by decide +kernel
theorem dX10_init_211 : decode cX10_init 211 = .ok (.aload_n 0, 1) := by decide +kernel
theorem dX10_init_212 : decode cX10_init 212 = .ok (.sipush 1500, 3) := by decide +kernel
theorem dX10_init_215 : decode cX10_init 215 = .ok (.newarray .int, 2) := by decide +kernel
theorem dX10_init_217 : decode cX10_init 217 = .ok (.putfield 78, 3) := by decide +kernel
theorem dX10_init_220 : decode cX10_init 220 = .ok (.aload_n 0, 1) := by decide +kernel
theorem dX10_init_221 : decode cX10_init 221 = .ok (.sipush 1500, 3) := by decide +kernel
theorem dX10_init_224 : decode cX10_init 224 = .ok (.newarray .long, 2) := by decide +kernel
theorem dX10_init_226 : decode cX10_init 226 = .ok (.putfield 81, 3) := by decide +kernel
theorem dX10_init_229 : decode cX10_init 229 = .ok (.aload_n 0, 1) := by decide +kernel
theorem dX10_init_230 : decode cX10_init 230 = .ok (.sipush 1500, 3) := by decide +kernel
theorem dX10_init_233 : decode cX10_init 233 = .ok (.newarray .int, 2) := by decide +kernel
theorem dX10_init_235 : decode cX10_init 235 = .ok (.putfield 84, 3) := by decide +kernel
theorem dX10_init_238 : decode cX10_init 238 = .ok (.aload_n 0, 1) := by decide +kernel
theorem dX10_init_239 : decode cX10_init 239 = .ok (.sipush 1500, 3) := by decide +kernel
theorem dX10_init_242 : decode cX10_init 242 = .ok (.newarray .int, 2) := by decide +kernel
theorem dX10_init_244 : decode cX10_init 244 = .ok (.putfield 87, 3) := by decide +kernel
theorem dX10_init_247 : decode cX10_init 247 = .ok (.aload_n 0, 1) := by decide +kernel
theorem dX10_init_248 : decode cX10_init 248 = .ok (.sipush 4096, 3) := by decide +kernel
theorem dX10_init_251 : decode cX10_init 251 = .ok (.newarray .int, 2) := by decide +kernel
theorem dX10_init_253 : decode cX10_init 253 = .ok (.putfield 90, 3) := by decide +kernel
theorem dX10_init_256 : decode cX10_init 256 = .ok (.aload_n 0, 1) := by decide +kernel
theorem dX10_init_257 : decode cX10_init 257 = .ok (.iconst 4, 1) := by decide +kernel
theorem dX10_init_258 : decode cX10_init 258 = .ok (.newarray .int, 2) := by decide +kernel
theorem dX10_init_260 : decode cX10_init 260 = .ok (.putfield 93, 3) := by decide +kernel
theorem dX10_init_263 : decode cX10_init 263 = .ok (.aload_n 0, 1) := by decide +kernel
theorem dX10_init_264 : decode cX10_init 264 = .ok (.bipush 64, 2) := by decide +kernel
theorem dX10_init_266 : decode cX10_init 266 = .ok (.newarray .int, 2) := by decide +kernel
theorem dX10_init_268 : decode cX10_init 268 = .ok (.putfield 96, 3) := by decide +kernel
theorem dX10_init_271 : decode cX10_init 271 = .ok (.aload_n 0, 1) := by decide +kernel
theorem dX10_init_272 : decode cX10_init 272 = .ok (.sipush 289, 3) := by decide +kernel
theorem dX10_init_275 : decode cX10_init 275 = .ok (.newarray .int, 2) := by decide +kernel
theorem dX10_init_277 : decode cX10_init 277 = .ok (.putfield 99, 3) := by decide +kernel
theorem dX10_init_280 : decode cX10_init 280 = .ok (.aload_n 0, 1) := by decide +kernel
theorem dX10_init_281 : decode cX10_init 281 = .ok (.iconst 4, 1) := by decide +kernel
theorem dX10_init_282 : decode cX10_init 282 = .ok (.newarray .int, 2) := by decide +kernel
theorem dX10_init_284 : decode cX10_init 284 = .ok (.dup, 1) := by decide +kernel
theorem dX10_init_285 : decode cX10_init 285 = .ok (.iconst 0, 1) := by decide +kernel
theorem dX10_init_286 : decode cX10_init 286 = .ok (.bipush (-4), 2) := by decide +kernel
theorem dX10_init_288 : decode cX10_init 288 = .ok (.iastore, 1) := by decide +kernel
theorem dX10_init_289 : decode cX10_init 289 = .ok (.dup, 1) := by decide +kernel
theorem dX10_init_290 : decode cX10_init 290 = .ok (.iconst 1, 1) := by decide +kernel
theorem dX10_init_291 : decode cX10_init 291 = .ok (.bipush (-4), 2) := by decide +kernel
theorem dX10_init_293 : decode cX10_init 293 = .ok (.iastore, 1) := by decide +kernel
theorem dX10_init_294 : decode cX10_init 294 = .ok (.dup, 1) := by decide +kernel
theorem dX10_init_295 : decode cX10_init 295 = .ok (.iconst 2, 1) := by decide +kernel
theorem dX10_init_296 : decode cX10_init 296 = .ok (.bipush (-4), 2) := by decide +kernel
theorem dX10_init_298 : decode cX10_init 298 = .ok (.iastore, 1) := by decide +kernel
theorem dX10_init_299 : decode cX10_init 299 = .ok (.dup, 1) := by decide +kernel
theorem dX10_init_300 : decode cX10_init 300 = .ok (.iconst 3, 1) := by decide +kernel
theorem dX10_init_301 : decode cX10_init 301 = .ok (.bipush (-4), 2) := by decide +kernel
theorem dX10_init_303 : decode cX10_init 303 = .ok (.iastore, 1) := by decide +kernel
theorem dX10_init_304 : decode cX10_init 304 = .ok (.putfield 102, 3) := by decide +kernel
theorem dX10_init_307 : decode cX10_init 307 = .ok (.aload_n 0, 1) := by decide +kernel
theorem dX10_init_308 : decode cX10_init 308 = .ok (.iconst 4, 1) := by decide +kernel
theorem dX10_init_309 : decode cX10_init 309 = .ok (.newarray .int, 2) := by decide +kernel
theorem dX10_init_311 : decode cX10_init 311 = .ok (.putfield 105, 3) := by decide +kernel
theorem dX10_init_314 : decode cX10_init 314 = .ok (.aload_n 0, 1) := by decide +kernel
theorem dX10_init_315 : decode cX10_init 315 = .ok (.sipush 240, 3) := by decide +kernel
theorem dX10_init_318 : decode cX10_init 318 = .ok (.newarray .int, 2) := by decide +kernel
theorem dX10_init_320 : decode cX10_init 320 = .ok (.putfield 108, 3) := by decide +kernel
theorem dX10_init_323 : decode cX10_init 323 = .ok (.return_, 1) := by decide +kernel
theorem dX10_in_0 : decode cX10_in 0 = .ok (.lload_n 0, 1) := by decide +kernel
theorem dX10_in_1 : decode cX10_in 1 = .ok (.lload_n 2, 1) := by decide +kernel
theorem dX10_in_2 : decode cX10_in 2 = .ok (.lcmp, 1) := by decide +kernel
theorem dX10_in_3 : decode cX10_in 3 = .ok (.ifCond .lt 14, 3) := by decide +kernel
theorem dX10_in_6 : decode cX10_in 6 = .ok (.lload_n 0, 1) := by decide +kernel
theorem dX10_in_7 : decode cX10_in 7 = .ok (.lload 4, 2) := by decide +kernel
theorem dX10_in_9 : decode cX10_in 9 = .ok (.lcmp, 1) := by decide +kernel
theorem dX10_in_10 : decode cX10_in 10 = .ok (.ifCond .gt 7, 3) := by decide +kernel
theorem dX10_in_13 : decode cX10_in 13 = .ok (.iconst 1, 1) := by decide +kernel
theorem dX10_in_14 : decode cX10_in 14 = .ok (.goto 4, 3) := by decide +kernel
theorem dX10_in_17 : decode cX10_in 17 = .ok (.iconst 0, 1) := by decide +kernel
theorem dX10_in_18 : decode cX10_in 18 = .ok (.ireturn, 1) := by decide +kernel
theorem dX10_ring_0 : decode cX10_ring 0 = .ok (.iload_n 1, 1) := by decide +kernel
theorem dX10_ring_1 : decode cX10_ring 1 = .ok (.i2l, 1) := by decide +kernel
theorem dX10_ring_2 : decode cX10_ring 2 = .ok (.ldc2_w 111, 3) := by decide +kernel
theorem dX10_ring_5 : decode cX10_ring 5 = .ok (.ldc2_w 113, 3) := by decide +kernel
theorem dX10_ring_8 : decode cX10_ring 8 = .ok (.invokestatic 115, 3) := by decide +kernel
theorem dX10_ring_11 : decode cX10_ring 11 = .ok (.ifCond .ne 5, 3) := by decide +kernel
theorem dX10_ring_14 : decode cX10_ring 14 = .ok (.iconst (-1), 1) := by decide +kernel
theorem dX10_ring_15 : decode cX10_ring 15 = .ok (.ireturn, 1) := by decide +kernel
theorem dX10_ring_16 : decode cX10_ring 16 = .ok (.aload_n 0, 1) := by decide +kernel
theorem dX10_ring_17 : decode cX10_ring 17 = .ok (.iload_n 1, 1) := by decide +kernel
theorem dX10_ring_18 : decode cX10_ring 18 = .ok (.putfield 7, 3) := by decide +kernel
theorem dX10_ring_21 : decode cX10_ring 21 = .ok (.iconst 0, 1) := by decide +kernel
theorem dX10_ring_22 : decode cX10_ring 22 = .ok (.istore_n 2, 1) := by decide +kernel
theorem dX10_ring_23 : decode cX10_ring 23 = .ok (.iload_n 2, 1) := by decide +kernel
theorem dX10_ring_24 : decode cX10_ring 24 = .ok (.bipush 8, 2) := by decide +kernel
theorem dX10_ring_26 : decode cX10_ring 26 = .ok (.if_icmp .ge 16, 3) := by decide +kernel
theorem dX10_ring_29 : decode cX10_ring 29 = .ok (.aload_n 0, 1) := by decide +kernel
theorem dX10_ring_30 : decode cX10_ring 30 = .ok (.getfield 13, 3) := by decide +kernel
theorem dX10_ring_33 : decode cX10_ring 33 = .ok (.iload_n 2, 1) := by decide +kernel
theorem dX10_ring_34 : decode cX10_ring 34 = .ok (.iload_n 2, 1) := by decide +kernel
theorem dX10_ring_35 : decode cX10_ring 35 = .ok (.iastore, 1) := by decide +kernel
theorem dX10_ring_36 : decode cX10_ring 36 = .ok (.iinc 2 1, 3) := by decide +kernel
theorem dX10_ring_39 : decode cX10_ring 39 = .ok (.goto (-16), 3) := by decide +kernel
theorem dX10_ring_42 : decode cX10_ring 42 = .ok (.aload_n 0, 1) := by decide +kernel
theorem dX10_ring_43 : decode cX10_ring 43 = .ok (.iconst 1, 1) := by decide +kernel
theorem dX10_ring_44 : decode cX10_ring 44 = .ok (.aload_n 0, 1) := by decide +kernel
theorem dX10_ring_45 : decode cX10_ring 45 = .ok (.getfield 7, 3) := by decide +kernel
theorem dX10_ring_48 : decode cX10_ring 48 = .ok (.ishl, 1) := by decide +kernel
theorem dX10_ring_49 : decode cX10_ring 49 = .ok (.iconst 1, 1) := by decide +kernel
theorem dX10_ring_50 : decode cX10_ring 50 = .ok (.isub, 1) := by decide +kernel
theorem dX10_ring_51 : decode cX10_ring 51 = .ok (.putfield 17, 3) := by decide +kernel
theorem dX10_ring_54 : decode cX10_ring 54 = .ok (.aload_n 0, 1) := by decide +kernel
theorem dX10_ring_55 : decode cX10_ring 55 = .ok (.iconst 1, 1) := by decide +kernel
theorem dX10_ring_56 : decode cX10_ring 56 = .ok (.aload_n 0, 1) := by decide +kernel
theorem dX10_ring_57 : decode cX10_ring 57 = .ok (.getfield 7, 3) := by decide +kernel
theorem dX10_ring_60 : decode cX10_ring 60 = .ok (.ishl, 1) := by decide +kernel
theorem dX10_ring_61 : decode cX10_ring 61 = .ok (.iconst 1, 1) := by decide +kernel
theorem dX10_ring_62 : decode cX10_ring 62 = .ok (.isub, 1) := by decide +kernel
theorem dX10_ring_63 : decode cX10_ring 63 = .ok (.putfield 20, 3) := by decide +kernel
theorem dX10_ring_66 : decode cX10_ring 66 = .ok (.aload_n 0, 1) := by decide +kernel
theorem dX10_ring_67 : decode cX10_ring 67 = .ok (.lconst 0, 1) := by decide +kernel
theorem dX10_ring_68 : decode cX10_ring 68 = .ok (.putfield 119, 3) := by decide +kernel
theorem dX10_ring_71 : decode cX10_ring 71 = .ok (.aload_n 0, 1) := by decide +kernel
theorem dX10_ring_72 : decode cX10_ring 72 = .ok (.iconst 0, 1) := by decide +kernel
theorem dX10_ring_73 : decode cX10_ring 73 = .ok (.putfield 123, 3) := by decide +kernel
theorem dX10_ring_76 : decode cX10_ring 76 = .ok (.aload_n 0, 1) := by decide +kernel
theorem dX10_ring_77 : decode cX10_ring 77 = .ok (.iconst 0, 1) := by decide +kernel
theorem dX10_ring_78 : decode cX10_ring 78 = .ok (.putfield 126, 3) := by decide +kernel
theorem dX10_ring_81 : decode cX10_ring 81 = .ok (.iconst 1, 1) := by decide +kernel
theorem dX10_ring_82 : decode cX10_ring 82 = .ok (.ireturn, 1) := by decide +kernel
theorem dX10_packed_0 : decode cX10_packed 0 = .ok (.iconst 0, 1) := by decide +kernel
theorem dX10_packed_1 : decode cX10_packed 1 = .ok (.istore_n 1, 1) := by decide +kernel
theorem dX10_packed_2 : decode cX10_packed 2 = .ok (.iconst 0, 1) := by decide +kernel
theorem dX10_packed_3 : decode cX10_packed 3 = .ok (.istore_n 2, 1) := by decide +kernel
theorem dX10_packed_4 : decode cX10_packed 4 = .ok (.iload_n 2, 1) := by decide +kernel
theorem dX10_packed_5 : decode cX10_packed 5 = .ok (.aload_n 0, 1) := by decide +kernel
theorem dX10_packed_6 : decode cX10_packed 6 = .ok (.getfield 7, 3) := by decide +kernel
theorem dX10_packed_9 : decode cX10_packed 9 = .ok (.if_icmp .ge 22, 3) := by decide +kernel
theorem dX10_packed_12 : decode cX10_packed 12 = .ok (.iload_n 1, 1) := by decide +kernel
theorem dX10_packed_13 : decode cX10_packed 13 = .ok (.aload_n 0, 1) := by decide +kernel
theorem dX10_packed_14 : decode cX10_packed 14 = .ok (.getfield 13, 3) := by decide +kernel
theorem dX10_packed_17 : decode cX10_packed 17 = .ok (.iload_n 2, 1) := by decide +kernel
theorem dX10_packed_18 : decode cX10_packed 18 = .ok (.iaload, 1) := by decide +kernel
theorem dX10_packed_19 : decode cX10_packed 19 = .ok (.iconst 3, 1) := by decide +kernel
theorem dX10_packed_20 : decode cX10_packed 20 = .ok (.iload_n 2, 1) := by decide +kernel
theorem dX10_packed_21 : decode cX10_packed 21 = .ok (.imul, 1) := by decide +kernel
theorem dX10_packed_22 : decode cX10_packed 22 = .ok (.ishl, 1) := by decide +kernel
theorem dX10_packed_23 : decode cX10_packed 23 = .ok (.ior, 1) := by decide +kernel
theorem dX10_packed_24 : decode cX10_packed 24 = .ok (.istore_n 1, 1) := by decide +kernel
theorem dX10_packed_25 : decode cX10_packed 25 = .ok (.iinc 2 1, 3) := by decide +kernel
theorem dX10_packed_28 : decode cX10_packed 28 = .ok (.goto (-24), 3) := by decide +kernel
theorem dX10_packed_31 : decode cX10_packed 31 = .ok (.iload_n 1, 1) := by decide +kernel
theorem dX10_packed_32 : decode cX10_packed 32 = .ok (.ireturn, 1) := by decide +kernel
theorem dX10_unpack_0 : decode cX10_unpack 0 = .ok (.iconst 0, 1) := by decide +kernel
theorem dX10_unpack_1 : decode cX10_unpack 1 = .ok (.istore_n 2, 1) := by decide +kernel
theorem dX10_unpack_2 : decode cX10_unpack 2 = .ok (.iload_n 2, 1) := by decide +kernel
theorem dX10_unpack_3 : decode cX10_unpack 3 = .ok (.aload_n 0, 1) := by decide +kernel
theorem dX10_unpack_4 : decode cX10_unpack 4 = .ok (.getfield 7, 3) := by decide +kernel
theorem dX10_unpack_7 : decode cX10_unpack 7 = .ok (.if_icmp .ge 23, 3) := by decide +kernel
theorem dX10_unpack_10 : decode cX10_unpack 10 = .ok (.aload_n 0, 1) := by decide +kernel
theorem dX10_unpack_11 : decode cX10_unpack 11 = .ok (.getfield 13, 3) := by decide +kernel
theorem dX10_unpack_14 : decode cX10_unpack 14 = .ok (.iload_n 2, 1) := by decide +kernel
theorem dX10_unpack_15 : decode cX10_unpack 15 = .ok (.iload_n 1, 1) := by decide +kernel
theorem dX10_unpack_16 : decode cX10_unpack 16 = .ok (.iconst 3, 1) := by decide +kernel
theorem dX10_unpack_17 : decode cX10_unpack 17 = .ok (.iload_n 2, 1) := by decide +kernel
theorem dX10_unpack_18 : decode cX10_unpack 18 = .ok (.imul, 1) := by decide +kernel
theorem dX10_unpack_19 : decode cX10_unpack 19 = .ok (.ishr, 1) := by decide +kernel
theorem dX10_unpack_20 : decode cX10_unpack 20 = .ok (.bipush 7, 2) := by decide +kernel
theorem dX10_unpack_22 : decode cX10_unpack 22 = .ok (.iand, 1) := by decide +kernel
theorem dX10_unpack_23 : decode cX10_unpack 23 = .ok (.iastore, 1) := by decide +kernel
theorem dX10_unpack_24 : decode cX10_unpack 24 = .ok (.iinc 2 1, 3) := by decide +kernel
theorem dX10_unpack_27 : decode cX10_unpack 27 = .ok (.goto (-25), 3) := by decide +kernel
theorem dX10_unpack_30 : decode cX10_unpack 30 = .ok (.return_, 1) := by decide +kernel
theorem dX10_dancerAt_0 : decode cX10_dancerAt 0 = .ok (.iconst 0, 1) := by decide +kernel
theorem dX10_dancerAt_1 : decode cX10_dancerAt 1 = .ok (.istore_n 2, 1) := by decide +kernel
theorem dX10_dancerAt_2 : decode cX10_dancerAt 2 = .ok (.aload_n 0, 1) := by decide +kernel
theorem dX10_dancerAt_3 : decode cX10_dancerAt 3 = .ok (.getfield 13, 3) := by decide +kernel
theorem dX10_dancerAt_6 : decode cX10_dancerAt 6 = .ok (.iload_n 2, 1) := by decide +kernel
theorem dX10_dancerAt_7 : decode cX10_dancerAt 7 = .ok (.iaload, 1) := by decide +kernel
theorem dX10_dancerAt_8 : decode cX10_dancerAt 8 = .ok (.iload_n 1, 1) := by decide +kernel
theorem dX10_dancerAt_9 : decode cX10_dancerAt 9 = .ok (.if_icmp .eq 9, 3) := by decide +kernel
theorem dX10_dancerAt_12 : decode cX10_dancerAt 12 = .ok (.iinc 2 1, 3) := by decide +kernel
theorem dX10_dancerAt_15 : decode cX10_dancerAt 15 = .ok (.goto (-13), 3) := by decide +kernel
theorem dX10_dancerAt_18 : decode cX10_dancerAt 18 = .ok (.iload_n 2, 1) := by decide +kernel
theorem dX10_dancerAt_19 : decode cX10_dancerAt 19 = .ok (.ireturn, 1) := by decide +kernel
theorem dX10_isHeld_0 : decode cX10_isHeld 0 = .ok (.aload_n 0, 1) := by decide +kernel
theorem dX10_isHeld_1 : decode cX10_isHeld 1 = .ok (.getfield 20, 3) := by decide +kernel
theorem dX10_isHeld_4 : decode cX10_isHeld 4 = .ok (.iload_n 1, 1) := by decide +kernel
theorem dX10_isHeld_5 : decode cX10_isHeld 5 = .ok (.ishr, 1) := by decide +kernel
theorem dX10_isHeld_6 : decode cX10_isHeld 6 = .ok (.iconst 1, 1) := by decide +kernel
theorem dX10_isHeld_7 : decode cX10_isHeld 7 = .ok (.iand, 1) := by decide +kernel
theorem dX10_isHeld_8 : decode cX10_isHeld 8 = .ok (.iconst 1, 1) := by decide +kernel
theorem dX10_isHeld_9 : decode cX10_isHeld 9 = .ok (.if_icmp .ne 7, 3) := by decide +kernel
theorem dX10_isHeld_12 : decode cX10_isHeld 12 = .ok (.iconst 1, 1) := by decide +kernel
theorem dX10_isHeld_13 : decode cX10_isHeld 13 = .ok (.goto 4, 3) := by decide +kernel
theorem dX10_isHeld_16 : decode cX10_isHeld 16 = .ok (.iconst 0, 1) := by decide +kernel
theorem dX10_isHeld_17 : decode cX10_isHeld 17 = .ok (.ireturn, 1) := by decide +kernel
theorem dX10_isOver_0 : decode cX10_isOver 0 = .ok (.aload_n 0, 1) := by decide +kernel
theorem dX10_isOver_1 : decode cX10_isOver 1 = .ok (.getfield 119, 3) := by decide +kernel
theorem dX10_isOver_4 : decode cX10_isOver 4 = .ok (.bipush 8, 2) := by decide +kernel
theorem dX10_isOver_6 : decode cX10_isOver 6 = .ok (.iload_n 1, 1) := by decide +kernel
theorem dX10_isOver_7 : decode cX10_isOver 7 = .ok (.imul, 1) := by decide +kernel
theorem dX10_isOver_8 : decode cX10_isOver 8 = .ok (.iload_n 2, 1) := by decide +kernel
theorem dX10_isOver_9 : decode cX10_isOver 9 = .ok (.iadd, 1) := by decide +kernel
theorem dX10_isOver_10 : decode cX10_isOver 10 = .ok (.lshr, 1) := by decide +kernel
theorem dX10_isOver_11 : decode cX10_isOver 11 = .ok (.lconst 1, 1) := by decide +kernel
theorem dX10_isOver_12 : decode cX10_isOver 12 = .ok (.land, 1) := by decide +kernel
theorem dX10_isOver_13 : decode cX10_isOver 13 = .ok (.lconst 1, 1) := by decide +kernel
theorem dX10_isOver_14 : decode cX10_isOver 14 = .ok (.lcmp, 1) := by decide +kernel
theorem dX10_isOver_15 : decode cX10_isOver 15 = .ok (.ifCond .ne 7, 3) := by decide +kernel
theorem dX10_isOver_18 : decode cX10_isOver 18 = .ok (.iconst 1, 1) := by decide +kernel
theorem dX10_isOver_19 : decode cX10_isOver 19 = .ok (.goto 4, 3) := by decide +kernel
theorem dX10_isOver_22 : decode cX10_isOver 22 = .ok (.iconst 0, 1) := by decide +kernel
theorem dX10_isOver_23 : decode cX10_isOver 23 = .ok (.ireturn, 1) := by decide +kernel
theorem dX10_doCross_0 : decode cX10_doCross 0 = .ok (.aload_n 0, 1) := by decide +kernel
theorem dX10_doCross_1 : decode cX10_doCross 1 = .ok (.iload_n 1, 1) := by decide +kernel
theorem dX10_doCross_2 : decode cX10_doCross 2 = .ok (.iload_n 2, 1) := by decide +kernel
theorem dX10_doCross_3 : decode cX10_doCross 3 = .ok (.invokevirtual 129, 3) := by decide +kernel
theorem dX10_doCross_6 : decode cX10_doCross 6 = .ok (.ifCond .ne 12, 3) := by decide +kernel
theorem dX10_doCross_9 : decode cX10_doCross 9 = .ok (.aload_n 0, 1) := by decide +kernel
theorem dX10_doCross_10 : decode cX10_doCross 10 = .ok (.iload_n 2, 1) := by decide +kernel
theorem dX10_doCross_11 : decode cX10_doCross 11 = .ok (.iload_n 1, 1) := by decide +kernel
theorem dX10_doCross_12 : decode cX10_doCross 12 = .ok (.invokevirtual 129, 3) := by decide +kernel
theorem dX10_doCross_15 : decode cX10_doCross 15 = .ok (.ifCond .eq 7, 3) := by decide +kernel
theorem dX10_doCross_18 : decode cX10_doCross 18 = .ok (.iconst 1, 1) := by decide +kernel
theorem dX10_doCross_19 : decode cX10_doCross 19 = .ok (.goto 4, 3) := by decide +kernel
theorem dX10_doCross_22 : decode cX10_doCross 22 = .ok (.iconst 0, 1) := by decide +kernel
theorem dX10_doCross_23 : decode cX10_doCross 23 = .ok (.ireturn, 1) := by decide +kernel
theorem dX10_areJoined_0 : decode cX10_areJoined 0 = .ok (.iload_n 2, 1) := by decide +kernel
theorem dX10_areJoined_1 : decode cX10_areJoined 1 = .ok (.iload_n 1, 1) := by decide +kernel
theorem dX10_areJoined_2 : decode cX10_areJoined 2 = .ok (.isub, 1) := by decide +kernel
theorem dX10_areJoined_3 : decode cX10_areJoined 3 = .ok (.aload_n 0, 1) := by decide +kernel
theorem dX10_areJoined_4 : decode cX10_areJoined 4 = .ok (.getfield 7, 3) := by decide +kernel
theorem dX10_areJoined_7 : decode cX10_areJoined 7 = .ok (.iadd, 1) := by decide +kernel
theorem dX10_areJoined_8 : decode cX10_areJoined 8 = .ok (.aload_n 0, 1) := by decide +kernel
theorem dX10_areJoined_9 : decode cX10_areJoined 9 = .ok (.getfield 7, 3) := by decide +kernel
theorem dX10_areJoined_12 : decode cX10_areJoined 12 = .ok (.irem, 1) := by decide +kernel
theorem dX10_areJoined_13 : decode cX10_areJoined 13 = .ok (.istore_n 3, 1) := by decide +kernel
theorem dX10_areJoined_14 : decode cX10_areJoined 14 = .ok (.iload_n 3, 1) := by decide +kernel
theorem dX10_areJoined_15 : decode cX10_areJoined 15 = .ok (.ifCond .eq 18, 3) := by decide +kernel
theorem dX10_areJoined_18 : decode cX10_areJoined 18 = .ok (.iload_n 3, 1) := by decide +kernel
theorem dX10_areJoined_19 : decode cX10_areJoined 19 = .ok (.iconst 1, 1) := by decide +kernel
theorem dX10_areJoined_20 : decode cX10_areJoined 20 = .ok (.if_icmp .eq 13, 3) := by decide +kernel
theorem dX10_areJoined_23 : decode cX10_areJoined 23 = .ok (.iload_n 3, 1) := by decide +kernel
theorem dX10_areJoined_24 : decode cX10_areJoined 24 = .ok (.aload_n 0, 1) := by decide +kernel
theorem dX10_areJoined_25 : decode cX10_areJoined 25 = .ok (.getfield 7, 3) := by decide +kernel
theorem dX10_areJoined_28 : decode cX10_areJoined 28 = .ok (.iconst 1, 1) := by decide +kernel
theorem dX10_areJoined_29 : decode cX10_areJoined 29 = .ok (.isub, 1) := by decide +kernel
theorem dX10_areJoined_30 : decode cX10_areJoined 30 = .ok (.if_icmp .ne 7, 3) := by decide +kernel
theorem dX10_areJoined_33 : decode cX10_areJoined 33 = .ok (.iconst 1, 1) := by decide +kernel
theorem dX10_areJoined_34 : decode cX10_areJoined 34 = .ok (.goto 4, 3) := by decide +kernel
theorem dX10_areJoined_37 : decode cX10_areJoined 37 = .ok (.iconst 0, 1) := by decide +kernel
theorem dX10_areJoined_38 : decode cX10_areJoined 38 = .ok (.ireturn, 1) := by decide +kernel
theorem dX10_lays_0 : decode cX10_lays 0 = .ok (.lconst 1, 1) := by decide +kernel
theorem dX10_lays_1 : decode cX10_lays 1 = .ok (.bipush 8, 2) := by decide +kernel
theorem dX10_lays_3 : decode cX10_lays 3 = .ok (.iload_n 1, 1) := by decide +kernel
theorem dX10_lays_4 : decode cX10_lays 4 = .ok (.imul, 1) := by decide +kernel
theorem dX10_lays_5 : decode cX10_lays 5 = .ok (.iload_n 2, 1) := by decide +kernel
theorem dX10_lays_6 : decode cX10_lays 6 = .ok (.iadd, 1) := by decide +kernel
theorem dX10_lays_7 : decode cX10_lays 7 = .ok (.lshl, 1) := by decide +kernel
theorem dX10_lays_8 : decode cX10_lays 8 = .ok (.lstore 4, 2) := by decide +kernel
theorem dX10_lays_10 : decode cX10_lays 10 = .ok (.aload_n 0, 1) := by decide +kernel
theorem dX10_lays_11 : decode cX10_lays 11 = .ok (.iload_n 3, 1) := by decide +kernel
theorem dX10_lays_12 : decode cX10_lays 12 = .ok (.ifCond .eq 13, 3) := by decide +kernel
theorem dX10_lays_15 : decode cX10_lays 15 = .ok (.aload_n 0, 1) := by decide +kernel
theorem dX10_lays_16 : decode cX10_lays 16 = .ok (.getfield 119, 3) := by decide +kernel
theorem dX10_lays_19 : decode cX10_lays 19 = .ok (.lload 4, 2) := by decide +kernel
theorem dX10_lays_21 : decode cX10_lays 21 = .ok (.lor, 1) := by decide +kernel
theorem dX10_lays_22 : decode cX10_lays 22 = .ok (.goto 14, 3) := by decide +kernel
theorem dX10_lays_25 : decode cX10_lays 25 = .ok (.aload_n 0, 1) := by decide +kernel
theorem dX10_lays_26 : decode cX10_lays 26 = .ok (.getfield 119, 3) := by decide +kernel
theorem dX10_lays_29 : decode cX10_lays 29 = .ok (.lload 4, 2) := by decide +kernel
theorem dX10_lays_31 : decode cX10_lays 31 = .ok (.ldc2_w 133, 3) := by decide +kernel
theorem dX10_lays_34 : decode cX10_lays 34 = .ok (.lxor, 1) := by decide +kernel
theorem dX10_lays_35 : decode cX10_lays 35 = .ok (.land, 1) := by decide +kernel
theorem dX10_lays_36 : decode cX10_lays 36 = .ok (.putfield 119, 3) := by decide +kernel
theorem dX10_lays_39 : decode cX10_lays 39 = .ok (.return_, 1) := by decide +kernel
theorem dX10_change_0 : decode cX10_change 0 = .ok (.aload_n 0, 1) := by decide +kernel
theorem dX10_change_1 : decode cX10_change 1 = .ok (.iload_n 1, 1) := by decide +kernel
theorem dX10_change_2 : decode cX10_change 2 = .ok (.invokevirtual 135, 3) := by decide +kernel
theorem dX10_change_5 : decode cX10_change 5 = .ok (.istore 4, 2) := by decide +kernel
theorem dX10_change_7 : decode cX10_change 7 = .ok (.aload_n 0, 1) := by decide +kernel
theorem dX10_change_8 : decode cX10_change 8 = .ok (.iload_n 1, 1) := by decide +kernel
theorem dX10_change_9 : decode cX10_change 9 = .ok (.iconst 1, 1) := by decide +kernel
theorem dX10_change_10 : decode cX10_change 10 = .ok (.iadd, 1) := by decide +kernel
theorem dX10_change_11 : decode cX10_change 11 = .ok (.aload_n 0, 1) := by decide +kernel
theorem dX10_change_12 : decode cX10_change 12 = .ok (.getfield 7, 3) := by decide +kernel
theorem dX10_change_15 : decode cX10_change 15 = .ok (.irem, 1) := by decide +kernel
theorem dX10_change_16 : decode cX10_change 16 = .ok (.invokevirtual 135, 3) := by decide +kernel
theorem dX10_change_19 : decode cX10_change 19 = .ok (.istore 5, 2) := by decide +kernel
theorem dX10_change_21 : decode cX10_change 21 = .ok (.iconst 0, 1) := by decide +kernel
theorem dX10_change_22 : decode cX10_change 22 = .ok (.istore 6, 2) := by decide +kernel
theorem dX10_change_24 : decode cX10_change 24 = .ok (.iload 6, 2) := by decide +kernel
theorem dX10_change_26 : decode cX10_change 26 = .ok (.iconst 2, 1) := by decide +kernel
theorem dX10_change_27 : decode cX10_change 27 = .ok (.if_icmp .ge 211, 3) := by decide +kernel
theorem dX10_change_30 : decode cX10_change 30 = .ok (.iconst 0, 1) := by decide +kernel
theorem dX10_change_31 : decode cX10_change 31 = .ok (.istore 7, 2) := by decide +kernel
theorem dX10_change_33 : decode cX10_change 33 = .ok (.iload 7, 2) := by decide +kernel
theorem dX10_change_35 : decode cX10_change 35 = .ok (.iconst 4, 1) := by decide +kernel
theorem dX10_change_36 : decode cX10_change 36 = .ok (.if_icmp .ge 190, 3) := by decide +kernel
theorem dX10_change_39 : decode cX10_change 39 = .ok (.iload 7, 2) := by decide +kernel
theorem dX10_change_41 : decode cX10_change 41 = .ok (.iconst 2, 1) := by decide +kernel
theorem dX10_change_42 : decode cX10_change 42 = .ok (.irem, 1) := by decide +kernel
theorem dX10_change_43 : decode cX10_change 43 = .ok (.ifCond .ne 8, 3) := by decide +kernel
theorem dX10_change_46 : decode cX10_change 46 = .ok (.iload 4, 2) := by decide +kernel
theorem dX10_change_48 : decode cX10_change 48 = .ok (.goto 17, 3) := by decide +kernel
theorem dX10_change_51 : decode cX10_change 51 = .ok (.iload 4, 2) := by decide +kernel
theorem dX10_change_53 : decode cX10_change 53 = .ok (.aload_n 0, 1) := by decide +kernel
theorem dX10_change_54 : decode cX10_change 54 = .ok (.getfield 7, 3) := by decide +kernel
theorem dX10_change_57 : decode cX10_change 57 = .ok (.iadd, 1) := by decide +kernel
theorem dX10_change_58 : decode cX10_change 58 = .ok (.iconst 1, 1) := by decide +kernel
theorem dX10_change_59 : decode cX10_change 59 = .ok (.isub, 1) := by decide +kernel
theorem dX10_change_60 : decode cX10_change 60 = .ok (.aload_n 0, 1) := by decide +kernel
theorem dX10_change_61 : decode cX10_change 61 = .ok (.getfield 7, 3) := by decide +kernel
theorem dX10_change_64 : decode cX10_change 64 = .ok (.irem, 1) := by decide +kernel
theorem dX10_change_65 : decode cX10_change 65 = .ok (.istore 8, 2) := by decide +kernel
theorem dX10_change_67 : decode cX10_change 67 = .ok (.iload 7, 2) := by decide +kernel
theorem dX10_change_69 : decode cX10_change 69 = .ok (.iconst 2, 1) := by decide +kernel
theorem dX10_change_70 : decode cX10_change 70 = .ok (.idiv, 1) := by decide +kernel
theorem dX10_change_71 : decode cX10_change 71 = .ok (.ifCond .ne 8, 3) := by decide +kernel
theorem dX10_change_74 : decode cX10_change 74 = .ok (.iload 5, 2) := by decide +kernel
theorem dX10_change_76 : decode cX10_change 76 = .ok (.goto 17, 3) := by decide +kernel
theorem dX10_change_79 : decode cX10_change 79 = .ok (.iload 5, 2) := by decide +kernel
theorem dX10_change_81 : decode cX10_change 81 = .ok (.aload_n 0, 1) := by decide +kernel
theorem dX10_change_82 : decode cX10_change 82 = .ok (.getfield 7, 3) := by decide +kernel
theorem dX10_change_85 : decode cX10_change 85 = .ok (.iadd, 1) := by decide +kernel
theorem dX10_change_86 : decode cX10_change 86 = .ok (.iconst 1, 1) := by decide +kernel
theorem dX10_change_87 : decode cX10_change 87 = .ok (.isub, 1) := by decide +kernel
theorem dX10_change_88 : decode cX10_change 88 = .ok (.aload_n 0, 1) := by decide +kernel
theorem dX10_change_89 : decode cX10_change 89 = .ok (.getfield 7, 3) := by decide +kernel
theorem dX10_change_92 : decode cX10_change 92 = .ok (.irem, 1) := by decide +kernel
theorem dX10_change_93 : decode cX10_change 93 = .ok (.istore 9, 2) := by decide +kernel
theorem dX10_change_95 : decode cX10_change 95 = .ok (.aload_n 0, 1) := by decide +kernel
theorem dX10_change_96 : decode cX10_change 96 = .ok (.iload 8, 2) := by decide +kernel
theorem dX10_change_98 : decode cX10_change 98 = .ok (.invokevirtual 139, 3) := by decide +kernel
theorem dX10_change_101 : decode cX10_change 101 = .ok (.ifCond .eq 119, 3) := by decide +kernel
theorem dX10_change_104 : decode cX10_change 104 = .ok (.aload_n 0, 1) := by decide +kernel
theorem dX10_change_105 : decode cX10_change 105 = .ok (.iload 9, 2) := by decide +kernel
theorem dX10_change_107 : decode cX10_change 107 = .ok (.invokevirtual 139, 3) := by decide +kernel
theorem dX10_change_110 : decode cX10_change 110 = .ok (.ifCond .eq 110, 3) := by decide +kernel
theorem dX10_change_113 : decode cX10_change 113 = .ok (.aload_n 0, 1) := by decide +kernel
theorem dX10_change_114 : decode cX10_change 114 = .ok (.iload 8, 2) := by decide +kernel
theorem dX10_change_116 : decode cX10_change 116 = .ok (.iload 9, 2) := by decide +kernel
theorem dX10_change_118 : decode cX10_change 118 = .ok (.invokevirtual 143, 3) := by decide +kernel
theorem dX10_change_121 : decode cX10_change 121 = .ok (.ifCond .ne 99, 3) := by decide +kernel
theorem dX10_change_124 : decode cX10_change 124 = .ok (.iload 6, 2) := by decide +kernel
theorem dX10_change_126 : decode cX10_change 126 = .ok (.ifCond .ne 35, 3) := by decide +kernel
theorem dX10_change_129 : decode cX10_change 129 = .ok (.iload_n 2, 1) := by decide +kernel
theorem dX10_change_130 : decode cX10_change 130 = .ok (.ifCond .eq 17, 3) := by decide +kernel
theorem dX10_change_133 : decode cX10_change 133 = .ok (.aload_n 0, 1) := by decide +kernel
theorem dX10_change_134 : decode cX10_change 134 = .ok (.iload 8, 2) := by decide +kernel
theorem dX10_change_136 : decode cX10_change 136 = .ok (.iload 9, 2) := by decide +kernel
theorem dX10_change_138 : decode cX10_change 138 = .ok (.invokevirtual 129, 3) := by decide +kernel
theorem dX10_change_141 : decode cX10_change 141 = .ok (.ifCond .eq 79, 3) := by decide +kernel
theorem dX10_change_144 : decode cX10_change 144 = .ok (.goto 14, 3) := by decide +kernel
theorem dX10_change_147 : decode cX10_change 147 = .ok (.aload_n 0, 1) := by decide +kernel
theorem dX10_change_148 : decode cX10_change 148 = .ok (.iload 9, 2) := by decide +kernel
theorem dX10_change_150 : decode cX10_change 150 = .ok (.iload 8, 2) := by decide +kernel
theorem dX10_change_152 : decode cX10_change 152 = .ok (.invokevirtual 129, 3) := by decide +kernel
theorem dX10_change_155 : decode cX10_change 155 = .ok (.ifCond .eq 65, 3) := by decide +kernel
theorem dX10_change_158 : decode cX10_change 158 = .ok (.bipush (-5), 2) := by decide +kernel
theorem dX10_change_160 : decode cX10_change 160 = .ok (.ireturn, 1) := by decide +kernel
theorem dX10_change_161 : decode cX10_change 161 = .ok (.aload_n 0, 1) := by decide +kernel
theorem dX10_change_162 : decode cX10_change 162 = .ok (.iload 8, 2) := by decide +kernel
theorem dX10_change_164 : decode cX10_change 164 = .ok (.iload 9, 2) := by decide +kernel
theorem dX10_change_166 : decode cX10_change 166 = .ok (.invokevirtual 146, 3) := by decide +kernel
theorem dX10_change_169 : decode cX10_change 169 = .ok (.ifCond .eq 24, 3) := by decide +kernel
theorem dX10_change_172 : decode cX10_change 172 = .ok (.aload_n 0, 1) := by decide +kernel
theorem dX10_change_173 : decode cX10_change 173 = .ok (.iload 8, 2) := by decide +kernel
theorem dX10_change_175 : decode cX10_change 175 = .ok (.iload 9, 2) := by decide +kernel
theorem dX10_change_177 : decode cX10_change 177 = .ok (.iconst 0, 1) := by decide +kernel
theorem dX10_change_178 : decode cX10_change 178 = .ok (.invokevirtual 149, 3) := by decide +kernel
theorem dX10_change_181 : decode cX10_change 181 = .ok (.aload_n 0, 1) := by decide +kernel
theorem dX10_change_182 : decode cX10_change 182 = .ok (.iload 9, 2) := by decide +kernel
theorem dX10_change_184 : decode cX10_change 184 = .ok (.iload 8, 2) := by decide +kernel
theorem dX10_change_186 : decode cX10_change 186 = .ok (.iconst 0, 1) := by decide +kernel
theorem dX10_change_187 : decode cX10_change 187 = .ok (.invokevirtual 149, 3) := by decide +kernel
theorem dX10_change_190 : decode cX10_change 190 = .ok (.goto 30, 3) := by decide +kernel
theorem dX10_change_193 : decode cX10_change 193 = .ok (.aload_n 0, 1) := by decide +kernel
theorem dX10_change_194 : decode cX10_change 194 = .ok (.iload_n 2, 1) := by decide +kernel
theorem dX10_change_195 : decode cX10_change 195 = .ok (.ifCond .eq 8, 3) := by decide +kernel
theorem dX10_change_198 : decode cX10_change 198 = .ok (.iload 9, 2) := by decide +kernel
theorem dX10_change_200 : decode cX10_change 200 = .ok (.goto 5, 3) := by decide +kernel
theorem dX10_change_203 : decode cX10_change 203 = .ok (.iload 8, 2) := by decide +kernel
theorem dX10_change_205 : decode cX10_change 205 = .ok (.iload_n 2, 1) := by decide +kernel
theorem dX10_change_206 : decode cX10_change 206 = .ok (.ifCond .eq 8, 3) := by decide +kernel
theorem dX10_change_209 : decode cX10_change 209 = .ok (.iload 8, 2) := by decide +kernel
theorem dX10_change_211 : decode cX10_change 211 = .ok (.goto 5, 3) := by decide +kernel
theorem dX10_change_214 : decode cX10_change 214 = .ok (.iload 9, 2) := by decide +kernel
theorem dX10_change_216 : decode cX10_change 216 = .ok (.iconst 1, 1) := by decide +kernel
theorem dX10_change_217 : decode cX10_change 217 = .ok (.invokevirtual 149, 3) := by decide +kernel
theorem dX10_change_220 : decode cX10_change 220 = .ok (.iinc 7 1, 3) := by decide +kernel
theorem dX10_change_223 : decode cX10_change 223 = .ok (.goto (-190), 3) := by decide +kernel
theorem dX10_change_226 : decode cX10_change 226 = .ok (.iload_n 3, 1) := by decide +kernel
theorem dX10_change_227 : decode cX10_change 227 = .ok (.ifCond .eq 5, 3) := by decide +kernel
theorem dX10_change_230 : decode cX10_change 230 = .ok (.iconst 1, 1) := by decide +kernel
theorem dX10_change_231 : decode cX10_change 231 = .ok (.ireturn, 1) := by decide +kernel
theorem dX10_change_232 : decode cX10_change 232 = .ok (.iinc 6 1, 3) := by decide +kernel
theorem dX10_change_235 : decode cX10_change 235 = .ok (.goto (-211), 3) := by decide +kernel
theorem dX10_change_238 : decode cX10_change 238 = .ok (.aload_n 0, 1) := by decide +kernel
theorem dX10_change_239 : decode cX10_change 239 = .ok (.getfield 13, 3) := by decide +kernel
theorem dX10_change_242 : decode cX10_change 242 = .ok (.iload 4, 2) := by decide +kernel
theorem dX10_change_244 : decode cX10_change 244 = .ok (.iload_n 1, 1) := by decide +kernel
theorem dX10_change_245 : decode cX10_change 245 = .ok (.iconst 1, 1) := by decide +kernel
theorem dX10_change_246 : decode cX10_change 246 = .ok (.iadd, 1) := by decide +kernel
theorem dX10_change_247 : decode cX10_change 247 = .ok (.aload_n 0, 1) := by decide +kernel
theorem dX10_change_248 : decode cX10_change 248 = .ok (.getfield 7, 3) := by decide +kernel
theorem dX10_change_251 : decode cX10_change 251 = .ok (.irem, 1) := by decide +kernel
theorem dX10_change_252 : decode cX10_change 252 = .ok (.iastore, 1) := by decide +kernel
theorem dX10_change_253 : decode cX10_change 253 = .ok (.aload_n 0, 1) := by decide +kernel
theorem dX10_change_254 : decode cX10_change 254 = .ok (.getfield 13, 3) := by decide +kernel
theorem dX10_change_257 : decode cX10_change 257 = .ok (.iload 5, 2) := by decide +kernel
theorem dX10_change_259 : decode cX10_change 259 = .ok (.iload_n 1, 1) := by decide +kernel
theorem dX10_change_260 : decode cX10_change 260 = .ok (.iastore, 1) := by decide +kernel
theorem dX10_change_261 : decode cX10_change 261 = .ok (.iconst 1, 1) := by decide +kernel
theorem dX10_change_262 : decode cX10_change 262 = .ok (.ireturn, 1) := by decide +kernel
theorem dX10_record_0 : decode cX10_record 0 = .ok (.aload_n 0, 1) := by decide +kernel
theorem dX10_record_1 : decode cX10_record 1 = .ok (.getfield 123, 3) := by decide +kernel
theorem dX10_record_4 : decode cX10_record 4 = .ok (.bipush 12, 2) := by decide +kernel
theorem dX10_record_6 : decode cX10_record 6 = .ok (.if_icmp .ne 83, 3) := by decide +kernel
theorem dX10_record_9 : decode cX10_record 9 = .ok (.iconst 1, 1) := by decide +kernel
theorem dX10_record_10 : decode cX10_record 10 = .ok (.istore_n 1, 1) := by decide +kernel
theorem dX10_record_11 : decode cX10_record 11 = .ok (.iload_n 1, 1) := by decide +kernel
theorem dX10_record_12 : decode cX10_record 12 = .ok (.bipush 12, 2) := by decide +kernel
theorem dX10_record_14 : decode cX10_record 14 = .ok (.if_icmp .ge 65, 3) := by decide +kernel
theorem dX10_record_17 : decode cX10_record 17 = .ok (.aload_n 0, 1) := by decide +kernel
theorem dX10_record_18 : decode cX10_record 18 = .ok (.getfield 23, 3) := by decide +kernel
theorem dX10_record_21 : decode cX10_record 21 = .ok (.iload_n 1, 1) := by decide +kernel
theorem dX10_record_22 : decode cX10_record 22 = .ok (.iconst 1, 1) := by decide +kernel
theorem dX10_record_23 : decode cX10_record 23 = .ok (.isub, 1) := by decide +kernel
theorem dX10_record_24 : decode cX10_record 24 = .ok (.aload_n 0, 1) := by decide +kernel
theorem dX10_record_25 : decode cX10_record 25 = .ok (.getfield 23, 3) := by decide +kernel
theorem dX10_record_28 : decode cX10_record 28 = .ok (.iload_n 1, 1) := by decide +kernel
theorem dX10_record_29 : decode cX10_record 29 = .ok (.iaload, 1) := by decide +kernel
theorem dX10_record_30 : decode cX10_record 30 = .ok (.iastore, 1) := by decide +kernel
theorem dX10_record_31 : decode cX10_record 31 = .ok (.aload_n 0, 1) := by decide +kernel
theorem dX10_record_32 : decode cX10_record 32 = .ok (.getfield 26, 3) := by decide +kernel
theorem dX10_record_35 : decode cX10_record 35 = .ok (.iload_n 1, 1) := by decide +kernel
theorem dX10_record_36 : decode cX10_record 36 = .ok (.iconst 1, 1) := by decide +kernel
theorem dX10_record_37 : decode cX10_record 37 = .ok (.isub, 1) := by decide +kernel
theorem dX10_record_38 : decode cX10_record 38 = .ok (.aload_n 0, 1) := by decide +kernel
theorem dX10_record_39 : decode cX10_record 39 = .ok (.getfield 26, 3) := by decide +kernel
theorem dX10_record_42 : decode cX10_record 42 = .ok (.iload_n 1, 1) := by decide +kernel
theorem dX10_record_43 : decode cX10_record 43 = .ok (.iaload, 1) := by decide +kernel
theorem dX10_record_44 : decode cX10_record 44 = .ok (.iastore, 1) := by decide +kernel
theorem dX10_record_45 : decode cX10_record 45 = .ok (.aload_n 0, 1) := by decide +kernel
theorem dX10_record_46 : decode cX10_record 46 = .ok (.getfield 29, 3) := by decide +kernel
theorem dX10_record_49 : decode cX10_record 49 = .ok (.iload_n 1, 1) := by decide +kernel
theorem dX10_record_50 : decode cX10_record 50 = .ok (.iconst 1, 1) := by decide +kernel
theorem dX10_record_51 : decode cX10_record 51 = .ok (.isub, 1) := by decide +kernel
theorem dX10_record_52 : decode cX10_record 52 = .ok (.aload_n 0, 1) := by decide +kernel
theorem dX10_record_53 : decode cX10_record 53 = .ok (.getfield 29, 3) := by decide +kernel
theorem dX10_record_56 : decode cX10_record 56 = .ok (.iload_n 1, 1) := by decide +kernel
theorem dX10_record_57 : decode cX10_record 57 = .ok (.iaload, 1) := by decide +kernel
theorem dX10_record_58 : decode cX10_record 58 = .ok (.iastore, 1) := by decide +kernel
theorem dX10_record_59 : decode cX10_record 59 = .ok (.aload_n 0, 1) := by decide +kernel
theorem dX10_record_60 : decode cX10_record 60 = .ok (.getfield 32, 3) := by decide +kernel
theorem dX10_record_63 : decode cX10_record 63 = .ok (.iload_n 1, 1) := by decide +kernel
theorem dX10_record_64 : decode cX10_record 64 = .ok (.iconst 1, 1) := by decide +kernel
theorem dX10_record_65 : decode cX10_record 65 = .ok (.isub, 1) := by decide +kernel
theorem dX10_record_66 : decode cX10_record 66 = .ok (.aload_n 0, 1) := by decide +kernel
theorem dX10_record_67 : decode cX10_record 67 = .ok (.getfield 32, 3) := by decide +kernel
theorem dX10_record_70 : decode cX10_record 70 = .ok (.iload_n 1, 1) := by decide +kernel
theorem dX10_record_71 : decode cX10_record 71 = .ok (.laload, 1) := by decide +kernel
theorem dX10_record_72 : decode cX10_record 72 = .ok (.lastore, 1) := by decide +kernel
theorem dX10_record_73 : decode cX10_record 73 = .ok (.iinc 1 1, 3) := by decide +kernel
theorem dX10_record_76 : decode cX10_record 76 = .ok (.goto (-65), 3) := by decide +kernel
theorem dX10_record_79 : decode cX10_record 79 = .ok (.aload_n 0, 1) := by decide +kernel
theorem dX10_record_80 : decode cX10_record 80 = .ok (.dup, 1) := by decide +kernel
theorem dX10_record_81 : decode cX10_record 81 = .ok (.getfield 123, 3) := by decide +kernel
theorem dX10_record_84 : decode cX10_record 84 = .ok (.iconst 1, 1) := by decide +kernel
theorem dX10_record_85 : decode cX10_record 85 = .ok (.isub, 1) := by decide +kernel
theorem dX10_record_86 : decode cX10_record 86 = .ok (.putfield 123, 3) := by decide +kernel
theorem dX10_record_89 : decode cX10_record 89 = .ok (.aload_n 0, 1) := by decide +kernel
theorem dX10_record_90 : decode cX10_record 90 = .ok (.getfield 23, 3) := by decide +kernel
theorem dX10_record_93 : decode cX10_record 93 = .ok (.aload_n 0, 1) := by decide +kernel
theorem dX10_record_94 : decode cX10_record 94 = .ok (.getfield 123, 3) := by decide +kernel
theorem dX10_record_97 : decode cX10_record 97 = .ok (.aload_n 0, 1) := by decide +kernel
theorem dX10_record_98 : decode cX10_record 98 = .ok (.invokevirtual 153, 3) := by decide +kernel
theorem dX10_record_101 : decode cX10_record 101 = .ok (.iastore, 1) := by decide +kernel
theorem dX10_record_102 : decode cX10_record 102 = .ok (.aload_n 0, 1) := by decide +kernel
theorem dX10_record_103 : decode cX10_record 103 = .ok (.getfield 26, 3) := by decide +kernel
theorem dX10_record_106 : decode cX10_record 106 = .ok (.aload_n 0, 1) := by decide +kernel
theorem dX10_record_107 : decode cX10_record 107 = .ok (.getfield 123, 3) := by decide +kernel
theorem dX10_record_110 : decode cX10_record 110 = .ok (.aload_n 0, 1) := by decide +kernel
theorem dX10_record_111 : decode cX10_record 111 = .ok (.getfield 17, 3) := by decide +kernel
theorem dX10_record_114 : decode cX10_record 114 = .ok (.iastore, 1) := by decide +kernel
theorem dX10_record_115 : decode cX10_record 115 = .ok (.aload_n 0, 1) := by decide +kernel
theorem dX10_record_116 : decode cX10_record 116 = .ok (.getfield 29, 3) := by decide +kernel
theorem dX10_record_119 : decode cX10_record 119 = .ok (.aload_n 0, 1) := by decide +kernel
theorem dX10_record_120 : decode cX10_record 120 = .ok (.getfield 123, 3) := by decide +kernel
theorem dX10_record_123 : decode cX10_record 123 = .ok (.aload_n 0, 1) := by decide +kernel
theorem dX10_record_124 : decode cX10_record 124 = .ok (.getfield 20, 3) := by decide +kernel
theorem dX10_record_127 : decode cX10_record 127 = .ok (.iastore, 1) := by decide +kernel
theorem dX10_record_128 : decode cX10_record 128 = .ok (.aload_n 0, 1) := by decide +kernel
theorem dX10_record_129 : decode cX10_record 129 = .ok (.getfield 32, 3) := by decide +kernel
theorem dX10_record_132 : decode cX10_record 132 = .ok (.aload_n 0, 1) := by decide +kernel
theorem dX10_record_133 : decode cX10_record 133 = .ok (.getfield 123, 3) := by decide +kernel
theorem dX10_record_136 : decode cX10_record 136 = .ok (.aload_n 0, 1) := by decide +kernel
theorem dX10_record_137 : decode cX10_record 137 = .ok (.getfield 119, 3) := by decide +kernel
theorem dX10_record_140 : decode cX10_record 140 = .ok (.lastore, 1) := by decide +kernel
theorem dX10_record_141 : decode cX10_record 141 = .ok (.aload_n 0, 1) := by decide +kernel
theorem dX10_record_142 : decode cX10_record 142 = .ok (.dup, 1) := by decide +kernel
theorem dX10_record_143 : decode cX10_record 143 = .ok (.getfield 123, 3) := by decide +kernel
theorem dX10_record_146 : decode cX10_record 146 = .ok (.iconst 1, 1) := by decide +kernel
theorem dX10_record_147 : decode cX10_record 147 = .ok (.iadd, 1) := by decide +kernel
theorem dX10_record_148 : decode cX10_record 148 = .ok (.putfield 123, 3) := by decide +kernel
theorem dX10_record_151 : decode cX10_record 151 = .ok (.return_, 1) := by decide +kernel
theorem dX10_goRound_0 : decode cX10_goRound 0 = .ok (.iconst 0, 1) := by decide +kernel
theorem dX10_goRound_1 : decode cX10_goRound 1 = .ok (.istore_n 2, 1) := by decide +kernel
theorem dX10_goRound_2 : decode cX10_goRound 2 = .ok (.iload_n 2, 1) := by decide +kernel
theorem dX10_goRound_3 : decode cX10_goRound 3 = .ok (.aload_n 0, 1) := by decide +kernel
theorem dX10_goRound_4 : decode cX10_goRound 4 = .ok (.getfield 7, 3) := by decide +kernel
theorem dX10_goRound_7 : decode cX10_goRound 7 = .ok (.if_icmp .ge 28, 3) := by decide +kernel
theorem dX10_goRound_10 : decode cX10_goRound 10 = .ok (.aload_n 0, 1) := by decide +kernel
theorem dX10_goRound_11 : decode cX10_goRound 11 = .ok (.getfield 13, 3) := by decide +kernel
theorem dX10_goRound_14 : decode cX10_goRound 14 = .ok (.iload_n 2, 1) := by decide +kernel
theorem dX10_goRound_15 : decode cX10_goRound 15 = .ok (.aload_n 0, 1) := by decide +kernel
theorem dX10_goRound_16 : decode cX10_goRound 16 = .ok (.getfield 13, 3) := by decide +kernel
theorem dX10_goRound_19 : decode cX10_goRound 19 = .ok (.iload_n 2, 1) := by decide +kernel
theorem dX10_goRound_20 : decode cX10_goRound 20 = .ok (.iaload, 1) := by decide +kernel
theorem dX10_goRound_21 : decode cX10_goRound 21 = .ok (.iload_n 1, 1) := by decide +kernel
theorem dX10_goRound_22 : decode cX10_goRound 22 = .ok (.iadd, 1) := by decide +kernel
theorem dX10_goRound_23 : decode cX10_goRound 23 = .ok (.aload_n 0, 1) := by decide +kernel
theorem dX10_goRound_24 : decode cX10_goRound 24 = .ok (.getfield 7, 3) := by decide +kernel
theorem dX10_goRound_27 : decode cX10_goRound 27 = .ok (.irem, 1) := by decide +kernel
theorem dX10_goRound_28 : decode cX10_goRound 28 = .ok (.iastore, 1) := by decide +kernel
theorem dX10_goRound_29 : decode cX10_goRound 29 = .ok (.iinc 2 1, 3) := by decide +kernel
theorem dX10_goRound_32 : decode cX10_goRound 32 = .ok (.goto (-30), 3) := by decide +kernel
theorem dX10_goRound_35 : decode cX10_goRound 35 = .ok (.return_, 1) := by decide +kernel
theorem dX10_isAct_0 : decode cX10_isAct 0 = .ok (.iload_n 0, 1) := by decide +kernel
theorem dX10_isAct_1 : decode cX10_isAct 1 = .ok (.i2l, 1) := by decide +kernel
theorem dX10_isAct_2 : decode cX10_isAct 2 = .ok (.lconst 0, 1) := by decide +kernel
theorem dX10_isAct_3 : decode cX10_isAct 3 = .ok (.ldc2_w 157, 3) := by decide +kernel
theorem dX10_isAct_6 : decode cX10_isAct 6 = .ok (.invokestatic 115, 3) := by decide +kernel
theorem dX10_isAct_9 : decode cX10_isAct 9 = .ok (.ifCond .eq 31, 3) := by decide +kernel
theorem dX10_isAct_12 : decode cX10_isAct 12 = .ok (.iload_n 1, 1) := by decide +kernel
theorem dX10_isAct_13 : decode cX10_isAct 13 = .ok (.i2l, 1) := by decide +kernel
theorem dX10_isAct_14 : decode cX10_isAct 14 = .ok (.lconst 0, 1) := by decide +kernel
theorem dX10_isAct_15 : decode cX10_isAct 15 = .ok (.iload_n 0, 1) := by decide +kernel
theorem dX10_isAct_16 : decode cX10_isAct 16 = .ok (.iconst 3, 1) := by decide +kernel
theorem dX10_isAct_17 : decode cX10_isAct 17 = .ok (.if_icmp .ne 9, 3) := by decide +kernel
theorem dX10_isAct_20 : decode cX10_isAct 20 = .ok (.ldc2_w 159, 3) := by decide +kernel
theorem dX10_isAct_23 : decode cX10_isAct 23 = .ok (.goto 7, 3) := by decide +kernel
theorem dX10_isAct_26 : decode cX10_isAct 26 = .ok (.iload_n 2, 1) := by decide +kernel
theorem dX10_isAct_27 : decode cX10_isAct 27 = .ok (.iconst 1, 1) := by decide +kernel
theorem dX10_isAct_28 : decode cX10_isAct 28 = .ok (.isub, 1) := by decide +kernel
theorem dX10_isAct_29 : decode cX10_isAct 29 = .ok (.i2l, 1) := by decide +kernel
theorem dX10_isAct_30 : decode cX10_isAct 30 = .ok (.invokestatic 115, 3) := by decide +kernel
theorem dX10_isAct_33 : decode cX10_isAct 33 = .ok (.ifCond .eq 7, 3) := by decide +kernel
theorem dX10_isAct_36 : decode cX10_isAct 36 = .ok (.iconst 1, 1) := by decide +kernel
theorem dX10_isAct_37 : decode cX10_isAct 37 = .ok (.goto 4, 3) := by decide +kernel
theorem dX10_isAct_40 : decode cX10_isAct 40 = .ok (.iconst 0, 1) := by decide +kernel
theorem dX10_isAct_41 : decode cX10_isAct 41 = .ok (.ireturn, 1) := by decide +kernel
theorem dX10_areBeside_0 : decode cX10_areBeside 0 = .ok (.aload_n 0, 1) := by decide +kernel
theorem dX10_areBeside_1 : decode cX10_areBeside 1 = .ok (.getfield 13, 3) := by decide +kernel
theorem dX10_areBeside_4 : decode cX10_areBeside 4 = .ok (.iload_n 1, 1) := by decide +kernel
theorem dX10_areBeside_5 : decode cX10_areBeside 5 = .ok (.iconst 1, 1) := by decide +kernel
theorem dX10_areBeside_6 : decode cX10_areBeside 6 = .ok (.iadd, 1) := by decide +kernel
theorem dX10_areBeside_7 : decode cX10_areBeside 7 = .ok (.aload_n 0, 1) := by decide +kernel
theorem dX10_areBeside_8 : decode cX10_areBeside 8 = .ok (.getfield 7, 3) := by decide +kernel
theorem dX10_areBeside_11 : decode cX10_areBeside 11 = .ok (.irem, 1) := by decide +kernel
theorem dX10_areBeside_12 : decode cX10_areBeside 12 = .ok (.iaload, 1) := by decide +kernel
theorem dX10_areBeside_13 : decode cX10_areBeside 13 = .ok (.aload_n 0, 1) := by decide +kernel
theorem dX10_areBeside_14 : decode cX10_areBeside 14 = .ok (.getfield 13, 3) := by decide +kernel
theorem dX10_areBeside_17 : decode cX10_areBeside 17 = .ok (.iload_n 1, 1) := by decide +kernel
theorem dX10_areBeside_18 : decode cX10_areBeside 18 = .ok (.iaload, 1) := by decide +kernel
theorem dX10_areBeside_19 : decode cX10_areBeside 19 = .ok (.isub, 1) := by decide +kernel
theorem dX10_areBeside_20 : decode cX10_areBeside 20 = .ok (.aload_n 0, 1) := by decide +kernel
theorem dX10_areBeside_21 : decode cX10_areBeside 21 = .ok (.getfield 7, 3) := by decide +kernel
theorem dX10_areBeside_24 : decode cX10_areBeside 24 = .ok (.iadd, 1) := by decide +kernel
theorem dX10_areBeside_25 : decode cX10_areBeside 25 = .ok (.aload_n 0, 1) := by decide +kernel
theorem dX10_areBeside_26 : decode cX10_areBeside 26 = .ok (.getfield 7, 3) := by decide +kernel
theorem dX10_areBeside_29 : decode cX10_areBeside 29 = .ok (.irem, 1) := by decide +kernel
theorem dX10_areBeside_30 : decode cX10_areBeside 30 = .ok (.istore_n 2, 1) := by decide +kernel
theorem dX10_areBeside_31 : decode cX10_areBeside 31 = .ok (.iload_n 2, 1) := by decide +kernel
theorem dX10_areBeside_32 : decode cX10_areBeside 32 = .ok (.iconst 1, 1) := by decide +kernel
theorem dX10_areBeside_33 : decode cX10_areBeside 33 = .ok (.if_icmp .eq 13, 3) := by decide +kernel
theorem dX10_areBeside_36 : decode cX10_areBeside 36 = .ok (.iload_n 2, 1) := by decide +kernel
theorem dX10_areBeside_37 : decode cX10_areBeside 37 = .ok (.aload_n 0, 1) := by decide +kernel
theorem dX10_areBeside_38 : decode cX10_areBeside 38 = .ok (.getfield 7, 3) := by decide +kernel
theorem dX10_areBeside_41 : decode cX10_areBeside 41 = .ok (.iconst 1, 1) := by decide +kernel
theorem dX10_areBeside_42 : decode cX10_areBeside 42 = .ok (.isub, 1) := by decide +kernel
theorem dX10_areBeside_43 : decode cX10_areBeside 43 = .ok (.if_icmp .ne 7, 3) := by decide +kernel
theorem dX10_areBeside_46 : decode cX10_areBeside 46 = .ok (.iconst 1, 1) := by decide +kernel
theorem dX10_areBeside_47 : decode cX10_areBeside 47 = .ok (.goto 4, 3) := by decide +kernel
theorem dX10_areBeside_50 : decode cX10_areBeside 50 = .ok (.iconst 0, 1) := by decide +kernel
theorem dX10_areBeside_51 : decode cX10_areBeside 51 = .ok (.ireturn, 1) := by decide +kernel
theorem dX10_does_0 : decode cX10_does 0 = .ok (.iload_n 1, 1) := by decide +kernel
theorem dX10_does_1 : decode cX10_does 1 = .ok (.bipush 7, 2) := by decide +kernel
theorem dX10_does_3 : decode cX10_does 3 = .ok (.if_icmp .ne 25, 3) := by decide +kernel
theorem dX10_does_6 : decode cX10_does 6 = .ok (.aload_n 0, 1) := by decide +kernel
theorem dX10_does_7 : decode cX10_does 7 = .ok (.aload_n 0, 1) := by decide +kernel
theorem dX10_does_8 : decode cX10_does 8 = .ok (.getfield 7, 3) := by decide +kernel
theorem dX10_does_11 : decode cX10_does 11 = .ok (.iload_n 2, 1) := by decide +kernel
theorem dX10_does_12 : decode cX10_does 12 = .ok (.aload_n 0, 1) := by decide +kernel
theorem dX10_does_13 : decode cX10_does 13 = .ok (.getfield 7, 3) := by decide +kernel
theorem dX10_does_16 : decode cX10_does 16 = .ok (.irem, 1) := by decide +kernel
theorem dX10_does_17 : decode cX10_does 17 = .ok (.isub, 1) := by decide +kernel
theorem dX10_does_18 : decode cX10_does 18 = .ok (.aload_n 0, 1) := by decide +kernel
theorem dX10_does_19 : decode cX10_does 19 = .ok (.getfield 7, 3) := by decide +kernel
theorem dX10_does_22 : decode cX10_does 22 = .ok (.irem, 1) := by decide +kernel
theorem dX10_does_23 : decode cX10_does 23 = .ok (.invokevirtual 161, 3) := by decide +kernel
theorem dX10_does_26 : decode cX10_does 26 = .ok (.iconst 1, 1) := by decide +kernel
theorem dX10_does_27 : decode cX10_does 27 = .ok (.ireturn, 1) := by decide +kernel
theorem dX10_does_28 : decode cX10_does 28 = .ok (.iload_n 1, 1) := by decide +kernel
theorem dX10_does_29 : decode cX10_does 29 = .ok (.iload_n 2, 1) := by decide +kernel
theorem dX10_does_30 : decode cX10_does 30 = .ok (.aload_n 0, 1) := by decide +kernel
theorem dX10_does_31 : decode cX10_does 31 = .ok (.getfield 7, 3) := by decide +kernel
theorem dX10_does_34 : decode cX10_does 34 = .ok (.invokestatic 165, 3) := by decide +kernel
theorem dX10_does_37 : decode cX10_does 37 = .ok (.ifCond .ne 5, 3) := by decide +kernel
theorem dX10_does_40 : decode cX10_does 40 = .ok (.iconst (-1), 1) := by decide +kernel
theorem dX10_does_41 : decode cX10_does 41 = .ok (.ireturn, 1) := by decide +kernel
theorem dX10_does_42 : decode cX10_does 42 = .ok (.iload_n 1, 1) := by decide +kernel
theorem dX10_does_43 : decode cX10_does 43 = .ok (.tableswitch 131 0 4 #[33, 33, 49, 67, 74], 33) := by decide +kernel
theorem dX10_does_76 : decode cX10_does 76 = .ok (.aload_n 0, 1) := by decide +kernel
theorem dX10_does_77 : decode cX10_does 77 = .ok (.iload_n 2, 1) := by decide +kernel
theorem dX10_does_78 : decode cX10_does 78 = .ok (.iload_n 1, 1) := by decide +kernel
theorem dX10_does_79 : decode cX10_does 79 = .ok (.ifCond .ne 7, 3) := by decide +kernel
theorem dX10_does_82 : decode cX10_does 82 = .ok (.iconst 1, 1) := by decide +kernel
theorem dX10_does_83 : decode cX10_does 83 = .ok (.goto 4, 3) := by decide +kernel
theorem dX10_does_86 : decode cX10_does 86 = .ok (.iconst 0, 1) := by decide +kernel
theorem dX10_does_87 : decode cX10_does 87 = .ok (.iconst 0, 1) := by decide +kernel
theorem dX10_does_88 : decode cX10_does 88 = .ok (.invokevirtual 169, 3) := by decide +kernel
theorem dX10_does_91 : decode cX10_does 91 = .ok (.ireturn, 1) := by decide +kernel
theorem dX10_does_92 : decode cX10_does 92 = .ok (.aload_n 0, 1) := by decide +kernel
theorem dX10_does_93 : decode cX10_does 93 = .ok (.dup, 1) := by decide +kernel
theorem dX10_does_94 : decode cX10_does 94 = .ok (.getfield 17, 3) := by decide +kernel
theorem dX10_does_97 : decode cX10_does 97 = .ok (.iconst 1, 1) := by decide +kernel
theorem dX10_does_98 : decode cX10_does 98 = .ok (.aload_n 0, 1) := by decide +kernel
theorem dX10_does_99 : decode cX10_does 99 = .ok (.iload_n 2, 1) := by decide +kernel
theorem dX10_does_100 : decode cX10_does 100 = .ok (.invokevirtual 135, 3) := by decide +kernel
theorem dX10_does_103 : decode cX10_does 103 = .ok (.ishl, 1) := by decide +kernel
theorem dX10_does_104 : decode cX10_does 104 = .ok (.ixor, 1) := by decide +kernel
theorem dX10_does_105 : decode cX10_does 105 = .ok (.putfield 17, 3) := by decide +kernel
theorem dX10_does_108 : decode cX10_does 108 = .ok (.iconst 1, 1) := by decide +kernel
theorem dX10_does_109 : decode cX10_does 109 = .ok (.ireturn, 1) := by decide +kernel
theorem dX10_does_110 : decode cX10_does 110 = .ok (.aload_n 0, 1) := by decide +kernel
theorem dX10_does_111 : decode cX10_does 111 = .ok (.iload_n 2, 1) := by decide +kernel
theorem dX10_does_112 : decode cX10_does 112 = .ok (.invokevirtual 161, 3) := by decide +kernel
theorem dX10_does_115 : decode cX10_does 115 = .ok (.iconst 1, 1) := by decide +kernel
theorem dX10_does_116 : decode cX10_does 116 = .ok (.ireturn, 1) := by decide +kernel
theorem dX10_does_117 : decode cX10_does 117 = .ok (.aload_n 0, 1) := by decide +kernel
theorem dX10_does_118 : decode cX10_does 118 = .ok (.iload_n 2, 1) := by decide +kernel
theorem dX10_does_119 : decode cX10_does 119 = .ok (.invokevirtual 139, 3) := by decide +kernel
theorem dX10_does_122 : decode cX10_does 122 = .ok (.ifCond .ne 6, 3) := by decide +kernel
theorem dX10_does_125 : decode cX10_does 125 = .ok (.bipush (-2), 2) := by decide +kernel
theorem dX10_does_127 : decode cX10_does 127 = .ok (.ireturn, 1) := by decide +kernel
theorem dX10_does_128 : decode cX10_does 128 = .ok (.aload_n 0, 1) := by decide +kernel
theorem dX10_does_129 : decode cX10_does 129 = .ok (.dup, 1) := by decide +kernel
theorem dX10_does_130 : decode cX10_does 130 = .ok (.getfield 20, 3) := by decide +kernel
theorem dX10_does_133 : decode cX10_does 133 = .ok (.iconst 1, 1) := by decide +kernel
theorem dX10_does_134 : decode cX10_does 134 = .ok (.iload_n 2, 1) := by decide +kernel
theorem dX10_does_135 : decode cX10_does 135 = .ok (.ishl, 1) := by decide +kernel
theorem dX10_does_136 : decode cX10_does 136 = .ok (.iconst (-1), 1) := by decide +kernel
theorem dX10_does_137 : decode cX10_does 137 = .ok (.ixor, 1) := by decide +kernel
theorem dX10_does_138 : decode cX10_does 138 = .ok (.iand, 1) := by decide +kernel
theorem dX10_does_139 : decode cX10_does 139 = .ok (.putfield 20, 3) := by decide +kernel
theorem dX10_does_142 : decode cX10_does 142 = .ok (.iconst 0, 1) := by decide +kernel
theorem dX10_does_143 : decode cX10_does 143 = .ok (.istore_n 3, 1) := by decide +kernel
theorem dX10_does_144 : decode cX10_does 144 = .ok (.iload_n 3, 1) := by decide +kernel
theorem dX10_does_145 : decode cX10_does 145 = .ok (.aload_n 0, 1) := by decide +kernel
theorem dX10_does_146 : decode cX10_does 146 = .ok (.getfield 7, 3) := by decide +kernel
theorem dX10_does_149 : decode cX10_does 149 = .ok (.if_icmp .ge 23, 3) := by decide +kernel
theorem dX10_does_152 : decode cX10_does 152 = .ok (.aload_n 0, 1) := by decide +kernel
theorem dX10_does_153 : decode cX10_does 153 = .ok (.iload_n 2, 1) := by decide +kernel
theorem dX10_does_154 : decode cX10_does 154 = .ok (.iload_n 3, 1) := by decide +kernel
theorem dX10_does_155 : decode cX10_does 155 = .ok (.iconst 0, 1) := by decide +kernel
theorem dX10_does_156 : decode cX10_does 156 = .ok (.invokevirtual 149, 3) := by decide +kernel
theorem dX10_does_159 : decode cX10_does 159 = .ok (.aload_n 0, 1) := by decide +kernel
theorem dX10_does_160 : decode cX10_does 160 = .ok (.iload_n 3, 1) := by decide +kernel
theorem dX10_does_161 : decode cX10_does 161 = .ok (.iload_n 2, 1) := by decide +kernel
theorem dX10_does_162 : decode cX10_does 162 = .ok (.iconst 0, 1) := by decide +kernel
theorem dX10_does_163 : decode cX10_does 163 = .ok (.invokevirtual 149, 3) := by decide +kernel
theorem dX10_does_166 : decode cX10_does 166 = .ok (.iinc 3 1, 3) := by decide +kernel
theorem dX10_does_169 : decode cX10_does 169 = .ok (.goto (-25), 3) := by decide +kernel
theorem dX10_does_172 : decode cX10_does 172 = .ok (.iconst 1, 1) := by decide +kernel
theorem dX10_does_173 : decode cX10_does 173 = .ok (.ireturn, 1) := by decide +kernel
theorem dX10_does_174 : decode cX10_does 174 = .ok (.aload_n 0, 1) := by decide +kernel
theorem dX10_does_175 : decode cX10_does 175 = .ok (.iload_n 2, 1) := by decide +kernel
theorem dX10_does_176 : decode cX10_does 176 = .ok (.invokevirtual 139, 3) := by decide +kernel
theorem dX10_does_179 : decode cX10_does 179 = .ok (.ifCond .ne 11, 3) := by decide +kernel
theorem dX10_does_182 : decode cX10_does 182 = .ok (.aload_n 0, 1) := by decide +kernel
theorem dX10_does_183 : decode cX10_does 183 = .ok (.iload_n 2, 1) := by decide +kernel
theorem dX10_does_184 : decode cX10_does 184 = .ok (.invokevirtual 173, 3) := by decide +kernel
theorem dX10_does_187 : decode cX10_does 187 = .ok (.ifCond .ne 6, 3) := by decide +kernel
theorem dX10_does_190 : decode cX10_does 190 = .ok (.bipush (-2), 2) := by decide +kernel
theorem dX10_does_192 : decode cX10_does 192 = .ok (.ireturn, 1) := by decide +kernel
theorem dX10_does_193 : decode cX10_does 193 = .ok (.aload_n 0, 1) := by decide +kernel
theorem dX10_does_194 : decode cX10_does 194 = .ok (.dup, 1) := by decide +kernel
theorem dX10_does_195 : decode cX10_does 195 = .ok (.getfield 20, 3) := by decide +kernel
theorem dX10_does_198 : decode cX10_does 198 = .ok (.iconst 1, 1) := by decide +kernel
theorem dX10_does_199 : decode cX10_does 199 = .ok (.iload_n 2, 1) := by decide +kernel
theorem dX10_does_200 : decode cX10_does 200 = .ok (.ishl, 1) := by decide +kernel
theorem dX10_does_201 : decode cX10_does 201 = .ok (.ior, 1) := by decide +kernel
theorem dX10_does_202 : decode cX10_does 202 = .ok (.putfield 20, 3) := by decide +kernel
theorem dX10_does_205 : decode cX10_does 205 = .ok (.iconst 1, 1) := by decide +kernel
theorem dX10_does_206 : decode cX10_does 206 = .ok (.ireturn, 1) := by decide +kernel
theorem dX10_doesAct_0 : decode cX10_doesAct 0 = .ok (.aload_n 0, 1) := by decide +kernel
theorem dX10_doesAct_1 : decode cX10_doesAct 1 = .ok (.invokevirtual 153, 3) := by decide +kernel
theorem dX10_doesAct_4 : decode cX10_doesAct 4 = .ok (.istore_n 3, 1) := by decide +kernel
theorem dX10_doesAct_5 : decode cX10_doesAct 5 = .ok (.aload_n 0, 1) := by decide +kernel
theorem dX10_doesAct_6 : decode cX10_doesAct 6 = .ok (.getfield 17, 3) := by decide +kernel
theorem dX10_doesAct_9 : decode cX10_doesAct 9 = .ok (.istore 4, 2) := by decide +kernel
theorem dX10_doesAct_11 : decode cX10_doesAct 11 = .ok (.aload_n 0, 1) := by decide +kernel
theorem dX10_doesAct_12 : decode cX10_doesAct 12 = .ok (.getfield 20, 3) := by decide +kernel
theorem dX10_doesAct_15 : decode cX10_doesAct 15 = .ok (.istore 5, 2) := by decide +kernel
theorem dX10_doesAct_17 : decode cX10_doesAct 17 = .ok (.aload_n 0, 1) := by decide +kernel
theorem dX10_doesAct_18 : decode cX10_doesAct 18 = .ok (.getfield 119, 3) := by decide +kernel
theorem dX10_doesAct_21 : decode cX10_doesAct 21 = .ok (.lstore 6, 2) := by decide +kernel
theorem dX10_doesAct_23 : decode cX10_doesAct 23 = .ok (.aload_n 0, 1) := by decide +kernel
theorem dX10_doesAct_24 : decode cX10_doesAct 24 = .ok (.iload_n 1, 1) := by decide +kernel
theorem dX10_doesAct_25 : decode cX10_doesAct 25 = .ok (.iload_n 2, 1) := by decide +kernel
theorem dX10_doesAct_26 : decode cX10_doesAct 26 = .ok (.invokevirtual 176, 3) := by decide +kernel
theorem dX10_doesAct_29 : decode cX10_doesAct 29 = .ok (.istore 8, 2) := by decide +kernel
theorem dX10_doesAct_31 : decode cX10_doesAct 31 = .ok (.iload 8, 2) := by decide +kernel
theorem dX10_doesAct_33 : decode cX10_doesAct 33 = .ok (.ifCond .le 78, 3) := by decide +kernel
theorem dX10_doesAct_36 : decode cX10_doesAct 36 = .ok (.aload_n 0, 1) := by decide +kernel
theorem dX10_doesAct_37 : decode cX10_doesAct 37 = .ok (.invokevirtual 153, 3) := by decide +kernel
theorem dX10_doesAct_40 : decode cX10_doesAct 40 = .ok (.istore 9, 2) := by decide +kernel
theorem dX10_doesAct_42 : decode cX10_doesAct 42 = .ok (.aload_n 0, 1) := by decide +kernel
theorem dX10_doesAct_43 : decode cX10_doesAct 43 = .ok (.getfield 17, 3) := by decide +kernel
theorem dX10_doesAct_46 : decode cX10_doesAct 46 = .ok (.istore 10, 2) := by decide +kernel
theorem dX10_doesAct_48 : decode cX10_doesAct 48 = .ok (.aload_n 0, 1) := by decide +kernel
theorem dX10_doesAct_49 : decode cX10_doesAct 49 = .ok (.getfield 20, 3) := by decide +kernel
theorem dX10_doesAct_52 : decode cX10_doesAct 52 = .ok (.istore 11, 2) := by decide +kernel
theorem dX10_doesAct_54 : decode cX10_doesAct 54 = .ok (.aload_n 0, 1) := by decide +kernel
theorem dX10_doesAct_55 : decode cX10_doesAct 55 = .ok (.getfield 119, 3) := by decide +kernel
theorem dX10_doesAct_58 : decode cX10_doesAct 58 = .ok (.lstore 12, 2) := by decide +kernel
theorem dX10_doesAct_60 : decode cX10_doesAct 60 = .ok (.aload_n 0, 1) := by decide +kernel
theorem dX10_doesAct_61 : decode cX10_doesAct 61 = .ok (.iload_n 3, 1) := by decide +kernel
theorem dX10_doesAct_62 : decode cX10_doesAct 62 = .ok (.invokevirtual 180, 3) := by decide +kernel
theorem dX10_doesAct_65 : decode cX10_doesAct 65 = .ok (.aload_n 0, 1) := by decide +kernel
theorem dX10_doesAct_66 : decode cX10_doesAct 66 = .ok (.iload 4, 2) := by decide +kernel
theorem dX10_doesAct_68 : decode cX10_doesAct 68 = .ok (.putfield 17, 3) := by decide +kernel
theorem dX10_doesAct_71 : decode cX10_doesAct 71 = .ok (.aload_n 0, 1) := by decide +kernel
theorem dX10_doesAct_72 : decode cX10_doesAct 72 = .ok (.iload 5, 2) := by decide +kernel
theorem dX10_doesAct_74 : decode cX10_doesAct 74 = .ok (.putfield 20, 3) := by decide +kernel
theorem dX10_doesAct_77 : decode cX10_doesAct 77 = .ok (.aload_n 0, 1) := by decide +kernel
theorem dX10_doesAct_78 : decode cX10_doesAct 78 = .ok (.lload 6, 2) := by decide +kernel
theorem dX10_doesAct_80 : decode cX10_doesAct 80 = .ok (.putfield 119, 3) := by decide +kernel
theorem dX10_doesAct_83 : decode cX10_doesAct 83 = .ok (.aload_n 0, 1) := by decide +kernel
theorem dX10_doesAct_84 : decode cX10_doesAct 84 = .ok (.invokevirtual 183, 3) := by decide +kernel
theorem dX10_doesAct_87 : decode cX10_doesAct 87 = .ok (.aload_n 0, 1) := by decide +kernel
theorem dX10_doesAct_88 : decode cX10_doesAct 88 = .ok (.iload 9, 2) := by decide +kernel
theorem dX10_doesAct_90 : decode cX10_doesAct 90 = .ok (.invokevirtual 180, 3) := by decide +kernel
theorem dX10_doesAct_93 : decode cX10_doesAct 93 = .ok (.aload_n 0, 1) := by decide +kernel
theorem dX10_doesAct_94 : decode cX10_doesAct 94 = .ok (.iload 10, 2) := by decide +kernel
theorem dX10_doesAct_96 : decode cX10_doesAct 96 = .ok (.putfield 17, 3) := by decide +kernel
theorem dX10_doesAct_99 : decode cX10_doesAct 99 = .ok (.aload_n 0, 1) := by decide +kernel
theorem dX10_doesAct_100 : decode cX10_doesAct 100 = .ok (.iload 11, 2) := by decide +kernel
theorem dX10_doesAct_102 : decode cX10_doesAct 102 = .ok (.putfield 20, 3) := by decide +kernel
theorem dX10_doesAct_105 : decode cX10_doesAct 105 = .ok (.aload_n 0, 1) := by decide +kernel
theorem dX10_doesAct_106 : decode cX10_doesAct 106 = .ok (.lload 12, 2) := by decide +kernel
theorem dX10_doesAct_108 : decode cX10_doesAct 108 = .ok (.putfield 119, 3) := by decide +kernel
theorem dX10_doesAct_111 : decode cX10_doesAct 111 = .ok (.iload 8, 2) := by decide +kernel
theorem dX10_doesAct_113 : decode cX10_doesAct 113 = .ok (.ireturn, 1) := by decide +kernel
theorem dX10_act_0 : decode cX10_act 0 = .ok (.iload_n 1, 1) := by decide +kernel
theorem dX10_act_1 : decode cX10_act 1 = .ok (.iload_n 2, 1) := by decide +kernel
theorem dX10_act_2 : decode cX10_act 2 = .ok (.aload_n 0, 1) := by decide +kernel
theorem dX10_act_3 : decode cX10_act 3 = .ok (.getfield 7, 3) := by decide +kernel
theorem dX10_act_6 : decode cX10_act 6 = .ok (.invokestatic 165, 3) := by decide +kernel
theorem dX10_act_9 : decode cX10_act 9 = .ok (.ifCond .eq 12, 3) := by decide +kernel
theorem dX10_act_12 : decode cX10_act 12 = .ok (.aload_n 0, 1) := by decide +kernel
theorem dX10_act_13 : decode cX10_act 13 = .ok (.iload_n 1, 1) := by decide +kernel
theorem dX10_act_14 : decode cX10_act 14 = .ok (.iload_n 2, 1) := by decide +kernel
theorem dX10_act_15 : decode cX10_act 15 = .ok (.invokevirtual 186, 3) := by decide +kernel
theorem dX10_act_18 : decode cX10_act 18 = .ok (.goto 4, 3) := by decide +kernel
theorem dX10_act_21 : decode cX10_act 21 = .ok (.iconst (-1), 1) := by decide +kernel
theorem dX10_act_22 : decode cX10_act 22 = .ok (.ireturn, 1) := by decide +kernel
theorem dX10_undo_0 : decode cX10_undo 0 = .ok (.aload_n 0, 1) := by decide +kernel
theorem dX10_undo_1 : decode cX10_undo 1 = .ok (.getfield 123, 3) := by decide +kernel
theorem dX10_undo_4 : decode cX10_undo 4 = .ok (.ifCond .ne 6, 3) := by decide +kernel
theorem dX10_undo_7 : decode cX10_undo 7 = .ok (.bipush (-4), 2) := by decide +kernel
theorem dX10_undo_9 : decode cX10_undo 9 = .ok (.ireturn, 1) := by decide +kernel
theorem dX10_undo_10 : decode cX10_undo 10 = .ok (.aload_n 0, 1) := by decide +kernel
theorem dX10_undo_11 : decode cX10_undo 11 = .ok (.dup, 1) := by decide +kernel
theorem dX10_undo_12 : decode cX10_undo 12 = .ok (.getfield 123, 3) := by decide +kernel
theorem dX10_undo_15 : decode cX10_undo 15 = .ok (.iconst 1, 1) := by decide +kernel
theorem dX10_undo_16 : decode cX10_undo 16 = .ok (.isub, 1) := by decide +kernel
theorem dX10_undo_17 : decode cX10_undo 17 = .ok (.putfield 123, 3) := by decide +kernel
theorem dX10_undo_20 : decode cX10_undo 20 = .ok (.aload_n 0, 1) := by decide +kernel
theorem dX10_undo_21 : decode cX10_undo 21 = .ok (.aload_n 0, 1) := by decide +kernel
theorem dX10_undo_22 : decode cX10_undo 22 = .ok (.getfield 23, 3) := by decide +kernel
theorem dX10_undo_25 : decode cX10_undo 25 = .ok (.aload_n 0, 1) := by decide +kernel
theorem dX10_undo_26 : decode cX10_undo 26 = .ok (.getfield 123, 3) := by decide +kernel
theorem dX10_undo_29 : decode cX10_undo 29 = .ok (.iaload, 1) := by decide +kernel
theorem dX10_undo_30 : decode cX10_undo 30 = .ok (.invokevirtual 180, 3) := by decide +kernel
theorem dX10_undo_33 : decode cX10_undo 33 = .ok (.aload_n 0, 1) := by decide +kernel
theorem dX10_undo_34 : decode cX10_undo 34 = .ok (.aload_n 0, 1) := by decide +kernel
theorem dX10_undo_35 : decode cX10_undo 35 = .ok (.getfield 26, 3) := by decide +kernel
theorem dX10_undo_38 : decode cX10_undo 38 = .ok (.aload_n 0, 1) := by decide +kernel
theorem dX10_undo_39 : decode cX10_undo 39 = .ok (.getfield 123, 3) := by decide +kernel
theorem dX10_undo_42 : decode cX10_undo 42 = .ok (.iaload, 1) := by decide +kernel
theorem dX10_undo_43 : decode cX10_undo 43 = .ok (.putfield 17, 3) := by decide +kernel
theorem dX10_undo_46 : decode cX10_undo 46 = .ok (.aload_n 0, 1) := by decide +kernel
theorem dX10_undo_47 : decode cX10_undo 47 = .ok (.aload_n 0, 1) := by decide +kernel
theorem dX10_undo_48 : decode cX10_undo 48 = .ok (.getfield 29, 3) := by decide +kernel
theorem dX10_undo_51 : decode cX10_undo 51 = .ok (.aload_n 0, 1) := by decide +kernel
theorem dX10_undo_52 : decode cX10_undo 52 = .ok (.getfield 123, 3) := by decide +kernel
theorem dX10_undo_55 : decode cX10_undo 55 = .ok (.iaload, 1) := by decide +kernel
theorem dX10_undo_56 : decode cX10_undo 56 = .ok (.putfield 20, 3) := by decide +kernel
theorem dX10_undo_59 : decode cX10_undo 59 = .ok (.aload_n 0, 1) := by decide +kernel
theorem dX10_undo_60 : decode cX10_undo 60 = .ok (.aload_n 0, 1) := by decide +kernel
theorem dX10_undo_61 : decode cX10_undo 61 = .ok (.getfield 32, 3) := by decide +kernel
theorem dX10_undo_64 : decode cX10_undo 64 = .ok (.aload_n 0, 1) := by decide +kernel
theorem dX10_undo_65 : decode cX10_undo 65 = .ok (.getfield 123, 3) := by decide +kernel
theorem dX10_undo_68 : decode cX10_undo 68 = .ok (.laload, 1) := by decide +kernel
theorem dX10_undo_69 : decode cX10_undo 69 = .ok (.putfield 119, 3) := by decide +kernel
theorem dX10_undo_72 : decode cX10_undo 72 = .ok (.aload_n 0, 1) := by decide +kernel
theorem dX10_undo_73 : decode cX10_undo 73 = .ok (.getfield 123, 3) := by decide +kernel
theorem dX10_undo_76 : decode cX10_undo 76 = .ok (.ireturn, 1) := by decide +kernel
theorem dX10_place_0 : decode cX10_place 0 = .ok (.iload_n 1, 1) := by decide +kernel
theorem dX10_place_1 : decode cX10_place 1 = .ok (.i2l, 1) := by decide +kernel
theorem dX10_place_2 : decode cX10_place 2 = .ok (.lconst 0, 1) := by decide +kernel
theorem dX10_place_3 : decode cX10_place 3 = .ok (.aload_n 0, 1) := by decide +kernel
theorem dX10_place_4 : decode cX10_place 4 = .ok (.getfield 7, 3) := by decide +kernel
theorem dX10_place_7 : decode cX10_place 7 = .ok (.iconst 1, 1) := by decide +kernel
theorem dX10_place_8 : decode cX10_place 8 = .ok (.isub, 1) := by decide +kernel
theorem dX10_place_9 : decode cX10_place 9 = .ok (.i2l, 1) := by decide +kernel
theorem dX10_place_10 : decode cX10_place 10 = .ok (.invokestatic 115, 3) := by decide +kernel
theorem dX10_place_13 : decode cX10_place 13 = .ok (.ifCond .eq 13, 3) := by decide +kernel
theorem dX10_place_16 : decode cX10_place 16 = .ok (.iload_n 2, 1) := by decide +kernel
theorem dX10_place_17 : decode cX10_place 17 = .ok (.i2l, 1) := by decide +kernel
theorem dX10_place_18 : decode cX10_place 18 = .ok (.lconst 0, 1) := by decide +kernel
theorem dX10_place_19 : decode cX10_place 19 = .ok (.lconst 1, 1) := by decide +kernel
theorem dX10_place_20 : decode cX10_place 20 = .ok (.invokestatic 115, 3) := by decide +kernel
theorem dX10_place_23 : decode cX10_place 23 = .ok (.ifCond .ne 5, 3) := by decide +kernel
theorem dX10_place_26 : decode cX10_place 26 = .ok (.iconst (-1), 1) := by decide +kernel
theorem dX10_place_27 : decode cX10_place 27 = .ok (.ireturn, 1) := by decide +kernel
theorem dX10_place_28 : decode cX10_place 28 = .ok (.aload_n 0, 1) := by decide +kernel
theorem dX10_place_29 : decode cX10_place 29 = .ok (.iload_n 1, 1) := by decide +kernel
theorem dX10_place_30 : decode cX10_place 30 = .ok (.invokevirtual 135, 3) := by decide +kernel
theorem dX10_place_33 : decode cX10_place 33 = .ok (.istore_n 3, 1) := by decide +kernel
theorem dX10_place_34 : decode cX10_place 34 = .ok (.iload_n 2, 1) := by decide +kernel
theorem dX10_place_35 : decode cX10_place 35 = .ok (.ifCond .ne 7, 3) := by decide +kernel
theorem dX10_place_38 : decode cX10_place 38 = .ok (.iload_n 3, 1) := by decide +kernel
theorem dX10_place_39 : decode cX10_place 39 = .ok (.goto 11, 3) := by decide +kernel
theorem dX10_place_42 : decode cX10_place 42 = .ok (.aload_n 0, 1) := by decide +kernel
theorem dX10_place_43 : decode cX10_place 43 = .ok (.getfield 17, 3) := by decide +kernel
theorem dX10_place_46 : decode cX10_place 46 = .ok (.iload_n 3, 1) := by decide +kernel
theorem dX10_place_47 : decode cX10_place 47 = .ok (.ishr, 1) := by decide +kernel
theorem dX10_place_48 : decode cX10_place 48 = .ok (.iconst 1, 1) := by decide +kernel
theorem dX10_place_49 : decode cX10_place 49 = .ok (.iand, 1) := by decide +kernel
theorem dX10_place_50 : decode cX10_place 50 = .ok (.ireturn, 1) := by decide +kernel
theorem dX10_aboveOf_0 : decode cX10_aboveOf 0 = .ok (.iconst 0, 1) := by decide +kernel
theorem dX10_aboveOf_1 : decode cX10_aboveOf 1 = .ok (.istore_n 2, 1) := by decide +kernel
theorem dX10_aboveOf_2 : decode cX10_aboveOf 2 = .ok (.iconst 0, 1) := by decide +kernel
theorem dX10_aboveOf_3 : decode cX10_aboveOf 3 = .ok (.istore_n 3, 1) := by decide +kernel
theorem dX10_aboveOf_4 : decode cX10_aboveOf 4 = .ok (.iload_n 3, 1) := by decide +kernel
theorem dX10_aboveOf_5 : decode cX10_aboveOf 5 = .ok (.aload_n 0, 1) := by decide +kernel
theorem dX10_aboveOf_6 : decode cX10_aboveOf 6 = .ok (.getfield 7, 3) := by decide +kernel
theorem dX10_aboveOf_9 : decode cX10_aboveOf 9 = .ok (.if_icmp .ge 26, 3) := by decide +kernel
theorem dX10_aboveOf_12 : decode cX10_aboveOf 12 = .ok (.iload_n 2, 1) := by decide +kernel
theorem dX10_aboveOf_13 : decode cX10_aboveOf 13 = .ok (.aload_n 0, 1) := by decide +kernel
theorem dX10_aboveOf_14 : decode cX10_aboveOf 14 = .ok (.iload_n 1, 1) := by decide +kernel
theorem dX10_aboveOf_15 : decode cX10_aboveOf 15 = .ok (.iload_n 3, 1) := by decide +kernel
theorem dX10_aboveOf_16 : decode cX10_aboveOf 16 = .ok (.invokevirtual 129, 3) := by decide +kernel
theorem dX10_aboveOf_19 : decode cX10_aboveOf 19 = .ok (.ifCond .eq 7, 3) := by decide +kernel
theorem dX10_aboveOf_22 : decode cX10_aboveOf 22 = .ok (.iconst 1, 1) := by decide +kernel
theorem dX10_aboveOf_23 : decode cX10_aboveOf 23 = .ok (.goto 4, 3) := by decide +kernel
theorem dX10_aboveOf_26 : decode cX10_aboveOf 26 = .ok (.iconst 0, 1) := by decide +kernel
theorem dX10_aboveOf_27 : decode cX10_aboveOf 27 = .ok (.iadd, 1) := by decide +kernel
theorem dX10_aboveOf_28 : decode cX10_aboveOf 28 = .ok (.istore_n 2, 1) := by decide +kernel
theorem dX10_aboveOf_29 : decode cX10_aboveOf 29 = .ok (.iinc 3 1, 3) := by decide +kernel
theorem dX10_aboveOf_32 : decode cX10_aboveOf 32 = .ok (.goto (-28), 3) := by decide +kernel
theorem dX10_aboveOf_35 : decode cX10_aboveOf 35 = .ok (.iload_n 2, 1) := by decide +kernel
theorem dX10_aboveOf_36 : decode cX10_aboveOf 36 = .ok (.ireturn, 1) := by decide +kernel
theorem dX10_belowOf_0 : decode cX10_belowOf 0 = .ok (.iconst 0, 1) := by decide +kernel
theorem dX10_belowOf_1 : decode cX10_belowOf 1 = .ok (.istore_n 2, 1) := by decide +kernel
theorem dX10_belowOf_2 : decode cX10_belowOf 2 = .ok (.iconst 0, 1) := by decide +kernel
theorem dX10_belowOf_3 : decode cX10_belowOf 3 = .ok (.istore_n 3, 1) := by decide +kernel
theorem dX10_belowOf_4 : decode cX10_belowOf 4 = .ok (.iload_n 3, 1) := by decide +kernel
theorem dX10_belowOf_5 : decode cX10_belowOf 5 = .ok (.aload_n 0, 1) := by decide +kernel
theorem dX10_belowOf_6 : decode cX10_belowOf 6 = .ok (.getfield 7, 3) := by decide +kernel
theorem dX10_belowOf_9 : decode cX10_belowOf 9 = .ok (.if_icmp .ge 26, 3) := by decide +kernel
theorem dX10_belowOf_12 : decode cX10_belowOf 12 = .ok (.iload_n 2, 1) := by decide +kernel
theorem dX10_belowOf_13 : decode cX10_belowOf 13 = .ok (.aload_n 0, 1) := by decide +kernel
theorem dX10_belowOf_14 : decode cX10_belowOf 14 = .ok (.iload_n 3, 1) := by decide +kernel
theorem dX10_belowOf_15 : decode cX10_belowOf 15 = .ok (.iload_n 1, 1) := by decide +kernel
theorem dX10_belowOf_16 : decode cX10_belowOf 16 = .ok (.invokevirtual 129, 3) := by decide +kernel
theorem dX10_belowOf_19 : decode cX10_belowOf 19 = .ok (.ifCond .eq 7, 3) := by decide +kernel
theorem dX10_belowOf_22 : decode cX10_belowOf 22 = .ok (.iconst 1, 1) := by decide +kernel
theorem dX10_belowOf_23 : decode cX10_belowOf 23 = .ok (.goto 4, 3) := by decide +kernel
theorem dX10_belowOf_26 : decode cX10_belowOf 26 = .ok (.iconst 0, 1) := by decide +kernel
theorem dX10_belowOf_27 : decode cX10_belowOf 27 = .ok (.iadd, 1) := by decide +kernel
theorem dX10_belowOf_28 : decode cX10_belowOf 28 = .ok (.istore_n 2, 1) := by decide +kernel
theorem dX10_belowOf_29 : decode cX10_belowOf 29 = .ok (.iinc 3 1, 3) := by decide +kernel
theorem dX10_belowOf_32 : decode cX10_belowOf 32 = .ok (.goto (-28), 3) := by decide +kernel
theorem dX10_belowOf_35 : decode cX10_belowOf 35 = .ok (.iload_n 2, 1) := by decide +kernel
theorem dX10_belowOf_36 : decode cX10_belowOf 36 = .ok (.ireturn, 1) := by decide +kernel
theorem dX10_layLayers_0 : decode cX10_layLayers 0 = .ok (.aload_n 0, 1) := by decide +kernel
theorem dX10_layLayers_1 : decode cX10_layLayers 1 = .ok (.getfield 20, 3) := by decide +kernel
theorem dX10_layLayers_4 : decode cX10_layLayers 4 = .ok (.istore_n 1, 1) := by decide +kernel
theorem dX10_layLayers_5 : decode cX10_layLayers 5 = .ok (.aload_n 0, 1) := by decide +kernel
theorem dX10_layLayers_6 : decode cX10_layLayers 6 = .ok (.iconst 0, 1) := by decide +kernel
theorem dX10_layLayers_7 : decode cX10_layLayers 7 = .ok (.putfield 189, 3) := by decide +kernel
theorem dX10_layLayers_10 : decode cX10_layLayers 10 = .ok (.iconst 0, 1) := by decide +kernel
theorem dX10_layLayers_11 : decode cX10_layLayers 11 = .ok (.istore_n 2, 1) := by decide +kernel
theorem dX10_layLayers_12 : decode cX10_layLayers 12 = .ok (.iload_n 2, 1) := by decide +kernel
theorem dX10_layLayers_13 : decode cX10_layLayers 13 = .ok (.bipush 8, 2) := by decide +kernel
theorem dX10_layLayers_15 : decode cX10_layLayers 15 = .ok (.if_icmp .ge 17, 3) := by decide +kernel
theorem dX10_layLayers_18 : decode cX10_layLayers 18 = .ok (.aload_n 0, 1) := by decide +kernel
theorem dX10_layLayers_19 : decode cX10_layLayers 19 = .ok (.getfield 36, 3) := by decide +kernel
theorem dX10_layLayers_22 : decode cX10_layLayers 22 = .ok (.iload_n 2, 1) := by decide +kernel
theorem dX10_layLayers_23 : decode cX10_layLayers 23 = .ok (.bipush (-4), 2) := by decide +kernel
theorem dX10_layLayers_25 : decode cX10_layLayers 25 = .ok (.iastore, 1) := by decide +kernel
theorem dX10_layLayers_26 : decode cX10_layLayers 26 = .ok (.iinc 2 1, 3) := by decide +kernel
theorem dX10_layLayers_29 : decode cX10_layLayers 29 = .ok (.goto (-17), 3) := by decide +kernel
theorem dX10_layLayers_32 : decode cX10_layLayers 32 = .ok (.iconst 1, 1) := by decide +kernel
theorem dX10_layLayers_33 : decode cX10_layLayers 33 = .ok (.istore_n 2, 1) := by decide +kernel
theorem dX10_layLayers_34 : decode cX10_layLayers 34 = .ok (.iload_n 2, 1) := by decide +kernel
theorem dX10_layLayers_35 : decode cX10_layLayers 35 = .ok (.ifCond .eq 193, 3) := by decide +kernel
theorem dX10_layLayers_38 : decode cX10_layLayers 38 = .ok (.iconst 0, 1) := by decide +kernel
theorem dX10_layLayers_39 : decode cX10_layLayers 39 = .ok (.istore_n 3, 1) := by decide +kernel
theorem dX10_layLayers_40 : decode cX10_layLayers 40 = .ok (.iconst 0, 1) := by decide +kernel
theorem dX10_layLayers_41 : decode cX10_layLayers 41 = .ok (.istore 4, 2) := by decide +kernel
theorem dX10_layLayers_43 : decode cX10_layLayers 43 = .ok (.iload 4, 2) := by decide +kernel
theorem dX10_layLayers_45 : decode cX10_layLayers 45 = .ok (.aload_n 0, 1) := by decide +kernel
theorem dX10_layLayers_46 : decode cX10_layLayers 46 = .ok (.getfield 7, 3) := by decide +kernel
theorem dX10_layLayers_49 : decode cX10_layLayers 49 = .ok (.if_icmp .ge 93, 3) := by decide +kernel
theorem dX10_layLayers_52 : decode cX10_layLayers 52 = .ok (.iload_n 1, 1) := by decide +kernel
theorem dX10_layLayers_53 : decode cX10_layLayers 53 = .ok (.iload 4, 2) := by decide +kernel
theorem dX10_layLayers_55 : decode cX10_layLayers 55 = .ok (.ishr, 1) := by decide +kernel
theorem dX10_layLayers_56 : decode cX10_layLayers 56 = .ok (.iconst 1, 1) := by decide +kernel
theorem dX10_layLayers_57 : decode cX10_layLayers 57 = .ok (.iand, 1) := by decide +kernel
theorem dX10_layLayers_58 : decode cX10_layLayers 58 = .ok (.iconst 1, 1) := by decide +kernel
theorem dX10_layLayers_59 : decode cX10_layLayers 59 = .ok (.if_icmp .ne 7, 3) := by decide +kernel
theorem dX10_layLayers_62 : decode cX10_layLayers 62 = .ok (.iconst 1, 1) := by decide +kernel
theorem dX10_layLayers_63 : decode cX10_layLayers 63 = .ok (.goto 4, 3) := by decide +kernel
theorem dX10_layLayers_66 : decode cX10_layLayers 66 = .ok (.iconst 0, 1) := by decide +kernel
theorem dX10_layLayers_67 : decode cX10_layLayers 67 = .ok (.istore 5, 2) := by decide +kernel
theorem dX10_layLayers_69 : decode cX10_layLayers 69 = .ok (.iconst 0, 1) := by decide +kernel
theorem dX10_layLayers_70 : decode cX10_layLayers 70 = .ok (.istore 6, 2) := by decide +kernel
theorem dX10_layLayers_72 : decode cX10_layLayers 72 = .ok (.iload 6, 2) := by decide +kernel
theorem dX10_layLayers_74 : decode cX10_layLayers 74 = .ok (.aload_n 0, 1) := by decide +kernel
theorem dX10_layLayers_75 : decode cX10_layLayers 75 = .ok (.getfield 7, 3) := by decide +kernel
theorem dX10_layLayers_78 : decode cX10_layLayers 78 = .ok (.if_icmp .ge 42, 3) := by decide +kernel
theorem dX10_layLayers_81 : decode cX10_layLayers 81 = .ok (.iload 5, 2) := by decide +kernel
theorem dX10_layLayers_83 : decode cX10_layLayers 83 = .ok (.ifCond .eq 28, 3) := by decide +kernel
theorem dX10_layLayers_86 : decode cX10_layLayers 86 = .ok (.iload_n 1, 1) := by decide +kernel
theorem dX10_layLayers_87 : decode cX10_layLayers 87 = .ok (.iload 6, 2) := by decide +kernel
theorem dX10_layLayers_89 : decode cX10_layLayers 89 = .ok (.ishr, 1) := by decide +kernel
theorem dX10_layLayers_90 : decode cX10_layLayers 90 = .ok (.iconst 1, 1) := by decide +kernel
theorem dX10_layLayers_91 : decode cX10_layLayers 91 = .ok (.iand, 1) := by decide +kernel
theorem dX10_layLayers_92 : decode cX10_layLayers 92 = .ok (.iconst 1, 1) := by decide +kernel
theorem dX10_layLayers_93 : decode cX10_layLayers 93 = .ok (.if_icmp .ne 14, 3) := by decide +kernel
theorem dX10_layLayers_96 : decode cX10_layLayers 96 = .ok (.aload_n 0, 1) := by decide +kernel
theorem dX10_layLayers_97 : decode cX10_layLayers 97 = .ok (.iload 6, 2) := by decide +kernel
theorem dX10_layLayers_99 : decode cX10_layLayers 99 = .ok (.iload 4, 2) := by decide +kernel
theorem dX10_layLayers_101 : decode cX10_layLayers 101 = .ok (.invokevirtual 129, 3) := by decide +kernel
theorem dX10_layLayers_104 : decode cX10_layLayers 104 = .ok (.ifCond .ne 7, 3) := by decide +kernel
theorem dX10_layLayers_107 : decode cX10_layLayers 107 = .ok (.iconst 1, 1) := by decide +kernel
theorem dX10_layLayers_108 : decode cX10_layLayers 108 = .ok (.goto 4, 3) := by decide +kernel
theorem dX10_layLayers_111 : decode cX10_layLayers 111 = .ok (.iconst 0, 1) := by decide +kernel
theorem dX10_layLayers_112 : decode cX10_layLayers 112 = .ok (.istore 5, 2) := by decide +kernel
theorem dX10_layLayers_114 : decode cX10_layLayers 114 = .ok (.iinc 6 1, 3) := by decide +kernel
theorem dX10_layLayers_117 : decode cX10_layLayers 117 = .ok (.goto (-45), 3) := by decide +kernel
theorem dX10_layLayers_120 : decode cX10_layLayers 120 = .ok (.iload_n 3, 1) := by decide +kernel
theorem dX10_layLayers_121 : decode cX10_layLayers 121 = .ok (.iload 5, 2) := by decide +kernel
theorem dX10_layLayers_123 : decode cX10_layLayers 123 = .ok (.ifCond .eq 10, 3) := by decide +kernel
theorem dX10_layLayers_126 : decode cX10_layLayers 126 = .ok (.iconst 1, 1) := by decide +kernel
theorem dX10_layLayers_127 : decode cX10_layLayers 127 = .ok (.iload 4, 2) := by decide +kernel
theorem dX10_layLayers_129 : decode cX10_layLayers 129 = .ok (.ishl, 1) := by decide +kernel
theorem dX10_layLayers_130 : decode cX10_layLayers 130 = .ok (.goto 4, 3) := by decide +kernel
theorem dX10_layLayers_133 : decode cX10_layLayers 133 = .ok (.iconst 0, 1) := by decide +kernel
theorem dX10_layLayers_134 : decode cX10_layLayers 134 = .ok (.ior, 1) := by decide +kernel
theorem dX10_layLayers_135 : decode cX10_layLayers 135 = .ok (.istore_n 3, 1) := by decide +kernel
theorem dX10_layLayers_136 : decode cX10_layLayers 136 = .ok (.iinc 4 1, 3) := by decide +kernel
theorem dX10_layLayers_139 : decode cX10_layLayers 139 = .ok (.goto (-96), 3) := by decide +kernel
theorem dX10_layLayers_142 : decode cX10_layLayers 142 = .ok (.iconst 0, 1) := by decide +kernel
theorem dX10_layLayers_143 : decode cX10_layLayers 143 = .ok (.istore 4, 2) := by decide +kernel
theorem dX10_layLayers_145 : decode cX10_layLayers 145 = .ok (.iload 4, 2) := by decide +kernel
theorem dX10_layLayers_147 : decode cX10_layLayers 147 = .ok (.aload_n 0, 1) := by decide +kernel
theorem dX10_layLayers_148 : decode cX10_layLayers 148 = .ok (.getfield 7, 3) := by decide +kernel
theorem dX10_layLayers_151 : decode cX10_layLayers 151 = .ok (.if_icmp .ge 40, 3) := by decide +kernel
theorem dX10_layLayers_154 : decode cX10_layLayers 154 = .ok (.aload_n 0, 1) := by decide +kernel
theorem dX10_layLayers_155 : decode cX10_layLayers 155 = .ok (.getfield 36, 3) := by decide +kernel
theorem dX10_layLayers_158 : decode cX10_layLayers 158 = .ok (.iload 4, 2) := by decide +kernel
theorem dX10_layLayers_160 : decode cX10_layLayers 160 = .ok (.iload_n 3, 1) := by decide +kernel
theorem dX10_layLayers_161 : decode cX10_layLayers 161 = .ok (.iload 4, 2) := by decide +kernel
theorem dX10_layLayers_163 : decode cX10_layLayers 163 = .ok (.ishr, 1) := by decide +kernel
theorem dX10_layLayers_164 : decode cX10_layLayers 164 = .ok (.iconst 1, 1) := by decide +kernel
theorem dX10_layLayers_165 : decode cX10_layLayers 165 = .ok (.iand, 1) := by decide +kernel
theorem dX10_layLayers_166 : decode cX10_layLayers 166 = .ok (.iconst 1, 1) := by decide +kernel
theorem dX10_layLayers_167 : decode cX10_layLayers 167 = .ok (.if_icmp .ne 10, 3) := by decide +kernel
theorem dX10_layLayers_170 : decode cX10_layLayers 170 = .ok (.aload_n 0, 1) := by decide +kernel
theorem dX10_layLayers_171 : decode cX10_layLayers 171 = .ok (.getfield 189, 3) := by decide +kernel
theorem dX10_layLayers_174 : decode cX10_layLayers 174 = .ok (.goto 10, 3) := by decide +kernel
theorem dX10_layLayers_177 : decode cX10_layLayers 177 = .ok (.aload_n 0, 1) := by decide +kernel
theorem dX10_layLayers_178 : decode cX10_layLayers 178 = .ok (.getfield 36, 3) := by decide +kernel
theorem dX10_layLayers_181 : decode cX10_layLayers 181 = .ok (.iload 4, 2) := by decide +kernel
theorem dX10_layLayers_183 : decode cX10_layLayers 183 = .ok (.iaload, 1) := by decide +kernel
theorem dX10_layLayers_184 : decode cX10_layLayers 184 = .ok (.iastore, 1) := by decide +kernel
theorem dX10_layLayers_185 : decode cX10_layLayers 185 = .ok (.iinc 4 1, 3) := by decide +kernel
theorem dX10_layLayers_188 : decode cX10_layLayers 188 = .ok (.goto (-43), 3) := by decide +kernel
theorem dX10_layLayers_191 : decode cX10_layLayers 191 = .ok (.iload_n 3, 1) := by decide +kernel
theorem dX10_layLayers_192 : decode cX10_layLayers 192 = .ok (.ifCond .eq 7, 3) := by decide +kernel
theorem dX10_layLayers_195 : decode cX10_layLayers 195 = .ok (.iconst 1, 1) := by decide +kernel
theorem dX10_layLayers_196 : decode cX10_layLayers 196 = .ok (.goto 4, 3) := by decide +kernel
theorem dX10_layLayers_199 : decode cX10_layLayers 199 = .ok (.iconst 0, 1) := by decide +kernel
theorem dX10_layLayers_200 : decode cX10_layLayers 200 = .ok (.istore_n 2, 1) := by decide +kernel
theorem dX10_layLayers_201 : decode cX10_layLayers 201 = .ok (.aload_n 0, 1) := by decide +kernel
theorem dX10_layLayers_202 : decode cX10_layLayers 202 = .ok (.dup, 1) := by decide +kernel
theorem dX10_layLayers_203 : decode cX10_layLayers 203 = .ok (.getfield 189, 3) := by decide +kernel
theorem dX10_layLayers_206 : decode cX10_layLayers 206 = .ok (.iload_n 2, 1) := by decide +kernel
theorem dX10_layLayers_207 : decode cX10_layLayers 207 = .ok (.ifCond .eq 7, 3) := by decide +kernel
theorem dX10_layLayers_210 : decode cX10_layLayers 210 = .ok (.iconst 1, 1) := by decide +kernel
theorem dX10_layLayers_211 : decode cX10_layLayers 211 = .ok (.goto 4, 3) := by decide +kernel
theorem dX10_layLayers_214 : decode cX10_layLayers 214 = .ok (.iconst 0, 1) := by decide +kernel
theorem dX10_layLayers_215 : decode cX10_layLayers 215 = .ok (.iadd, 1) := by decide +kernel
theorem dX10_layLayers_216 : decode cX10_layLayers 216 = .ok (.putfield 189, 3) := by decide +kernel
theorem dX10_layLayers_219 : decode cX10_layLayers 219 = .ok (.iload_n 1, 1) := by decide +kernel
theorem dX10_layLayers_220 : decode cX10_layLayers 220 = .ok (.iload_n 3, 1) := by decide +kernel
theorem dX10_layLayers_221 : decode cX10_layLayers 221 = .ok (.iconst (-1), 1) := by decide +kernel
theorem dX10_layLayers_222 : decode cX10_layLayers 222 = .ok (.ixor, 1) := by decide +kernel
theorem dX10_layLayers_223 : decode cX10_layLayers 223 = .ok (.iand, 1) := by decide +kernel
theorem dX10_layLayers_224 : decode cX10_layLayers 224 = .ok (.istore_n 1, 1) := by decide +kernel
theorem dX10_layLayers_225 : decode cX10_layLayers 225 = .ok (.goto (-191), 3) := by decide +kernel
theorem dX10_layLayers_228 : decode cX10_layLayers 228 = .ok (.aload_n 0, 1) := by decide +kernel
theorem dX10_layLayers_229 : decode cX10_layLayers 229 = .ok (.iload_n 1, 1) := by decide +kernel
theorem dX10_layLayers_230 : decode cX10_layLayers 230 = .ok (.putfield 192, 3) := by decide +kernel
theorem dX10_layLayers_233 : decode cX10_layLayers 233 = .ok (.return_, 1) := by decide +kernel
theorem dX10_blade_0 : decode cX10_blade 0 = .ok (.iload_n 1, 1) := by decide +kernel
theorem dX10_blade_1 : decode cX10_blade 1 = .ok (.i2l, 1) := by decide +kernel
theorem dX10_blade_2 : decode cX10_blade 2 = .ok (.lconst 0, 1) := by decide +kernel
theorem dX10_blade_3 : decode cX10_blade 3 = .ok (.aload_n 0, 1) := by decide +kernel
theorem dX10_blade_4 : decode cX10_blade 4 = .ok (.getfield 7, 3) := by decide +kernel
theorem dX10_blade_7 : decode cX10_blade 7 = .ok (.iconst 1, 1) := by decide +kernel
theorem dX10_blade_8 : decode cX10_blade 8 = .ok (.isub, 1) := by decide +kernel
theorem dX10_blade_9 : decode cX10_blade 9 = .ok (.i2l, 1) := by decide +kernel
theorem dX10_blade_10 : decode cX10_blade 10 = .ok (.invokestatic 115, 3) := by decide +kernel
theorem dX10_blade_13 : decode cX10_blade 13 = .ok (.ifCond .eq 15, 3) := by decide +kernel
theorem dX10_blade_16 : decode cX10_blade 16 = .ok (.iload_n 2, 1) := by decide +kernel
theorem dX10_blade_17 : decode cX10_blade 17 = .ok (.i2l, 1) := by decide +kernel
theorem dX10_blade_18 : decode cX10_blade 18 = .ok (.lconst 0, 1) := by decide +kernel
theorem dX10_blade_19 : decode cX10_blade 19 = .ok (.ldc2_w 111, 3) := by decide +kernel
theorem dX10_blade_22 : decode cX10_blade 22 = .ok (.invokestatic 115, 3) := by decide +kernel
theorem dX10_blade_25 : decode cX10_blade 25 = .ok (.ifCond .ne 5, 3) := by decide +kernel
theorem dX10_blade_28 : decode cX10_blade 28 = .ok (.iconst (-1), 1) := by decide +kernel
theorem dX10_blade_29 : decode cX10_blade 29 = .ok (.ireturn, 1) := by decide +kernel
theorem dX10_blade_30 : decode cX10_blade 30 = .ok (.iload_n 2, 1) := by decide +kernel
theorem dX10_blade_31 : decode cX10_blade 31 = .ok (.iconst 3, 1) := by decide +kernel
theorem dX10_blade_32 : decode cX10_blade 32 = .ok (.if_icmp .ne 46, 3) := by decide +kernel
theorem dX10_blade_35 : decode cX10_blade 35 = .ok (.iconst 0, 1) := by decide +kernel
theorem dX10_blade_36 : decode cX10_blade 36 = .ok (.istore_n 3, 1) := by decide +kernel
theorem dX10_blade_37 : decode cX10_blade 37 = .ok (.iconst 0, 1) := by decide +kernel
theorem dX10_blade_38 : decode cX10_blade 38 = .ok (.istore 4, 2) := by decide +kernel
theorem dX10_blade_40 : decode cX10_blade 40 = .ok (.iload 4, 2) := by decide +kernel
theorem dX10_blade_42 : decode cX10_blade 42 = .ok (.aload_n 0, 1) := by decide +kernel
theorem dX10_blade_43 : decode cX10_blade 43 = .ok (.getfield 7, 3) := by decide +kernel
theorem dX10_blade_46 : decode cX10_blade 46 = .ok (.if_icmp .ge 30, 3) := by decide +kernel
theorem dX10_blade_49 : decode cX10_blade 49 = .ok (.iload_n 3, 1) := by decide +kernel
theorem dX10_blade_50 : decode cX10_blade 50 = .ok (.aload_n 0, 1) := by decide +kernel
theorem dX10_blade_51 : decode cX10_blade 51 = .ok (.iload_n 1, 1) := by decide +kernel
theorem dX10_blade_52 : decode cX10_blade 52 = .ok (.iload 4, 2) := by decide +kernel
theorem dX10_blade_54 : decode cX10_blade 54 = .ok (.invokevirtual 146, 3) := by decide +kernel
theorem dX10_blade_57 : decode cX10_blade 57 = .ok (.ifCond .eq 10, 3) := by decide +kernel
theorem dX10_blade_60 : decode cX10_blade 60 = .ok (.iconst 1, 1) := by decide +kernel
theorem dX10_blade_61 : decode cX10_blade 61 = .ok (.iload 4, 2) := by decide +kernel
theorem dX10_blade_63 : decode cX10_blade 63 = .ok (.ishl, 1) := by decide +kernel
theorem dX10_blade_64 : decode cX10_blade 64 = .ok (.goto 4, 3) := by decide +kernel
theorem dX10_blade_67 : decode cX10_blade 67 = .ok (.iconst 0, 1) := by decide +kernel
theorem dX10_blade_68 : decode cX10_blade 68 = .ok (.ior, 1) := by decide +kernel
theorem dX10_blade_69 : decode cX10_blade 69 = .ok (.istore_n 3, 1) := by decide +kernel
theorem dX10_blade_70 : decode cX10_blade 70 = .ok (.iinc 4 1, 3) := by decide +kernel
theorem dX10_blade_73 : decode cX10_blade 73 = .ok (.goto (-33), 3) := by decide +kernel
theorem dX10_blade_76 : decode cX10_blade 76 = .ok (.iload_n 3, 1) := by decide +kernel
theorem dX10_blade_77 : decode cX10_blade 77 = .ok (.ireturn, 1) := by decide +kernel
theorem dX10_blade_78 : decode cX10_blade 78 = .ok (.aload_n 0, 1) := by decide +kernel
theorem dX10_blade_79 : decode cX10_blade 79 = .ok (.invokevirtual 195, 3) := by decide +kernel
theorem dX10_blade_82 : decode cX10_blade 82 = .ok (.iload_n 2, 1) := by decide +kernel
theorem dX10_blade_83 : decode cX10_blade 83 = .ok (.ifCond .ne 14, 3) := by decide +kernel
theorem dX10_blade_86 : decode cX10_blade 86 = .ok (.aload_n 0, 1) := by decide +kernel
theorem dX10_blade_87 : decode cX10_blade 87 = .ok (.getfield 20, 3) := by decide +kernel
theorem dX10_blade_90 : decode cX10_blade 90 = .ok (.iload_n 1, 1) := by decide +kernel
theorem dX10_blade_91 : decode cX10_blade 91 = .ok (.ishr, 1) := by decide +kernel
theorem dX10_blade_92 : decode cX10_blade 92 = .ok (.iconst 1, 1) := by decide +kernel
theorem dX10_blade_93 : decode cX10_blade 93 = .ok (.iand, 1) := by decide +kernel
theorem dX10_blade_94 : decode cX10_blade 94 = .ok (.goto 35, 3) := by decide +kernel
theorem dX10_blade_97 : decode cX10_blade 97 = .ok (.iload_n 2, 1) := by decide +kernel
theorem dX10_blade_98 : decode cX10_blade 98 = .ok (.iconst 1, 1) := by decide +kernel
theorem dX10_blade_99 : decode cX10_blade 99 = .ok (.if_icmp .ne 11, 3) := by decide +kernel
theorem dX10_blade_102 : decode cX10_blade 102 = .ok (.aload_n 0, 1) := by decide +kernel
theorem dX10_blade_103 : decode cX10_blade 103 = .ok (.iload_n 1, 1) := by decide +kernel
theorem dX10_blade_104 : decode cX10_blade 104 = .ok (.invokevirtual 198, 3) := by decide +kernel
theorem dX10_blade_107 : decode cX10_blade 107 = .ok (.goto 22, 3) := by decide +kernel
theorem dX10_blade_110 : decode cX10_blade 110 = .ok (.iload_n 2, 1) := by decide +kernel
theorem dX10_blade_111 : decode cX10_blade 111 = .ok (.iconst 2, 1) := by decide +kernel
theorem dX10_blade_112 : decode cX10_blade 112 = .ok (.if_icmp .ne 11, 3) := by decide +kernel
theorem dX10_blade_115 : decode cX10_blade 115 = .ok (.aload_n 0, 1) := by decide +kernel
theorem dX10_blade_116 : decode cX10_blade 116 = .ok (.iload_n 1, 1) := by decide +kernel
theorem dX10_blade_117 : decode cX10_blade 117 = .ok (.invokevirtual 201, 3) := by decide +kernel
theorem dX10_blade_120 : decode cX10_blade 120 = .ok (.goto 9, 3) := by decide +kernel
theorem dX10_blade_123 : decode cX10_blade 123 = .ok (.aload_n 0, 1) := by decide +kernel
theorem dX10_blade_124 : decode cX10_blade 124 = .ok (.getfield 36, 3) := by decide +kernel
theorem dX10_blade_127 : decode cX10_blade 127 = .ok (.iload_n 1, 1) := by decide +kernel
theorem dX10_blade_128 : decode cX10_blade 128 = .ok (.iaload, 1) := by decide +kernel
theorem dX10_blade_129 : decode cX10_blade 129 = .ok (.ireturn, 1) := by decide +kernel
theorem dX10_over_0 : decode cX10_over 0 = .ok (.iload_n 1, 1) := by decide +kernel
theorem dX10_over_1 : decode cX10_over 1 = .ok (.i2l, 1) := by decide +kernel
theorem dX10_over_2 : decode cX10_over 2 = .ok (.lconst 0, 1) := by decide +kernel
theorem dX10_over_3 : decode cX10_over 3 = .ok (.aload_n 0, 1) := by decide +kernel
theorem dX10_over_4 : decode cX10_over 4 = .ok (.getfield 7, 3) := by decide +kernel
theorem dX10_over_7 : decode cX10_over 7 = .ok (.iconst 1, 1) := by decide +kernel
theorem dX10_over_8 : decode cX10_over 8 = .ok (.isub, 1) := by decide +kernel
theorem dX10_over_9 : decode cX10_over 9 = .ok (.i2l, 1) := by decide +kernel
theorem dX10_over_10 : decode cX10_over 10 = .ok (.invokestatic 115, 3) := by decide +kernel
theorem dX10_over_13 : decode cX10_over 13 = .ok (.ifCond .eq 24, 3) := by decide +kernel
theorem dX10_over_16 : decode cX10_over 16 = .ok (.iload_n 2, 1) := by decide +kernel
theorem dX10_over_17 : decode cX10_over 17 = .ok (.i2l, 1) := by decide +kernel
theorem dX10_over_18 : decode cX10_over 18 = .ok (.lconst 0, 1) := by decide +kernel
theorem dX10_over_19 : decode cX10_over 19 = .ok (.aload_n 0, 1) := by decide +kernel
theorem dX10_over_20 : decode cX10_over 20 = .ok (.getfield 7, 3) := by decide +kernel
theorem dX10_over_23 : decode cX10_over 23 = .ok (.iconst 1, 1) := by decide +kernel
theorem dX10_over_24 : decode cX10_over 24 = .ok (.isub, 1) := by decide +kernel
theorem dX10_over_25 : decode cX10_over 25 = .ok (.i2l, 1) := by decide +kernel
theorem dX10_over_26 : decode cX10_over 26 = .ok (.invokestatic 115, 3) := by decide +kernel
theorem dX10_over_29 : decode cX10_over 29 = .ok (.ifCond .eq 8, 3) := by decide +kernel
theorem dX10_over_32 : decode cX10_over 32 = .ok (.iload_n 1, 1) := by decide +kernel
theorem dX10_over_33 : decode cX10_over 33 = .ok (.iload_n 2, 1) := by decide +kernel
theorem dX10_over_34 : decode cX10_over 34 = .ok (.if_icmp .ne 5, 3) := by decide +kernel
theorem dX10_over_37 : decode cX10_over 37 = .ok (.iconst (-1), 1) := by decide +kernel
theorem dX10_over_38 : decode cX10_over 38 = .ok (.ireturn, 1) := by decide +kernel
theorem dX10_over_39 : decode cX10_over 39 = .ok (.aload_n 0, 1) := by decide +kernel
theorem dX10_over_40 : decode cX10_over 40 = .ok (.iload_n 1, 1) := by decide +kernel
theorem dX10_over_41 : decode cX10_over 41 = .ok (.iload_n 2, 1) := by decide +kernel
theorem dX10_over_42 : decode cX10_over 42 = .ok (.invokevirtual 129, 3) := by decide +kernel
theorem dX10_over_45 : decode cX10_over 45 = .ok (.ifCond .eq 7, 3) := by decide +kernel
theorem dX10_over_48 : decode cX10_over 48 = .ok (.iconst 1, 1) := by decide +kernel
theorem dX10_over_49 : decode cX10_over 49 = .ok (.goto 18, 3) := by decide +kernel
theorem dX10_over_52 : decode cX10_over 52 = .ok (.aload_n 0, 1) := by decide +kernel
theorem dX10_over_53 : decode cX10_over 53 = .ok (.iload_n 2, 1) := by decide +kernel
theorem dX10_over_54 : decode cX10_over 54 = .ok (.iload_n 1, 1) := by decide +kernel
theorem dX10_over_55 : decode cX10_over 55 = .ok (.invokevirtual 129, 3) := by decide +kernel
theorem dX10_over_58 : decode cX10_over 58 = .ok (.ifCond .eq 7, 3) := by decide +kernel
theorem dX10_over_61 : decode cX10_over 61 = .ok (.iconst 0, 1) := by decide +kernel
theorem dX10_over_62 : decode cX10_over 62 = .ok (.goto 5, 3) := by decide +kernel
theorem dX10_over_65 : decode cX10_over 65 = .ok (.bipush (-4), 2) := by decide +kernel
theorem dX10_over_67 : decode cX10_over 67 = .ok (.ireturn, 1) := by decide +kernel
theorem dX10_isLock_0 : decode cX10_isLock 0 = .ok (.aload_n 0, 1) := by decide +kernel
theorem dX10_isLock_1 : decode cX10_isLock 1 = .ok (.getfield 20, 3) := by decide +kernel
theorem dX10_isLock_4 : decode cX10_isLock 4 = .ok (.iconst 1, 1) := by decide +kernel
theorem dX10_isLock_5 : decode cX10_isLock 5 = .ok (.aload_n 0, 1) := by decide +kernel
theorem dX10_isLock_6 : decode cX10_isLock 6 = .ok (.getfield 7, 3) := by decide +kernel
theorem dX10_isLock_9 : decode cX10_isLock 9 = .ok (.ishl, 1) := by decide +kernel
theorem dX10_isLock_10 : decode cX10_isLock 10 = .ok (.iconst 1, 1) := by decide +kernel
theorem dX10_isLock_11 : decode cX10_isLock 11 = .ok (.isub, 1) := by decide +kernel
theorem dX10_isLock_12 : decode cX10_isLock 12 = .ok (.if_icmp .ne 7, 3) := by decide +kernel
theorem dX10_isLock_15 : decode cX10_isLock 15 = .ok (.iconst 1, 1) := by decide +kernel
theorem dX10_isLock_16 : decode cX10_isLock 16 = .ok (.goto 4, 3) := by decide +kernel
theorem dX10_isLock_19 : decode cX10_isLock 19 = .ok (.iconst 0, 1) := by decide +kernel
theorem dX10_isLock_20 : decode cX10_isLock 20 = .ok (.istore_n 1, 1) := by decide +kernel
theorem dX10_isLock_21 : decode cX10_isLock 21 = .ok (.iconst 0, 1) := by decide +kernel
theorem dX10_isLock_22 : decode cX10_isLock 22 = .ok (.istore_n 2, 1) := by decide +kernel
theorem dX10_isLock_23 : decode cX10_isLock 23 = .ok (.iload_n 2, 1) := by decide +kernel
theorem dX10_isLock_24 : decode cX10_isLock 24 = .ok (.aload_n 0, 1) := by decide +kernel
theorem dX10_isLock_25 : decode cX10_isLock 25 = .ok (.getfield 7, 3) := by decide +kernel
theorem dX10_isLock_28 : decode cX10_isLock 28 = .ok (.if_icmp .ge 35, 3) := by decide +kernel
theorem dX10_isLock_31 : decode cX10_isLock 31 = .ok (.iload_n 1, 1) := by decide +kernel
theorem dX10_isLock_32 : decode cX10_isLock 32 = .ok (.ifCond .eq 23, 3) := by decide +kernel
theorem dX10_isLock_35 : decode cX10_isLock 35 = .ok (.aload_n 0, 1) := by decide +kernel
theorem dX10_isLock_36 : decode cX10_isLock 36 = .ok (.iload_n 2, 1) := by decide +kernel
theorem dX10_isLock_37 : decode cX10_isLock 37 = .ok (.invokevirtual 198, 3) := by decide +kernel
theorem dX10_isLock_40 : decode cX10_isLock 40 = .ok (.ifCond .le 15, 3) := by decide +kernel
theorem dX10_isLock_43 : decode cX10_isLock 43 = .ok (.aload_n 0, 1) := by decide +kernel
theorem dX10_isLock_44 : decode cX10_isLock 44 = .ok (.iload_n 2, 1) := by decide +kernel
theorem dX10_isLock_45 : decode cX10_isLock 45 = .ok (.invokevirtual 201, 3) := by decide +kernel
theorem dX10_isLock_48 : decode cX10_isLock 48 = .ok (.ifCond .le 7, 3) := by decide +kernel
theorem dX10_isLock_51 : decode cX10_isLock 51 = .ok (.iconst 1, 1) := by decide +kernel
theorem dX10_isLock_52 : decode cX10_isLock 52 = .ok (.goto 4, 3) := by decide +kernel
theorem dX10_isLock_55 : decode cX10_isLock 55 = .ok (.iconst 0, 1) := by decide +kernel
theorem dX10_isLock_56 : decode cX10_isLock 56 = .ok (.istore_n 1, 1) := by decide +kernel
theorem dX10_isLock_57 : decode cX10_isLock 57 = .ok (.iinc 2 1, 3) := by decide +kernel
theorem dX10_isLock_60 : decode cX10_isLock 60 = .ok (.goto (-37), 3) := by decide +kernel
theorem dX10_isLock_63 : decode cX10_isLock 63 = .ok (.iload_n 1, 1) := by decide +kernel
theorem dX10_isLock_64 : decode cX10_isLock 64 = .ok (.ireturn, 1) := by decide +kernel
theorem dX10_star_0 : decode cX10_star 0 = .ok (.aload_n 0, 1) := by decide +kernel
theorem dX10_star_1 : decode cX10_star 1 = .ok (.getfield 13, 3) := by decide +kernel
theorem dX10_star_4 : decode cX10_star 4 = .ok (.iconst 1, 1) := by decide +kernel
theorem dX10_star_5 : decode cX10_star 5 = .ok (.iaload, 1) := by decide +kernel
theorem dX10_star_6 : decode cX10_star 6 = .ok (.aload_n 0, 1) := by decide +kernel
theorem dX10_star_7 : decode cX10_star 7 = .ok (.getfield 13, 3) := by decide +kernel
theorem dX10_star_10 : decode cX10_star 10 = .ok (.iconst 0, 1) := by decide +kernel
theorem dX10_star_11 : decode cX10_star 11 = .ok (.iaload, 1) := by decide +kernel
theorem dX10_star_12 : decode cX10_star 12 = .ok (.isub, 1) := by decide +kernel
theorem dX10_star_13 : decode cX10_star 13 = .ok (.aload_n 0, 1) := by decide +kernel
theorem dX10_star_14 : decode cX10_star 14 = .ok (.getfield 7, 3) := by decide +kernel
theorem dX10_star_17 : decode cX10_star 17 = .ok (.iadd, 1) := by decide +kernel
theorem dX10_star_18 : decode cX10_star 18 = .ok (.aload_n 0, 1) := by decide +kernel
theorem dX10_star_19 : decode cX10_star 19 = .ok (.getfield 7, 3) := by decide +kernel
theorem dX10_star_22 : decode cX10_star 22 = .ok (.irem, 1) := by decide +kernel
theorem dX10_star_23 : decode cX10_star 23 = .ok (.istore_n 1, 1) := by decide +kernel
theorem dX10_star_24 : decode cX10_star 24 = .ok (.iload_n 1, 1) := by decide +kernel
theorem dX10_star_25 : decode cX10_star 25 = .ok (.i2l, 1) := by decide +kernel
theorem dX10_star_26 : decode cX10_star 26 = .ok (.ldc2_w 204, 3) := by decide +kernel
theorem dX10_star_29 : decode cX10_star 29 = .ok (.aload_n 0, 1) := by decide +kernel
theorem dX10_star_30 : decode cX10_star 30 = .ok (.getfield 7, 3) := by decide +kernel
theorem dX10_star_33 : decode cX10_star 33 = .ok (.iconst 2, 1) := by decide +kernel
theorem dX10_star_34 : decode cX10_star 34 = .ok (.isub, 1) := by decide +kernel
theorem dX10_star_35 : decode cX10_star 35 = .ok (.i2l, 1) := by decide +kernel
theorem dX10_star_36 : decode cX10_star 36 = .ok (.invokestatic 115, 3) := by decide +kernel
theorem dX10_star_39 : decode cX10_star 39 = .ok (.istore_n 2, 1) := by decide +kernel
theorem dX10_star_40 : decode cX10_star 40 = .ok (.iconst 0, 1) := by decide +kernel
theorem dX10_star_41 : decode cX10_star 41 = .ok (.istore_n 3, 1) := by decide +kernel
theorem dX10_star_42 : decode cX10_star 42 = .ok (.iload_n 3, 1) := by decide +kernel
theorem dX10_star_43 : decode cX10_star 43 = .ok (.aload_n 0, 1) := by decide +kernel
theorem dX10_star_44 : decode cX10_star 44 = .ok (.getfield 7, 3) := by decide +kernel
theorem dX10_star_47 : decode cX10_star 47 = .ok (.if_icmp .ge 53, 3) := by decide +kernel
theorem dX10_star_50 : decode cX10_star 50 = .ok (.iload_n 2, 1) := by decide +kernel
theorem dX10_star_51 : decode cX10_star 51 = .ok (.ifCond .eq 41, 3) := by decide +kernel
theorem dX10_star_54 : decode cX10_star 54 = .ok (.aload_n 0, 1) := by decide +kernel
theorem dX10_star_55 : decode cX10_star 55 = .ok (.getfield 13, 3) := by decide +kernel
theorem dX10_star_58 : decode cX10_star 58 = .ok (.iload_n 3, 1) := by decide +kernel
theorem dX10_star_59 : decode cX10_star 59 = .ok (.iconst 1, 1) := by decide +kernel
theorem dX10_star_60 : decode cX10_star 60 = .ok (.iadd, 1) := by decide +kernel
theorem dX10_star_61 : decode cX10_star 61 = .ok (.aload_n 0, 1) := by decide +kernel
theorem dX10_star_62 : decode cX10_star 62 = .ok (.getfield 7, 3) := by decide +kernel
theorem dX10_star_65 : decode cX10_star 65 = .ok (.irem, 1) := by decide +kernel
theorem dX10_star_66 : decode cX10_star 66 = .ok (.iaload, 1) := by decide +kernel
theorem dX10_star_67 : decode cX10_star 67 = .ok (.aload_n 0, 1) := by decide +kernel
theorem dX10_star_68 : decode cX10_star 68 = .ok (.getfield 13, 3) := by decide +kernel
theorem dX10_star_71 : decode cX10_star 71 = .ok (.iload_n 3, 1) := by decide +kernel
theorem dX10_star_72 : decode cX10_star 72 = .ok (.iaload, 1) := by decide +kernel
theorem dX10_star_73 : decode cX10_star 73 = .ok (.isub, 1) := by decide +kernel
theorem dX10_star_74 : decode cX10_star 74 = .ok (.aload_n 0, 1) := by decide +kernel
theorem dX10_star_75 : decode cX10_star 75 = .ok (.getfield 7, 3) := by decide +kernel
theorem dX10_star_78 : decode cX10_star 78 = .ok (.iadd, 1) := by decide +kernel
theorem dX10_star_79 : decode cX10_star 79 = .ok (.aload_n 0, 1) := by decide +kernel
theorem dX10_star_80 : decode cX10_star 80 = .ok (.getfield 7, 3) := by decide +kernel
theorem dX10_star_83 : decode cX10_star 83 = .ok (.irem, 1) := by decide +kernel
theorem dX10_star_84 : decode cX10_star 84 = .ok (.iload_n 1, 1) := by decide +kernel
theorem dX10_star_85 : decode cX10_star 85 = .ok (.if_icmp .ne 7, 3) := by decide +kernel
theorem dX10_star_88 : decode cX10_star 88 = .ok (.iconst 1, 1) := by decide +kernel
theorem dX10_star_89 : decode cX10_star 89 = .ok (.goto 4, 3) := by decide +kernel
theorem dX10_star_92 : decode cX10_star 92 = .ok (.iconst 0, 1) := by decide +kernel
theorem dX10_star_93 : decode cX10_star 93 = .ok (.istore_n 2, 1) := by decide +kernel
theorem dX10_star_94 : decode cX10_star 94 = .ok (.iinc 3 1, 3) := by decide +kernel
theorem dX10_star_97 : decode cX10_star 97 = .ok (.goto (-55), 3) := by decide +kernel
theorem dX10_star_100 : decode cX10_star 100 = .ok (.iload_n 2, 1) := by decide +kernel
theorem dX10_star_101 : decode cX10_star 101 = .ok (.ifCond .eq 7, 3) := by decide +kernel
theorem dX10_star_104 : decode cX10_star 104 = .ok (.iload_n 1, 1) := by decide +kernel
theorem dX10_star_105 : decode cX10_star 105 = .ok (.goto 5, 3) := by decide +kernel
theorem dX10_star_108 : decode cX10_star 108 = .ok (.bipush (-4), 2) := by decide +kernel
theorem dX10_star_110 : decode cX10_star 110 = .ok (.ireturn, 1) := by decide +kernel
theorem dX10_turns_0 : decode cX10_turns 0 = .ok (.iconst 0, 1) := by decide +kernel
theorem dX10_turns_1 : decode cX10_turns 1 = .ok (.istore_n 1, 1) := by decide +kernel
theorem dX10_turns_2 : decode cX10_turns 2 = .ok (.iconst 0, 1) := by decide +kernel
theorem dX10_turns_3 : decode cX10_turns 3 = .ok (.istore_n 2, 1) := by decide +kernel
theorem dX10_turns_4 : decode cX10_turns 4 = .ok (.iload_n 2, 1) := by decide +kernel
theorem dX10_turns_5 : decode cX10_turns 5 = .ok (.aload_n 0, 1) := by decide +kernel
theorem dX10_turns_6 : decode cX10_turns 6 = .ok (.getfield 7, 3) := by decide +kernel
theorem dX10_turns_9 : decode cX10_turns 9 = .ok (.if_icmp .ge 113, 3) := by decide +kernel
theorem dX10_turns_12 : decode cX10_turns 12 = .ok (.iconst 0, 1) := by decide +kernel
theorem dX10_turns_13 : decode cX10_turns 13 = .ok (.istore_n 3, 1) := by decide +kernel
theorem dX10_turns_14 : decode cX10_turns 14 = .ok (.iload_n 3, 1) := by decide +kernel
theorem dX10_turns_15 : decode cX10_turns 15 = .ok (.aload_n 0, 1) := by decide +kernel
theorem dX10_turns_16 : decode cX10_turns 16 = .ok (.getfield 7, 3) := by decide +kernel
theorem dX10_turns_19 : decode cX10_turns 19 = .ok (.if_icmp .ge 97, 3) := by decide +kernel
theorem dX10_turns_22 : decode cX10_turns 22 = .ok (.aload_n 0, 1) := by decide +kernel
theorem dX10_turns_23 : decode cX10_turns 23 = .ok (.iload_n 2, 1) := by decide +kernel
theorem dX10_turns_24 : decode cX10_turns 24 = .ok (.iload_n 3, 1) := by decide +kernel
theorem dX10_turns_25 : decode cX10_turns 25 = .ok (.invokevirtual 129, 3) := by decide +kernel
theorem dX10_turns_28 : decode cX10_turns 28 = .ok (.ifCond .eq 82, 3) := by decide +kernel
theorem dX10_turns_31 : decode cX10_turns 31 = .ok (.aload_n 0, 1) := by decide +kernel
theorem dX10_turns_32 : decode cX10_turns 32 = .ok (.getfield 13, 3) := by decide +kernel
theorem dX10_turns_35 : decode cX10_turns 35 = .ok (.iload_n 2, 1) := by decide +kernel
theorem dX10_turns_36 : decode cX10_turns 36 = .ok (.iconst 1, 1) := by decide +kernel
theorem dX10_turns_37 : decode cX10_turns 37 = .ok (.iadd, 1) := by decide +kernel
theorem dX10_turns_38 : decode cX10_turns 38 = .ok (.aload_n 0, 1) := by decide +kernel
theorem dX10_turns_39 : decode cX10_turns 39 = .ok (.getfield 7, 3) := by decide +kernel
theorem dX10_turns_42 : decode cX10_turns 42 = .ok (.irem, 1) := by decide +kernel
theorem dX10_turns_43 : decode cX10_turns 43 = .ok (.iaload, 1) := by decide +kernel
theorem dX10_turns_44 : decode cX10_turns 44 = .ok (.istore 4, 2) := by decide +kernel
theorem dX10_turns_46 : decode cX10_turns 46 = .ok (.aload_n 0, 1) := by decide +kernel
theorem dX10_turns_47 : decode cX10_turns 47 = .ok (.getfield 13, 3) := by decide +kernel
theorem dX10_turns_50 : decode cX10_turns 50 = .ok (.iload_n 2, 1) := by decide +kernel
theorem dX10_turns_51 : decode cX10_turns 51 = .ok (.iaload, 1) := by decide +kernel
theorem dX10_turns_52 : decode cX10_turns 52 = .ok (.iload 4, 2) := by decide +kernel
theorem dX10_turns_54 : decode cX10_turns 54 = .ok (.isub, 1) := by decide +kernel
theorem dX10_turns_55 : decode cX10_turns 55 = .ok (.aload_n 0, 1) := by decide +kernel
theorem dX10_turns_56 : decode cX10_turns 56 = .ok (.getfield 7, 3) := by decide +kernel
theorem dX10_turns_59 : decode cX10_turns 59 = .ok (.iadd, 1) := by decide +kernel
theorem dX10_turns_60 : decode cX10_turns 60 = .ok (.aload_n 0, 1) := by decide +kernel
theorem dX10_turns_61 : decode cX10_turns 61 = .ok (.getfield 7, 3) := by decide +kernel
theorem dX10_turns_64 : decode cX10_turns 64 = .ok (.irem, 1) := by decide +kernel
theorem dX10_turns_65 : decode cX10_turns 65 = .ok (.istore 5, 2) := by decide +kernel
theorem dX10_turns_67 : decode cX10_turns 67 = .ok (.aload_n 0, 1) := by decide +kernel
theorem dX10_turns_68 : decode cX10_turns 68 = .ok (.getfield 13, 3) := by decide +kernel
theorem dX10_turns_71 : decode cX10_turns 71 = .ok (.iload_n 3, 1) := by decide +kernel
theorem dX10_turns_72 : decode cX10_turns 72 = .ok (.iconst 1, 1) := by decide +kernel
theorem dX10_turns_73 : decode cX10_turns 73 = .ok (.iadd, 1) := by decide +kernel
theorem dX10_turns_74 : decode cX10_turns 74 = .ok (.aload_n 0, 1) := by decide +kernel
theorem dX10_turns_75 : decode cX10_turns 75 = .ok (.getfield 7, 3) := by decide +kernel
theorem dX10_turns_78 : decode cX10_turns 78 = .ok (.irem, 1) := by decide +kernel
theorem dX10_turns_79 : decode cX10_turns 79 = .ok (.iaload, 1) := by decide +kernel
theorem dX10_turns_80 : decode cX10_turns 80 = .ok (.iload 4, 2) := by decide +kernel
theorem dX10_turns_82 : decode cX10_turns 82 = .ok (.isub, 1) := by decide +kernel
theorem dX10_turns_83 : decode cX10_turns 83 = .ok (.aload_n 0, 1) := by decide +kernel
theorem dX10_turns_84 : decode cX10_turns 84 = .ok (.getfield 7, 3) := by decide +kernel
theorem dX10_turns_87 : decode cX10_turns 87 = .ok (.iadd, 1) := by decide +kernel
theorem dX10_turns_88 : decode cX10_turns 88 = .ok (.aload_n 0, 1) := by decide +kernel
theorem dX10_turns_89 : decode cX10_turns 89 = .ok (.getfield 7, 3) := by decide +kernel
theorem dX10_turns_92 : decode cX10_turns 92 = .ok (.irem, 1) := by decide +kernel
theorem dX10_turns_93 : decode cX10_turns 93 = .ok (.istore 6, 2) := by decide +kernel
theorem dX10_turns_95 : decode cX10_turns 95 = .ok (.iload_n 1, 1) := by decide +kernel
theorem dX10_turns_96 : decode cX10_turns 96 = .ok (.iload 6, 2) := by decide +kernel
theorem dX10_turns_98 : decode cX10_turns 98 = .ok (.iload 5, 2) := by decide +kernel
theorem dX10_turns_100 : decode cX10_turns 100 = .ok (.if_icmp .ge 7, 3) := by decide +kernel
theorem dX10_turns_103 : decode cX10_turns 103 = .ok (.iconst 1, 1) := by decide +kernel
theorem dX10_turns_104 : decode cX10_turns 104 = .ok (.goto 4, 3) := by decide +kernel
theorem dX10_turns_107 : decode cX10_turns 107 = .ok (.iconst (-1), 1) := by decide +kernel
theorem dX10_turns_108 : decode cX10_turns 108 = .ok (.iadd, 1) := by decide +kernel
theorem dX10_turns_109 : decode cX10_turns 109 = .ok (.istore_n 1, 1) := by decide +kernel
theorem dX10_turns_110 : decode cX10_turns 110 = .ok (.iinc 3 1, 3) := by decide +kernel
theorem dX10_turns_113 : decode cX10_turns 113 = .ok (.goto (-99), 3) := by decide +kernel
theorem dX10_turns_116 : decode cX10_turns 116 = .ok (.iinc 2 1, 3) := by decide +kernel
theorem dX10_turns_119 : decode cX10_turns 119 = .ok (.goto (-115), 3) := by decide +kernel
theorem dX10_turns_122 : decode cX10_turns 122 = .ok (.iload_n 1, 1) := by decide +kernel
theorem dX10_turns_123 : decode cX10_turns 123 = .ok (.ireturn, 1) := by decide +kernel
theorem dX10_sizeOf_0 : decode cX10_sizeOf 0 = .ok (.iconst 0, 1) := by decide +kernel
theorem dX10_sizeOf_1 : decode cX10_sizeOf 1 = .ok (.istore_n 2, 1) := by decide +kernel
theorem dX10_sizeOf_2 : decode cX10_sizeOf 2 = .ok (.iconst 0, 1) := by decide +kernel
theorem dX10_sizeOf_3 : decode cX10_sizeOf 3 = .ok (.istore_n 3, 1) := by decide +kernel
theorem dX10_sizeOf_4 : decode cX10_sizeOf 4 = .ok (.iload_n 3, 1) := by decide +kernel
theorem dX10_sizeOf_5 : decode cX10_sizeOf 5 = .ok (.bipush 64, 2) := by decide +kernel
theorem dX10_sizeOf_7 : decode cX10_sizeOf 7 = .ok (.if_icmp .ge 18, 3) := by decide +kernel
theorem dX10_sizeOf_10 : decode cX10_sizeOf 10 = .ok (.iload_n 2, 1) := by decide +kernel
theorem dX10_sizeOf_11 : decode cX10_sizeOf 11 = .ok (.lload_n 0, 1) := by decide +kernel
theorem dX10_sizeOf_12 : decode cX10_sizeOf 12 = .ok (.iload_n 3, 1) := by decide +kernel
theorem dX10_sizeOf_13 : decode cX10_sizeOf 13 = .ok (.lshr, 1) := by decide +kernel
theorem dX10_sizeOf_14 : decode cX10_sizeOf 14 = .ok (.l2i, 1) := by decide +kernel
theorem dX10_sizeOf_15 : decode cX10_sizeOf 15 = .ok (.iconst 1, 1) := by decide +kernel
theorem dX10_sizeOf_16 : decode cX10_sizeOf 16 = .ok (.iand, 1) := by decide +kernel
theorem dX10_sizeOf_17 : decode cX10_sizeOf 17 = .ok (.iadd, 1) := by decide +kernel
theorem dX10_sizeOf_18 : decode cX10_sizeOf 18 = .ok (.istore_n 2, 1) := by decide +kernel
theorem dX10_sizeOf_19 : decode cX10_sizeOf 19 = .ok (.iinc 3 1, 3) := by decide +kernel
theorem dX10_sizeOf_22 : decode cX10_sizeOf 22 = .ok (.goto (-18), 3) := by decide +kernel
theorem dX10_sizeOf_25 : decode cX10_sizeOf 25 = .ok (.iload_n 2, 1) := by decide +kernel
theorem dX10_sizeOf_26 : decode cX10_sizeOf 26 = .ok (.ireturn, 1) := by decide +kernel
theorem dX10_about_0 : decode cX10_about 0 = .ok (.iload_n 1, 1) := by decide +kernel
theorem dX10_about_1 : decode cX10_about 1 = .ok (.i2l, 1) := by decide +kernel
theorem dX10_about_2 : decode cX10_about 2 = .ok (.lconst 0, 1) := by decide +kernel
theorem dX10_about_3 : decode cX10_about 3 = .ok (.ldc2_w 206, 3) := by decide +kernel
theorem dX10_about_6 : decode cX10_about 6 = .ok (.invokestatic 115, 3) := by decide +kernel
theorem dX10_about_9 : decode cX10_about 9 = .ok (.ifCond .ne 5, 3) := by decide +kernel
theorem dX10_about_12 : decode cX10_about 12 = .ok (.iconst (-1), 1) := by decide +kernel
theorem dX10_about_13 : decode cX10_about 13 = .ok (.ireturn, 1) := by decide +kernel
theorem dX10_about_14 : decode cX10_about 14 = .ok (.aload_n 0, 1) := by decide +kernel
theorem dX10_about_15 : decode cX10_about 15 = .ok (.invokevirtual 195, 3) := by decide +kernel
theorem dX10_about_18 : decode cX10_about 18 = .ok (.iload_n 1, 1) := by decide +kernel
theorem dX10_about_19 : decode cX10_about 19 = .ok (.tableswitch 117 0 8 #[49, 54, 62, 75, 80, 89, 94, 99, 108], 49) := by decide +kernel
theorem dX10_about_68 : decode cX10_about 68 = .ok (.aload_n 0, 1) := by decide +kernel
theorem dX10_about_69 : decode cX10_about 69 = .ok (.getfield 7, 3) := by decide +kernel
theorem dX10_about_72 : decode cX10_about 72 = .ok (.ireturn, 1) := by decide +kernel
theorem dX10_about_73 : decode cX10_about 73 = .ok (.aload_n 0, 1) := by decide +kernel
theorem dX10_about_74 : decode cX10_about 74 = .ok (.getfield 119, 3) := by decide +kernel
theorem dX10_about_77 : decode cX10_about 77 = .ok (.invokestatic 208, 3) := by decide +kernel
theorem dX10_about_80 : decode cX10_about 80 = .ok (.ireturn, 1) := by decide +kernel
theorem dX10_about_81 : decode cX10_about 81 = .ok (.aload_n 0, 1) := by decide +kernel
theorem dX10_about_82 : decode cX10_about 82 = .ok (.invokevirtual 212, 3) := by decide +kernel
theorem dX10_about_85 : decode cX10_about 85 = .ok (.ifCond .eq 7, 3) := by decide +kernel
theorem dX10_about_88 : decode cX10_about 88 = .ok (.iconst 1, 1) := by decide +kernel
theorem dX10_about_89 : decode cX10_about 89 = .ok (.goto 4, 3) := by decide +kernel
theorem dX10_about_92 : decode cX10_about 92 = .ok (.iconst 0, 1) := by decide +kernel
theorem dX10_about_93 : decode cX10_about 93 = .ok (.ireturn, 1) := by decide +kernel
theorem dX10_about_94 : decode cX10_about 94 = .ok (.aload_n 0, 1) := by decide +kernel
theorem dX10_about_95 : decode cX10_about 95 = .ok (.getfield 189, 3) := by decide +kernel
theorem dX10_about_98 : decode cX10_about 98 = .ok (.ireturn, 1) := by decide +kernel
theorem dX10_about_99 : decode cX10_about 99 = .ok (.aload_n 0, 1) := by decide +kernel
theorem dX10_about_100 : decode cX10_about 100 = .ok (.getfield 192, 3) := by decide +kernel
theorem dX10_about_103 : decode cX10_about 103 = .ok (.i2l, 1) := by decide +kernel
theorem dX10_about_104 : decode cX10_about 104 = .ok (.invokestatic 208, 3) := by decide +kernel
theorem dX10_about_107 : decode cX10_about 107 = .ok (.ireturn, 1) := by decide +kernel
theorem dX10_about_108 : decode cX10_about 108 = .ok (.aload_n 0, 1) := by decide +kernel
theorem dX10_about_109 : decode cX10_about 109 = .ok (.invokevirtual 216, 3) := by decide +kernel
theorem dX10_about_112 : decode cX10_about 112 = .ok (.ireturn, 1) := by decide +kernel
theorem dX10_about_113 : decode cX10_about 113 = .ok (.aload_n 0, 1) := by decide +kernel
theorem dX10_about_114 : decode cX10_about 114 = .ok (.invokevirtual 219, 3) := by decide +kernel
theorem dX10_about_117 : decode cX10_about 117 = .ok (.ireturn, 1) := by decide +kernel
theorem dX10_about_118 : decode cX10_about 118 = .ok (.aload_n 0, 1) := by decide +kernel
theorem dX10_about_119 : decode cX10_about 119 = .ok (.getfield 17, 3) := by decide +kernel
theorem dX10_about_122 : decode cX10_about 122 = .ok (.i2l, 1) := by decide +kernel
theorem dX10_about_123 : decode cX10_about 123 = .ok (.invokestatic 208, 3) := by decide +kernel
theorem dX10_about_126 : decode cX10_about 126 = .ok (.ireturn, 1) := by decide +kernel
theorem dX10_about_127 : decode cX10_about 127 = .ok (.aload_n 0, 1) := by decide +kernel
theorem dX10_about_128 : decode cX10_about 128 = .ok (.getfield 20, 3) := by decide +kernel
theorem dX10_about_131 : decode cX10_about 131 = .ok (.i2l, 1) := by decide +kernel
theorem dX10_about_132 : decode cX10_about 132 = .ok (.invokestatic 208, 3) := by decide +kernel
theorem dX10_about_135 : decode cX10_about 135 = .ok (.ireturn, 1) := by decide +kernel
theorem dX10_about_136 : decode cX10_about 136 = .ok (.aload_n 0, 1) := by decide +kernel
theorem dX10_about_137 : decode cX10_about 137 = .ok (.getfield 123, 3) := by decide +kernel
theorem dX10_about_140 : decode cX10_about 140 = .ok (.ireturn, 1) := by decide +kernel
theorem dX10_can_0 : decode cX10_can 0 = .ok (.iload_n 1, 1) := by decide +kernel
theorem dX10_can_1 : decode cX10_can 1 = .ok (.i2l, 1) := by decide +kernel
theorem dX10_can_2 : decode cX10_can 2 = .ok (.lconst 0, 1) := by decide +kernel
theorem dX10_can_3 : decode cX10_can 3 = .ok (.lconst 1, 1) := by decide +kernel
theorem dX10_can_4 : decode cX10_can 4 = .ok (.invokestatic 115, 3) := by decide +kernel
theorem dX10_can_7 : decode cX10_can 7 = .ok (.ifCond .ne 5, 3) := by decide +kernel
theorem dX10_can_10 : decode cX10_can 10 = .ok (.iconst (-1), 1) := by decide +kernel
theorem dX10_can_11 : decode cX10_can 11 = .ok (.ireturn, 1) := by decide +kernel
theorem dX10_can_12 : decode cX10_can 12 = .ok (.iconst 0, 1) := by decide +kernel
theorem dX10_can_13 : decode cX10_can 13 = .ok (.istore_n 2, 1) := by decide +kernel
theorem dX10_can_14 : decode cX10_can 14 = .ok (.iconst 0, 1) := by decide +kernel
theorem dX10_can_15 : decode cX10_can 15 = .ok (.istore_n 3, 1) := by decide +kernel
theorem dX10_can_16 : decode cX10_can 16 = .ok (.iload_n 3, 1) := by decide +kernel
theorem dX10_can_17 : decode cX10_can 17 = .ok (.aload_n 0, 1) := by decide +kernel
theorem dX10_can_18 : decode cX10_can 18 = .ok (.getfield 7, 3) := by decide +kernel
theorem dX10_can_21 : decode cX10_can 21 = .ok (.if_icmp .ge 38, 3) := by decide +kernel
theorem dX10_can_24 : decode cX10_can 24 = .ok (.iload_n 2, 1) := by decide +kernel
theorem dX10_can_25 : decode cX10_can 25 = .ok (.aload_n 0, 1) := by decide +kernel
theorem dX10_can_26 : decode cX10_can 26 = .ok (.iload_n 3, 1) := by decide +kernel
theorem dX10_can_27 : decode cX10_can 27 = .ok (.iload_n 1, 1) := by decide +kernel
theorem dX10_can_28 : decode cX10_can 28 = .ok (.ifCond .ne 7, 3) := by decide +kernel
theorem dX10_can_31 : decode cX10_can 31 = .ok (.iconst 1, 1) := by decide +kernel
theorem dX10_can_32 : decode cX10_can 32 = .ok (.goto 4, 3) := by decide +kernel
theorem dX10_can_35 : decode cX10_can 35 = .ok (.iconst 0, 1) := by decide +kernel
theorem dX10_can_36 : decode cX10_can 36 = .ok (.iconst 1, 1) := by decide +kernel
theorem dX10_can_37 : decode cX10_can 37 = .ok (.invokevirtual 169, 3) := by decide +kernel
theorem dX10_can_40 : decode cX10_can 40 = .ok (.iconst 1, 1) := by decide +kernel
theorem dX10_can_41 : decode cX10_can 41 = .ok (.if_icmp .ne 9, 3) := by decide +kernel
theorem dX10_can_44 : decode cX10_can 44 = .ok (.iconst 1, 1) := by decide +kernel
theorem dX10_can_45 : decode cX10_can 45 = .ok (.iload_n 3, 1) := by decide +kernel
theorem dX10_can_46 : decode cX10_can 46 = .ok (.ishl, 1) := by decide +kernel
theorem dX10_can_47 : decode cX10_can 47 = .ok (.goto 4, 3) := by decide +kernel
theorem dX10_can_50 : decode cX10_can 50 = .ok (.iconst 0, 1) := by decide +kernel
theorem dX10_can_51 : decode cX10_can 51 = .ok (.ior, 1) := by decide +kernel
theorem dX10_can_52 : decode cX10_can 52 = .ok (.istore_n 2, 1) := by decide +kernel
theorem dX10_can_53 : decode cX10_can 53 = .ok (.iinc 3 1, 3) := by decide +kernel
theorem dX10_can_56 : decode cX10_can 56 = .ok (.goto (-40), 3) := by decide +kernel
theorem dX10_can_59 : decode cX10_can 59 = .ok (.iload_n 2, 1) := by decide +kernel
theorem dX10_can_60 : decode cX10_can 60 = .ok (.ireturn, 1) := by decide +kernel
theorem dX10_feed_0 : decode cX10_feed 0 = .ok (.aload_n 0, 1) := by decide +kernel
theorem dX10_feed_1 : decode cX10_feed 1 = .ok (.getfield 222, 3) := by decide +kernel
theorem dX10_feed_4 : decode cX10_feed 4 = .ok (.bipush 8, 2) := by decide +kernel
theorem dX10_feed_6 : decode cX10_feed 6 = .ok (.iadd, 1) := by decide +kernel
theorem dX10_feed_7 : decode cX10_feed 7 = .ok (.sipush 160, 3) := by decide +kernel
theorem dX10_feed_10 : decode cX10_feed 10 = .ok (.if_icmp .le 6, 3) := by decide +kernel
theorem dX10_feed_13 : decode cX10_feed 13 = .ok (.bipush (-3), 2) := by decide +kernel
theorem dX10_feed_15 : decode cX10_feed 15 = .ok (.ireturn, 1) := by decide +kernel
theorem dX10_feed_16 : decode cX10_feed 16 = .ok (.bipush 56, 2) := by decide +kernel
theorem dX10_feed_18 : decode cX10_feed 18 = .ok (.istore_n 3, 1) := by decide +kernel
theorem dX10_feed_19 : decode cX10_feed 19 = .ok (.iload_n 3, 1) := by decide +kernel
theorem dX10_feed_20 : decode cX10_feed 20 = .ok (.ifCond .lt 36, 3) := by decide +kernel
theorem dX10_feed_23 : decode cX10_feed 23 = .ok (.aload_n 0, 1) := by decide +kernel
theorem dX10_feed_24 : decode cX10_feed 24 = .ok (.getfield 39, 3) := by decide +kernel
theorem dX10_feed_27 : decode cX10_feed 27 = .ok (.aload_n 0, 1) := by decide +kernel
theorem dX10_feed_28 : decode cX10_feed 28 = .ok (.getfield 222, 3) := by decide +kernel
theorem dX10_feed_31 : decode cX10_feed 31 = .ok (.lload_n 1, 1) := by decide +kernel
theorem dX10_feed_32 : decode cX10_feed 32 = .ok (.iload_n 3, 1) := by decide +kernel
theorem dX10_feed_33 : decode cX10_feed 33 = .ok (.lshr, 1) := by decide +kernel
theorem dX10_feed_34 : decode cX10_feed 34 = .ok (.l2i, 1) := by decide +kernel
theorem dX10_feed_35 : decode cX10_feed 35 = .ok (.sipush 255, 3) := by decide +kernel
theorem dX10_feed_38 : decode cX10_feed 38 = .ok (.iand, 1) := by decide +kernel
theorem dX10_feed_39 : decode cX10_feed 39 = .ok (.iastore, 1) := by decide +kernel
theorem dX10_feed_40 : decode cX10_feed 40 = .ok (.aload_n 0, 1) := by decide +kernel
theorem dX10_feed_41 : decode cX10_feed 41 = .ok (.dup, 1) := by decide +kernel
theorem dX10_feed_42 : decode cX10_feed 42 = .ok (.getfield 222, 3) := by decide +kernel
theorem dX10_feed_45 : decode cX10_feed 45 = .ok (.iconst 1, 1) := by decide +kernel
theorem dX10_feed_46 : decode cX10_feed 46 = .ok (.iadd, 1) := by decide +kernel
theorem dX10_feed_47 : decode cX10_feed 47 = .ok (.putfield 222, 3) := by decide +kernel
theorem dX10_feed_50 : decode cX10_feed 50 = .ok (.iinc 3 (-8), 3) := by decide +kernel
theorem dX10_feed_53 : decode cX10_feed 53 = .ok (.goto (-34), 3) := by decide +kernel
theorem dX10_feed_56 : decode cX10_feed 56 = .ok (.aload_n 0, 1) := by decide +kernel
theorem dX10_feed_57 : decode cX10_feed 57 = .ok (.getfield 222, 3) := by decide +kernel
theorem dX10_feed_60 : decode cX10_feed 60 = .ok (.ireturn, 1) := by decide +kernel
theorem dX10_end_0 : decode cX10_end 0 = .ok (.iload_n 1, 1) := by decide +kernel
theorem dX10_end_1 : decode cX10_end 1 = .ok (.i2l, 1) := by decide +kernel
theorem dX10_end_2 : decode cX10_end 2 = .ok (.lconst 0, 1) := by decide +kernel
theorem dX10_end_3 : decode cX10_end 3 = .ok (.aload_n 0, 1) := by decide +kernel
theorem dX10_end_4 : decode cX10_end 4 = .ok (.getfield 222, 3) := by decide +kernel
theorem dX10_end_7 : decode cX10_end 7 = .ok (.i2l, 1) := by decide +kernel
theorem dX10_end_8 : decode cX10_end 8 = .ok (.invokestatic 115, 3) := by decide +kernel
theorem dX10_end_11 : decode cX10_end 11 = .ok (.ifCond .ne 5, 3) := by decide +kernel
theorem dX10_end_14 : decode cX10_end 14 = .ok (.iconst (-1), 1) := by decide +kernel
theorem dX10_end_15 : decode cX10_end 15 = .ok (.ireturn, 1) := by decide +kernel
theorem dX10_end_16 : decode cX10_end 16 = .ok (.aload_n 0, 1) := by decide +kernel
theorem dX10_end_17 : decode cX10_end 17 = .ok (.getfield 222, 3) := by decide +kernel
theorem dX10_end_20 : decode cX10_end 20 = .ok (.istore_n 2, 1) := by decide +kernel
theorem dX10_end_21 : decode cX10_end 21 = .ok (.aload_n 0, 1) := by decide +kernel
theorem dX10_end_22 : decode cX10_end 22 = .ok (.iload_n 1, 1) := by decide +kernel
theorem dX10_end_23 : decode cX10_end 23 = .ok (.putfield 222, 3) := by decide +kernel
theorem dX10_end_26 : decode cX10_end 26 = .ok (.iload_n 2, 1) := by decide +kernel
theorem dX10_end_27 : decode cX10_end 27 = .ok (.ireturn, 1) := by decide +kernel
theorem dX10_byteAt_0 : decode cX10_byteAt 0 = .ok (.iload_n 1, 1) := by decide +kernel
theorem dX10_byteAt_1 : decode cX10_byteAt 1 = .ok (.aload_n 0, 1) := by decide +kernel
theorem dX10_byteAt_2 : decode cX10_byteAt 2 = .ok (.getfield 222, 3) := by decide +kernel
theorem dX10_byteAt_5 : decode cX10_byteAt 5 = .ok (.if_icmp .ge 12, 3) := by decide +kernel
theorem dX10_byteAt_8 : decode cX10_byteAt 8 = .ok (.aload_n 0, 1) := by decide +kernel
theorem dX10_byteAt_9 : decode cX10_byteAt 9 = .ok (.getfield 39, 3) := by decide +kernel
theorem dX10_byteAt_12 : decode cX10_byteAt 12 = .ok (.iload_n 1, 1) := by decide +kernel
theorem dX10_byteAt_13 : decode cX10_byteAt 13 = .ok (.iaload, 1) := by decide +kernel
theorem dX10_byteAt_14 : decode cX10_byteAt 14 = .ok (.goto 5, 3) := by decide +kernel
theorem dX10_byteAt_17 : decode cX10_byteAt 17 = .ok (.bipush (-4), 2) := by decide +kernel
theorem dX10_byteAt_19 : decode cX10_byteAt 19 = .ok (.ireturn, 1) := by decide +kernel
theorem dX10_fails_0 : decode cX10_fails 0 = .ok (.aload_n 0, 1) := by decide +kernel
theorem dX10_fails_1 : decode cX10_fails 1 = .ok (.getfield 225, 3) := by decide +kernel
theorem dX10_fails_4 : decode cX10_fails 4 = .ok (.ifCond .ne 16, 3) := by decide +kernel
theorem dX10_fails_7 : decode cX10_fails 7 = .ok (.aload_n 0, 1) := by decide +kernel
theorem dX10_fails_8 : decode cX10_fails 8 = .ok (.iload_n 1, 1) := by decide +kernel
theorem dX10_fails_9 : decode cX10_fails 9 = .ok (.putfield 225, 3) := by decide +kernel
theorem dX10_fails_12 : decode cX10_fails 12 = .ok (.aload_n 0, 1) := by decide +kernel
theorem dX10_fails_13 : decode cX10_fails 13 = .ok (.aload_n 0, 1) := by decide +kernel
theorem dX10_fails_14 : decode cX10_fails 14 = .ok (.getfield 228, 3) := by decide +kernel
theorem dX10_fails_17 : decode cX10_fails 17 = .ok (.putfield 231, 3) := by decide +kernel
theorem dX10_fails_20 : decode cX10_fails 20 = .ok (.return_, 1) := by decide +kernel
theorem dX10_letterOf_0 : decode cX10_letterOf 0 = .ok (.iload_n 0, 1) := by decide +kernel
theorem dX10_letterOf_1 : decode cX10_letterOf 1 = .ok (.bipush 117, 2) := by decide +kernel
theorem dX10_letterOf_3 : decode cX10_letterOf 3 = .ok (.if_icmp .ne 7, 3) := by decide +kernel
theorem dX10_letterOf_6 : decode cX10_letterOf 6 = .ok (.iconst 0, 1) := by decide +kernel
theorem dX10_letterOf_7 : decode cX10_letterOf 7 = .ok (.goto 66, 3) := by decide +kernel
theorem dX10_letterOf_10 : decode cX10_letterOf 10 = .ok (.iload_n 0, 1) := by decide +kernel
theorem dX10_letterOf_11 : decode cX10_letterOf 11 = .ok (.bipush 111, 2) := by decide +kernel
theorem dX10_letterOf_13 : decode cX10_letterOf 13 = .ok (.if_icmp .ne 7, 3) := by decide +kernel
theorem dX10_letterOf_16 : decode cX10_letterOf 16 = .ok (.iconst 1, 1) := by decide +kernel
theorem dX10_letterOf_17 : decode cX10_letterOf 17 = .ok (.goto 56, 3) := by decide +kernel
theorem dX10_letterOf_20 : decode cX10_letterOf 20 = .ok (.iload_n 0, 1) := by decide +kernel
theorem dX10_letterOf_21 : decode cX10_letterOf 21 = .ok (.bipush 116, 2) := by decide +kernel
theorem dX10_letterOf_23 : decode cX10_letterOf 23 = .ok (.if_icmp .ne 7, 3) := by decide +kernel
theorem dX10_letterOf_26 : decode cX10_letterOf 26 = .ok (.iconst 2, 1) := by decide +kernel
theorem dX10_letterOf_27 : decode cX10_letterOf 27 = .ok (.goto 46, 3) := by decide +kernel
theorem dX10_letterOf_30 : decode cX10_letterOf 30 = .ok (.iload_n 0, 1) := by decide +kernel
theorem dX10_letterOf_31 : decode cX10_letterOf 31 = .ok (.bipush 114, 2) := by decide +kernel
theorem dX10_letterOf_33 : decode cX10_letterOf 33 = .ok (.if_icmp .ne 7, 3) := by decide +kernel
theorem dX10_letterOf_36 : decode cX10_letterOf 36 = .ok (.iconst 3, 1) := by decide +kernel
theorem dX10_letterOf_37 : decode cX10_letterOf 37 = .ok (.goto 36, 3) := by decide +kernel
theorem dX10_letterOf_40 : decode cX10_letterOf 40 = .ok (.iload_n 0, 1) := by decide +kernel
theorem dX10_letterOf_41 : decode cX10_letterOf 41 = .ok (.bipush 100, 2) := by decide +kernel
theorem dX10_letterOf_43 : decode cX10_letterOf 43 = .ok (.if_icmp .ne 7, 3) := by decide +kernel
theorem dX10_letterOf_46 : decode cX10_letterOf 46 = .ok (.iconst 4, 1) := by decide +kernel
theorem dX10_letterOf_47 : decode cX10_letterOf 47 = .ok (.goto 26, 3) := by decide +kernel
theorem dX10_letterOf_50 : decode cX10_letterOf 50 = .ok (.iload_n 0, 1) := by decide +kernel
theorem dX10_letterOf_51 : decode cX10_letterOf 51 = .ok (.bipush 107, 2) := by decide +kernel
theorem dX10_letterOf_53 : decode cX10_letterOf 53 = .ok (.if_icmp .ne 7, 3) := by decide +kernel
theorem dX10_letterOf_56 : decode cX10_letterOf 56 = .ok (.iconst 5, 1) := by decide +kernel
theorem dX10_letterOf_57 : decode cX10_letterOf 57 = .ok (.goto 16, 3) := by decide +kernel
theorem dX10_letterOf_60 : decode cX10_letterOf 60 = .ok (.iload_n 0, 1) := by decide +kernel
theorem dX10_letterOf_61 : decode cX10_letterOf 61 = .ok (.bipush 102, 2) := by decide +kernel
theorem dX10_letterOf_63 : decode cX10_letterOf 63 = .ok (.if_icmp .ne 8, 3) := by decide +kernel
theorem dX10_letterOf_66 : decode cX10_letterOf 66 = .ok (.bipush 6, 2) := by decide +kernel
theorem dX10_letterOf_68 : decode cX10_letterOf 68 = .ok (.goto 5, 3) := by decide +kernel
theorem dX10_letterOf_71 : decode cX10_letterOf 71 = .ok (.bipush (-4), 2) := by decide +kernel
theorem dX10_letterOf_73 : decode cX10_letterOf 73 = .ok (.ireturn, 1) := by decide +kernel
theorem dX10_next_0 : decode cX10_next 0 = .ok (.aload_n 0, 1) := by decide +kernel
theorem dX10_next_1 : decode cX10_next 1 = .ok (.getfield 225, 3) := by decide +kernel
theorem dX10_next_4 : decode cX10_next 4 = .ok (.ifCond .le 4, 3) := by decide +kernel
theorem dX10_next_7 : decode cX10_next 7 = .ok (.return_, 1) := by decide +kernel
theorem dX10_next_8 : decode cX10_next 8 = .ok (.aload_n 0, 1) := by decide +kernel
theorem dX10_next_9 : decode cX10_next 9 = .ok (.aload_n 0, 1) := by decide +kernel
theorem dX10_next_10 : decode cX10_next 10 = .ok (.getfield 234, 3) := by decide +kernel
theorem dX10_next_13 : decode cX10_next 13 = .ok (.invokevirtual 237, 3) := by decide +kernel
theorem dX10_next_16 : decode cX10_next 16 = .ok (.bipush 32, 2) := by decide +kernel
theorem dX10_next_18 : decode cX10_next 18 = .ok (.if_icmp .ne 16, 3) := by decide +kernel
theorem dX10_next_21 : decode cX10_next 21 = .ok (.aload_n 0, 1) := by decide +kernel
theorem dX10_next_22 : decode cX10_next 22 = .ok (.dup, 1) := by decide +kernel
theorem dX10_next_23 : decode cX10_next 23 = .ok (.getfield 234, 3) := by decide +kernel
theorem dX10_next_26 : decode cX10_next 26 = .ok (.iconst 1, 1) := by decide +kernel
theorem dX10_next_27 : decode cX10_next 27 = .ok (.iadd, 1) := by decide +kernel
theorem dX10_next_28 : decode cX10_next 28 = .ok (.putfield 234, 3) := by decide +kernel
theorem dX10_next_31 : decode cX10_next 31 = .ok (.goto (-23), 3) := by decide +kernel
theorem dX10_next_34 : decode cX10_next 34 = .ok (.aload_n 0, 1) := by decide +kernel
theorem dX10_next_35 : decode cX10_next 35 = .ok (.aload_n 0, 1) := by decide +kernel
theorem dX10_next_36 : decode cX10_next 36 = .ok (.getfield 234, 3) := by decide +kernel
theorem dX10_next_39 : decode cX10_next 39 = .ok (.putfield 228, 3) := by decide +kernel
theorem dX10_next_42 : decode cX10_next 42 = .ok (.aload_n 0, 1) := by decide +kernel
theorem dX10_next_43 : decode cX10_next 43 = .ok (.aload_n 0, 1) := by decide +kernel
theorem dX10_next_44 : decode cX10_next 44 = .ok (.getfield 234, 3) := by decide +kernel
theorem dX10_next_47 : decode cX10_next 47 = .ok (.invokevirtual 237, 3) := by decide +kernel
theorem dX10_next_50 : decode cX10_next 50 = .ok (.istore_n 1, 1) := by decide +kernel
theorem dX10_next_51 : decode cX10_next 51 = .ok (.iload_n 1, 1) := by decide +kernel
theorem dX10_next_52 : decode cX10_next 52 = .ok (.bipush (-4), 2) := by decide +kernel
theorem dX10_next_54 : decode cX10_next 54 = .ok (.if_icmp .ne 11, 3) := by decide +kernel
theorem dX10_next_57 : decode cX10_next 57 = .ok (.aload_n 0, 1) := by decide +kernel
theorem dX10_next_58 : decode cX10_next 58 = .ok (.iconst 0, 1) := by decide +kernel
theorem dX10_next_59 : decode cX10_next 59 = .ok (.putfield 240, 3) := by decide +kernel
theorem dX10_next_62 : decode cX10_next 62 = .ok (.goto 200, 3) := by decide +kernel
theorem dX10_next_65 : decode cX10_next 65 = .ok (.iload_n 1, 1) := by decide +kernel
theorem dX10_next_66 : decode cX10_next 66 = .ok (.i2l, 1) := by decide +kernel
theorem dX10_next_67 : decode cX10_next 67 = .ok (.ldc2_w 243, 3) := by decide +kernel
theorem dX10_next_70 : decode cX10_next 70 = .ok (.ldc2_w 245, 3) := by decide +kernel
theorem dX10_next_73 : decode cX10_next 73 = .ok (.invokestatic 115, 3) := by decide +kernel
theorem dX10_next_76 : decode cX10_next 76 = .ok (.ifCond .eq 111, 3) := by decide +kernel
theorem dX10_next_79 : decode cX10_next 79 = .ok (.aload_n 0, 1) := by decide +kernel
theorem dX10_next_80 : decode cX10_next 80 = .ok (.iconst 2, 1) := by decide +kernel
theorem dX10_next_81 : decode cX10_next 81 = .ok (.putfield 240, 3) := by decide +kernel
theorem dX10_next_84 : decode cX10_next 84 = .ok (.aload_n 0, 1) := by decide +kernel
theorem dX10_next_85 : decode cX10_next 85 = .ok (.iconst 0, 1) := by decide +kernel
theorem dX10_next_86 : decode cX10_next 86 = .ok (.putfield 247, 3) := by decide +kernel
theorem dX10_next_89 : decode cX10_next 89 = .ok (.aload_n 0, 1) := by decide +kernel
theorem dX10_next_90 : decode cX10_next 90 = .ok (.aload_n 0, 1) := by decide +kernel
theorem dX10_next_91 : decode cX10_next 91 = .ok (.getfield 234, 3) := by decide +kernel
theorem dX10_next_94 : decode cX10_next 94 = .ok (.invokevirtual 237, 3) := by decide +kernel
theorem dX10_next_97 : decode cX10_next 97 = .ok (.i2l, 1) := by decide +kernel
theorem dX10_next_98 : decode cX10_next 98 = .ok (.ldc2_w 243, 3) := by decide +kernel
theorem dX10_next_101 : decode cX10_next 101 = .ok (.ldc2_w 245, 3) := by decide +kernel
theorem dX10_next_104 : decode cX10_next 104 = .ok (.invokestatic 115, 3) := by decide +kernel
theorem dX10_next_107 : decode cX10_next 107 = .ok (.ifCond .eq 59, 3) := by decide +kernel
theorem dX10_next_110 : decode cX10_next 110 = .ok (.aload_n 0, 1) := by decide +kernel
theorem dX10_next_111 : decode cX10_next 111 = .ok (.aload_n 0, 1) := by decide +kernel
theorem dX10_next_112 : decode cX10_next 112 = .ok (.getfield 234, 3) := by decide +kernel
theorem dX10_next_115 : decode cX10_next 115 = .ok (.aload_n 0, 1) := by decide +kernel
theorem dX10_next_116 : decode cX10_next 116 = .ok (.getfield 228, 3) := by decide +kernel
theorem dX10_next_119 : decode cX10_next 119 = .ok (.isub, 1) := by decide +kernel
theorem dX10_next_120 : decode cX10_next 120 = .ok (.iconst 2, 1) := by decide +kernel
theorem dX10_next_121 : decode cX10_next 121 = .ok (.if_icmp .ge 25, 3) := by decide +kernel
theorem dX10_next_124 : decode cX10_next 124 = .ok (.bipush 10, 2) := by decide +kernel
theorem dX10_next_126 : decode cX10_next 126 = .ok (.aload_n 0, 1) := by decide +kernel
theorem dX10_next_127 : decode cX10_next 127 = .ok (.getfield 247, 3) := by decide +kernel
theorem dX10_next_130 : decode cX10_next 130 = .ok (.imul, 1) := by decide +kernel
theorem dX10_next_131 : decode cX10_next 131 = .ok (.aload_n 0, 1) := by decide +kernel
theorem dX10_next_132 : decode cX10_next 132 = .ok (.aload_n 0, 1) := by decide +kernel
theorem dX10_next_133 : decode cX10_next 133 = .ok (.getfield 234, 3) := by decide +kernel
theorem dX10_next_136 : decode cX10_next 136 = .ok (.invokevirtual 237, 3) := by decide +kernel
theorem dX10_next_139 : decode cX10_next 139 = .ok (.iadd, 1) := by decide +kernel
theorem dX10_next_140 : decode cX10_next 140 = .ok (.bipush 48, 2) := by decide +kernel
theorem dX10_next_142 : decode cX10_next 142 = .ok (.isub, 1) := by decide +kernel
theorem dX10_next_143 : decode cX10_next 143 = .ok (.goto 7, 3) := by decide +kernel
theorem dX10_next_146 : decode cX10_next 146 = .ok (.aload_n 0, 1) := by decide +kernel
theorem dX10_next_147 : decode cX10_next 147 = .ok (.getfield 247, 3) := by decide +kernel
theorem dX10_next_150 : decode cX10_next 150 = .ok (.putfield 247, 3) := by decide +kernel
theorem dX10_next_153 : decode cX10_next 153 = .ok (.aload_n 0, 1) := by decide +kernel
theorem dX10_next_154 : decode cX10_next 154 = .ok (.dup, 1) := by decide +kernel
theorem dX10_next_155 : decode cX10_next 155 = .ok (.getfield 234, 3) := by decide +kernel
theorem dX10_next_158 : decode cX10_next 158 = .ok (.iconst 1, 1) := by decide +kernel
theorem dX10_next_159 : decode cX10_next 159 = .ok (.iadd, 1) := by decide +kernel
theorem dX10_next_160 : decode cX10_next 160 = .ok (.putfield 234, 3) := by decide +kernel
theorem dX10_next_163 : decode cX10_next 163 = .ok (.goto (-74), 3) := by decide +kernel
theorem dX10_next_166 : decode cX10_next 166 = .ok (.aload_n 0, 1) := by decide +kernel
theorem dX10_next_167 : decode cX10_next 167 = .ok (.getfield 234, 3) := by decide +kernel
theorem dX10_next_170 : decode cX10_next 170 = .ok (.aload_n 0, 1) := by decide +kernel
theorem dX10_next_171 : decode cX10_next 171 = .ok (.getfield 228, 3) := by decide +kernel
theorem dX10_next_174 : decode cX10_next 174 = .ok (.isub, 1) := by decide +kernel
theorem dX10_next_175 : decode cX10_next 175 = .ok (.iconst 2, 1) := by decide +kernel
theorem dX10_next_176 : decode cX10_next 176 = .ok (.if_icmp .le 86, 3) := by decide +kernel
theorem dX10_next_179 : decode cX10_next 179 = .ok (.aload_n 0, 1) := by decide +kernel
theorem dX10_next_180 : decode cX10_next 180 = .ok (.iconst 1, 1) := by decide +kernel
theorem dX10_next_181 : decode cX10_next 181 = .ok (.invokevirtual 250, 3) := by decide +kernel
theorem dX10_next_184 : decode cX10_next 184 = .ok (.goto 78, 3) := by decide +kernel
theorem dX10_next_187 : decode cX10_next 187 = .ok (.aload_n 0, 1) := by decide +kernel
theorem dX10_next_188 : decode cX10_next 188 = .ok (.dup, 1) := by decide +kernel
theorem dX10_next_189 : decode cX10_next 189 = .ok (.getfield 234, 3) := by decide +kernel
theorem dX10_next_192 : decode cX10_next 192 = .ok (.iconst 1, 1) := by decide +kernel
theorem dX10_next_193 : decode cX10_next 193 = .ok (.iadd, 1) := by decide +kernel
theorem dX10_next_194 : decode cX10_next 194 = .ok (.putfield 234, 3) := by decide +kernel
theorem dX10_next_197 : decode cX10_next 197 = .ok (.aload_n 0, 1) := by decide +kernel
theorem dX10_next_198 : decode cX10_next 198 = .ok (.iload_n 1, 1) := by decide +kernel
theorem dX10_next_199 : decode cX10_next 199 = .ok (.bipush 40, 2) := by decide +kernel
theorem dX10_next_201 : decode cX10_next 201 = .ok (.if_icmp .ne 7, 3) := by decide +kernel
theorem dX10_next_204 : decode cX10_next 204 = .ok (.iconst 3, 1) := by decide +kernel
theorem dX10_next_205 : decode cX10_next 205 = .ok (.goto 24, 3) := by decide +kernel
theorem dX10_next_208 : decode cX10_next 208 = .ok (.iload_n 1, 1) := by decide +kernel
theorem dX10_next_209 : decode cX10_next 209 = .ok (.bipush 41, 2) := by decide +kernel
theorem dX10_next_211 : decode cX10_next 211 = .ok (.if_icmp .ne 7, 3) := by decide +kernel
theorem dX10_next_214 : decode cX10_next 214 = .ok (.iconst 4, 1) := by decide +kernel
theorem dX10_next_215 : decode cX10_next 215 = .ok (.goto 14, 3) := by decide +kernel
theorem dX10_next_218 : decode cX10_next 218 = .ok (.iload_n 1, 1) := by decide +kernel
theorem dX10_next_219 : decode cX10_next 219 = .ok (.bipush 46, 2) := by decide +kernel
theorem dX10_next_221 : decode cX10_next 221 = .ok (.if_icmp .ne 7, 3) := by decide +kernel
theorem dX10_next_224 : decode cX10_next 224 = .ok (.iconst 5, 1) := by decide +kernel
theorem dX10_next_225 : decode cX10_next 225 = .ok (.goto 4, 3) := by decide +kernel
theorem dX10_next_228 : decode cX10_next 228 = .ok (.iconst 1, 1) := by decide +kernel
theorem dX10_next_229 : decode cX10_next 229 = .ok (.putfield 240, 3) := by decide +kernel
theorem dX10_next_232 : decode cX10_next 232 = .ok (.aload_n 0, 1) := by decide +kernel
theorem dX10_next_233 : decode cX10_next 233 = .ok (.iload_n 1, 1) := by decide +kernel
theorem dX10_next_234 : decode cX10_next 234 = .ok (.invokestatic 253, 3) := by decide +kernel
theorem dX10_next_237 : decode cX10_next 237 = .ok (.putfield 247, 3) := by decide +kernel
theorem dX10_next_240 : decode cX10_next 240 = .ok (.aload_n 0, 1) := by decide +kernel
theorem dX10_next_241 : decode cX10_next 241 = .ok (.getfield 240, 3) := by decide +kernel
theorem dX10_next_244 : decode cX10_next 244 = .ok (.iconst 1, 1) := by decide +kernel
theorem dX10_next_245 : decode cX10_next 245 = .ok (.if_icmp .ne 17, 3) := by decide +kernel
theorem dX10_next_248 : decode cX10_next 248 = .ok (.aload_n 0, 1) := by decide +kernel
theorem dX10_next_249 : decode cX10_next 249 = .ok (.getfield 247, 3) := by decide +kernel
theorem dX10_next_252 : decode cX10_next 252 = .ok (.bipush (-4), 2) := by decide +kernel
theorem dX10_next_254 : decode cX10_next 254 = .ok (.if_icmp .ne 8, 3) := by decide +kernel
theorem dX10_next_257 : decode cX10_next 257 = .ok (.aload_n 0, 1) := by decide +kernel
theorem dX10_next_258 : decode cX10_next 258 = .ok (.iconst 1, 1) := by decide +kernel
theorem dX10_next_259 : decode cX10_next 259 = .ok (.invokevirtual 250, 3) := by decide +kernel
theorem dX10_next_262 : decode cX10_next 262 = .ok (.return_, 1) := by decide +kernel
theorem dX10_beat_0 : decode cX10_beat 0 = .ok (.aload_n 0, 1) := by decide +kernel
theorem dX10_beat_1 : decode cX10_beat 1 = .ok (.getfield 256, 3) := by decide +kernel
theorem dX10_beat_4 : decode cX10_beat 4 = .ok (.sipush 200, 3) := by decide +kernel
theorem dX10_beat_7 : decode cX10_beat 7 = .ok (.if_icmp .gt 65, 3) := by decide +kernel
theorem dX10_beat_10 : decode cX10_beat 10 = .ok (.aload_n 0, 1) := by decide +kernel
theorem dX10_beat_11 : decode cX10_beat 11 = .ok (.getfield 51, 3) := by decide +kernel
theorem dX10_beat_14 : decode cX10_beat 14 = .ok (.aload_n 0, 1) := by decide +kernel
theorem dX10_beat_15 : decode cX10_beat 15 = .ok (.getfield 256, 3) := by decide +kernel
theorem dX10_beat_18 : decode cX10_beat 18 = .ok (.sipush 200, 3) := by decide +kernel
theorem dX10_beat_21 : decode cX10_beat 21 = .ok (.if_icmp .ge 10, 3) := by decide +kernel
theorem dX10_beat_24 : decode cX10_beat 24 = .ok (.aload_n 0, 1) := by decide +kernel
theorem dX10_beat_25 : decode cX10_beat 25 = .ok (.getfield 256, 3) := by decide +kernel
theorem dX10_beat_28 : decode cX10_beat 28 = .ok (.goto 6, 3) := by decide +kernel
theorem dX10_beat_31 : decode cX10_beat 31 = .ok (.sipush 200, 3) := by decide +kernel
theorem dX10_beat_34 : decode cX10_beat 34 = .ok (.iload_n 1, 1) := by decide +kernel
theorem dX10_beat_35 : decode cX10_beat 35 = .ok (.iastore, 1) := by decide +kernel
theorem dX10_beat_36 : decode cX10_beat 36 = .ok (.aload_n 0, 1) := by decide +kernel
theorem dX10_beat_37 : decode cX10_beat 37 = .ok (.getfield 54, 3) := by decide +kernel
theorem dX10_beat_40 : decode cX10_beat 40 = .ok (.aload_n 0, 1) := by decide +kernel
theorem dX10_beat_41 : decode cX10_beat 41 = .ok (.getfield 256, 3) := by decide +kernel
theorem dX10_beat_44 : decode cX10_beat 44 = .ok (.sipush 200, 3) := by decide +kernel
theorem dX10_beat_47 : decode cX10_beat 47 = .ok (.if_icmp .ge 10, 3) := by decide +kernel
theorem dX10_beat_50 : decode cX10_beat 50 = .ok (.aload_n 0, 1) := by decide +kernel
theorem dX10_beat_51 : decode cX10_beat 51 = .ok (.getfield 256, 3) := by decide +kernel
theorem dX10_beat_54 : decode cX10_beat 54 = .ok (.goto 6, 3) := by decide +kernel
theorem dX10_beat_57 : decode cX10_beat 57 = .ok (.sipush 200, 3) := by decide +kernel
theorem dX10_beat_60 : decode cX10_beat 60 = .ok (.iload_n 2, 1) := by decide +kernel
theorem dX10_beat_61 : decode cX10_beat 61 = .ok (.iastore, 1) := by decide +kernel
theorem dX10_beat_62 : decode cX10_beat 62 = .ok (.aload_n 0, 1) := by decide +kernel
theorem dX10_beat_63 : decode cX10_beat 63 = .ok (.dup, 1) := by decide +kernel
theorem dX10_beat_64 : decode cX10_beat 64 = .ok (.getfield 256, 3) := by decide +kernel
theorem dX10_beat_67 : decode cX10_beat 67 = .ok (.iconst 1, 1) := by decide +kernel
theorem dX10_beat_68 : decode cX10_beat 68 = .ok (.iadd, 1) := by decide +kernel
theorem dX10_beat_69 : decode cX10_beat 69 = .ok (.putfield 256, 3) := by decide +kernel
theorem dX10_beat_72 : decode cX10_beat 72 = .ok (.return_, 1) := by decide +kernel
theorem dX10_letter_0 : decode cX10_letter 0 = .ok (.aload_n 0, 1) := by decide +kernel
theorem dX10_letter_1 : decode cX10_letter 1 = .ok (.getfield 247, 3) := by decide +kernel
theorem dX10_letter_4 : decode cX10_letter 4 = .ok (.istore_n 1, 1) := by decide +kernel
theorem dX10_letter_5 : decode cX10_letter 5 = .ok (.aload_n 0, 1) := by decide +kernel
theorem dX10_letter_6 : decode cX10_letter 6 = .ok (.invokevirtual 259, 3) := by decide +kernel
theorem dX10_letter_9 : decode cX10_letter 9 = .ok (.aload_n 0, 1) := by decide +kernel
theorem dX10_letter_10 : decode cX10_letter 10 = .ok (.getfield 225, 3) := by decide +kernel
theorem dX10_letter_13 : decode cX10_letter 13 = .ok (.ifCond .ne 16, 3) := by decide +kernel
theorem dX10_letter_16 : decode cX10_letter 16 = .ok (.aload_n 0, 1) := by decide +kernel
theorem dX10_letter_17 : decode cX10_letter 17 = .ok (.getfield 240, 3) := by decide +kernel
theorem dX10_letter_20 : decode cX10_letter 20 = .ok (.iconst 2, 1) := by decide +kernel
theorem dX10_letter_21 : decode cX10_letter 21 = .ok (.if_icmp .eq 8, 3) := by decide +kernel
theorem dX10_letter_24 : decode cX10_letter 24 = .ok (.aload_n 0, 1) := by decide +kernel
theorem dX10_letter_25 : decode cX10_letter 25 = .ok (.iconst 2, 1) := by decide +kernel
theorem dX10_letter_26 : decode cX10_letter 26 = .ok (.invokevirtual 250, 3) := by decide +kernel
theorem dX10_letter_29 : decode cX10_letter 29 = .ok (.aload_n 0, 1) := by decide +kernel
theorem dX10_letter_30 : decode cX10_letter 30 = .ok (.getfield 225, 3) := by decide +kernel
theorem dX10_letter_33 : decode cX10_letter 33 = .ok (.ifCond .ne 39, 3) := by decide +kernel
theorem dX10_letter_36 : decode cX10_letter 36 = .ok (.aload_n 0, 1) := by decide +kernel
theorem dX10_letter_37 : decode cX10_letter 37 = .ok (.getfield 247, 3) := by decide +kernel
theorem dX10_letter_40 : decode cX10_letter 40 = .ok (.i2l, 1) := by decide +kernel
theorem dX10_letter_41 : decode cX10_letter 41 = .ok (.lconst 0, 1) := by decide +kernel
theorem dX10_letter_42 : decode cX10_letter 42 = .ok (.iload_n 1, 1) := by decide +kernel
theorem dX10_letter_43 : decode cX10_letter 43 = .ok (.bipush 6, 2) := by decide +kernel
theorem dX10_letter_45 : decode cX10_letter 45 = .ok (.if_icmp .ne 13, 3) := by decide +kernel
theorem dX10_letter_48 : decode cX10_letter 48 = .ok (.aload_n 0, 1) := by decide +kernel
theorem dX10_letter_49 : decode cX10_letter 49 = .ok (.getfield 262, 3) := by decide +kernel
theorem dX10_letter_52 : decode cX10_letter 52 = .ok (.iconst 1, 1) := by decide +kernel
theorem dX10_letter_53 : decode cX10_letter 53 = .ok (.isub, 1) := by decide +kernel
theorem dX10_letter_54 : decode cX10_letter 54 = .ok (.i2l, 1) := by decide +kernel
theorem dX10_letter_55 : decode cX10_letter 55 = .ok (.goto 6, 3) := by decide +kernel
theorem dX10_letter_58 : decode cX10_letter 58 = .ok (.ldc2_w 159, 3) := by decide +kernel
theorem dX10_letter_61 : decode cX10_letter 61 = .ok (.invokestatic 115, 3) := by decide +kernel
theorem dX10_letter_64 : decode cX10_letter 64 = .ok (.ifCond .ne 8, 3) := by decide +kernel
theorem dX10_letter_67 : decode cX10_letter 67 = .ok (.aload_n 0, 1) := by decide +kernel
theorem dX10_letter_68 : decode cX10_letter 68 = .ok (.iconst 3, 1) := by decide +kernel
theorem dX10_letter_69 : decode cX10_letter 69 = .ok (.invokevirtual 250, 3) := by decide +kernel
theorem dX10_letter_72 : decode cX10_letter 72 = .ok (.aload_n 0, 1) := by decide +kernel
theorem dX10_letter_73 : decode cX10_letter 73 = .ok (.getfield 225, 3) := by decide +kernel
theorem dX10_letter_76 : decode cX10_letter 76 = .ok (.ifCond .le 4, 3) := by decide +kernel
theorem dX10_letter_79 : decode cX10_letter 79 = .ok (.return_, 1) := by decide +kernel
theorem dX10_letter_80 : decode cX10_letter 80 = .ok (.iload_n 1, 1) := by decide +kernel
theorem dX10_letter_81 : decode cX10_letter 81 = .ok (.bipush 6, 2) := by decide +kernel
theorem dX10_letter_83 : decode cX10_letter 83 = .ok (.if_icmp .ne 61, 3) := by decide +kernel
theorem dX10_letter_86 : decode cX10_letter 86 = .ok (.iconst 0, 1) := by decide +kernel
theorem dX10_letter_87 : decode cX10_letter 87 = .ok (.istore_n 2, 1) := by decide +kernel
theorem dX10_letter_88 : decode cX10_letter 88 = .ok (.iload_n 2, 1) := by decide +kernel
theorem dX10_letter_89 : decode cX10_letter 89 = .ok (.aload_n 0, 1) := by decide +kernel
theorem dX10_letter_90 : decode cX10_letter 90 = .ok (.getfield 42, 3) := by decide +kernel
theorem dX10_letter_93 : decode cX10_letter 93 = .ok (.aload_n 0, 1) := by decide +kernel
theorem dX10_letter_94 : decode cX10_letter 94 = .ok (.getfield 247, 3) := by decide +kernel
theorem dX10_letter_97 : decode cX10_letter 97 = .ok (.iaload, 1) := by decide +kernel
theorem dX10_letter_98 : decode cX10_letter 98 = .ok (.if_icmp .ge 43, 3) := by decide +kernel
theorem dX10_letter_101 : decode cX10_letter 101 = .ok (.aload_n 0, 1) := by decide +kernel
theorem dX10_letter_102 : decode cX10_letter 102 = .ok (.aload_n 0, 1) := by decide +kernel
theorem dX10_letter_103 : decode cX10_letter 103 = .ok (.getfield 45, 3) := by decide +kernel
theorem dX10_letter_106 : decode cX10_letter 106 = .ok (.sipush 200, 3) := by decide +kernel
theorem dX10_letter_109 : decode cX10_letter 109 = .ok (.aload_n 0, 1) := by decide +kernel
theorem dX10_letter_110 : decode cX10_letter 110 = .ok (.getfield 247, 3) := by decide +kernel
theorem dX10_letter_113 : decode cX10_letter 113 = .ok (.imul, 1) := by decide +kernel
theorem dX10_letter_114 : decode cX10_letter 114 = .ok (.iload_n 2, 1) := by decide +kernel
theorem dX10_letter_115 : decode cX10_letter 115 = .ok (.iadd, 1) := by decide +kernel
theorem dX10_letter_116 : decode cX10_letter 116 = .ok (.iaload, 1) := by decide +kernel
theorem dX10_letter_117 : decode cX10_letter 117 = .ok (.aload_n 0, 1) := by decide +kernel
theorem dX10_letter_118 : decode cX10_letter 118 = .ok (.getfield 48, 3) := by decide +kernel
theorem dX10_letter_121 : decode cX10_letter 121 = .ok (.sipush 200, 3) := by decide +kernel
theorem dX10_letter_124 : decode cX10_letter 124 = .ok (.aload_n 0, 1) := by decide +kernel
theorem dX10_letter_125 : decode cX10_letter 125 = .ok (.getfield 247, 3) := by decide +kernel
theorem dX10_letter_128 : decode cX10_letter 128 = .ok (.imul, 1) := by decide +kernel
theorem dX10_letter_129 : decode cX10_letter 129 = .ok (.iload_n 2, 1) := by decide +kernel
theorem dX10_letter_130 : decode cX10_letter 130 = .ok (.iadd, 1) := by decide +kernel
theorem dX10_letter_131 : decode cX10_letter 131 = .ok (.iaload, 1) := by decide +kernel
theorem dX10_letter_132 : decode cX10_letter 132 = .ok (.invokevirtual 265, 3) := by decide +kernel
theorem dX10_letter_135 : decode cX10_letter 135 = .ok (.iinc 2 1, 3) := by decide +kernel
theorem dX10_letter_138 : decode cX10_letter 138 = .ok (.goto (-50), 3) := by decide +kernel
theorem dX10_letter_141 : decode cX10_letter 141 = .ok (.goto 12, 3) := by decide +kernel
theorem dX10_letter_144 : decode cX10_letter 144 = .ok (.aload_n 0, 1) := by decide +kernel
theorem dX10_letter_145 : decode cX10_letter 145 = .ok (.iload_n 1, 1) := by decide +kernel
theorem dX10_letter_146 : decode cX10_letter 146 = .ok (.aload_n 0, 1) := by decide +kernel
theorem dX10_letter_147 : decode cX10_letter 147 = .ok (.getfield 247, 3) := by decide +kernel
theorem dX10_letter_150 : decode cX10_letter 150 = .ok (.invokevirtual 265, 3) := by decide +kernel
theorem dX10_letter_153 : decode cX10_letter 153 = .ok (.aload_n 0, 1) := by decide +kernel
theorem dX10_letter_154 : decode cX10_letter 154 = .ok (.getfield 63, 3) := by decide +kernel
theorem dX10_letter_157 : decode cX10_letter 157 = .ok (.aload_n 0, 1) := by decide +kernel
theorem dX10_letter_158 : decode cX10_letter 158 = .ok (.getfield 269, 3) := by decide +kernel
theorem dX10_letter_161 : decode cX10_letter 161 = .ok (.dup2, 1) := by decide +kernel
theorem dX10_letter_162 : decode cX10_letter 162 = .ok (.iaload, 1) := by decide +kernel
theorem dX10_letter_163 : decode cX10_letter 163 = .ok (.iconst 1, 1) := by decide +kernel
theorem dX10_letter_164 : decode cX10_letter 164 = .ok (.iadd, 1) := by decide +kernel
theorem dX10_letter_165 : decode cX10_letter 165 = .ok (.iastore, 1) := by decide +kernel
theorem dX10_letter_166 : decode cX10_letter 166 = .ok (.aload_n 0, 1) := by decide +kernel
theorem dX10_letter_167 : decode cX10_letter 167 = .ok (.invokevirtual 259, 3) := by decide +kernel
theorem dX10_letter_170 : decode cX10_letter 170 = .ok (.return_, 1) := by decide +kernel
theorem dX10_opens_0 : decode cX10_opens 0 = .ok (.aload_n 0, 1) := by decide +kernel
theorem dX10_opens_1 : decode cX10_opens 1 = .ok (.getfield 247, 3) := by decide +kernel
theorem dX10_opens_4 : decode cX10_opens 4 = .ok (.i2l, 1) := by decide +kernel
theorem dX10_opens_5 : decode cX10_opens 5 = .ok (.lconst 1, 1) := by decide +kernel
theorem dX10_opens_6 : decode cX10_opens 6 = .ok (.ldc2_w 272, 3) := by decide +kernel
theorem dX10_opens_9 : decode cX10_opens 9 = .ok (.invokestatic 115, 3) := by decide +kernel
theorem dX10_opens_12 : decode cX10_opens 12 = .ok (.ifCond .ne 8, 3) := by decide +kernel
theorem dX10_opens_15 : decode cX10_opens 15 = .ok (.aload_n 0, 1) := by decide +kernel
theorem dX10_opens_16 : decode cX10_opens 16 = .ok (.iconst 3, 1) := by decide +kernel
theorem dX10_opens_17 : decode cX10_opens 17 = .ok (.invokevirtual 250, 3) := by decide +kernel
theorem dX10_opens_20 : decode cX10_opens 20 = .ok (.aload_n 0, 1) := by decide +kernel
theorem dX10_opens_21 : decode cX10_opens 21 = .ok (.getfield 247, 3) := by decide +kernel
theorem dX10_opens_24 : decode cX10_opens 24 = .ok (.istore_n 1, 1) := by decide +kernel
theorem dX10_opens_25 : decode cX10_opens 25 = .ok (.aload_n 0, 1) := by decide +kernel
theorem dX10_opens_26 : decode cX10_opens 26 = .ok (.invokevirtual 259, 3) := by decide +kernel
theorem dX10_opens_29 : decode cX10_opens 29 = .ok (.aload_n 0, 1) := by decide +kernel
theorem dX10_opens_30 : decode cX10_opens 30 = .ok (.getfield 225, 3) := by decide +kernel
theorem dX10_opens_33 : decode cX10_opens 33 = .ok (.ifCond .ne 16, 3) := by decide +kernel
theorem dX10_opens_36 : decode cX10_opens 36 = .ok (.aload_n 0, 1) := by decide +kernel
theorem dX10_opens_37 : decode cX10_opens 37 = .ok (.getfield 240, 3) := by decide +kernel
theorem dX10_opens_40 : decode cX10_opens 40 = .ok (.iconst 3, 1) := by decide +kernel
theorem dX10_opens_41 : decode cX10_opens 41 = .ok (.if_icmp .eq 8, 3) := by decide +kernel
theorem dX10_opens_44 : decode cX10_opens 44 = .ok (.aload_n 0, 1) := by decide +kernel
theorem dX10_opens_45 : decode cX10_opens 45 = .ok (.iconst 2, 1) := by decide +kernel
theorem dX10_opens_46 : decode cX10_opens 46 = .ok (.invokevirtual 250, 3) := by decide +kernel
theorem dX10_opens_49 : decode cX10_opens 49 = .ok (.aload_n 0, 1) := by decide +kernel
theorem dX10_opens_50 : decode cX10_opens 50 = .ok (.getfield 225, 3) := by decide +kernel
theorem dX10_opens_53 : decode cX10_opens 53 = .ok (.ifCond .ne 16, 3) := by decide +kernel
theorem dX10_opens_56 : decode cX10_opens 56 = .ok (.aload_n 0, 1) := by decide +kernel
theorem dX10_opens_57 : decode cX10_opens 57 = .ok (.getfield 269, 3) := by decide +kernel
theorem dX10_opens_60 : decode cX10_opens 60 = .ok (.iconst 4, 1) := by decide +kernel
theorem dX10_opens_61 : decode cX10_opens 61 = .ok (.if_icmp .ne 8, 3) := by decide +kernel
theorem dX10_opens_64 : decode cX10_opens 64 = .ok (.aload_n 0, 1) := by decide +kernel
theorem dX10_opens_65 : decode cX10_opens 65 = .ok (.iconst 4, 1) := by decide +kernel
theorem dX10_opens_66 : decode cX10_opens 66 = .ok (.invokevirtual 250, 3) := by decide +kernel
theorem dX10_opens_69 : decode cX10_opens 69 = .ok (.aload_n 0, 1) := by decide +kernel
theorem dX10_opens_70 : decode cX10_opens 70 = .ok (.getfield 225, 3) := by decide +kernel
theorem dX10_opens_73 : decode cX10_opens 73 = .ok (.ifCond .le 4, 3) := by decide +kernel
theorem dX10_opens_76 : decode cX10_opens 76 = .ok (.return_, 1) := by decide +kernel
theorem dX10_opens_77 : decode cX10_opens 77 = .ok (.aload_n 0, 1) := by decide +kernel
theorem dX10_opens_78 : decode cX10_opens 78 = .ok (.getfield 63, 3) := by decide +kernel
theorem dX10_opens_81 : decode cX10_opens 81 = .ok (.aload_n 0, 1) := by decide +kernel
theorem dX10_opens_82 : decode cX10_opens 82 = .ok (.getfield 269, 3) := by decide +kernel
theorem dX10_opens_85 : decode cX10_opens 85 = .ok (.dup2, 1) := by decide +kernel
theorem dX10_opens_86 : decode cX10_opens 86 = .ok (.iaload, 1) := by decide +kernel
theorem dX10_opens_87 : decode cX10_opens 87 = .ok (.iconst 1, 1) := by decide +kernel
theorem dX10_opens_88 : decode cX10_opens 88 = .ok (.iadd, 1) := by decide +kernel
theorem dX10_opens_89 : decode cX10_opens 89 = .ok (.iastore, 1) := by decide +kernel
theorem dX10_opens_90 : decode cX10_opens 90 = .ok (.aload_n 0, 1) := by decide +kernel
theorem dX10_opens_91 : decode cX10_opens 91 = .ok (.dup, 1) := by decide +kernel
theorem dX10_opens_92 : decode cX10_opens 92 = .ok (.getfield 269, 3) := by decide +kernel
theorem dX10_opens_95 : decode cX10_opens 95 = .ok (.iconst 1, 1) := by decide +kernel
theorem dX10_opens_96 : decode cX10_opens 96 = .ok (.iadd, 1) := by decide +kernel
theorem dX10_opens_97 : decode cX10_opens 97 = .ok (.putfield 269, 3) := by decide +kernel
theorem dX10_opens_100 : decode cX10_opens 100 = .ok (.aload_n 0, 1) := by decide +kernel
theorem dX10_opens_101 : decode cX10_opens 101 = .ok (.getfield 63, 3) := by decide +kernel
theorem dX10_opens_104 : decode cX10_opens 104 = .ok (.aload_n 0, 1) := by decide +kernel
theorem dX10_opens_105 : decode cX10_opens 105 = .ok (.getfield 269, 3) := by decide +kernel
theorem dX10_opens_108 : decode cX10_opens 108 = .ok (.iconst 0, 1) := by decide +kernel
theorem dX10_opens_109 : decode cX10_opens 109 = .ok (.iastore, 1) := by decide +kernel
theorem dX10_opens_110 : decode cX10_opens 110 = .ok (.aload_n 0, 1) := by decide +kernel
theorem dX10_opens_111 : decode cX10_opens 111 = .ok (.getfield 57, 3) := by decide +kernel
theorem dX10_opens_114 : decode cX10_opens 114 = .ok (.aload_n 0, 1) := by decide +kernel
theorem dX10_opens_115 : decode cX10_opens 115 = .ok (.getfield 269, 3) := by decide +kernel
theorem dX10_opens_118 : decode cX10_opens 118 = .ok (.aload_n 0, 1) := by decide +kernel
theorem dX10_opens_119 : decode cX10_opens 119 = .ok (.getfield 256, 3) := by decide +kernel
theorem dX10_opens_122 : decode cX10_opens 122 = .ok (.iastore, 1) := by decide +kernel
theorem dX10_opens_123 : decode cX10_opens 123 = .ok (.aload_n 0, 1) := by decide +kernel
theorem dX10_opens_124 : decode cX10_opens 124 = .ok (.getfield 60, 3) := by decide +kernel
theorem dX10_opens_127 : decode cX10_opens 127 = .ok (.aload_n 0, 1) := by decide +kernel
theorem dX10_opens_128 : decode cX10_opens 128 = .ok (.getfield 269, 3) := by decide +kernel
theorem dX10_opens_131 : decode cX10_opens 131 = .ok (.iload_n 1, 1) := by decide +kernel
theorem dX10_opens_132 : decode cX10_opens 132 = .ok (.iastore, 1) := by decide +kernel
theorem dX10_opens_133 : decode cX10_opens 133 = .ok (.aload_n 0, 1) := by decide +kernel
theorem dX10_opens_134 : decode cX10_opens 134 = .ok (.invokevirtual 259, 3) := by decide +kernel
theorem dX10_opens_137 : decode cX10_opens 137 = .ok (.return_, 1) := by decide +kernel
theorem dX10_shuts_0 : decode cX10_shuts 0 = .ok (.aload_n 0, 1) := by decide +kernel
theorem dX10_shuts_1 : decode cX10_shuts 1 = .ok (.getfield 269, 3) := by decide +kernel
theorem dX10_shuts_4 : decode cX10_shuts 4 = .ok (.ifCond .eq 15, 3) := by decide +kernel
theorem dX10_shuts_7 : decode cX10_shuts 7 = .ok (.aload_n 0, 1) := by decide +kernel
theorem dX10_shuts_8 : decode cX10_shuts 8 = .ok (.getfield 63, 3) := by decide +kernel
theorem dX10_shuts_11 : decode cX10_shuts 11 = .ok (.aload_n 0, 1) := by decide +kernel
theorem dX10_shuts_12 : decode cX10_shuts 12 = .ok (.getfield 269, 3) := by decide +kernel
theorem dX10_shuts_15 : decode cX10_shuts 15 = .ok (.iaload, 1) := by decide +kernel
theorem dX10_shuts_16 : decode cX10_shuts 16 = .ok (.ifCond .ne 9, 3) := by decide +kernel
theorem dX10_shuts_19 : decode cX10_shuts 19 = .ok (.aload_n 0, 1) := by decide +kernel
theorem dX10_shuts_20 : decode cX10_shuts 20 = .ok (.iconst 2, 1) := by decide +kernel
theorem dX10_shuts_21 : decode cX10_shuts 21 = .ok (.invokevirtual 250, 3) := by decide +kernel
theorem dX10_shuts_24 : decode cX10_shuts 24 = .ok (.return_, 1) := by decide +kernel
theorem dX10_shuts_25 : decode cX10_shuts 25 = .ok (.aload_n 0, 1) := by decide +kernel
theorem dX10_shuts_26 : decode cX10_shuts 26 = .ok (.getfield 57, 3) := by decide +kernel
theorem dX10_shuts_29 : decode cX10_shuts 29 = .ok (.aload_n 0, 1) := by decide +kernel
theorem dX10_shuts_30 : decode cX10_shuts 30 = .ok (.getfield 269, 3) := by decide +kernel
theorem dX10_shuts_33 : decode cX10_shuts 33 = .ok (.iaload, 1) := by decide +kernel
theorem dX10_shuts_34 : decode cX10_shuts 34 = .ok (.istore_n 1, 1) := by decide +kernel
theorem dX10_shuts_35 : decode cX10_shuts 35 = .ok (.aload_n 0, 1) := by decide +kernel
theorem dX10_shuts_36 : decode cX10_shuts 36 = .ok (.getfield 256, 3) := by decide +kernel
theorem dX10_shuts_39 : decode cX10_shuts 39 = .ok (.istore_n 2, 1) := by decide +kernel
theorem dX10_shuts_40 : decode cX10_shuts 40 = .ok (.iconst 1, 1) := by decide +kernel
theorem dX10_shuts_41 : decode cX10_shuts 41 = .ok (.istore_n 3, 1) := by decide +kernel
theorem dX10_shuts_42 : decode cX10_shuts 42 = .ok (.iload_n 3, 1) := by decide +kernel
theorem dX10_shuts_43 : decode cX10_shuts 43 = .ok (.aload_n 0, 1) := by decide +kernel
theorem dX10_shuts_44 : decode cX10_shuts 44 = .ok (.getfield 60, 3) := by decide +kernel
theorem dX10_shuts_47 : decode cX10_shuts 47 = .ok (.aload_n 0, 1) := by decide +kernel
theorem dX10_shuts_48 : decode cX10_shuts 48 = .ok (.getfield 269, 3) := by decide +kernel
theorem dX10_shuts_51 : decode cX10_shuts 51 = .ok (.iaload, 1) := by decide +kernel
theorem dX10_shuts_52 : decode cX10_shuts 52 = .ok (.if_icmp .ge 42, 3) := by decide +kernel
theorem dX10_shuts_55 : decode cX10_shuts 55 = .ok (.iload_n 1, 1) := by decide +kernel
theorem dX10_shuts_56 : decode cX10_shuts 56 = .ok (.istore 4, 2) := by decide +kernel
theorem dX10_shuts_58 : decode cX10_shuts 58 = .ok (.iload 4, 2) := by decide +kernel
theorem dX10_shuts_60 : decode cX10_shuts 60 = .ok (.iload_n 2, 1) := by decide +kernel
theorem dX10_shuts_61 : decode cX10_shuts 61 = .ok (.if_icmp .ge 27, 3) := by decide +kernel
theorem dX10_shuts_64 : decode cX10_shuts 64 = .ok (.aload_n 0, 1) := by decide +kernel
theorem dX10_shuts_65 : decode cX10_shuts 65 = .ok (.aload_n 0, 1) := by decide +kernel
theorem dX10_shuts_66 : decode cX10_shuts 66 = .ok (.getfield 51, 3) := by decide +kernel
theorem dX10_shuts_69 : decode cX10_shuts 69 = .ok (.iload 4, 2) := by decide +kernel
theorem dX10_shuts_71 : decode cX10_shuts 71 = .ok (.iaload, 1) := by decide +kernel
theorem dX10_shuts_72 : decode cX10_shuts 72 = .ok (.aload_n 0, 1) := by decide +kernel
theorem dX10_shuts_73 : decode cX10_shuts 73 = .ok (.getfield 54, 3) := by decide +kernel
theorem dX10_shuts_76 : decode cX10_shuts 76 = .ok (.iload 4, 2) := by decide +kernel
theorem dX10_shuts_78 : decode cX10_shuts 78 = .ok (.iaload, 1) := by decide +kernel
theorem dX10_shuts_79 : decode cX10_shuts 79 = .ok (.invokevirtual 265, 3) := by decide +kernel
theorem dX10_shuts_82 : decode cX10_shuts 82 = .ok (.iinc 4 1, 3) := by decide +kernel
theorem dX10_shuts_85 : decode cX10_shuts 85 = .ok (.goto (-27), 3) := by decide +kernel
theorem dX10_shuts_88 : decode cX10_shuts 88 = .ok (.iinc 3 1, 3) := by decide +kernel
theorem dX10_shuts_91 : decode cX10_shuts 91 = .ok (.goto (-49), 3) := by decide +kernel
theorem dX10_shuts_94 : decode cX10_shuts 94 = .ok (.aload_n 0, 1) := by decide +kernel
theorem dX10_shuts_95 : decode cX10_shuts 95 = .ok (.dup, 1) := by decide +kernel
theorem dX10_shuts_96 : decode cX10_shuts 96 = .ok (.getfield 269, 3) := by decide +kernel
theorem dX10_shuts_99 : decode cX10_shuts 99 = .ok (.iconst 1, 1) := by decide +kernel
theorem dX10_shuts_100 : decode cX10_shuts 100 = .ok (.isub, 1) := by decide +kernel
theorem dX10_shuts_101 : decode cX10_shuts 101 = .ok (.putfield 269, 3) := by decide +kernel
theorem dX10_shuts_104 : decode cX10_shuts 104 = .ok (.aload_n 0, 1) := by decide +kernel
theorem dX10_shuts_105 : decode cX10_shuts 105 = .ok (.invokevirtual 259, 3) := by decide +kernel
theorem dX10_shuts_108 : decode cX10_shuts 108 = .ok (.return_, 1) := by decide +kernel
theorem dX10_figure_0 : decode cX10_figure 0 = .ok (.aload_n 0, 1) := by decide +kernel
theorem dX10_figure_1 : decode cX10_figure 1 = .ok (.getfield 262, 3) := by decide +kernel
theorem dX10_figure_4 : decode cX10_figure 4 = .ok (.bipush 8, 2) := by decide +kernel
theorem dX10_figure_6 : decode cX10_figure 6 = .ok (.if_icmp .ne 6, 3) := by decide +kernel
theorem dX10_figure_9 : decode cX10_figure 9 = .ok (.bipush (-3), 2) := by decide +kernel
theorem dX10_figure_11 : decode cX10_figure 11 = .ok (.ireturn, 1) := by decide +kernel
theorem dX10_figure_12 : decode cX10_figure 12 = .ok (.aload_n 0, 1) := by decide +kernel
theorem dX10_figure_13 : decode cX10_figure 13 = .ok (.iconst 0, 1) := by decide +kernel
theorem dX10_figure_14 : decode cX10_figure 14 = .ok (.putfield 225, 3) := by decide +kernel
theorem dX10_figure_17 : decode cX10_figure 17 = .ok (.aload_n 0, 1) := by decide +kernel
theorem dX10_figure_18 : decode cX10_figure 18 = .ok (.iconst 0, 1) := by decide +kernel
theorem dX10_figure_19 : decode cX10_figure 19 = .ok (.putfield 234, 3) := by decide +kernel
theorem dX10_figure_22 : decode cX10_figure 22 = .ok (.aload_n 0, 1) := by decide +kernel
theorem dX10_figure_23 : decode cX10_figure 23 = .ok (.iconst 0, 1) := by decide +kernel
theorem dX10_figure_24 : decode cX10_figure 24 = .ok (.putfield 256, 3) := by decide +kernel
theorem dX10_figure_27 : decode cX10_figure 27 = .ok (.aload_n 0, 1) := by decide +kernel
theorem dX10_figure_28 : decode cX10_figure 28 = .ok (.iconst 0, 1) := by decide +kernel
theorem dX10_figure_29 : decode cX10_figure 29 = .ok (.putfield 269, 3) := by decide +kernel
theorem dX10_figure_32 : decode cX10_figure 32 = .ok (.aload_n 0, 1) := by decide +kernel
theorem dX10_figure_33 : decode cX10_figure 33 = .ok (.getfield 63, 3) := by decide +kernel
theorem dX10_figure_36 : decode cX10_figure 36 = .ok (.iconst 0, 1) := by decide +kernel
theorem dX10_figure_37 : decode cX10_figure 37 = .ok (.iconst 0, 1) := by decide +kernel
theorem dX10_figure_38 : decode cX10_figure 38 = .ok (.iastore, 1) := by decide +kernel
theorem dX10_figure_39 : decode cX10_figure 39 = .ok (.aload_n 0, 1) := by decide +kernel
theorem dX10_figure_40 : decode cX10_figure 40 = .ok (.invokevirtual 259, 3) := by decide +kernel
theorem dX10_figure_43 : decode cX10_figure 43 = .ok (.iconst 0, 1) := by decide +kernel
theorem dX10_figure_44 : decode cX10_figure 44 = .ok (.istore_n 1, 1) := by decide +kernel
theorem dX10_figure_45 : decode cX10_figure 45 = .ok (.aload_n 0, 1) := by decide +kernel
theorem dX10_figure_46 : decode cX10_figure 46 = .ok (.getfield 225, 3) := by decide +kernel
theorem dX10_figure_49 : decode cX10_figure 49 = .ok (.ifCond .ne 128, 3) := by decide +kernel
theorem dX10_figure_52 : decode cX10_figure 52 = .ok (.iload_n 1, 1) := by decide +kernel
theorem dX10_figure_53 : decode cX10_figure 53 = .ok (.ifCond .ne 124, 3) := by decide +kernel
theorem dX10_figure_56 : decode cX10_figure 56 = .ok (.aload_n 0, 1) := by decide +kernel
theorem dX10_figure_57 : decode cX10_figure 57 = .ok (.getfield 240, 3) := by decide +kernel
theorem dX10_figure_60 : decode cX10_figure 60 = .ok (.ifCond .ne 23, 3) := by decide +kernel
theorem dX10_figure_63 : decode cX10_figure 63 = .ok (.aload_n 0, 1) := by decide +kernel
theorem dX10_figure_64 : decode cX10_figure 64 = .ok (.getfield 269, 3) := by decide +kernel
theorem dX10_figure_67 : decode cX10_figure 67 = .ok (.ifCond .ne 16, 3) := by decide +kernel
theorem dX10_figure_70 : decode cX10_figure 70 = .ok (.aload_n 0, 1) := by decide +kernel
theorem dX10_figure_71 : decode cX10_figure 71 = .ok (.getfield 63, 3) := by decide +kernel
theorem dX10_figure_74 : decode cX10_figure 74 = .ok (.iconst 0, 1) := by decide +kernel
theorem dX10_figure_75 : decode cX10_figure 75 = .ok (.iaload, 1) := by decide +kernel
theorem dX10_figure_76 : decode cX10_figure 76 = .ok (.ifCond .le 7, 3) := by decide +kernel
theorem dX10_figure_79 : decode cX10_figure 79 = .ok (.iconst 1, 1) := by decide +kernel
theorem dX10_figure_80 : decode cX10_figure 80 = .ok (.goto 4, 3) := by decide +kernel
theorem dX10_figure_83 : decode cX10_figure 83 = .ok (.iconst 0, 1) := by decide +kernel
theorem dX10_figure_84 : decode cX10_figure 84 = .ok (.istore_n 1, 1) := by decide +kernel
theorem dX10_figure_85 : decode cX10_figure 85 = .ok (.aload_n 0, 1) := by decide +kernel
theorem dX10_figure_86 : decode cX10_figure 86 = .ok (.getfield 240, 3) := by decide +kernel
theorem dX10_figure_89 : decode cX10_figure 89 = .ok (.iconst 1, 1) := by decide +kernel
theorem dX10_figure_90 : decode cX10_figure 90 = .ok (.if_icmp .ne 10, 3) := by decide +kernel
theorem dX10_figure_93 : decode cX10_figure 93 = .ok (.aload_n 0, 1) := by decide +kernel
theorem dX10_figure_94 : decode cX10_figure 94 = .ok (.invokevirtual 274, 3) := by decide +kernel
theorem dX10_figure_97 : decode cX10_figure 97 = .ok (.goto (-52), 3) := by decide +kernel
theorem dX10_figure_100 : decode cX10_figure 100 = .ok (.aload_n 0, 1) := by decide +kernel
theorem dX10_figure_101 : decode cX10_figure 101 = .ok (.getfield 240, 3) := by decide +kernel
theorem dX10_figure_104 : decode cX10_figure 104 = .ok (.iconst 5, 1) := by decide +kernel
theorem dX10_figure_105 : decode cX10_figure 105 = .ok (.if_icmp .ne 30, 3) := by decide +kernel
theorem dX10_figure_108 : decode cX10_figure 108 = .ok (.aload_n 0, 1) := by decide +kernel
theorem dX10_figure_109 : decode cX10_figure 109 = .ok (.bipush 6, 2) := by decide +kernel
theorem dX10_figure_111 : decode cX10_figure 111 = .ok (.iconst 0, 1) := by decide +kernel
theorem dX10_figure_112 : decode cX10_figure 112 = .ok (.invokevirtual 265, 3) := by decide +kernel
theorem dX10_figure_115 : decode cX10_figure 115 = .ok (.aload_n 0, 1) := by decide +kernel
theorem dX10_figure_116 : decode cX10_figure 116 = .ok (.getfield 63, 3) := by decide +kernel
theorem dX10_figure_119 : decode cX10_figure 119 = .ok (.aload_n 0, 1) := by decide +kernel
theorem dX10_figure_120 : decode cX10_figure 120 = .ok (.getfield 269, 3) := by decide +kernel
theorem dX10_figure_123 : decode cX10_figure 123 = .ok (.dup2, 1) := by decide +kernel
theorem dX10_figure_124 : decode cX10_figure 124 = .ok (.iaload, 1) := by decide +kernel
theorem dX10_figure_125 : decode cX10_figure 125 = .ok (.iconst 1, 1) := by decide +kernel
theorem dX10_figure_126 : decode cX10_figure 126 = .ok (.iadd, 1) := by decide +kernel
theorem dX10_figure_127 : decode cX10_figure 127 = .ok (.iastore, 1) := by decide +kernel
theorem dX10_figure_128 : decode cX10_figure 128 = .ok (.aload_n 0, 1) := by decide +kernel
theorem dX10_figure_129 : decode cX10_figure 129 = .ok (.invokevirtual 259, 3) := by decide +kernel
theorem dX10_figure_132 : decode cX10_figure 132 = .ok (.goto (-87), 3) := by decide +kernel
theorem dX10_figure_135 : decode cX10_figure 135 = .ok (.aload_n 0, 1) := by decide +kernel
theorem dX10_figure_136 : decode cX10_figure 136 = .ok (.getfield 240, 3) := by decide +kernel
theorem dX10_figure_139 : decode cX10_figure 139 = .ok (.iconst 2, 1) := by decide +kernel
theorem dX10_figure_140 : decode cX10_figure 140 = .ok (.if_icmp .ne 10, 3) := by decide +kernel
theorem dX10_figure_143 : decode cX10_figure 143 = .ok (.aload_n 0, 1) := by decide +kernel
theorem dX10_figure_144 : decode cX10_figure 144 = .ok (.invokevirtual 277, 3) := by decide +kernel
theorem dX10_figure_147 : decode cX10_figure 147 = .ok (.goto (-102), 3) := by decide +kernel
theorem dX10_figure_150 : decode cX10_figure 150 = .ok (.aload_n 0, 1) := by decide +kernel
theorem dX10_figure_151 : decode cX10_figure 151 = .ok (.getfield 240, 3) := by decide +kernel
theorem dX10_figure_154 : decode cX10_figure 154 = .ok (.iconst 4, 1) := by decide +kernel
theorem dX10_figure_155 : decode cX10_figure 155 = .ok (.if_icmp .ne 10, 3) := by decide +kernel
theorem dX10_figure_158 : decode cX10_figure 158 = .ok (.aload_n 0, 1) := by decide +kernel
theorem dX10_figure_159 : decode cX10_figure 159 = .ok (.invokevirtual 280, 3) := by decide +kernel
theorem dX10_figure_162 : decode cX10_figure 162 = .ok (.goto (-117), 3) := by decide +kernel
theorem dX10_figure_165 : decode cX10_figure 165 = .ok (.iload_n 1, 1) := by decide +kernel
theorem dX10_figure_166 : decode cX10_figure 166 = .ok (.ifCond .ne (-121), 3) := by decide +kernel
theorem dX10_figure_169 : decode cX10_figure 169 = .ok (.aload_n 0, 1) := by decide +kernel
theorem dX10_figure_170 : decode cX10_figure 170 = .ok (.iconst 2, 1) := by decide +kernel
theorem dX10_figure_171 : decode cX10_figure 171 = .ok (.invokevirtual 250, 3) := by decide +kernel
theorem dX10_figure_174 : decode cX10_figure 174 = .ok (.goto (-129), 3) := by decide +kernel
theorem dX10_figure_177 : decode cX10_figure 177 = .ok (.aload_n 0, 1) := by decide +kernel
theorem dX10_figure_178 : decode cX10_figure 178 = .ok (.getfield 225, 3) := by decide +kernel
theorem dX10_figure_181 : decode cX10_figure 181 = .ok (.ifCond .ne 23, 3) := by decide +kernel
theorem dX10_figure_184 : decode cX10_figure 184 = .ok (.aload_n 0, 1) := by decide +kernel
theorem dX10_figure_185 : decode cX10_figure 185 = .ok (.getfield 256, 3) := by decide +kernel
theorem dX10_figure_188 : decode cX10_figure 188 = .ok (.sipush 200, 3) := by decide +kernel
theorem dX10_figure_191 : decode cX10_figure 191 = .ok (.if_icmp .le 13, 3) := by decide +kernel
theorem dX10_figure_194 : decode cX10_figure 194 = .ok (.aload_n 0, 1) := by decide +kernel
theorem dX10_figure_195 : decode cX10_figure 195 = .ok (.iconst 0, 1) := by decide +kernel
theorem dX10_figure_196 : decode cX10_figure 196 = .ok (.putfield 228, 3) := by decide +kernel
theorem dX10_figure_199 : decode cX10_figure 199 = .ok (.aload_n 0, 1) := by decide +kernel
theorem dX10_figure_200 : decode cX10_figure 200 = .ok (.iconst 5, 1) := by decide +kernel
theorem dX10_figure_201 : decode cX10_figure 201 = .ok (.invokevirtual 250, 3) := by decide +kernel
theorem dX10_figure_204 : decode cX10_figure 204 = .ok (.aload_n 0, 1) := by decide +kernel
theorem dX10_figure_205 : decode cX10_figure 205 = .ok (.iconst 0, 1) := by decide +kernel
theorem dX10_figure_206 : decode cX10_figure 206 = .ok (.putfield 222, 3) := by decide +kernel
theorem dX10_figure_209 : decode cX10_figure 209 = .ok (.aload_n 0, 1) := by decide +kernel
theorem dX10_figure_210 : decode cX10_figure 210 = .ok (.aload_n 0, 1) := by decide +kernel
theorem dX10_figure_211 : decode cX10_figure 211 = .ok (.getfield 225, 3) := by decide +kernel
theorem dX10_figure_214 : decode cX10_figure 214 = .ok (.putfield 283, 3) := by decide +kernel
theorem dX10_figure_217 : decode cX10_figure 217 = .ok (.aload_n 0, 1) := by decide +kernel
theorem dX10_figure_218 : decode cX10_figure 218 = .ok (.getfield 225, 3) := by decide +kernel
theorem dX10_figure_221 : decode cX10_figure 221 = .ok (.ifCond .le 11, 3) := by decide +kernel
theorem dX10_figure_224 : decode cX10_figure 224 = .ok (.bipush (-10), 2) := by decide +kernel
theorem dX10_figure_226 : decode cX10_figure 226 = .ok (.aload_n 0, 1) := by decide +kernel
theorem dX10_figure_227 : decode cX10_figure 227 = .ok (.getfield 231, 3) := by decide +kernel
theorem dX10_figure_230 : decode cX10_figure 230 = .ok (.isub, 1) := by decide +kernel
theorem dX10_figure_231 : decode cX10_figure 231 = .ok (.ireturn, 1) := by decide +kernel
theorem dX10_figure_232 : decode cX10_figure 232 = .ok (.aload_n 0, 1) := by decide +kernel
theorem dX10_figure_233 : decode cX10_figure 233 = .ok (.getfield 42, 3) := by decide +kernel
theorem dX10_figure_236 : decode cX10_figure 236 = .ok (.aload_n 0, 1) := by decide +kernel
theorem dX10_figure_237 : decode cX10_figure 237 = .ok (.getfield 262, 3) := by decide +kernel
theorem dX10_figure_240 : decode cX10_figure 240 = .ok (.aload_n 0, 1) := by decide +kernel
theorem dX10_figure_241 : decode cX10_figure 241 = .ok (.getfield 256, 3) := by decide +kernel
theorem dX10_figure_244 : decode cX10_figure 244 = .ok (.iastore, 1) := by decide +kernel
theorem dX10_figure_245 : decode cX10_figure 245 = .ok (.iconst 0, 1) := by decide +kernel
theorem dX10_figure_246 : decode cX10_figure 246 = .ok (.istore_n 2, 1) := by decide +kernel
theorem dX10_figure_247 : decode cX10_figure 247 = .ok (.iload_n 2, 1) := by decide +kernel
theorem dX10_figure_248 : decode cX10_figure 248 = .ok (.aload_n 0, 1) := by decide +kernel
theorem dX10_figure_249 : decode cX10_figure 249 = .ok (.getfield 256, 3) := by decide +kernel
theorem dX10_figure_252 : decode cX10_figure 252 = .ok (.if_icmp .ge 51, 3) := by decide +kernel
theorem dX10_figure_255 : decode cX10_figure 255 = .ok (.aload_n 0, 1) := by decide +kernel
theorem dX10_figure_256 : decode cX10_figure 256 = .ok (.getfield 45, 3) := by decide +kernel
theorem dX10_figure_259 : decode cX10_figure 259 = .ok (.sipush 200, 3) := by decide +kernel
theorem dX10_figure_262 : decode cX10_figure 262 = .ok (.aload_n 0, 1) := by decide +kernel
theorem dX10_figure_263 : decode cX10_figure 263 = .ok (.getfield 262, 3) := by decide +kernel
theorem dX10_figure_266 : decode cX10_figure 266 = .ok (.imul, 1) := by decide +kernel
theorem dX10_figure_267 : decode cX10_figure 267 = .ok (.iload_n 2, 1) := by decide +kernel
theorem dX10_figure_268 : decode cX10_figure 268 = .ok (.iadd, 1) := by decide +kernel
theorem dX10_figure_269 : decode cX10_figure 269 = .ok (.aload_n 0, 1) := by decide +kernel
theorem dX10_figure_270 : decode cX10_figure 270 = .ok (.getfield 51, 3) := by decide +kernel
theorem dX10_figure_273 : decode cX10_figure 273 = .ok (.iload_n 2, 1) := by decide +kernel
theorem dX10_figure_274 : decode cX10_figure 274 = .ok (.iaload, 1) := by decide +kernel
theorem dX10_figure_275 : decode cX10_figure 275 = .ok (.iastore, 1) := by decide +kernel
theorem dX10_figure_276 : decode cX10_figure 276 = .ok (.aload_n 0, 1) := by decide +kernel
theorem dX10_figure_277 : decode cX10_figure 277 = .ok (.getfield 48, 3) := by decide +kernel
theorem dX10_figure_280 : decode cX10_figure 280 = .ok (.sipush 200, 3) := by decide +kernel
theorem dX10_figure_283 : decode cX10_figure 283 = .ok (.aload_n 0, 1) := by decide +kernel
theorem dX10_figure_284 : decode cX10_figure 284 = .ok (.getfield 262, 3) := by decide +kernel
theorem dX10_figure_287 : decode cX10_figure 287 = .ok (.imul, 1) := by decide +kernel
theorem dX10_figure_288 : decode cX10_figure 288 = .ok (.iload_n 2, 1) := by decide +kernel
theorem dX10_figure_289 : decode cX10_figure 289 = .ok (.iadd, 1) := by decide +kernel
theorem dX10_figure_290 : decode cX10_figure 290 = .ok (.aload_n 0, 1) := by decide +kernel
theorem dX10_figure_291 : decode cX10_figure 291 = .ok (.getfield 54, 3) := by decide +kernel
theorem dX10_figure_294 : decode cX10_figure 294 = .ok (.iload_n 2, 1) := by decide +kernel
theorem dX10_figure_295 : decode cX10_figure 295 = .ok (.iaload, 1) := by decide +kernel
theorem dX10_figure_296 : decode cX10_figure 296 = .ok (.iastore, 1) := by decide +kernel
theorem dX10_figure_297 : decode cX10_figure 297 = .ok (.iinc 2 1, 3) := by decide +kernel
theorem dX10_figure_300 : decode cX10_figure 300 = .ok (.goto (-53), 3) := by decide +kernel
theorem dX10_figure_303 : decode cX10_figure 303 = .ok (.aload_n 0, 1) := by decide +kernel
theorem dX10_figure_304 : decode cX10_figure 304 = .ok (.dup, 1) := by decide +kernel
theorem dX10_figure_305 : decode cX10_figure 305 = .ok (.getfield 262, 3) := by decide +kernel
theorem dX10_figure_308 : decode cX10_figure 308 = .ok (.iconst 1, 1) := by decide +kernel
theorem dX10_figure_309 : decode cX10_figure 309 = .ok (.iadd, 1) := by decide +kernel
theorem dX10_figure_310 : decode cX10_figure 310 = .ok (.putfield 262, 3) := by decide +kernel
theorem dX10_figure_313 : decode cX10_figure 313 = .ok (.aload_n 0, 1) := by decide +kernel
theorem dX10_figure_314 : decode cX10_figure 314 = .ok (.getfield 262, 3) := by decide +kernel
theorem dX10_figure_317 : decode cX10_figure 317 = .ok (.iconst 1, 1) := by decide +kernel
theorem dX10_figure_318 : decode cX10_figure 318 = .ok (.isub, 1) := by decide +kernel
theorem dX10_figure_319 : decode cX10_figure 319 = .ok (.ireturn, 1) := by decide +kernel
theorem dX10_fault_0 : decode cX10_fault 0 = .ok (.aload_n 0, 1) := by decide +kernel
theorem dX10_fault_1 : decode cX10_fault 1 = .ok (.getfield 283, 3) := by decide +kernel
theorem dX10_fault_4 : decode cX10_fault 4 = .ok (.ireturn, 1) := by decide +kernel
theorem dX10_isFigure_0 : decode cX10_isFigure 0 = .ok (.iload_n 1, 1) := by decide +kernel
theorem dX10_isFigure_1 : decode cX10_isFigure 1 = .ok (.i2l, 1) := by decide +kernel
theorem dX10_isFigure_2 : decode cX10_isFigure 2 = .ok (.lconst 0, 1) := by decide +kernel
theorem dX10_isFigure_3 : decode cX10_isFigure 3 = .ok (.aload_n 0, 1) := by decide +kernel
theorem dX10_isFigure_4 : decode cX10_isFigure 4 = .ok (.getfield 262, 3) := by decide +kernel
theorem dX10_isFigure_7 : decode cX10_isFigure 7 = .ok (.iconst 1, 1) := by decide +kernel
theorem dX10_isFigure_8 : decode cX10_isFigure 8 = .ok (.isub, 1) := by decide +kernel
theorem dX10_isFigure_9 : decode cX10_isFigure 9 = .ok (.i2l, 1) := by decide +kernel
theorem dX10_isFigure_10 : decode cX10_isFigure 10 = .ok (.invokestatic 115, 3) := by decide +kernel
theorem dX10_isFigure_13 : decode cX10_isFigure 13 = .ok (.ireturn, 1) := by decide +kernel
theorem dX10_told_0 : decode cX10_told 0 = .ok (.aload_n 0, 1) := by decide +kernel
theorem dX10_told_1 : decode cX10_told 1 = .ok (.iload_n 1, 1) := by decide +kernel
theorem dX10_told_2 : decode cX10_told 2 = .ok (.invokevirtual 286, 3) := by decide +kernel
theorem dX10_told_5 : decode cX10_told 5 = .ok (.ifCond .ne 5, 3) := by decide +kernel
theorem dX10_told_8 : decode cX10_told 8 = .ok (.iconst (-1), 1) := by decide +kernel
theorem dX10_told_9 : decode cX10_told 9 = .ok (.ireturn, 1) := by decide +kernel
theorem dX10_told_10 : decode cX10_told 10 = .ok (.iconst 0, 1) := by decide +kernel
theorem dX10_told_11 : decode cX10_told 11 = .ok (.istore_n 3, 1) := by decide +kernel
theorem dX10_told_12 : decode cX10_told 12 = .ok (.bipush (-4), 2) := by decide +kernel
theorem dX10_told_14 : decode cX10_told 14 = .ok (.istore 4, 2) := by decide +kernel
theorem dX10_told_16 : decode cX10_told 16 = .ok (.iconst 0, 1) := by decide +kernel
theorem dX10_told_17 : decode cX10_told 17 = .ok (.istore 5, 2) := by decide +kernel
theorem dX10_told_19 : decode cX10_told 19 = .ok (.iload 5, 2) := by decide +kernel
theorem dX10_told_21 : decode cX10_told 21 = .ok (.aload_n 0, 1) := by decide +kernel
theorem dX10_told_22 : decode cX10_told 22 = .ok (.getfield 42, 3) := by decide +kernel
theorem dX10_told_25 : decode cX10_told 25 = .ok (.iload_n 1, 1) := by decide +kernel
theorem dX10_told_26 : decode cX10_told 26 = .ok (.iaload, 1) := by decide +kernel
theorem dX10_told_27 : decode cX10_told 27 = .ok (.if_icmp .ge 83, 3) := by decide +kernel
theorem dX10_told_30 : decode cX10_told 30 = .ok (.aload_n 0, 1) := by decide +kernel
theorem dX10_told_31 : decode cX10_told 31 = .ok (.getfield 45, 3) := by decide +kernel
theorem dX10_told_34 : decode cX10_told 34 = .ok (.sipush 200, 3) := by decide +kernel
theorem dX10_told_37 : decode cX10_told 37 = .ok (.iload_n 1, 1) := by decide +kernel
theorem dX10_told_38 : decode cX10_told 38 = .ok (.imul, 1) := by decide +kernel
theorem dX10_told_39 : decode cX10_told 39 = .ok (.iload 5, 2) := by decide +kernel
theorem dX10_told_41 : decode cX10_told 41 = .ok (.iadd, 1) := by decide +kernel
theorem dX10_told_42 : decode cX10_told 42 = .ok (.iaload, 1) := by decide +kernel
theorem dX10_told_43 : decode cX10_told 43 = .ok (.istore 6, 2) := by decide +kernel
theorem dX10_told_45 : decode cX10_told 45 = .ok (.aload_n 0, 1) := by decide +kernel
theorem dX10_told_46 : decode cX10_told 46 = .ok (.getfield 48, 3) := by decide +kernel
theorem dX10_told_49 : decode cX10_told 49 = .ok (.sipush 200, 3) := by decide +kernel
theorem dX10_told_52 : decode cX10_told 52 = .ok (.iload_n 1, 1) := by decide +kernel
theorem dX10_told_53 : decode cX10_told 53 = .ok (.imul, 1) := by decide +kernel
theorem dX10_told_54 : decode cX10_told 54 = .ok (.iload 5, 2) := by decide +kernel
theorem dX10_told_56 : decode cX10_told 56 = .ok (.iadd, 1) := by decide +kernel
theorem dX10_told_57 : decode cX10_told 57 = .ok (.iaload, 1) := by decide +kernel
theorem dX10_told_58 : decode cX10_told 58 = .ok (.istore 7, 2) := by decide +kernel
theorem dX10_told_60 : decode cX10_told 60 = .ok (.iload_n 3, 1) := by decide +kernel
theorem dX10_told_61 : decode cX10_told 61 = .ok (.iload 6, 2) := by decide +kernel
theorem dX10_told_63 : decode cX10_told 63 = .ok (.bipush 6, 2) := by decide +kernel
theorem dX10_told_65 : decode cX10_told 65 = .ok (.if_icmp .eq 7, 3) := by decide +kernel
theorem dX10_told_68 : decode cX10_told 68 = .ok (.iconst 1, 1) := by decide +kernel
theorem dX10_told_69 : decode cX10_told 69 = .ok (.goto 4, 3) := by decide +kernel
theorem dX10_told_72 : decode cX10_told 72 = .ok (.iconst 0, 1) := by decide +kernel
theorem dX10_told_73 : decode cX10_told 73 = .ok (.iadd, 1) := by decide +kernel
theorem dX10_told_74 : decode cX10_told 74 = .ok (.istore_n 3, 1) := by decide +kernel
theorem dX10_told_75 : decode cX10_told 75 = .ok (.iload 6, 2) := by decide +kernel
theorem dX10_told_77 : decode cX10_told 77 = .ok (.bipush 6, 2) := by decide +kernel
theorem dX10_told_79 : decode cX10_told 79 = .ok (.if_icmp .eq 21, 3) := by decide +kernel
theorem dX10_told_82 : decode cX10_told 82 = .ok (.iload 6, 2) := by decide +kernel
theorem dX10_told_84 : decode cX10_told 84 = .ok (.iconst 3, 1) := by decide +kernel
theorem dX10_told_85 : decode cX10_told 85 = .ok (.if_icmp .eq 15, 3) := by decide +kernel
theorem dX10_told_88 : decode cX10_told 88 = .ok (.iload 7, 2) := by decide +kernel
theorem dX10_told_90 : decode cX10_told 90 = .ok (.iload 4, 2) := by decide +kernel
theorem dX10_told_92 : decode cX10_told 92 = .ok (.if_icmp .le 8, 3) := by decide +kernel
theorem dX10_told_95 : decode cX10_told 95 = .ok (.iload 7, 2) := by decide +kernel
theorem dX10_told_97 : decode cX10_told 97 = .ok (.goto 5, 3) := by decide +kernel
theorem dX10_told_100 : decode cX10_told 100 = .ok (.iload 4, 2) := by decide +kernel
theorem dX10_told_102 : decode cX10_told 102 = .ok (.istore 4, 2) := by decide +kernel
theorem dX10_told_104 : decode cX10_told 104 = .ok (.iinc 5 1, 3) := by decide +kernel
theorem dX10_told_107 : decode cX10_told 107 = .ok (.goto (-88), 3) := by decide +kernel
theorem dX10_told_110 : decode cX10_told 110 = .ok (.iload_n 2, 1) := by decide +kernel
theorem dX10_told_111 : decode cX10_told 111 = .ok (.i2l, 1) := by decide +kernel
theorem dX10_told_112 : decode cX10_told 112 = .ok (.ldc2_w 289, 3) := by decide +kernel
theorem dX10_told_115 : decode cX10_told 115 = .ok (.bipush 9, 2) := by decide +kernel
theorem dX10_told_117 : decode cX10_told 117 = .ok (.aload_n 0, 1) := by decide +kernel
theorem dX10_told_118 : decode cX10_told 118 = .ok (.getfield 42, 3) := by decide +kernel
theorem dX10_told_121 : decode cX10_told 121 = .ok (.iload_n 1, 1) := by decide +kernel
theorem dX10_told_122 : decode cX10_told 122 = .ok (.iaload, 1) := by decide +kernel
theorem dX10_told_123 : decode cX10_told 123 = .ok (.iadd, 1) := by decide +kernel
theorem dX10_told_124 : decode cX10_told 124 = .ok (.i2l, 1) := by decide +kernel
theorem dX10_told_125 : decode cX10_told 125 = .ok (.invokestatic 115, 3) := by decide +kernel
theorem dX10_told_128 : decode cX10_told 128 = .ok (.ifCond .eq 19, 3) := by decide +kernel
theorem dX10_told_131 : decode cX10_told 131 = .ok (.aload_n 0, 1) := by decide +kernel
theorem dX10_told_132 : decode cX10_told 132 = .ok (.getfield 45, 3) := by decide +kernel
theorem dX10_told_135 : decode cX10_told 135 = .ok (.sipush 200, 3) := by decide +kernel
theorem dX10_told_138 : decode cX10_told 138 = .ok (.iload_n 1, 1) := by decide +kernel
theorem dX10_told_139 : decode cX10_told 139 = .ok (.imul, 1) := by decide +kernel
theorem dX10_told_140 : decode cX10_told 140 = .ok (.iload_n 2, 1) := by decide +kernel
theorem dX10_told_141 : decode cX10_told 141 = .ok (.iadd, 1) := by decide +kernel
theorem dX10_told_142 : decode cX10_told 142 = .ok (.bipush 10, 2) := by decide +kernel
theorem dX10_told_144 : decode cX10_told 144 = .ok (.isub, 1) := by decide +kernel
theorem dX10_told_145 : decode cX10_told 145 = .ok (.iaload, 1) := by decide +kernel
theorem dX10_told_146 : decode cX10_told 146 = .ok (.ireturn, 1) := by decide +kernel
theorem dX10_told_147 : decode cX10_told 147 = .ok (.iload_n 2, 1) := by decide +kernel
theorem dX10_told_148 : decode cX10_told 148 = .ok (.i2l, 1) := by decide +kernel
theorem dX10_told_149 : decode cX10_told 149 = .ok (.ldc2_w 291, 3) := by decide +kernel
theorem dX10_told_152 : decode cX10_told 152 = .ok (.sipush 299, 3) := by decide +kernel
theorem dX10_told_155 : decode cX10_told 155 = .ok (.aload_n 0, 1) := by decide +kernel
theorem dX10_told_156 : decode cX10_told 156 = .ok (.getfield 42, 3) := by decide +kernel
theorem dX10_told_159 : decode cX10_told 159 = .ok (.iload_n 1, 1) := by decide +kernel
theorem dX10_told_160 : decode cX10_told 160 = .ok (.iaload, 1) := by decide +kernel
theorem dX10_told_161 : decode cX10_told 161 = .ok (.iadd, 1) := by decide +kernel
theorem dX10_told_162 : decode cX10_told 162 = .ok (.i2l, 1) := by decide +kernel
theorem dX10_told_163 : decode cX10_told 163 = .ok (.invokestatic 115, 3) := by decide +kernel
theorem dX10_told_166 : decode cX10_told 166 = .ok (.ifCond .eq 20, 3) := by decide +kernel
theorem dX10_told_169 : decode cX10_told 169 = .ok (.aload_n 0, 1) := by decide +kernel
theorem dX10_told_170 : decode cX10_told 170 = .ok (.getfield 48, 3) := by decide +kernel
theorem dX10_told_173 : decode cX10_told 173 = .ok (.sipush 200, 3) := by decide +kernel
theorem dX10_told_176 : decode cX10_told 176 = .ok (.iload_n 1, 1) := by decide +kernel
theorem dX10_told_177 : decode cX10_told 177 = .ok (.imul, 1) := by decide +kernel
theorem dX10_told_178 : decode cX10_told 178 = .ok (.iload_n 2, 1) := by decide +kernel
theorem dX10_told_179 : decode cX10_told 179 = .ok (.iadd, 1) := by decide +kernel
theorem dX10_told_180 : decode cX10_told 180 = .ok (.sipush 300, 3) := by decide +kernel
theorem dX10_told_183 : decode cX10_told 183 = .ok (.isub, 1) := by decide +kernel
theorem dX10_told_184 : decode cX10_told 184 = .ok (.iaload, 1) := by decide +kernel
theorem dX10_told_185 : decode cX10_told 185 = .ok (.ireturn, 1) := by decide +kernel
theorem dX10_told_186 : decode cX10_told 186 = .ok (.iload_n 2, 1) := by decide +kernel
theorem dX10_told_187 : decode cX10_told 187 = .ok (.ifCond .ne 12, 3) := by decide +kernel
theorem dX10_told_190 : decode cX10_told 190 = .ok (.aload_n 0, 1) := by decide +kernel
theorem dX10_told_191 : decode cX10_told 191 = .ok (.getfield 42, 3) := by decide +kernel
theorem dX10_told_194 : decode cX10_told 194 = .ok (.iload_n 1, 1) := by decide +kernel
theorem dX10_told_195 : decode cX10_told 195 = .ok (.iaload, 1) := by decide +kernel
theorem dX10_told_196 : decode cX10_told 196 = .ok (.goto 23, 3) := by decide +kernel
theorem dX10_told_199 : decode cX10_told 199 = .ok (.iload_n 2, 1) := by decide +kernel
theorem dX10_told_200 : decode cX10_told 200 = .ok (.iconst 1, 1) := by decide +kernel
theorem dX10_told_201 : decode cX10_told 201 = .ok (.if_icmp .ne 7, 3) := by decide +kernel
theorem dX10_told_204 : decode cX10_told 204 = .ok (.iload_n 3, 1) := by decide +kernel
theorem dX10_told_205 : decode cX10_told 205 = .ok (.goto 14, 3) := by decide +kernel
theorem dX10_told_208 : decode cX10_told 208 = .ok (.iload_n 2, 1) := by decide +kernel
theorem dX10_told_209 : decode cX10_told 209 = .ok (.iconst 2, 1) := by decide +kernel
theorem dX10_told_210 : decode cX10_told 210 = .ok (.if_icmp .ne 8, 3) := by decide +kernel
theorem dX10_told_213 : decode cX10_told 213 = .ok (.iload 4, 2) := by decide +kernel
theorem dX10_told_215 : decode cX10_told 215 = .ok (.goto 4, 3) := by decide +kernel
theorem dX10_told_218 : decode cX10_told 218 = .ok (.iconst (-1), 1) := by decide +kernel
theorem dX10_told_219 : decode cX10_told 219 = .ok (.ireturn, 1) := by decide +kernel
theorem dX10_goes_0 : decode cX10_goes 0 = .ok (.aload_n 0, 1) := by decide +kernel
theorem dX10_goes_1 : decode cX10_goes 1 = .ok (.iconst 0, 1) := by decide +kernel
theorem dX10_goes_2 : decode cX10_goes 2 = .ok (.putfield 293, 3) := by decide +kernel
theorem dX10_goes_5 : decode cX10_goes 5 = .ok (.iconst 0, 1) := by decide +kernel
theorem dX10_goes_6 : decode cX10_goes 6 = .ok (.istore_n 3, 1) := by decide +kernel
theorem dX10_goes_7 : decode cX10_goes 7 = .ok (.iload_n 3, 1) := by decide +kernel
theorem dX10_goes_8 : decode cX10_goes 8 = .ok (.aload_n 0, 1) := by decide +kernel
theorem dX10_goes_9 : decode cX10_goes 9 = .ok (.getfield 42, 3) := by decide +kernel
theorem dX10_goes_12 : decode cX10_goes 12 = .ok (.iload_n 1, 1) := by decide +kernel
theorem dX10_goes_13 : decode cX10_goes 13 = .ok (.iaload, 1) := by decide +kernel
theorem dX10_goes_14 : decode cX10_goes 14 = .ok (.if_icmp .ge 89, 3) := by decide +kernel
theorem dX10_goes_17 : decode cX10_goes 17 = .ok (.aload_n 0, 1) := by decide +kernel
theorem dX10_goes_18 : decode cX10_goes 18 = .ok (.getfield 45, 3) := by decide +kernel
theorem dX10_goes_21 : decode cX10_goes 21 = .ok (.sipush 200, 3) := by decide +kernel
theorem dX10_goes_24 : decode cX10_goes 24 = .ok (.iload_n 1, 1) := by decide +kernel
theorem dX10_goes_25 : decode cX10_goes 25 = .ok (.imul, 1) := by decide +kernel
theorem dX10_goes_26 : decode cX10_goes 26 = .ok (.iload_n 3, 1) := by decide +kernel
theorem dX10_goes_27 : decode cX10_goes 27 = .ok (.iadd, 1) := by decide +kernel
theorem dX10_goes_28 : decode cX10_goes 28 = .ok (.iaload, 1) := by decide +kernel
theorem dX10_goes_29 : decode cX10_goes 29 = .ok (.istore 4, 2) := by decide +kernel
theorem dX10_goes_31 : decode cX10_goes 31 = .ok (.aload_n 0, 1) := by decide +kernel
theorem dX10_goes_32 : decode cX10_goes 32 = .ok (.getfield 48, 3) := by decide +kernel
theorem dX10_goes_35 : decode cX10_goes 35 = .ok (.sipush 200, 3) := by decide +kernel
theorem dX10_goes_38 : decode cX10_goes 38 = .ok (.iload_n 1, 1) := by decide +kernel
theorem dX10_goes_39 : decode cX10_goes 39 = .ok (.imul, 1) := by decide +kernel
theorem dX10_goes_40 : decode cX10_goes 40 = .ok (.iload_n 3, 1) := by decide +kernel
theorem dX10_goes_41 : decode cX10_goes 41 = .ok (.iadd, 1) := by decide +kernel
theorem dX10_goes_42 : decode cX10_goes 42 = .ok (.iaload, 1) := by decide +kernel
theorem dX10_goes_43 : decode cX10_goes 43 = .ok (.istore 5, 2) := by decide +kernel
theorem dX10_goes_45 : decode cX10_goes 45 = .ok (.iload 4, 2) := by decide +kernel
theorem dX10_goes_47 : decode cX10_goes 47 = .ok (.bipush 6, 2) := by decide +kernel
theorem dX10_goes_49 : decode cX10_goes 49 = .ok (.if_icmp .ne 7, 3) := by decide +kernel
theorem dX10_goes_52 : decode cX10_goes 52 = .ok (.iconst 1, 1) := by decide +kernel
theorem dX10_goes_53 : decode cX10_goes 53 = .ok (.goto 26, 3) := by decide +kernel
theorem dX10_goes_56 : decode cX10_goes 56 = .ok (.iload_n 2, 1) := by decide +kernel
theorem dX10_goes_57 : decode cX10_goes 57 = .ok (.ifCond .eq 14, 3) := by decide +kernel
theorem dX10_goes_60 : decode cX10_goes 60 = .ok (.aload_n 0, 1) := by decide +kernel
theorem dX10_goes_61 : decode cX10_goes 61 = .ok (.iload 4, 2) := by decide +kernel
theorem dX10_goes_63 : decode cX10_goes 63 = .ok (.iload 5, 2) := by decide +kernel
theorem dX10_goes_65 : decode cX10_goes 65 = .ok (.invokevirtual 186, 3) := by decide +kernel
theorem dX10_goes_68 : decode cX10_goes 68 = .ok (.goto 11, 3) := by decide +kernel
theorem dX10_goes_71 : decode cX10_goes 71 = .ok (.aload_n 0, 1) := by decide +kernel
theorem dX10_goes_72 : decode cX10_goes 72 = .ok (.iload 4, 2) := by decide +kernel
theorem dX10_goes_74 : decode cX10_goes 74 = .ok (.iload 5, 2) := by decide +kernel
theorem dX10_goes_76 : decode cX10_goes 76 = .ok (.invokevirtual 176, 3) := by decide +kernel
theorem dX10_goes_79 : decode cX10_goes 79 = .ok (.istore 6, 2) := by decide +kernel
theorem dX10_goes_81 : decode cX10_goes 81 = .ok (.iload 6, 2) := by decide +kernel
theorem dX10_goes_83 : decode cX10_goes 83 = .ok (.ifCond .ge 14, 3) := by decide +kernel
theorem dX10_goes_86 : decode cX10_goes 86 = .ok (.aload_n 0, 1) := by decide +kernel
theorem dX10_goes_87 : decode cX10_goes 87 = .ok (.iload 6, 2) := by decide +kernel
theorem dX10_goes_89 : decode cX10_goes 89 = .ok (.putfield 293, 3) := by decide +kernel
theorem dX10_goes_92 : decode cX10_goes 92 = .ok (.bipush (-100), 2) := by decide +kernel
theorem dX10_goes_94 : decode cX10_goes 94 = .ok (.iload_n 3, 1) := by decide +kernel
theorem dX10_goes_95 : decode cX10_goes 95 = .ok (.isub, 1) := by decide +kernel
theorem dX10_goes_96 : decode cX10_goes 96 = .ok (.ireturn, 1) := by decide +kernel
theorem dX10_goes_97 : decode cX10_goes 97 = .ok (.iinc 3 1, 3) := by decide +kernel
theorem dX10_goes_100 : decode cX10_goes 100 = .ok (.goto (-93), 3) := by decide +kernel
theorem dX10_goes_103 : decode cX10_goes 103 = .ok (.aload_n 0, 1) := by decide +kernel
theorem dX10_goes_104 : decode cX10_goes 104 = .ok (.getfield 42, 3) := by decide +kernel
theorem dX10_goes_107 : decode cX10_goes 107 = .ok (.iload_n 1, 1) := by decide +kernel
theorem dX10_goes_108 : decode cX10_goes 108 = .ok (.iaload, 1) := by decide +kernel
theorem dX10_goes_109 : decode cX10_goes 109 = .ok (.ireturn, 1) := by decide +kernel
theorem dX10_goesBack_0 : decode cX10_goesBack 0 = .ok (.aload_n 0, 1) := by decide +kernel
theorem dX10_goesBack_1 : decode cX10_goesBack 1 = .ok (.iconst 0, 1) := by decide +kernel
theorem dX10_goesBack_2 : decode cX10_goesBack 2 = .ok (.putfield 293, 3) := by decide +kernel
theorem dX10_goesBack_5 : decode cX10_goesBack 5 = .ok (.iconst 0, 1) := by decide +kernel
theorem dX10_goesBack_6 : decode cX10_goesBack 6 = .ok (.istore_n 3, 1) := by decide +kernel
theorem dX10_goesBack_7 : decode cX10_goesBack 7 = .ok (.iload_n 3, 1) := by decide +kernel
theorem dX10_goesBack_8 : decode cX10_goesBack 8 = .ok (.aload_n 0, 1) := by decide +kernel
theorem dX10_goesBack_9 : decode cX10_goesBack 9 = .ok (.getfield 42, 3) := by decide +kernel
theorem dX10_goesBack_12 : decode cX10_goesBack 12 = .ok (.iload_n 1, 1) := by decide +kernel
theorem dX10_goesBack_13 : decode cX10_goesBack 13 = .ok (.iaload, 1) := by decide +kernel
theorem dX10_goesBack_14 : decode cX10_goesBack 14 = .ok (.if_icmp .ge 161, 3) := by decide +kernel
theorem dX10_goesBack_17 : decode cX10_goesBack 17 = .ok (.sipush 200, 3) := by decide +kernel
theorem dX10_goesBack_20 : decode cX10_goesBack 20 = .ok (.iload_n 1, 1) := by decide +kernel
theorem dX10_goesBack_21 : decode cX10_goesBack 21 = .ok (.imul, 1) := by decide +kernel
theorem dX10_goesBack_22 : decode cX10_goesBack 22 = .ok (.aload_n 0, 1) := by decide +kernel
theorem dX10_goesBack_23 : decode cX10_goesBack 23 = .ok (.getfield 42, 3) := by decide +kernel
theorem dX10_goesBack_26 : decode cX10_goesBack 26 = .ok (.iload_n 1, 1) := by decide +kernel
theorem dX10_goesBack_27 : decode cX10_goesBack 27 = .ok (.iaload, 1) := by decide +kernel
theorem dX10_goesBack_28 : decode cX10_goesBack 28 = .ok (.iadd, 1) := by decide +kernel
theorem dX10_goesBack_29 : decode cX10_goesBack 29 = .ok (.iconst 1, 1) := by decide +kernel
theorem dX10_goesBack_30 : decode cX10_goesBack 30 = .ok (.isub, 1) := by decide +kernel
theorem dX10_goesBack_31 : decode cX10_goesBack 31 = .ok (.iload_n 3, 1) := by decide +kernel
theorem dX10_goesBack_32 : decode cX10_goesBack 32 = .ok (.isub, 1) := by decide +kernel
theorem dX10_goesBack_33 : decode cX10_goesBack 33 = .ok (.istore 4, 2) := by decide +kernel
theorem dX10_goesBack_35 : decode cX10_goesBack 35 = .ok (.aload_n 0, 1) := by decide +kernel
theorem dX10_goesBack_36 : decode cX10_goesBack 36 = .ok (.getfield 45, 3) := by decide +kernel
theorem dX10_goesBack_39 : decode cX10_goesBack 39 = .ok (.iload 4, 2) := by decide +kernel
theorem dX10_goesBack_41 : decode cX10_goesBack 41 = .ok (.iaload, 1) := by decide +kernel
theorem dX10_goesBack_42 : decode cX10_goesBack 42 = .ok (.istore 5, 2) := by decide +kernel
theorem dX10_goesBack_44 : decode cX10_goesBack 44 = .ok (.iload 5, 2) := by decide +kernel
theorem dX10_goesBack_46 : decode cX10_goesBack 46 = .ok (.ifCond .ne 7, 3) := by decide +kernel
theorem dX10_goesBack_49 : decode cX10_goesBack 49 = .ok (.iconst 1, 1) := by decide +kernel
theorem dX10_goesBack_50 : decode cX10_goesBack 50 = .ok (.goto 26, 3) := by decide +kernel
theorem dX10_goesBack_53 : decode cX10_goesBack 53 = .ok (.iload 5, 2) := by decide +kernel
theorem dX10_goesBack_55 : decode cX10_goesBack 55 = .ok (.iconst 1, 1) := by decide +kernel
theorem dX10_goesBack_56 : decode cX10_goesBack 56 = .ok (.if_icmp .ne 7, 3) := by decide +kernel
theorem dX10_goesBack_59 : decode cX10_goesBack 59 = .ok (.iconst 0, 1) := by decide +kernel
theorem dX10_goesBack_60 : decode cX10_goesBack 60 = .ok (.goto 16, 3) := by decide +kernel
theorem dX10_goesBack_63 : decode cX10_goesBack 63 = .ok (.iload 5, 2) := by decide +kernel
theorem dX10_goesBack_65 : decode cX10_goesBack 65 = .ok (.iconst 3, 1) := by decide +kernel
theorem dX10_goesBack_66 : decode cX10_goesBack 66 = .ok (.if_icmp .ne 8, 3) := by decide +kernel
theorem dX10_goesBack_69 : decode cX10_goesBack 69 = .ok (.bipush 7, 2) := by decide +kernel
theorem dX10_goesBack_71 : decode cX10_goesBack 71 = .ok (.goto 5, 3) := by decide +kernel
theorem dX10_goesBack_74 : decode cX10_goesBack 74 = .ok (.iload 5, 2) := by decide +kernel
theorem dX10_goesBack_76 : decode cX10_goesBack 76 = .ok (.istore 6, 2) := by decide +kernel
theorem dX10_goesBack_78 : decode cX10_goesBack 78 = .ok (.iload 5, 2) := by decide +kernel
theorem dX10_goesBack_80 : decode cX10_goesBack 80 = .ok (.iconst 4, 1) := by decide +kernel
theorem dX10_goesBack_81 : decode cX10_goesBack 81 = .ok (.if_icmp .eq 9, 3) := by decide +kernel
theorem dX10_goesBack_84 : decode cX10_goesBack 84 = .ok (.iload 5, 2) := by decide +kernel
theorem dX10_goesBack_86 : decode cX10_goesBack 86 = .ok (.iconst 5, 1) := by decide +kernel
theorem dX10_goesBack_87 : decode cX10_goesBack 87 = .ok (.if_icmp .ne 7, 3) := by decide +kernel
theorem dX10_goesBack_90 : decode cX10_goesBack 90 = .ok (.iconst 1, 1) := by decide +kernel
theorem dX10_goesBack_91 : decode cX10_goesBack 91 = .ok (.goto 4, 3) := by decide +kernel
theorem dX10_goesBack_94 : decode cX10_goesBack 94 = .ok (.iconst 0, 1) := by decide +kernel
theorem dX10_goesBack_95 : decode cX10_goesBack 95 = .ok (.istore 7, 2) := by decide +kernel
theorem dX10_goesBack_97 : decode cX10_goesBack 97 = .ok (.iload 5, 2) := by decide +kernel
theorem dX10_goesBack_99 : decode cX10_goesBack 99 = .ok (.bipush 6, 2) := by decide +kernel
theorem dX10_goesBack_101 : decode cX10_goesBack 101 = .ok (.if_icmp .ne 7, 3) := by decide +kernel
theorem dX10_goesBack_104 : decode cX10_goesBack 104 = .ok (.iconst 1, 1) := by decide +kernel
theorem dX10_goesBack_105 : decode cX10_goesBack 105 = .ok (.goto 46, 3) := by decide +kernel
theorem dX10_goesBack_108 : decode cX10_goesBack 108 = .ok (.iload 7, 2) := by decide +kernel
theorem dX10_goesBack_110 : decode cX10_goesBack 110 = .ok (.ifCond .eq 8, 3) := by decide +kernel
theorem dX10_goesBack_113 : decode cX10_goesBack 113 = .ok (.bipush (-2), 2) := by decide +kernel
theorem dX10_goesBack_115 : decode cX10_goesBack 115 = .ok (.goto 36, 3) := by decide +kernel
theorem dX10_goesBack_118 : decode cX10_goesBack 118 = .ok (.iload_n 2, 1) := by decide +kernel
theorem dX10_goesBack_119 : decode cX10_goesBack 119 = .ok (.ifCond .eq 19, 3) := by decide +kernel
theorem dX10_goesBack_122 : decode cX10_goesBack 122 = .ok (.aload_n 0, 1) := by decide +kernel
theorem dX10_goesBack_123 : decode cX10_goesBack 123 = .ok (.iload 6, 2) := by decide +kernel
theorem dX10_goesBack_125 : decode cX10_goesBack 125 = .ok (.aload_n 0, 1) := by decide +kernel
theorem dX10_goesBack_126 : decode cX10_goesBack 126 = .ok (.getfield 48, 3) := by decide +kernel
theorem dX10_goesBack_129 : decode cX10_goesBack 129 = .ok (.iload 4, 2) := by decide +kernel
theorem dX10_goesBack_131 : decode cX10_goesBack 131 = .ok (.iaload, 1) := by decide +kernel
theorem dX10_goesBack_132 : decode cX10_goesBack 132 = .ok (.invokevirtual 186, 3) := by decide +kernel
theorem dX10_goesBack_135 : decode cX10_goesBack 135 = .ok (.goto 16, 3) := by decide +kernel
theorem dX10_goesBack_138 : decode cX10_goesBack 138 = .ok (.aload_n 0, 1) := by decide +kernel
theorem dX10_goesBack_139 : decode cX10_goesBack 139 = .ok (.iload 6, 2) := by decide +kernel
theorem dX10_goesBack_141 : decode cX10_goesBack 141 = .ok (.aload_n 0, 1) := by decide +kernel
theorem dX10_goesBack_142 : decode cX10_goesBack 142 = .ok (.getfield 48, 3) := by decide +kernel
theorem dX10_goesBack_145 : decode cX10_goesBack 145 = .ok (.iload 4, 2) := by decide +kernel
theorem dX10_goesBack_147 : decode cX10_goesBack 147 = .ok (.iaload, 1) := by decide +kernel
theorem dX10_goesBack_148 : decode cX10_goesBack 148 = .ok (.invokevirtual 176, 3) := by decide +kernel
theorem dX10_goesBack_151 : decode cX10_goesBack 151 = .ok (.istore 8, 2) := by decide +kernel
theorem dX10_goesBack_153 : decode cX10_goesBack 153 = .ok (.iload 8, 2) := by decide +kernel
theorem dX10_goesBack_155 : decode cX10_goesBack 155 = .ok (.ifCond .ge 14, 3) := by decide +kernel
theorem dX10_goesBack_158 : decode cX10_goesBack 158 = .ok (.aload_n 0, 1) := by decide +kernel
theorem dX10_goesBack_159 : decode cX10_goesBack 159 = .ok (.iload 8, 2) := by decide +kernel
theorem dX10_goesBack_161 : decode cX10_goesBack 161 = .ok (.putfield 293, 3) := by decide +kernel
theorem dX10_goesBack_164 : decode cX10_goesBack 164 = .ok (.bipush (-100), 2) := by decide +kernel
theorem dX10_goesBack_166 : decode cX10_goesBack 166 = .ok (.iload_n 3, 1) := by decide +kernel
theorem dX10_goesBack_167 : decode cX10_goesBack 167 = .ok (.isub, 1) := by decide +kernel
theorem dX10_goesBack_168 : decode cX10_goesBack 168 = .ok (.ireturn, 1) := by decide +kernel
theorem dX10_goesBack_169 : decode cX10_goesBack 169 = .ok (.iinc 3 1, 3) := by decide +kernel
theorem dX10_goesBack_172 : decode cX10_goesBack 172 = .ok (.goto (-165), 3) := by decide +kernel
theorem dX10_goesBack_175 : decode cX10_goesBack 175 = .ok (.aload_n 0, 1) := by decide +kernel
theorem dX10_goesBack_176 : decode cX10_goesBack 176 = .ok (.getfield 42, 3) := by decide +kernel
theorem dX10_goesBack_179 : decode cX10_goesBack 179 = .ok (.iload_n 1, 1) := by decide +kernel
theorem dX10_goesBack_180 : decode cX10_goesBack 180 = .ok (.iaload, 1) := by decide +kernel
theorem dX10_goesBack_181 : decode cX10_goesBack 181 = .ok (.ireturn, 1) := by decide +kernel
theorem dX10_dance_0 : decode cX10_dance 0 = .ok (.aload_n 0, 1) := by decide +kernel
theorem dX10_dance_1 : decode cX10_dance 1 = .ok (.iload_n 1, 1) := by decide +kernel
theorem dX10_dance_2 : decode cX10_dance 2 = .ok (.invokevirtual 286, 3) := by decide +kernel
theorem dX10_dance_5 : decode cX10_dance 5 = .ok (.ifCond .ne 5, 3) := by decide +kernel
theorem dX10_dance_8 : decode cX10_dance 8 = .ok (.iconst (-1), 1) := by decide +kernel
theorem dX10_dance_9 : decode cX10_dance 9 = .ok (.ireturn, 1) := by decide +kernel
theorem dX10_dance_10 : decode cX10_dance 10 = .ok (.aload_n 0, 1) := by decide +kernel
theorem dX10_dance_11 : decode cX10_dance 11 = .ok (.iload_n 1, 1) := by decide +kernel
theorem dX10_dance_12 : decode cX10_dance 12 = .ok (.iconst 1, 1) := by decide +kernel
theorem dX10_dance_13 : decode cX10_dance 13 = .ok (.invokevirtual 296, 3) := by decide +kernel
theorem dX10_dance_16 : decode cX10_dance 16 = .ok (.istore_n 2, 1) := by decide +kernel
theorem dX10_dance_17 : decode cX10_dance 17 = .ok (.aload_n 0, 1) := by decide +kernel
theorem dX10_dance_18 : decode cX10_dance 18 = .ok (.aload_n 0, 1) := by decide +kernel
theorem dX10_dance_19 : decode cX10_dance 19 = .ok (.getfield 293, 3) := by decide +kernel
theorem dX10_dance_22 : decode cX10_dance 22 = .ok (.putfield 300, 3) := by decide +kernel
theorem dX10_dance_25 : decode cX10_dance 25 = .ok (.iload_n 2, 1) := by decide +kernel
theorem dX10_dance_26 : decode cX10_dance 26 = .ok (.ireturn, 1) := by decide +kernel
theorem dX10_why_0 : decode cX10_why 0 = .ok (.aload_n 0, 1) := by decide +kernel
theorem dX10_why_1 : decode cX10_why 1 = .ok (.getfield 300, 3) := by decide +kernel
theorem dX10_why_4 : decode cX10_why 4 = .ok (.ireturn, 1) := by decide +kernel
theorem dX10_back_0 : decode cX10_back 0 = .ok (.aload_n 0, 1) := by decide +kernel
theorem dX10_back_1 : decode cX10_back 1 = .ok (.iload_n 1, 1) := by decide +kernel
theorem dX10_back_2 : decode cX10_back 2 = .ok (.invokevirtual 286, 3) := by decide +kernel
theorem dX10_back_5 : decode cX10_back 5 = .ok (.ifCond .ne 5, 3) := by decide +kernel
theorem dX10_back_8 : decode cX10_back 8 = .ok (.iconst (-1), 1) := by decide +kernel
theorem dX10_back_9 : decode cX10_back 9 = .ok (.ireturn, 1) := by decide +kernel
theorem dX10_back_10 : decode cX10_back 10 = .ok (.aload_n 0, 1) := by decide +kernel
theorem dX10_back_11 : decode cX10_back 11 = .ok (.iload_n 1, 1) := by decide +kernel
theorem dX10_back_12 : decode cX10_back 12 = .ok (.iconst 1, 1) := by decide +kernel
theorem dX10_back_13 : decode cX10_back 13 = .ok (.invokevirtual 303, 3) := by decide +kernel
theorem dX10_back_16 : decode cX10_back 16 = .ok (.istore_n 2, 1) := by decide +kernel
theorem dX10_back_17 : decode cX10_back 17 = .ok (.aload_n 0, 1) := by decide +kernel
theorem dX10_back_18 : decode cX10_back 18 = .ok (.aload_n 0, 1) := by decide +kernel
theorem dX10_back_19 : decode cX10_back 19 = .ok (.getfield 293, 3) := by decide +kernel
theorem dX10_back_22 : decode cX10_back 22 = .ok (.putfield 300, 3) := by decide +kernel
theorem dX10_back_25 : decode cX10_back 25 = .ok (.iload_n 2, 1) := by decide +kernel
theorem dX10_back_26 : decode cX10_back 26 = .ok (.ireturn, 1) := by decide +kernel
theorem dX10_putAside_0 : decode cX10_putAside 0 = .ok (.aload_n 0, 1) := by decide +kernel
theorem dX10_putAside_1 : decode cX10_putAside 1 = .ok (.aload_n 0, 1) := by decide +kernel
theorem dX10_putAside_2 : decode cX10_putAside 2 = .ok (.invokevirtual 153, 3) := by decide +kernel
theorem dX10_putAside_5 : decode cX10_putAside 5 = .ok (.putfield 306, 3) := by decide +kernel
theorem dX10_putAside_8 : decode cX10_putAside 8 = .ok (.aload_n 0, 1) := by decide +kernel
theorem dX10_putAside_9 : decode cX10_putAside 9 = .ok (.aload_n 0, 1) := by decide +kernel
theorem dX10_putAside_10 : decode cX10_putAside 10 = .ok (.getfield 17, 3) := by decide +kernel
theorem dX10_putAside_13 : decode cX10_putAside 13 = .ok (.putfield 309, 3) := by decide +kernel
theorem dX10_putAside_16 : decode cX10_putAside 16 = .ok (.aload_n 0, 1) := by decide +kernel
theorem dX10_putAside_17 : decode cX10_putAside 17 = .ok (.aload_n 0, 1) := by decide +kernel
theorem dX10_putAside_18 : decode cX10_putAside 18 = .ok (.getfield 20, 3) := by decide +kernel
theorem dX10_putAside_21 : decode cX10_putAside 21 = .ok (.putfield 312, 3) := by decide +kernel
theorem dX10_putAside_24 : decode cX10_putAside 24 = .ok (.aload_n 0, 1) := by decide +kernel
theorem dX10_putAside_25 : decode cX10_putAside 25 = .ok (.aload_n 0, 1) := by decide +kernel
theorem dX10_putAside_26 : decode cX10_putAside 26 = .ok (.getfield 119, 3) := by decide +kernel
theorem dX10_putAside_29 : decode cX10_putAside 29 = .ok (.putfield 315, 3) := by decide +kernel
theorem dX10_putAside_32 : decode cX10_putAside 32 = .ok (.return_, 1) := by decide +kernel
theorem dX10_isAside_0 : decode cX10_isAside 0 = .ok (.aload_n 0, 1) := by decide +kernel
theorem dX10_isAside_1 : decode cX10_isAside 1 = .ok (.invokevirtual 153, 3) := by decide +kernel
theorem dX10_isAside_4 : decode cX10_isAside 4 = .ok (.aload_n 0, 1) := by decide +kernel
theorem dX10_isAside_5 : decode cX10_isAside 5 = .ok (.getfield 306, 3) := by decide +kernel
theorem dX10_isAside_8 : decode cX10_isAside 8 = .ok (.if_icmp .ne 41, 3) := by decide +kernel
theorem dX10_isAside_11 : decode cX10_isAside 11 = .ok (.aload_n 0, 1) := by decide +kernel
theorem dX10_isAside_12 : decode cX10_isAside 12 = .ok (.getfield 17, 3) := by decide +kernel
theorem dX10_isAside_15 : decode cX10_isAside 15 = .ok (.aload_n 0, 1) := by decide +kernel
theorem dX10_isAside_16 : decode cX10_isAside 16 = .ok (.getfield 309, 3) := by decide +kernel
theorem dX10_isAside_19 : decode cX10_isAside 19 = .ok (.if_icmp .ne 30, 3) := by decide +kernel
theorem dX10_isAside_22 : decode cX10_isAside 22 = .ok (.aload_n 0, 1) := by decide +kernel
theorem dX10_isAside_23 : decode cX10_isAside 23 = .ok (.getfield 20, 3) := by decide +kernel
theorem dX10_isAside_26 : decode cX10_isAside 26 = .ok (.aload_n 0, 1) := by decide +kernel
theorem dX10_isAside_27 : decode cX10_isAside 27 = .ok (.getfield 312, 3) := by decide +kernel
theorem dX10_isAside_30 : decode cX10_isAside 30 = .ok (.if_icmp .ne 19, 3) := by decide +kernel
theorem dX10_isAside_33 : decode cX10_isAside 33 = .ok (.aload_n 0, 1) := by decide +kernel
theorem dX10_isAside_34 : decode cX10_isAside 34 = .ok (.getfield 119, 3) := by decide +kernel
theorem dX10_isAside_37 : decode cX10_isAside 37 = .ok (.aload_n 0, 1) := by decide +kernel
theorem dX10_isAside_38 : decode cX10_isAside 38 = .ok (.getfield 315, 3) := by decide +kernel
theorem dX10_isAside_41 : decode cX10_isAside 41 = .ok (.lcmp, 1) := by decide +kernel
theorem dX10_isAside_42 : decode cX10_isAside 42 = .ok (.ifCond .ne 7, 3) := by decide +kernel
theorem dX10_isAside_45 : decode cX10_isAside 45 = .ok (.iconst 1, 1) := by decide +kernel
theorem dX10_isAside_46 : decode cX10_isAside 46 = .ok (.goto 4, 3) := by decide +kernel
theorem dX10_isAside_49 : decode cX10_isAside 49 = .ok (.iconst 0, 1) := by decide +kernel
theorem dX10_isAside_50 : decode cX10_isAside 50 = .ok (.ireturn, 1) := by decide +kernel
theorem dX10_bringBack_0 : decode cX10_bringBack 0 = .ok (.aload_n 0, 1) := by decide +kernel
theorem dX10_bringBack_1 : decode cX10_bringBack 1 = .ok (.aload_n 0, 1) := by decide +kernel
theorem dX10_bringBack_2 : decode cX10_bringBack 2 = .ok (.getfield 306, 3) := by decide +kernel
theorem dX10_bringBack_5 : decode cX10_bringBack 5 = .ok (.invokevirtual 180, 3) := by decide +kernel
theorem dX10_bringBack_8 : decode cX10_bringBack 8 = .ok (.aload_n 0, 1) := by decide +kernel
theorem dX10_bringBack_9 : decode cX10_bringBack 9 = .ok (.aload_n 0, 1) := by decide +kernel
theorem dX10_bringBack_10 : decode cX10_bringBack 10 = .ok (.getfield 309, 3) := by decide +kernel
theorem dX10_bringBack_13 : decode cX10_bringBack 13 = .ok (.putfield 17, 3) := by decide +kernel
theorem dX10_bringBack_16 : decode cX10_bringBack 16 = .ok (.aload_n 0, 1) := by decide +kernel
theorem dX10_bringBack_17 : decode cX10_bringBack 17 = .ok (.aload_n 0, 1) := by decide +kernel
theorem dX10_bringBack_18 : decode cX10_bringBack 18 = .ok (.getfield 312, 3) := by decide +kernel
theorem dX10_bringBack_21 : decode cX10_bringBack 21 = .ok (.putfield 20, 3) := by decide +kernel
theorem dX10_bringBack_24 : decode cX10_bringBack 24 = .ok (.aload_n 0, 1) := by decide +kernel
theorem dX10_bringBack_25 : decode cX10_bringBack 25 = .ok (.aload_n 0, 1) := by decide +kernel
theorem dX10_bringBack_26 : decode cX10_bringBack 26 = .ok (.getfield 315, 3) := by decide +kernel
theorem dX10_bringBack_29 : decode cX10_bringBack 29 = .ok (.putfield 119, 3) := by decide +kernel
theorem dX10_bringBack_32 : decode cX10_bringBack 32 = .ok (.return_, 1) := by decide +kernel
theorem dX10_order_0 : decode cX10_order 0 = .ok (.aload_n 0, 1) := by decide +kernel
theorem dX10_order_1 : decode cX10_order 1 = .ok (.iload_n 1, 1) := by decide +kernel
theorem dX10_order_2 : decode cX10_order 2 = .ok (.invokevirtual 286, 3) := by decide +kernel
theorem dX10_order_5 : decode cX10_order 5 = .ok (.ifCond .ne 5, 3) := by decide +kernel
theorem dX10_order_8 : decode cX10_order 8 = .ok (.iconst (-1), 1) := by decide +kernel
theorem dX10_order_9 : decode cX10_order 9 = .ok (.ireturn, 1) := by decide +kernel
theorem dX10_order_10 : decode cX10_order 10 = .ok (.aload_n 0, 1) := by decide +kernel
theorem dX10_order_11 : decode cX10_order 11 = .ok (.invokevirtual 318, 3) := by decide +kernel
theorem dX10_order_14 : decode cX10_order 14 = .ok (.bipush (-4), 2) := by decide +kernel
theorem dX10_order_16 : decode cX10_order 16 = .ok (.istore_n 2, 1) := by decide +kernel
theorem dX10_order_17 : decode cX10_order 17 = .ok (.iconst 1, 1) := by decide +kernel
theorem dX10_order_18 : decode cX10_order 18 = .ok (.istore_n 3, 1) := by decide +kernel
theorem dX10_order_19 : decode cX10_order 19 = .ok (.iload_n 3, 1) := by decide +kernel
theorem dX10_order_20 : decode cX10_order 20 = .ok (.bipush 60, 2) := by decide +kernel
theorem dX10_order_22 : decode cX10_order 22 = .ok (.if_icmp .gt 43, 3) := by decide +kernel
theorem dX10_order_25 : decode cX10_order 25 = .ok (.iload_n 2, 1) := by decide +kernel
theorem dX10_order_26 : decode cX10_order 26 = .ok (.bipush (-4), 2) := by decide +kernel
theorem dX10_order_28 : decode cX10_order 28 = .ok (.if_icmp .ne 37, 3) := by decide +kernel
theorem dX10_order_31 : decode cX10_order 31 = .ok (.aload_n 0, 1) := by decide +kernel
theorem dX10_order_32 : decode cX10_order 32 = .ok (.iload_n 1, 1) := by decide +kernel
theorem dX10_order_33 : decode cX10_order 33 = .ok (.iconst 0, 1) := by decide +kernel
theorem dX10_order_34 : decode cX10_order 34 = .ok (.invokevirtual 296, 3) := by decide +kernel
theorem dX10_order_37 : decode cX10_order 37 = .ok (.ifCond .ge 8, 3) := by decide +kernel
theorem dX10_order_40 : decode cX10_order 40 = .ok (.bipush (-2), 2) := by decide +kernel
theorem dX10_order_42 : decode cX10_order 42 = .ok (.goto 16, 3) := by decide +kernel
theorem dX10_order_45 : decode cX10_order 45 = .ok (.aload_n 0, 1) := by decide +kernel
theorem dX10_order_46 : decode cX10_order 46 = .ok (.invokevirtual 321, 3) := by decide +kernel
theorem dX10_order_49 : decode cX10_order 49 = .ok (.ifCond .eq 7, 3) := by decide +kernel
theorem dX10_order_52 : decode cX10_order 52 = .ok (.iload_n 3, 1) := by decide +kernel
theorem dX10_order_53 : decode cX10_order 53 = .ok (.goto 5, 3) := by decide +kernel
theorem dX10_order_56 : decode cX10_order 56 = .ok (.bipush (-4), 2) := by decide +kernel
theorem dX10_order_58 : decode cX10_order 58 = .ok (.istore_n 2, 1) := by decide +kernel
theorem dX10_order_59 : decode cX10_order 59 = .ok (.iinc 3 1, 3) := by decide +kernel
theorem dX10_order_62 : decode cX10_order 62 = .ok (.goto (-43), 3) := by decide +kernel
theorem dX10_order_65 : decode cX10_order 65 = .ok (.aload_n 0, 1) := by decide +kernel
theorem dX10_order_66 : decode cX10_order 66 = .ok (.invokevirtual 324, 3) := by decide +kernel
theorem dX10_order_69 : decode cX10_order 69 = .ok (.iload_n 2, 1) := by decide +kernel
theorem dX10_order_70 : decode cX10_order 70 = .ok (.ireturn, 1) := by decide +kernel
theorem dX10_mirrors_0 : decode cX10_mirrors 0 = .ok (.aload_n 0, 1) := by decide +kernel
theorem dX10_mirrors_1 : decode cX10_mirrors 1 = .ok (.iload_n 1, 1) := by decide +kernel
theorem dX10_mirrors_2 : decode cX10_mirrors 2 = .ok (.invokevirtual 286, 3) := by decide +kernel
theorem dX10_mirrors_5 : decode cX10_mirrors 5 = .ok (.ifCond .ne 5, 3) := by decide +kernel
theorem dX10_mirrors_8 : decode cX10_mirrors 8 = .ok (.iconst (-1), 1) := by decide +kernel
theorem dX10_mirrors_9 : decode cX10_mirrors 9 = .ok (.ireturn, 1) := by decide +kernel
theorem dX10_mirrors_10 : decode cX10_mirrors 10 = .ok (.aload_n 0, 1) := by decide +kernel
theorem dX10_mirrors_11 : decode cX10_mirrors 11 = .ok (.invokevirtual 318, 3) := by decide +kernel
theorem dX10_mirrors_14 : decode cX10_mirrors 14 = .ok (.aload_n 0, 1) := by decide +kernel
theorem dX10_mirrors_15 : decode cX10_mirrors 15 = .ok (.iload_n 1, 1) := by decide +kernel
theorem dX10_mirrors_16 : decode cX10_mirrors 16 = .ok (.iconst 0, 1) := by decide +kernel
theorem dX10_mirrors_17 : decode cX10_mirrors 17 = .ok (.invokevirtual 296, 3) := by decide +kernel
theorem dX10_mirrors_20 : decode cX10_mirrors 20 = .ok (.ifCond .ge 7, 3) := by decide +kernel
theorem dX10_mirrors_23 : decode cX10_mirrors 23 = .ok (.iconst 0, 1) := by decide +kernel
theorem dX10_mirrors_24 : decode cX10_mirrors 24 = .ok (.goto 17, 3) := by decide +kernel
theorem dX10_mirrors_27 : decode cX10_mirrors 27 = .ok (.aload_n 0, 1) := by decide +kernel
theorem dX10_mirrors_28 : decode cX10_mirrors 28 = .ok (.iload_n 1, 1) := by decide +kernel
theorem dX10_mirrors_29 : decode cX10_mirrors 29 = .ok (.iconst 0, 1) := by decide +kernel
theorem dX10_mirrors_30 : decode cX10_mirrors 30 = .ok (.invokevirtual 303, 3) := by decide +kernel
theorem dX10_mirrors_33 : decode cX10_mirrors 33 = .ok (.ifCond .ge 7, 3) := by decide +kernel
theorem dX10_mirrors_36 : decode cX10_mirrors 36 = .ok (.iconst 2, 1) := by decide +kernel
theorem dX10_mirrors_37 : decode cX10_mirrors 37 = .ok (.goto 4, 3) := by decide +kernel
theorem dX10_mirrors_40 : decode cX10_mirrors 40 = .ok (.iconst 1, 1) := by decide +kernel
theorem dX10_mirrors_41 : decode cX10_mirrors 41 = .ok (.istore_n 2, 1) := by decide +kernel
theorem dX10_mirrors_42 : decode cX10_mirrors 42 = .ok (.aload_n 0, 1) := by decide +kernel
theorem dX10_mirrors_43 : decode cX10_mirrors 43 = .ok (.invokevirtual 324, 3) := by decide +kernel
theorem dX10_mirrors_46 : decode cX10_mirrors 46 = .ok (.iload_n 2, 1) := by decide +kernel
theorem dX10_mirrors_47 : decode cX10_mirrors 47 = .ok (.ireturn, 1) := by decide +kernel
theorem dX10_keep_0 : decode cX10_keep 0 = .ok (.aload_n 0, 1) := by decide +kernel
theorem dX10_keep_1 : decode cX10_keep 1 = .ok (.getfield 126, 3) := by decide +kernel
theorem dX10_keep_4 : decode cX10_keep 4 = .ok (.bipush 6, 2) := by decide +kernel
theorem dX10_keep_6 : decode cX10_keep 6 = .ok (.if_icmp .ne 6, 3) := by decide +kernel
theorem dX10_keep_9 : decode cX10_keep 9 = .ok (.bipush (-3), 2) := by decide +kernel
theorem dX10_keep_11 : decode cX10_keep 11 = .ok (.ireturn, 1) := by decide +kernel
theorem dX10_keep_12 : decode cX10_keep 12 = .ok (.aload_n 0, 1) := by decide +kernel
theorem dX10_keep_13 : decode cX10_keep 13 = .ok (.getfield 66, 3) := by decide +kernel
theorem dX10_keep_16 : decode cX10_keep 16 = .ok (.aload_n 0, 1) := by decide +kernel
theorem dX10_keep_17 : decode cX10_keep 17 = .ok (.getfield 126, 3) := by decide +kernel
theorem dX10_keep_20 : decode cX10_keep 20 = .ok (.aload_n 0, 1) := by decide +kernel
theorem dX10_keep_21 : decode cX10_keep 21 = .ok (.invokevirtual 153, 3) := by decide +kernel
theorem dX10_keep_24 : decode cX10_keep 24 = .ok (.iastore, 1) := by decide +kernel
theorem dX10_keep_25 : decode cX10_keep 25 = .ok (.aload_n 0, 1) := by decide +kernel
theorem dX10_keep_26 : decode cX10_keep 26 = .ok (.getfield 69, 3) := by decide +kernel
theorem dX10_keep_29 : decode cX10_keep 29 = .ok (.aload_n 0, 1) := by decide +kernel
theorem dX10_keep_30 : decode cX10_keep 30 = .ok (.getfield 126, 3) := by decide +kernel
theorem dX10_keep_33 : decode cX10_keep 33 = .ok (.aload_n 0, 1) := by decide +kernel
theorem dX10_keep_34 : decode cX10_keep 34 = .ok (.getfield 17, 3) := by decide +kernel
theorem dX10_keep_37 : decode cX10_keep 37 = .ok (.iastore, 1) := by decide +kernel
theorem dX10_keep_38 : decode cX10_keep 38 = .ok (.aload_n 0, 1) := by decide +kernel
theorem dX10_keep_39 : decode cX10_keep 39 = .ok (.getfield 72, 3) := by decide +kernel
theorem dX10_keep_42 : decode cX10_keep 42 = .ok (.aload_n 0, 1) := by decide +kernel
theorem dX10_keep_43 : decode cX10_keep 43 = .ok (.getfield 126, 3) := by decide +kernel
theorem dX10_keep_46 : decode cX10_keep 46 = .ok (.aload_n 0, 1) := by decide +kernel
theorem dX10_keep_47 : decode cX10_keep 47 = .ok (.getfield 20, 3) := by decide +kernel
theorem dX10_keep_50 : decode cX10_keep 50 = .ok (.iastore, 1) := by decide +kernel
theorem dX10_keep_51 : decode cX10_keep 51 = .ok (.aload_n 0, 1) := by decide +kernel
theorem dX10_keep_52 : decode cX10_keep 52 = .ok (.getfield 75, 3) := by decide +kernel
theorem dX10_keep_55 : decode cX10_keep 55 = .ok (.aload_n 0, 1) := by decide +kernel
theorem dX10_keep_56 : decode cX10_keep 56 = .ok (.getfield 126, 3) := by decide +kernel
theorem dX10_keep_59 : decode cX10_keep 59 = .ok (.aload_n 0, 1) := by decide +kernel
theorem dX10_keep_60 : decode cX10_keep 60 = .ok (.getfield 119, 3) := by decide +kernel
theorem dX10_keep_63 : decode cX10_keep 63 = .ok (.lastore, 1) := by decide +kernel
theorem dX10_keep_64 : decode cX10_keep 64 = .ok (.aload_n 0, 1) := by decide +kernel
theorem dX10_keep_65 : decode cX10_keep 65 = .ok (.dup, 1) := by decide +kernel
theorem dX10_keep_66 : decode cX10_keep 66 = .ok (.getfield 126, 3) := by decide +kernel
theorem dX10_keep_69 : decode cX10_keep 69 = .ok (.iconst 1, 1) := by decide +kernel
theorem dX10_keep_70 : decode cX10_keep 70 = .ok (.iadd, 1) := by decide +kernel
theorem dX10_keep_71 : decode cX10_keep 71 = .ok (.putfield 126, 3) := by decide +kernel
theorem dX10_keep_74 : decode cX10_keep 74 = .ok (.aload_n 0, 1) := by decide +kernel
theorem dX10_keep_75 : decode cX10_keep 75 = .ok (.getfield 126, 3) := by decide +kernel
theorem dX10_keep_78 : decode cX10_keep 78 = .ok (.iconst 1, 1) := by decide +kernel
theorem dX10_keep_79 : decode cX10_keep 79 = .ok (.isub, 1) := by decide +kernel
theorem dX10_keep_80 : decode cX10_keep 80 = .ok (.ireturn, 1) := by decide +kernel
theorem dX10_isPose_0 : decode cX10_isPose 0 = .ok (.iload_n 1, 1) := by decide +kernel
theorem dX10_isPose_1 : decode cX10_isPose 1 = .ok (.i2l, 1) := by decide +kernel
theorem dX10_isPose_2 : decode cX10_isPose 2 = .ok (.lconst 0, 1) := by decide +kernel
theorem dX10_isPose_3 : decode cX10_isPose 3 = .ok (.aload_n 0, 1) := by decide +kernel
theorem dX10_isPose_4 : decode cX10_isPose 4 = .ok (.getfield 126, 3) := by decide +kernel
theorem dX10_isPose_7 : decode cX10_isPose 7 = .ok (.iconst 1, 1) := by decide +kernel
theorem dX10_isPose_8 : decode cX10_isPose 8 = .ok (.isub, 1) := by decide +kernel
theorem dX10_isPose_9 : decode cX10_isPose 9 = .ok (.i2l, 1) := by decide +kernel
theorem dX10_isPose_10 : decode cX10_isPose 10 = .ok (.invokestatic 115, 3) := by decide +kernel
theorem dX10_isPose_13 : decode cX10_isPose 13 = .ok (.ireturn, 1) := by decide +kernel
theorem dX10_stand_0 : decode cX10_stand 0 = .ok (.aload_n 0, 1) := by decide +kernel
theorem dX10_stand_1 : decode cX10_stand 1 = .ok (.iload_n 1, 1) := by decide +kernel
theorem dX10_stand_2 : decode cX10_stand 2 = .ok (.invokevirtual 327, 3) := by decide +kernel
theorem dX10_stand_5 : decode cX10_stand 5 = .ok (.ifCond .ne 5, 3) := by decide +kernel
theorem dX10_stand_8 : decode cX10_stand 8 = .ok (.iconst (-1), 1) := by decide +kernel
theorem dX10_stand_9 : decode cX10_stand 9 = .ok (.ireturn, 1) := by decide +kernel
theorem dX10_stand_10 : decode cX10_stand 10 = .ok (.aload_n 0, 1) := by decide +kernel
theorem dX10_stand_11 : decode cX10_stand 11 = .ok (.aload_n 0, 1) := by decide +kernel
theorem dX10_stand_12 : decode cX10_stand 12 = .ok (.getfield 66, 3) := by decide +kernel
theorem dX10_stand_15 : decode cX10_stand 15 = .ok (.iload_n 1, 1) := by decide +kernel
theorem dX10_stand_16 : decode cX10_stand 16 = .ok (.iaload, 1) := by decide +kernel
theorem dX10_stand_17 : decode cX10_stand 17 = .ok (.invokevirtual 180, 3) := by decide +kernel
theorem dX10_stand_20 : decode cX10_stand 20 = .ok (.aload_n 0, 1) := by decide +kernel
theorem dX10_stand_21 : decode cX10_stand 21 = .ok (.aload_n 0, 1) := by decide +kernel
theorem dX10_stand_22 : decode cX10_stand 22 = .ok (.getfield 69, 3) := by decide +kernel
theorem dX10_stand_25 : decode cX10_stand 25 = .ok (.iload_n 1, 1) := by decide +kernel
theorem dX10_stand_26 : decode cX10_stand 26 = .ok (.iaload, 1) := by decide +kernel
theorem dX10_stand_27 : decode cX10_stand 27 = .ok (.putfield 17, 3) := by decide +kernel
theorem dX10_stand_30 : decode cX10_stand 30 = .ok (.aload_n 0, 1) := by decide +kernel
theorem dX10_stand_31 : decode cX10_stand 31 = .ok (.aload_n 0, 1) := by decide +kernel
theorem dX10_stand_32 : decode cX10_stand 32 = .ok (.getfield 72, 3) := by decide +kernel
theorem dX10_stand_35 : decode cX10_stand 35 = .ok (.iload_n 1, 1) := by decide +kernel
theorem dX10_stand_36 : decode cX10_stand 36 = .ok (.iaload, 1) := by decide +kernel
theorem dX10_stand_37 : decode cX10_stand 37 = .ok (.putfield 20, 3) := by decide +kernel
theorem dX10_stand_40 : decode cX10_stand 40 = .ok (.aload_n 0, 1) := by decide +kernel
theorem dX10_stand_41 : decode cX10_stand 41 = .ok (.aload_n 0, 1) := by decide +kernel
theorem dX10_stand_42 : decode cX10_stand 42 = .ok (.getfield 75, 3) := by decide +kernel
theorem dX10_stand_45 : decode cX10_stand 45 = .ok (.iload_n 1, 1) := by decide +kernel
theorem dX10_stand_46 : decode cX10_stand 46 = .ok (.laload, 1) := by decide +kernel
theorem dX10_stand_47 : decode cX10_stand 47 = .ok (.putfield 119, 3) := by decide +kernel
theorem dX10_stand_50 : decode cX10_stand 50 = .ok (.aload_n 0, 1) := by decide +kernel
theorem dX10_stand_51 : decode cX10_stand 51 = .ok (.iconst 0, 1) := by decide +kernel
theorem dX10_stand_52 : decode cX10_stand 52 = .ok (.putfield 123, 3) := by decide +kernel
theorem dX10_stand_55 : decode cX10_stand 55 = .ok (.iconst 1, 1) := by decide +kernel
theorem dX10_stand_56 : decode cX10_stand 56 = .ok (.ireturn, 1) := by decide +kernel
theorem dX10_turned_0 : decode cX10_turned 0 = .ok (.iconst 0, 1) := by decide +kernel
theorem dX10_turned_1 : decode cX10_turned 1 = .ok (.istore_n 2, 1) := by decide +kernel
theorem dX10_turned_2 : decode cX10_turned 2 = .ok (.iconst 0, 1) := by decide +kernel
theorem dX10_turned_3 : decode cX10_turned 3 = .ok (.istore_n 3, 1) := by decide +kernel
theorem dX10_turned_4 : decode cX10_turned 4 = .ok (.iload_n 3, 1) := by decide +kernel
theorem dX10_turned_5 : decode cX10_turned 5 = .ok (.aload_n 0, 1) := by decide +kernel
theorem dX10_turned_6 : decode cX10_turned 6 = .ok (.getfield 7, 3) := by decide +kernel
theorem dX10_turned_9 : decode cX10_turned 9 = .ok (.if_icmp .ge 39, 3) := by decide +kernel
theorem dX10_turned_12 : decode cX10_turned 12 = .ok (.iload_n 2, 1) := by decide +kernel
theorem dX10_turned_13 : decode cX10_turned 13 = .ok (.iload_n 1, 1) := by decide +kernel
theorem dX10_turned_14 : decode cX10_turned 14 = .ok (.iconst 3, 1) := by decide +kernel
theorem dX10_turned_15 : decode cX10_turned 15 = .ok (.iload_n 3, 1) := by decide +kernel
theorem dX10_turned_16 : decode cX10_turned 16 = .ok (.imul, 1) := by decide +kernel
theorem dX10_turned_17 : decode cX10_turned 17 = .ok (.ishr, 1) := by decide +kernel
theorem dX10_turned_18 : decode cX10_turned 18 = .ok (.bipush 7, 2) := by decide +kernel
theorem dX10_turned_20 : decode cX10_turned 20 = .ok (.iand, 1) := by decide +kernel
theorem dX10_turned_21 : decode cX10_turned 21 = .ok (.iload_n 1, 1) := by decide +kernel
theorem dX10_turned_22 : decode cX10_turned 22 = .ok (.bipush 7, 2) := by decide +kernel
theorem dX10_turned_24 : decode cX10_turned 24 = .ok (.iand, 1) := by decide +kernel
theorem dX10_turned_25 : decode cX10_turned 25 = .ok (.isub, 1) := by decide +kernel
theorem dX10_turned_26 : decode cX10_turned 26 = .ok (.aload_n 0, 1) := by decide +kernel
theorem dX10_turned_27 : decode cX10_turned 27 = .ok (.getfield 7, 3) := by decide +kernel
theorem dX10_turned_30 : decode cX10_turned 30 = .ok (.iadd, 1) := by decide +kernel
theorem dX10_turned_31 : decode cX10_turned 31 = .ok (.aload_n 0, 1) := by decide +kernel
theorem dX10_turned_32 : decode cX10_turned 32 = .ok (.getfield 7, 3) := by decide +kernel
theorem dX10_turned_35 : decode cX10_turned 35 = .ok (.irem, 1) := by decide +kernel
theorem dX10_turned_36 : decode cX10_turned 36 = .ok (.iconst 3, 1) := by decide +kernel
theorem dX10_turned_37 : decode cX10_turned 37 = .ok (.iload_n 3, 1) := by decide +kernel
theorem dX10_turned_38 : decode cX10_turned 38 = .ok (.imul, 1) := by decide +kernel
theorem dX10_turned_39 : decode cX10_turned 39 = .ok (.ishl, 1) := by decide +kernel
theorem dX10_turned_40 : decode cX10_turned 40 = .ok (.ior, 1) := by decide +kernel
theorem dX10_turned_41 : decode cX10_turned 41 = .ok (.istore_n 2, 1) := by decide +kernel
theorem dX10_turned_42 : decode cX10_turned 42 = .ok (.iinc 3 1, 3) := by decide +kernel
theorem dX10_turned_45 : decode cX10_turned 45 = .ok (.goto (-41), 3) := by decide +kernel
theorem dX10_turned_48 : decode cX10_turned 48 = .ok (.iload_n 2, 1) := by decide +kernel
theorem dX10_turned_49 : decode cX10_turned 49 = .ok (.ireturn, 1) := by decide +kernel
theorem dX10_isAlike_0 : decode cX10_isAlike 0 = .ok (.aload_n 0, 1) := by decide +kernel
theorem dX10_isAlike_1 : decode cX10_isAlike 1 = .ok (.aload_n 0, 1) := by decide +kernel
theorem dX10_isAlike_2 : decode cX10_isAlike 2 = .ok (.invokevirtual 153, 3) := by decide +kernel
theorem dX10_isAlike_5 : decode cX10_isAlike 5 = .ok (.invokevirtual 330, 3) := by decide +kernel
theorem dX10_isAlike_8 : decode cX10_isAlike 8 = .ok (.aload_n 0, 1) := by decide +kernel
theorem dX10_isAlike_9 : decode cX10_isAlike 9 = .ok (.aload_n 0, 1) := by decide +kernel
theorem dX10_isAlike_10 : decode cX10_isAlike 10 = .ok (.getfield 66, 3) := by decide +kernel
theorem dX10_isAlike_13 : decode cX10_isAlike 13 = .ok (.iload_n 1, 1) := by decide +kernel
theorem dX10_isAlike_14 : decode cX10_isAlike 14 = .ok (.iaload, 1) := by decide +kernel
theorem dX10_isAlike_15 : decode cX10_isAlike 15 = .ok (.invokevirtual 330, 3) := by decide +kernel
theorem dX10_isAlike_18 : decode cX10_isAlike 18 = .ok (.if_icmp .ne 34, 3) := by decide +kernel
theorem dX10_isAlike_21 : decode cX10_isAlike 21 = .ok (.aload_n 0, 1) := by decide +kernel
theorem dX10_isAlike_22 : decode cX10_isAlike 22 = .ok (.getfield 20, 3) := by decide +kernel
theorem dX10_isAlike_25 : decode cX10_isAlike 25 = .ok (.aload_n 0, 1) := by decide +kernel
theorem dX10_isAlike_26 : decode cX10_isAlike 26 = .ok (.getfield 72, 3) := by decide +kernel
theorem dX10_isAlike_29 : decode cX10_isAlike 29 = .ok (.iload_n 1, 1) := by decide +kernel
theorem dX10_isAlike_30 : decode cX10_isAlike 30 = .ok (.iaload, 1) := by decide +kernel
theorem dX10_isAlike_31 : decode cX10_isAlike 31 = .ok (.if_icmp .ne 21, 3) := by decide +kernel
theorem dX10_isAlike_34 : decode cX10_isAlike 34 = .ok (.aload_n 0, 1) := by decide +kernel
theorem dX10_isAlike_35 : decode cX10_isAlike 35 = .ok (.getfield 119, 3) := by decide +kernel
theorem dX10_isAlike_38 : decode cX10_isAlike 38 = .ok (.aload_n 0, 1) := by decide +kernel
theorem dX10_isAlike_39 : decode cX10_isAlike 39 = .ok (.getfield 75, 3) := by decide +kernel
theorem dX10_isAlike_42 : decode cX10_isAlike 42 = .ok (.iload_n 1, 1) := by decide +kernel
theorem dX10_isAlike_43 : decode cX10_isAlike 43 = .ok (.laload, 1) := by decide +kernel
theorem dX10_isAlike_44 : decode cX10_isAlike 44 = .ok (.lcmp, 1) := by decide +kernel
theorem dX10_isAlike_45 : decode cX10_isAlike 45 = .ok (.ifCond .ne 7, 3) := by decide +kernel
theorem dX10_isAlike_48 : decode cX10_isAlike 48 = .ok (.iconst 1, 1) := by decide +kernel
theorem dX10_isAlike_49 : decode cX10_isAlike 49 = .ok (.goto 4, 3) := by decide +kernel
theorem dX10_isAlike_52 : decode cX10_isAlike 52 = .ok (.iconst 0, 1) := by decide +kernel
theorem dX10_isAlike_53 : decode cX10_isAlike 53 = .ok (.ireturn, 1) := by decide +kernel
theorem dX10_alike_0 : decode cX10_alike 0 = .ok (.aload_n 0, 1) := by decide +kernel
theorem dX10_alike_1 : decode cX10_alike 1 = .ok (.iload_n 1, 1) := by decide +kernel
theorem dX10_alike_2 : decode cX10_alike 2 = .ok (.invokevirtual 327, 3) := by decide +kernel
theorem dX10_alike_5 : decode cX10_alike 5 = .ok (.ifCond .ne 5, 3) := by decide +kernel
theorem dX10_alike_8 : decode cX10_alike 8 = .ok (.iconst (-1), 1) := by decide +kernel
theorem dX10_alike_9 : decode cX10_alike 9 = .ok (.ireturn, 1) := by decide +kernel
theorem dX10_alike_10 : decode cX10_alike 10 = .ok (.aload_n 0, 1) := by decide +kernel
theorem dX10_alike_11 : decode cX10_alike 11 = .ok (.invokevirtual 153, 3) := by decide +kernel
theorem dX10_alike_14 : decode cX10_alike 14 = .ok (.aload_n 0, 1) := by decide +kernel
theorem dX10_alike_15 : decode cX10_alike 15 = .ok (.getfield 66, 3) := by decide +kernel
theorem dX10_alike_18 : decode cX10_alike 18 = .ok (.iload_n 1, 1) := by decide +kernel
theorem dX10_alike_19 : decode cX10_alike 19 = .ok (.iaload, 1) := by decide +kernel
theorem dX10_alike_20 : decode cX10_alike 20 = .ok (.if_icmp .ne 47, 3) := by decide +kernel
theorem dX10_alike_23 : decode cX10_alike 23 = .ok (.aload_n 0, 1) := by decide +kernel
theorem dX10_alike_24 : decode cX10_alike 24 = .ok (.getfield 17, 3) := by decide +kernel
theorem dX10_alike_27 : decode cX10_alike 27 = .ok (.aload_n 0, 1) := by decide +kernel
theorem dX10_alike_28 : decode cX10_alike 28 = .ok (.getfield 69, 3) := by decide +kernel
theorem dX10_alike_31 : decode cX10_alike 31 = .ok (.iload_n 1, 1) := by decide +kernel
theorem dX10_alike_32 : decode cX10_alike 32 = .ok (.iaload, 1) := by decide +kernel
theorem dX10_alike_33 : decode cX10_alike 33 = .ok (.if_icmp .ne 34, 3) := by decide +kernel
theorem dX10_alike_36 : decode cX10_alike 36 = .ok (.aload_n 0, 1) := by decide +kernel
theorem dX10_alike_37 : decode cX10_alike 37 = .ok (.getfield 20, 3) := by decide +kernel
theorem dX10_alike_40 : decode cX10_alike 40 = .ok (.aload_n 0, 1) := by decide +kernel
theorem dX10_alike_41 : decode cX10_alike 41 = .ok (.getfield 72, 3) := by decide +kernel
theorem dX10_alike_44 : decode cX10_alike 44 = .ok (.iload_n 1, 1) := by decide +kernel
theorem dX10_alike_45 : decode cX10_alike 45 = .ok (.iaload, 1) := by decide +kernel
theorem dX10_alike_46 : decode cX10_alike 46 = .ok (.if_icmp .ne 21, 3) := by decide +kernel
theorem dX10_alike_49 : decode cX10_alike 49 = .ok (.aload_n 0, 1) := by decide +kernel
theorem dX10_alike_50 : decode cX10_alike 50 = .ok (.getfield 119, 3) := by decide +kernel
theorem dX10_alike_53 : decode cX10_alike 53 = .ok (.aload_n 0, 1) := by decide +kernel
theorem dX10_alike_54 : decode cX10_alike 54 = .ok (.getfield 75, 3) := by decide +kernel
theorem dX10_alike_57 : decode cX10_alike 57 = .ok (.iload_n 1, 1) := by decide +kernel
theorem dX10_alike_58 : decode cX10_alike 58 = .ok (.laload, 1) := by decide +kernel
theorem dX10_alike_59 : decode cX10_alike 59 = .ok (.lcmp, 1) := by decide +kernel
theorem dX10_alike_60 : decode cX10_alike 60 = .ok (.ifCond .ne 7, 3) := by decide +kernel
theorem dX10_alike_63 : decode cX10_alike 63 = .ok (.iconst 1, 1) := by decide +kernel
theorem dX10_alike_64 : decode cX10_alike 64 = .ok (.goto 4, 3) := by decide +kernel
theorem dX10_alike_67 : decode cX10_alike 67 = .ok (.iconst 0, 1) := by decide +kernel
theorem dX10_alike_68 : decode cX10_alike 68 = .ok (.istore_n 2, 1) := by decide +kernel
theorem dX10_alike_69 : decode cX10_alike 69 = .ok (.iload_n 2, 1) := by decide +kernel
theorem dX10_alike_70 : decode cX10_alike 70 = .ok (.ifCond .eq 7, 3) := by decide +kernel
theorem dX10_alike_73 : decode cX10_alike 73 = .ok (.iconst 2, 1) := by decide +kernel
theorem dX10_alike_74 : decode cX10_alike 74 = .ok (.goto 16, 3) := by decide +kernel
theorem dX10_alike_77 : decode cX10_alike 77 = .ok (.aload_n 0, 1) := by decide +kernel
theorem dX10_alike_78 : decode cX10_alike 78 = .ok (.iload_n 1, 1) := by decide +kernel
theorem dX10_alike_79 : decode cX10_alike 79 = .ok (.invokevirtual 333, 3) := by decide +kernel
theorem dX10_alike_82 : decode cX10_alike 82 = .ok (.ifCond .eq 7, 3) := by decide +kernel
theorem dX10_alike_85 : decode cX10_alike 85 = .ok (.iconst 1, 1) := by decide +kernel
theorem dX10_alike_86 : decode cX10_alike 86 = .ok (.goto 4, 3) := by decide +kernel
theorem dX10_alike_89 : decode cX10_alike 89 = .ok (.iconst 0, 1) := by decide +kernel
theorem dX10_alike_90 : decode cX10_alike 90 = .ok (.ireturn, 1) := by decide +kernel
theorem dX10_meets_0 : decode cX10_meets 0 = .ok (.aload_n 0, 1) := by decide +kernel
theorem dX10_meets_1 : decode cX10_meets 1 = .ok (.aload_n 0, 1) := by decide +kernel
theorem dX10_meets_2 : decode cX10_meets 2 = .ok (.invokevirtual 153, 3) := by decide +kernel
theorem dX10_meets_5 : decode cX10_meets 5 = .ok (.invokevirtual 330, 3) := by decide +kernel
theorem dX10_meets_8 : decode cX10_meets 8 = .ok (.istore_n 3, 1) := by decide +kernel
theorem dX10_meets_9 : decode cX10_meets 9 = .ok (.iload_n 3, 1) := by decide +kernel
theorem dX10_meets_10 : decode cX10_meets 10 = .ok (.i2l, 1) := by decide +kernel
theorem dX10_meets_11 : decode cX10_meets 11 = .ok (.ldc2_w 336, 3) := by decide +kernel
theorem dX10_meets_14 : decode cX10_meets 14 = .ok (.lmul, 1) := by decide +kernel
theorem dX10_meets_15 : decode cX10_meets 15 = .ok (.aload_n 0, 1) := by decide +kernel
theorem dX10_meets_16 : decode cX10_meets 16 = .ok (.getfield 119, 3) := by decide +kernel
theorem dX10_meets_19 : decode cX10_meets 19 = .ok (.ldc2_w 338, 3) := by decide +kernel
theorem dX10_meets_22 : decode cX10_meets 22 = .ok (.lmul, 1) := by decide +kernel
theorem dX10_meets_23 : decode cX10_meets 23 = .ok (.lxor, 1) := by decide +kernel
theorem dX10_meets_24 : decode cX10_meets 24 = .ok (.ldc2_w 340, 3) := by decide +kernel
theorem dX10_meets_27 : decode cX10_meets 27 = .ok (.lmul, 1) := by decide +kernel
theorem dX10_meets_28 : decode cX10_meets 28 = .ok (.lstore 4, 2) := by decide +kernel
theorem dX10_meets_30 : decode cX10_meets 30 = .ok (.lload 4, 2) := by decide +kernel
theorem dX10_meets_32 : decode cX10_meets 32 = .ok (.bipush 40, 2) := by decide +kernel
theorem dX10_meets_34 : decode cX10_meets 34 = .ok (.lushr, 1) := by decide +kernel
theorem dX10_meets_35 : decode cX10_meets 35 = .ok (.l2i, 1) := by decide +kernel
theorem dX10_meets_36 : decode cX10_meets 36 = .ok (.sipush 4095, 3) := by decide +kernel
theorem dX10_meets_39 : decode cX10_meets 39 = .ok (.iand, 1) := by decide +kernel
theorem dX10_meets_40 : decode cX10_meets 40 = .ok (.istore 6, 2) := by decide +kernel
theorem dX10_meets_42 : decode cX10_meets 42 = .ok (.aload_n 0, 1) := by decide +kernel
theorem dX10_meets_43 : decode cX10_meets 43 = .ok (.getfield 90, 3) := by decide +kernel
theorem dX10_meets_46 : decode cX10_meets 46 = .ok (.iload 6, 2) := by decide +kernel
theorem dX10_meets_48 : decode cX10_meets 48 = .ok (.iaload, 1) := by decide +kernel
theorem dX10_meets_49 : decode cX10_meets 49 = .ok (.ifCond .le 59, 3) := by decide +kernel
theorem dX10_meets_52 : decode cX10_meets 52 = .ok (.aload_n 0, 1) := by decide +kernel
theorem dX10_meets_53 : decode cX10_meets 53 = .ok (.getfield 90, 3) := by decide +kernel
theorem dX10_meets_56 : decode cX10_meets 56 = .ok (.iload 6, 2) := by decide +kernel
theorem dX10_meets_58 : decode cX10_meets 58 = .ok (.iaload, 1) := by decide +kernel
theorem dX10_meets_59 : decode cX10_meets 59 = .ok (.iconst 1, 1) := by decide +kernel
theorem dX10_meets_60 : decode cX10_meets 60 = .ok (.isub, 1) := by decide +kernel
theorem dX10_meets_61 : decode cX10_meets 61 = .ok (.istore 7, 2) := by decide +kernel
theorem dX10_meets_63 : decode cX10_meets 63 = .ok (.aload_n 0, 1) := by decide +kernel
theorem dX10_meets_64 : decode cX10_meets 64 = .ok (.aload_n 0, 1) := by decide +kernel
theorem dX10_meets_65 : decode cX10_meets 65 = .ok (.getfield 78, 3) := by decide +kernel
theorem dX10_meets_68 : decode cX10_meets 68 = .ok (.iload 7, 2) := by decide +kernel
theorem dX10_meets_70 : decode cX10_meets 70 = .ok (.iaload, 1) := by decide +kernel
theorem dX10_meets_71 : decode cX10_meets 71 = .ok (.invokevirtual 330, 3) := by decide +kernel
theorem dX10_meets_74 : decode cX10_meets 74 = .ok (.iload_n 3, 1) := by decide +kernel
theorem dX10_meets_75 : decode cX10_meets 75 = .ok (.if_icmp .ne 20, 3) := by decide +kernel
theorem dX10_meets_78 : decode cX10_meets 78 = .ok (.aload_n 0, 1) := by decide +kernel
theorem dX10_meets_79 : decode cX10_meets 79 = .ok (.getfield 81, 3) := by decide +kernel
theorem dX10_meets_82 : decode cX10_meets 82 = .ok (.iload 7, 2) := by decide +kernel
theorem dX10_meets_84 : decode cX10_meets 84 = .ok (.laload, 1) := by decide +kernel
theorem dX10_meets_85 : decode cX10_meets 85 = .ok (.aload_n 0, 1) := by decide +kernel
theorem dX10_meets_86 : decode cX10_meets 86 = .ok (.getfield 119, 3) := by decide +kernel
theorem dX10_meets_89 : decode cX10_meets 89 = .ok (.lcmp, 1) := by decide +kernel
theorem dX10_meets_90 : decode cX10_meets 90 = .ok (.ifCond .ne 5, 3) := by decide +kernel
theorem dX10_meets_93 : decode cX10_meets 93 = .ok (.iconst 0, 1) := by decide +kernel
theorem dX10_meets_94 : decode cX10_meets 94 = .ok (.ireturn, 1) := by decide +kernel
theorem dX10_meets_95 : decode cX10_meets 95 = .ok (.iload 6, 2) := by decide +kernel
theorem dX10_meets_97 : decode cX10_meets 97 = .ok (.iconst 1, 1) := by decide +kernel
theorem dX10_meets_98 : decode cX10_meets 98 = .ok (.iadd, 1) := by decide +kernel
theorem dX10_meets_99 : decode cX10_meets 99 = .ok (.sipush 4095, 3) := by decide +kernel
theorem dX10_meets_102 : decode cX10_meets 102 = .ok (.iand, 1) := by decide +kernel
theorem dX10_meets_103 : decode cX10_meets 103 = .ok (.istore 6, 2) := by decide +kernel
theorem dX10_meets_105 : decode cX10_meets 105 = .ok (.goto (-63), 3) := by decide +kernel
theorem dX10_meets_108 : decode cX10_meets 108 = .ok (.aload_n 0, 1) := by decide +kernel
theorem dX10_meets_109 : decode cX10_meets 109 = .ok (.getfield 90, 3) := by decide +kernel
theorem dX10_meets_112 : decode cX10_meets 112 = .ok (.iload 6, 2) := by decide +kernel
theorem dX10_meets_114 : decode cX10_meets 114 = .ok (.aload_n 0, 1) := by decide +kernel
theorem dX10_meets_115 : decode cX10_meets 115 = .ok (.getfield 342, 3) := by decide +kernel
theorem dX10_meets_118 : decode cX10_meets 118 = .ok (.iconst 1, 1) := by decide +kernel
theorem dX10_meets_119 : decode cX10_meets 119 = .ok (.iadd, 1) := by decide +kernel
theorem dX10_meets_120 : decode cX10_meets 120 = .ok (.iastore, 1) := by decide +kernel
theorem dX10_meets_121 : decode cX10_meets 121 = .ok (.aload_n 0, 1) := by decide +kernel
theorem dX10_meets_122 : decode cX10_meets 122 = .ok (.getfield 78, 3) := by decide +kernel
theorem dX10_meets_125 : decode cX10_meets 125 = .ok (.aload_n 0, 1) := by decide +kernel
theorem dX10_meets_126 : decode cX10_meets 126 = .ok (.getfield 342, 3) := by decide +kernel
theorem dX10_meets_129 : decode cX10_meets 129 = .ok (.aload_n 0, 1) := by decide +kernel
theorem dX10_meets_130 : decode cX10_meets 130 = .ok (.invokevirtual 153, 3) := by decide +kernel
theorem dX10_meets_133 : decode cX10_meets 133 = .ok (.iastore, 1) := by decide +kernel
theorem dX10_meets_134 : decode cX10_meets 134 = .ok (.aload_n 0, 1) := by decide +kernel
theorem dX10_meets_135 : decode cX10_meets 135 = .ok (.getfield 81, 3) := by decide +kernel
theorem dX10_meets_138 : decode cX10_meets 138 = .ok (.aload_n 0, 1) := by decide +kernel
theorem dX10_meets_139 : decode cX10_meets 139 = .ok (.getfield 342, 3) := by decide +kernel
theorem dX10_meets_142 : decode cX10_meets 142 = .ok (.aload_n 0, 1) := by decide +kernel
theorem dX10_meets_143 : decode cX10_meets 143 = .ok (.getfield 119, 3) := by decide +kernel
theorem dX10_meets_146 : decode cX10_meets 146 = .ok (.lastore, 1) := by decide +kernel
theorem dX10_meets_147 : decode cX10_meets 147 = .ok (.aload_n 0, 1) := by decide +kernel
theorem dX10_meets_148 : decode cX10_meets 148 = .ok (.getfield 84, 3) := by decide +kernel
theorem dX10_meets_151 : decode cX10_meets 151 = .ok (.aload_n 0, 1) := by decide +kernel
theorem dX10_meets_152 : decode cX10_meets 152 = .ok (.getfield 342, 3) := by decide +kernel
theorem dX10_meets_155 : decode cX10_meets 155 = .ok (.iload_n 1, 1) := by decide +kernel
theorem dX10_meets_156 : decode cX10_meets 156 = .ok (.iastore, 1) := by decide +kernel
theorem dX10_meets_157 : decode cX10_meets 157 = .ok (.aload_n 0, 1) := by decide +kernel
theorem dX10_meets_158 : decode cX10_meets 158 = .ok (.getfield 87, 3) := by decide +kernel
theorem dX10_meets_161 : decode cX10_meets 161 = .ok (.aload_n 0, 1) := by decide +kernel
theorem dX10_meets_162 : decode cX10_meets 162 = .ok (.getfield 342, 3) := by decide +kernel
theorem dX10_meets_165 : decode cX10_meets 165 = .ok (.iload_n 2, 1) := by decide +kernel
theorem dX10_meets_166 : decode cX10_meets 166 = .ok (.iastore, 1) := by decide +kernel
theorem dX10_meets_167 : decode cX10_meets 167 = .ok (.aload_n 0, 1) := by decide +kernel
theorem dX10_meets_168 : decode cX10_meets 168 = .ok (.dup, 1) := by decide +kernel
theorem dX10_meets_169 : decode cX10_meets 169 = .ok (.getfield 342, 3) := by decide +kernel
theorem dX10_meets_172 : decode cX10_meets 172 = .ok (.iconst 1, 1) := by decide +kernel
theorem dX10_meets_173 : decode cX10_meets 173 = .ok (.iadd, 1) := by decide +kernel
theorem dX10_meets_174 : decode cX10_meets 174 = .ok (.putfield 342, 3) := by decide +kernel
theorem dX10_meets_177 : decode cX10_meets 177 = .ok (.iconst 1, 1) := by decide +kernel
theorem dX10_meets_178 : decode cX10_meets 178 = .ok (.ireturn, 1) := by decide +kernel
theorem dX10_search_0 : decode cX10_search 0 = .ok (.iconst 0, 1) := by decide +kernel
theorem dX10_search_1 : decode cX10_search 1 = .ok (.istore_n 2, 1) := by decide +kernel
theorem dX10_search_2 : decode cX10_search 2 = .ok (.iload_n 2, 1) := by decide +kernel
theorem dX10_search_3 : decode cX10_search 3 = .ok (.sipush 4096, 3) := by decide +kernel
theorem dX10_search_6 : decode cX10_search 6 = .ok (.if_icmp .ge 16, 3) := by decide +kernel
theorem dX10_search_9 : decode cX10_search 9 = .ok (.aload_n 0, 1) := by decide +kernel
theorem dX10_search_10 : decode cX10_search 10 = .ok (.getfield 90, 3) := by decide +kernel
theorem dX10_search_13 : decode cX10_search 13 = .ok (.iload_n 2, 1) := by decide +kernel
theorem dX10_search_14 : decode cX10_search 14 = .ok (.iconst 0, 1) := by decide +kernel
theorem dX10_search_15 : decode cX10_search 15 = .ok (.iastore, 1) := by decide +kernel
theorem dX10_search_16 : decode cX10_search 16 = .ok (.iinc 2 1, 3) := by decide +kernel
theorem dX10_search_19 : decode cX10_search 19 = .ok (.goto (-17), 3) := by decide +kernel
theorem dX10_search_22 : decode cX10_search 22 = .ok (.aload_n 0, 1) := by decide +kernel
theorem dX10_search_23 : decode cX10_search 23 = .ok (.iconst 0, 1) := by decide +kernel
theorem dX10_search_24 : decode cX10_search 24 = .ok (.putfield 342, 3) := by decide +kernel
theorem dX10_search_27 : decode cX10_search 27 = .ok (.aload_n 0, 1) := by decide +kernel
theorem dX10_search_28 : decode cX10_search 28 = .ok (.bipush (-4), 2) := by decide +kernel
theorem dX10_search_30 : decode cX10_search 30 = .ok (.bipush (-4), 2) := by decide +kernel
theorem dX10_search_32 : decode cX10_search 32 = .ok (.invokevirtual 345, 3) := by decide +kernel
theorem dX10_search_35 : decode cX10_search 35 = .ok (.istore_n 2, 1) := by decide +kernel
theorem dX10_search_36 : decode cX10_search 36 = .ok (.iload_n 2, 1) := by decide +kernel
theorem dX10_search_37 : decode cX10_search 37 = .ok (.ifCond .eq 13, 3) := by decide +kernel
theorem dX10_search_40 : decode cX10_search 40 = .ok (.aload_n 0, 1) := by decide +kernel
theorem dX10_search_41 : decode cX10_search 41 = .ok (.iload_n 1, 1) := by decide +kernel
theorem dX10_search_42 : decode cX10_search 42 = .ok (.invokevirtual 333, 3) := by decide +kernel
theorem dX10_search_45 : decode cX10_search 45 = .ok (.ifCond .eq 5, 3) := by decide +kernel
theorem dX10_search_48 : decode cX10_search 48 = .ok (.iconst 0, 1) := by decide +kernel
theorem dX10_search_49 : decode cX10_search 49 = .ok (.ireturn, 1) := by decide +kernel
theorem dX10_search_50 : decode cX10_search 50 = .ok (.iconst 0, 1) := by decide +kernel
theorem dX10_search_51 : decode cX10_search 51 = .ok (.istore_n 3, 1) := by decide +kernel
theorem dX10_search_52 : decode cX10_search 52 = .ok (.iload_n 3, 1) := by decide +kernel
theorem dX10_search_53 : decode cX10_search 53 = .ok (.aload_n 0, 1) := by decide +kernel
theorem dX10_search_54 : decode cX10_search 54 = .ok (.getfield 342, 3) := by decide +kernel
theorem dX10_search_57 : decode cX10_search 57 = .ok (.if_icmp .ge 112, 3) := by decide +kernel
theorem dX10_search_60 : decode cX10_search 60 = .ok (.iconst 0, 1) := by decide +kernel
theorem dX10_search_61 : decode cX10_search 61 = .ok (.istore 4, 2) := by decide +kernel
theorem dX10_search_63 : decode cX10_search 63 = .ok (.iload 4, 2) := by decide +kernel
theorem dX10_search_65 : decode cX10_search 65 = .ok (.iconst 2, 1) := by decide +kernel
theorem dX10_search_66 : decode cX10_search 66 = .ok (.aload_n 0, 1) := by decide +kernel
theorem dX10_search_67 : decode cX10_search 67 = .ok (.getfield 7, 3) := by decide +kernel
theorem dX10_search_70 : decode cX10_search 70 = .ok (.imul, 1) := by decide +kernel
theorem dX10_search_71 : decode cX10_search 71 = .ok (.if_icmp .ge 92, 3) := by decide +kernel
theorem dX10_search_74 : decode cX10_search 74 = .ok (.aload_n 0, 1) := by decide +kernel
theorem dX10_search_75 : decode cX10_search 75 = .ok (.aload_n 0, 1) := by decide +kernel
theorem dX10_search_76 : decode cX10_search 76 = .ok (.getfield 78, 3) := by decide +kernel
theorem dX10_search_79 : decode cX10_search 79 = .ok (.iload_n 3, 1) := by decide +kernel
theorem dX10_search_80 : decode cX10_search 80 = .ok (.iaload, 1) := by decide +kernel
theorem dX10_search_81 : decode cX10_search 81 = .ok (.invokevirtual 180, 3) := by decide +kernel
theorem dX10_search_84 : decode cX10_search 84 = .ok (.aload_n 0, 1) := by decide +kernel
theorem dX10_search_85 : decode cX10_search 85 = .ok (.aload_n 0, 1) := by decide +kernel
theorem dX10_search_86 : decode cX10_search 86 = .ok (.getfield 81, 3) := by decide +kernel
theorem dX10_search_89 : decode cX10_search 89 = .ok (.iload_n 3, 1) := by decide +kernel
theorem dX10_search_90 : decode cX10_search 90 = .ok (.laload, 1) := by decide +kernel
theorem dX10_search_91 : decode cX10_search 91 = .ok (.putfield 119, 3) := by decide +kernel
theorem dX10_search_94 : decode cX10_search 94 = .ok (.aload_n 0, 1) := by decide +kernel
theorem dX10_search_95 : decode cX10_search 95 = .ok (.iload 4, 2) := by decide +kernel
theorem dX10_search_97 : decode cX10_search 97 = .ok (.iconst 2, 1) := by decide +kernel
theorem dX10_search_98 : decode cX10_search 98 = .ok (.idiv, 1) := by decide +kernel
theorem dX10_search_99 : decode cX10_search 99 = .ok (.iload 4, 2) := by decide +kernel
theorem dX10_search_101 : decode cX10_search 101 = .ok (.iconst 2, 1) := by decide +kernel
theorem dX10_search_102 : decode cX10_search 102 = .ok (.irem, 1) := by decide +kernel
theorem dX10_search_103 : decode cX10_search 103 = .ok (.ifCond .ne 7, 3) := by decide +kernel
theorem dX10_search_106 : decode cX10_search 106 = .ok (.iconst 1, 1) := by decide +kernel
theorem dX10_search_107 : decode cX10_search 107 = .ok (.goto 4, 3) := by decide +kernel
theorem dX10_search_110 : decode cX10_search 110 = .ok (.iconst 0, 1) := by decide +kernel
theorem dX10_search_111 : decode cX10_search 111 = .ok (.iconst 0, 1) := by decide +kernel
theorem dX10_search_112 : decode cX10_search 112 = .ok (.invokevirtual 169, 3) := by decide +kernel
theorem dX10_search_115 : decode cX10_search 115 = .ok (.iconst 1, 1) := by decide +kernel
theorem dX10_search_116 : decode cX10_search 116 = .ok (.if_icmp .ne 41, 3) := by decide +kernel
theorem dX10_search_119 : decode cX10_search 119 = .ok (.aload_n 0, 1) := by decide +kernel
theorem dX10_search_120 : decode cX10_search 120 = .ok (.iload_n 3, 1) := by decide +kernel
theorem dX10_search_121 : decode cX10_search 121 = .ok (.iload 4, 2) := by decide +kernel
theorem dX10_search_123 : decode cX10_search 123 = .ok (.invokevirtual 345, 3) := by decide +kernel
theorem dX10_search_126 : decode cX10_search 126 = .ok (.ifCond .eq 31, 3) := by decide +kernel
theorem dX10_search_129 : decode cX10_search 129 = .ok (.aload_n 0, 1) := by decide +kernel
theorem dX10_search_130 : decode cX10_search 130 = .ok (.iload_n 1, 1) := by decide +kernel
theorem dX10_search_131 : decode cX10_search 131 = .ok (.invokevirtual 333, 3) := by decide +kernel
theorem dX10_search_134 : decode cX10_search 134 = .ok (.ifCond .eq 10, 3) := by decide +kernel
theorem dX10_search_137 : decode cX10_search 137 = .ok (.aload_n 0, 1) := by decide +kernel
theorem dX10_search_138 : decode cX10_search 138 = .ok (.getfield 342, 3) := by decide +kernel
theorem dX10_search_141 : decode cX10_search 141 = .ok (.iconst 1, 1) := by decide +kernel
theorem dX10_search_142 : decode cX10_search 142 = .ok (.isub, 1) := by decide +kernel
theorem dX10_search_143 : decode cX10_search 143 = .ok (.ireturn, 1) := by decide +kernel
theorem dX10_search_144 : decode cX10_search 144 = .ok (.aload_n 0, 1) := by decide +kernel
theorem dX10_search_145 : decode cX10_search 145 = .ok (.getfield 342, 3) := by decide +kernel
theorem dX10_search_148 : decode cX10_search 148 = .ok (.sipush 1500, 3) := by decide +kernel
theorem dX10_search_151 : decode cX10_search 151 = .ok (.if_icmp .ne 6, 3) := by decide +kernel
theorem dX10_search_154 : decode cX10_search 154 = .ok (.bipush (-6), 2) := by decide +kernel
theorem dX10_search_156 : decode cX10_search 156 = .ok (.ireturn, 1) := by decide +kernel
theorem dX10_search_157 : decode cX10_search 157 = .ok (.iinc 4 1, 3) := by decide +kernel
theorem dX10_search_160 : decode cX10_search 160 = .ok (.goto (-97), 3) := by decide +kernel
theorem dX10_search_163 : decode cX10_search 163 = .ok (.iinc 3 1, 3) := by decide +kernel
theorem dX10_search_166 : decode cX10_search 166 = .ok (.goto (-114), 3) := by decide +kernel
theorem dX10_search_169 : decode cX10_search 169 = .ok (.bipush (-4), 2) := by decide +kernel
theorem dX10_search_171 : decode cX10_search 171 = .ok (.ireturn, 1) := by decide +kernel
theorem dX10_seek_0 : decode cX10_seek 0 = .ok (.aload_n 0, 1) := by decide +kernel
theorem dX10_seek_1 : decode cX10_seek 1 = .ok (.invokevirtual 318, 3) := by decide +kernel
theorem dX10_seek_4 : decode cX10_seek 4 = .ok (.aload_n 0, 1) := by decide +kernel
theorem dX10_seek_5 : decode cX10_seek 5 = .ok (.aload_n 0, 1) := by decide +kernel
theorem dX10_seek_6 : decode cX10_seek 6 = .ok (.iload_n 1, 1) := by decide +kernel
theorem dX10_seek_7 : decode cX10_seek 7 = .ok (.invokevirtual 348, 3) := by decide +kernel
theorem dX10_seek_10 : decode cX10_seek 10 = .ok (.putfield 351, 3) := by decide +kernel
theorem dX10_seek_13 : decode cX10_seek 13 = .ok (.aload_n 0, 1) := by decide +kernel
theorem dX10_seek_14 : decode cX10_seek 14 = .ok (.invokevirtual 324, 3) := by decide +kernel
theorem dX10_seek_17 : decode cX10_seek 17 = .ok (.return_, 1) := by decide +kernel
theorem dX10_steps_0 : decode cX10_steps 0 = .ok (.iconst 0, 1) := by decide +kernel
theorem dX10_steps_1 : decode cX10_steps 1 = .ok (.istore_n 1, 1) := by decide +kernel
theorem dX10_steps_2 : decode cX10_steps 2 = .ok (.aload_n 0, 1) := by decide +kernel
theorem dX10_steps_3 : decode cX10_steps 3 = .ok (.getfield 351, 3) := by decide +kernel
theorem dX10_steps_6 : decode cX10_steps 6 = .ok (.istore_n 2, 1) := by decide +kernel
theorem dX10_steps_7 : decode cX10_steps 7 = .ok (.aload_n 0, 1) := by decide +kernel
theorem dX10_steps_8 : decode cX10_steps 8 = .ok (.getfield 84, 3) := by decide +kernel
theorem dX10_steps_11 : decode cX10_steps 11 = .ok (.iload_n 2, 1) := by decide +kernel
theorem dX10_steps_12 : decode cX10_steps 12 = .ok (.iaload, 1) := by decide +kernel
theorem dX10_steps_13 : decode cX10_steps 13 = .ok (.bipush (-4), 2) := by decide +kernel
theorem dX10_steps_15 : decode cX10_steps 15 = .ok (.if_icmp .eq 16, 3) := by decide +kernel
theorem dX10_steps_18 : decode cX10_steps 18 = .ok (.iinc 1 1, 3) := by decide +kernel
theorem dX10_steps_21 : decode cX10_steps 21 = .ok (.aload_n 0, 1) := by decide +kernel
theorem dX10_steps_22 : decode cX10_steps 22 = .ok (.getfield 84, 3) := by decide +kernel
theorem dX10_steps_25 : decode cX10_steps 25 = .ok (.iload_n 2, 1) := by decide +kernel
theorem dX10_steps_26 : decode cX10_steps 26 = .ok (.iaload, 1) := by decide +kernel
theorem dX10_steps_27 : decode cX10_steps 27 = .ok (.istore_n 2, 1) := by decide +kernel
theorem dX10_steps_28 : decode cX10_steps 28 = .ok (.goto (-21), 3) := by decide +kernel
theorem dX10_steps_31 : decode cX10_steps 31 = .ok (.iload_n 1, 1) := by decide +kernel
theorem dX10_steps_32 : decode cX10_steps 32 = .ok (.ireturn, 1) := by decide +kernel
theorem dX10_way_0 : decode cX10_way 0 = .ok (.aload_n 0, 1) := by decide +kernel
theorem dX10_way_1 : decode cX10_way 1 = .ok (.iload_n 1, 1) := by decide +kernel
theorem dX10_way_2 : decode cX10_way 2 = .ok (.invokevirtual 327, 3) := by decide +kernel
theorem dX10_way_5 : decode cX10_way 5 = .ok (.ifCond .ne 5, 3) := by decide +kernel
theorem dX10_way_8 : decode cX10_way 8 = .ok (.iconst (-1), 1) := by decide +kernel
theorem dX10_way_9 : decode cX10_way 9 = .ok (.ireturn, 1) := by decide +kernel
theorem dX10_way_10 : decode cX10_way 10 = .ok (.aload_n 0, 1) := by decide +kernel
theorem dX10_way_11 : decode cX10_way 11 = .ok (.iload_n 1, 1) := by decide +kernel
theorem dX10_way_12 : decode cX10_way 12 = .ok (.invokevirtual 354, 3) := by decide +kernel
theorem dX10_way_15 : decode cX10_way 15 = .ok (.aload_n 0, 1) := by decide +kernel
theorem dX10_way_16 : decode cX10_way 16 = .ok (.getfield 351, 3) := by decide +kernel
theorem dX10_way_19 : decode cX10_way 19 = .ok (.ifCond .ge 10, 3) := by decide +kernel
theorem dX10_way_22 : decode cX10_way 22 = .ok (.aload_n 0, 1) := by decide +kernel
theorem dX10_way_23 : decode cX10_way 23 = .ok (.getfield 351, 3) := by decide +kernel
theorem dX10_way_26 : decode cX10_way 26 = .ok (.goto 7, 3) := by decide +kernel
theorem dX10_way_29 : decode cX10_way 29 = .ok (.aload_n 0, 1) := by decide +kernel
theorem dX10_way_30 : decode cX10_way 30 = .ok (.invokevirtual 357, 3) := by decide +kernel
theorem dX10_way_33 : decode cX10_way 33 = .ok (.ireturn, 1) := by decide +kernel
theorem dX10_wayAt_0 : decode cX10_wayAt 0 = .ok (.aload_n 0, 1) := by decide +kernel
theorem dX10_wayAt_1 : decode cX10_wayAt 1 = .ok (.iload_n 1, 1) := by decide +kernel
theorem dX10_wayAt_2 : decode cX10_wayAt 2 = .ok (.invokevirtual 327, 3) := by decide +kernel
theorem dX10_wayAt_5 : decode cX10_wayAt 5 = .ok (.ifCond .eq 7, 3) := by decide +kernel
theorem dX10_wayAt_8 : decode cX10_wayAt 8 = .ok (.iload_n 2, 1) := by decide +kernel
theorem dX10_wayAt_9 : decode cX10_wayAt 9 = .ok (.ifCond .ge 5, 3) := by decide +kernel
theorem dX10_wayAt_12 : decode cX10_wayAt 12 = .ok (.iconst (-1), 1) := by decide +kernel
theorem dX10_wayAt_13 : decode cX10_wayAt 13 = .ok (.ireturn, 1) := by decide +kernel
theorem dX10_wayAt_14 : decode cX10_wayAt 14 = .ok (.aload_n 0, 1) := by decide +kernel
theorem dX10_wayAt_15 : decode cX10_wayAt 15 = .ok (.iload_n 1, 1) := by decide +kernel
theorem dX10_wayAt_16 : decode cX10_wayAt 16 = .ok (.invokevirtual 354, 3) := by decide +kernel
theorem dX10_wayAt_19 : decode cX10_wayAt 19 = .ok (.aload_n 0, 1) := by decide +kernel
theorem dX10_wayAt_20 : decode cX10_wayAt 20 = .ok (.getfield 351, 3) := by decide +kernel
theorem dX10_wayAt_23 : decode cX10_wayAt 23 = .ok (.ifCond .ge 8, 3) := by decide +kernel
theorem dX10_wayAt_26 : decode cX10_wayAt 26 = .ok (.aload_n 0, 1) := by decide +kernel
theorem dX10_wayAt_27 : decode cX10_wayAt 27 = .ok (.getfield 351, 3) := by decide +kernel
theorem dX10_wayAt_30 : decode cX10_wayAt 30 = .ok (.ireturn, 1) := by decide +kernel
theorem dX10_wayAt_31 : decode cX10_wayAt 31 = .ok (.aload_n 0, 1) := by decide +kernel
theorem dX10_wayAt_32 : decode cX10_wayAt 32 = .ok (.invokevirtual 357, 3) := by decide +kernel
theorem dX10_wayAt_35 : decode cX10_wayAt 35 = .ok (.iconst 1, 1) := by decide +kernel
theorem dX10_wayAt_36 : decode cX10_wayAt 36 = .ok (.isub, 1) := by decide +kernel
theorem dX10_wayAt_37 : decode cX10_wayAt 37 = .ok (.iload_n 2, 1) := by decide +kernel
theorem dX10_wayAt_38 : decode cX10_wayAt 38 = .ok (.isub, 1) := by decide +kernel
theorem dX10_wayAt_39 : decode cX10_wayAt 39 = .ok (.istore_n 3, 1) := by decide +kernel
theorem dX10_wayAt_40 : decode cX10_wayAt 40 = .ok (.iload_n 3, 1) := by decide +kernel
theorem dX10_wayAt_41 : decode cX10_wayAt 41 = .ok (.ifCond .ge 6, 3) := by decide +kernel
theorem dX10_wayAt_44 : decode cX10_wayAt 44 = .ok (.bipush (-4), 2) := by decide +kernel
theorem dX10_wayAt_46 : decode cX10_wayAt 46 = .ok (.ireturn, 1) := by decide +kernel
theorem dX10_wayAt_47 : decode cX10_wayAt 47 = .ok (.aload_n 0, 1) := by decide +kernel
theorem dX10_wayAt_48 : decode cX10_wayAt 48 = .ok (.getfield 351, 3) := by decide +kernel
theorem dX10_wayAt_51 : decode cX10_wayAt 51 = .ok (.istore 4, 2) := by decide +kernel
theorem dX10_wayAt_53 : decode cX10_wayAt 53 = .ok (.iload_n 3, 1) := by decide +kernel
theorem dX10_wayAt_54 : decode cX10_wayAt 54 = .ok (.ifCond .le 18, 3) := by decide +kernel
theorem dX10_wayAt_57 : decode cX10_wayAt 57 = .ok (.aload_n 0, 1) := by decide +kernel
theorem dX10_wayAt_58 : decode cX10_wayAt 58 = .ok (.getfield 84, 3) := by decide +kernel
theorem dX10_wayAt_61 : decode cX10_wayAt 61 = .ok (.iload 4, 2) := by decide +kernel
theorem dX10_wayAt_63 : decode cX10_wayAt 63 = .ok (.iaload, 1) := by decide +kernel
theorem dX10_wayAt_64 : decode cX10_wayAt 64 = .ok (.istore 4, 2) := by decide +kernel
theorem dX10_wayAt_66 : decode cX10_wayAt 66 = .ok (.iinc 3 (-1), 3) := by decide +kernel
theorem dX10_wayAt_69 : decode cX10_wayAt 69 = .ok (.goto (-16), 3) := by decide +kernel
theorem dX10_wayAt_72 : decode cX10_wayAt 72 = .ok (.aload_n 0, 1) := by decide +kernel
theorem dX10_wayAt_73 : decode cX10_wayAt 73 = .ok (.getfield 87, 3) := by decide +kernel
theorem dX10_wayAt_76 : decode cX10_wayAt 76 = .ok (.iload 4, 2) := by decide +kernel
theorem dX10_wayAt_78 : decode cX10_wayAt 78 = .ok (.iaload, 1) := by decide +kernel
theorem dX10_wayAt_79 : decode cX10_wayAt 79 = .ok (.ireturn, 1) := by decide +kernel
theorem dX10_met_0 : decode cX10_met 0 = .ok (.aload_n 0, 1) := by decide +kernel
theorem dX10_met_1 : decode cX10_met 1 = .ok (.iload_n 1, 1) := by decide +kernel
theorem dX10_met_2 : decode cX10_met 2 = .ok (.invokevirtual 327, 3) := by decide +kernel
theorem dX10_met_5 : decode cX10_met 5 = .ok (.ifCond .ne 5, 3) := by decide +kernel
theorem dX10_met_8 : decode cX10_met 8 = .ok (.iconst (-1), 1) := by decide +kernel
theorem dX10_met_9 : decode cX10_met 9 = .ok (.ireturn, 1) := by decide +kernel
theorem dX10_met_10 : decode cX10_met 10 = .ok (.aload_n 0, 1) := by decide +kernel
theorem dX10_met_11 : decode cX10_met 11 = .ok (.iload_n 1, 1) := by decide +kernel
theorem dX10_met_12 : decode cX10_met 12 = .ok (.invokevirtual 354, 3) := by decide +kernel
theorem dX10_met_15 : decode cX10_met 15 = .ok (.aload_n 0, 1) := by decide +kernel
theorem dX10_met_16 : decode cX10_met 16 = .ok (.getfield 342, 3) := by decide +kernel
theorem dX10_met_19 : decode cX10_met 19 = .ok (.ireturn, 1) := by decide +kernel
theorem dX10_village_0 : decode cX10_village 0 = .ok (.aload_n 0, 1) := by decide +kernel
theorem dX10_village_1 : decode cX10_village 1 = .ok (.getfield 360, 3) := by decide +kernel
theorem dX10_village_4 : decode cX10_village 4 = .ok (.iconst 4, 1) := by decide +kernel
theorem dX10_village_5 : decode cX10_village 5 = .ok (.if_icmp .ne 6, 3) := by decide +kernel
theorem dX10_village_8 : decode cX10_village 8 = .ok (.bipush (-3), 2) := by decide +kernel
theorem dX10_village_10 : decode cX10_village 10 = .ok (.ireturn, 1) := by decide +kernel
theorem dX10_village_11 : decode cX10_village 11 = .ok (.aload_n 0, 1) := by decide +kernel
theorem dX10_village_12 : decode cX10_village 12 = .ok (.getfield 93, 3) := by decide +kernel
theorem dX10_village_15 : decode cX10_village 15 = .ok (.aload_n 0, 1) := by decide +kernel
theorem dX10_village_16 : decode cX10_village 16 = .ok (.getfield 360, 3) := by decide +kernel
theorem dX10_village_19 : decode cX10_village 19 = .ok (.iconst 0, 1) := by decide +kernel
theorem dX10_village_20 : decode cX10_village 20 = .ok (.iastore, 1) := by decide +kernel
theorem dX10_village_21 : decode cX10_village 21 = .ok (.aload_n 0, 1) := by decide +kernel
theorem dX10_village_22 : decode cX10_village 22 = .ok (.dup, 1) := by decide +kernel
theorem dX10_village_23 : decode cX10_village 23 = .ok (.getfield 360, 3) := by decide +kernel
theorem dX10_village_26 : decode cX10_village 26 = .ok (.iconst 1, 1) := by decide +kernel
theorem dX10_village_27 : decode cX10_village 27 = .ok (.iadd, 1) := by decide +kernel
theorem dX10_village_28 : decode cX10_village 28 = .ok (.putfield 360, 3) := by decide +kernel
theorem dX10_village_31 : decode cX10_village 31 = .ok (.aload_n 0, 1) := by decide +kernel
theorem dX10_village_32 : decode cX10_village 32 = .ok (.getfield 360, 3) := by decide +kernel
theorem dX10_village_35 : decode cX10_village 35 = .ok (.iconst 1, 1) := by decide +kernel
theorem dX10_village_36 : decode cX10_village 36 = .ok (.isub, 1) := by decide +kernel
theorem dX10_village_37 : decode cX10_village 37 = .ok (.ireturn, 1) := by decide +kernel
theorem dX10_isVillage_0 : decode cX10_isVillage 0 = .ok (.iload_n 1, 1) := by decide +kernel
theorem dX10_isVillage_1 : decode cX10_isVillage 1 = .ok (.i2l, 1) := by decide +kernel
theorem dX10_isVillage_2 : decode cX10_isVillage 2 = .ok (.lconst 0, 1) := by decide +kernel
theorem dX10_isVillage_3 : decode cX10_isVillage 3 = .ok (.aload_n 0, 1) := by decide +kernel
theorem dX10_isVillage_4 : decode cX10_isVillage 4 = .ok (.getfield 360, 3) := by decide +kernel
theorem dX10_isVillage_7 : decode cX10_isVillage 7 = .ok (.iconst 1, 1) := by decide +kernel
theorem dX10_isVillage_8 : decode cX10_isVillage 8 = .ok (.isub, 1) := by decide +kernel
theorem dX10_isVillage_9 : decode cX10_isVillage 9 = .ok (.i2l, 1) := by decide +kernel
theorem dX10_isVillage_10 : decode cX10_isVillage 10 = .ok (.invokestatic 115, 3) := by decide +kernel
theorem dX10_isVillage_13 : decode cX10_isVillage 13 = .ok (.ireturn, 1) := by decide +kernel
theorem dX10_add_0 : decode cX10_add 0 = .ok (.aload_n 0, 1) := by decide +kernel
theorem dX10_add_1 : decode cX10_add 1 = .ok (.iload_n 1, 1) := by decide +kernel
theorem dX10_add_2 : decode cX10_add 2 = .ok (.invokevirtual 363, 3) := by decide +kernel
theorem dX10_add_5 : decode cX10_add 5 = .ok (.ifCond .eq 11, 3) := by decide +kernel
theorem dX10_add_8 : decode cX10_add 8 = .ok (.aload_n 0, 1) := by decide +kernel
theorem dX10_add_9 : decode cX10_add 9 = .ok (.iload_n 2, 1) := by decide +kernel
theorem dX10_add_10 : decode cX10_add 10 = .ok (.invokevirtual 286, 3) := by decide +kernel
theorem dX10_add_13 : decode cX10_add 13 = .ok (.ifCond .ne 5, 3) := by decide +kernel
theorem dX10_add_16 : decode cX10_add 16 = .ok (.iconst (-1), 1) := by decide +kernel
theorem dX10_add_17 : decode cX10_add 17 = .ok (.ireturn, 1) := by decide +kernel
theorem dX10_add_18 : decode cX10_add 18 = .ok (.aload_n 0, 1) := by decide +kernel
theorem dX10_add_19 : decode cX10_add 19 = .ok (.getfield 93, 3) := by decide +kernel
theorem dX10_add_22 : decode cX10_add 22 = .ok (.iload_n 1, 1) := by decide +kernel
theorem dX10_add_23 : decode cX10_add 23 = .ok (.iaload, 1) := by decide +kernel
theorem dX10_add_24 : decode cX10_add 24 = .ok (.bipush 16, 2) := by decide +kernel
theorem dX10_add_26 : decode cX10_add 26 = .ok (.if_icmp .ne 6, 3) := by decide +kernel
theorem dX10_add_29 : decode cX10_add 29 = .ok (.bipush (-3), 2) := by decide +kernel
theorem dX10_add_31 : decode cX10_add 31 = .ok (.ireturn, 1) := by decide +kernel
theorem dX10_add_32 : decode cX10_add 32 = .ok (.aload_n 0, 1) := by decide +kernel
theorem dX10_add_33 : decode cX10_add 33 = .ok (.getfield 96, 3) := by decide +kernel
theorem dX10_add_36 : decode cX10_add 36 = .ok (.bipush 16, 2) := by decide +kernel
theorem dX10_add_38 : decode cX10_add 38 = .ok (.iload_n 1, 1) := by decide +kernel
theorem dX10_add_39 : decode cX10_add 39 = .ok (.imul, 1) := by decide +kernel
theorem dX10_add_40 : decode cX10_add 40 = .ok (.aload_n 0, 1) := by decide +kernel
theorem dX10_add_41 : decode cX10_add 41 = .ok (.getfield 93, 3) := by decide +kernel
theorem dX10_add_44 : decode cX10_add 44 = .ok (.iload_n 1, 1) := by decide +kernel
theorem dX10_add_45 : decode cX10_add 45 = .ok (.iaload, 1) := by decide +kernel
theorem dX10_add_46 : decode cX10_add 46 = .ok (.iadd, 1) := by decide +kernel
theorem dX10_add_47 : decode cX10_add 47 = .ok (.iload_n 2, 1) := by decide +kernel
theorem dX10_add_48 : decode cX10_add 48 = .ok (.iastore, 1) := by decide +kernel
theorem dX10_add_49 : decode cX10_add 49 = .ok (.aload_n 0, 1) := by decide +kernel
theorem dX10_add_50 : decode cX10_add 50 = .ok (.getfield 93, 3) := by decide +kernel
theorem dX10_add_53 : decode cX10_add 53 = .ok (.iload_n 1, 1) := by decide +kernel
theorem dX10_add_54 : decode cX10_add 54 = .ok (.dup2, 1) := by decide +kernel
theorem dX10_add_55 : decode cX10_add 55 = .ok (.iaload, 1) := by decide +kernel
theorem dX10_add_56 : decode cX10_add 56 = .ok (.iconst 1, 1) := by decide +kernel
theorem dX10_add_57 : decode cX10_add 57 = .ok (.iadd, 1) := by decide +kernel
theorem dX10_add_58 : decode cX10_add 58 = .ok (.iastore, 1) := by decide +kernel
theorem dX10_add_59 : decode cX10_add 59 = .ok (.aload_n 0, 1) := by decide +kernel
theorem dX10_add_60 : decode cX10_add 60 = .ok (.getfield 93, 3) := by decide +kernel
theorem dX10_add_63 : decode cX10_add 63 = .ok (.iload_n 1, 1) := by decide +kernel
theorem dX10_add_64 : decode cX10_add 64 = .ok (.iaload, 1) := by decide +kernel
theorem dX10_add_65 : decode cX10_add 65 = .ok (.ireturn, 1) := by decide +kernel
theorem dX10_danceOf_0 : decode cX10_danceOf 0 = .ok (.aload_n 0, 1) := by decide +kernel
theorem dX10_danceOf_1 : decode cX10_danceOf 1 = .ok (.iload_n 1, 1) := by decide +kernel
theorem dX10_danceOf_2 : decode cX10_danceOf 2 = .ok (.invokevirtual 363, 3) := by decide +kernel
theorem dX10_danceOf_5 : decode cX10_danceOf 5 = .ok (.ifCond .ne 5, 3) := by decide +kernel
theorem dX10_danceOf_8 : decode cX10_danceOf 8 = .ok (.iconst (-1), 1) := by decide +kernel
theorem dX10_danceOf_9 : decode cX10_danceOf 9 = .ok (.ireturn, 1) := by decide +kernel
theorem dX10_danceOf_10 : decode cX10_danceOf 10 = .ok (.iconst 0, 1) := by decide +kernel
theorem dX10_danceOf_11 : decode cX10_danceOf 11 = .ok (.istore_n 3, 1) := by decide +kernel
theorem dX10_danceOf_12 : decode cX10_danceOf 12 = .ok (.iconst 0, 1) := by decide +kernel
theorem dX10_danceOf_13 : decode cX10_danceOf 13 = .ok (.istore 4, 2) := by decide +kernel
theorem dX10_danceOf_15 : decode cX10_danceOf 15 = .ok (.iload 4, 2) := by decide +kernel
theorem dX10_danceOf_17 : decode cX10_danceOf 17 = .ok (.aload_n 0, 1) := by decide +kernel
theorem dX10_danceOf_18 : decode cX10_danceOf 18 = .ok (.getfield 93, 3) := by decide +kernel
theorem dX10_danceOf_21 : decode cX10_danceOf 21 = .ok (.iload_n 1, 1) := by decide +kernel
theorem dX10_danceOf_22 : decode cX10_danceOf 22 = .ok (.iaload, 1) := by decide +kernel
theorem dX10_danceOf_23 : decode cX10_danceOf 23 = .ok (.if_icmp .ge 29, 3) := by decide +kernel
theorem dX10_danceOf_26 : decode cX10_danceOf 26 = .ok (.iload_n 3, 1) := by decide +kernel
theorem dX10_danceOf_27 : decode cX10_danceOf 27 = .ok (.aload_n 0, 1) := by decide +kernel
theorem dX10_danceOf_28 : decode cX10_danceOf 28 = .ok (.getfield 42, 3) := by decide +kernel
theorem dX10_danceOf_31 : decode cX10_danceOf 31 = .ok (.aload_n 0, 1) := by decide +kernel
theorem dX10_danceOf_32 : decode cX10_danceOf 32 = .ok (.getfield 96, 3) := by decide +kernel
theorem dX10_danceOf_35 : decode cX10_danceOf 35 = .ok (.bipush 16, 2) := by decide +kernel
theorem dX10_danceOf_37 : decode cX10_danceOf 37 = .ok (.iload_n 1, 1) := by decide +kernel
theorem dX10_danceOf_38 : decode cX10_danceOf 38 = .ok (.imul, 1) := by decide +kernel
theorem dX10_danceOf_39 : decode cX10_danceOf 39 = .ok (.iload 4, 2) := by decide +kernel
theorem dX10_danceOf_41 : decode cX10_danceOf 41 = .ok (.iadd, 1) := by decide +kernel
theorem dX10_danceOf_42 : decode cX10_danceOf 42 = .ok (.iaload, 1) := by decide +kernel
theorem dX10_danceOf_43 : decode cX10_danceOf 43 = .ok (.iaload, 1) := by decide +kernel
theorem dX10_danceOf_44 : decode cX10_danceOf 44 = .ok (.iadd, 1) := by decide +kernel
theorem dX10_danceOf_45 : decode cX10_danceOf 45 = .ok (.istore_n 3, 1) := by decide +kernel
theorem dX10_danceOf_46 : decode cX10_danceOf 46 = .ok (.iinc 4 1, 3) := by decide +kernel
theorem dX10_danceOf_49 : decode cX10_danceOf 49 = .ok (.goto (-34), 3) := by decide +kernel
theorem dX10_danceOf_52 : decode cX10_danceOf 52 = .ok (.iload_n 2, 1) := by decide +kernel
theorem dX10_danceOf_53 : decode cX10_danceOf 53 = .ok (.ifCond .ne 12, 3) := by decide +kernel
theorem dX10_danceOf_56 : decode cX10_danceOf 56 = .ok (.aload_n 0, 1) := by decide +kernel
theorem dX10_danceOf_57 : decode cX10_danceOf 57 = .ok (.getfield 93, 3) := by decide +kernel
theorem dX10_danceOf_60 : decode cX10_danceOf 60 = .ok (.iload_n 1, 1) := by decide +kernel
theorem dX10_danceOf_61 : decode cX10_danceOf 61 = .ok (.iaload, 1) := by decide +kernel
theorem dX10_danceOf_62 : decode cX10_danceOf 62 = .ok (.goto 51, 3) := by decide +kernel
theorem dX10_danceOf_65 : decode cX10_danceOf 65 = .ok (.iload_n 2, 1) := by decide +kernel
theorem dX10_danceOf_66 : decode cX10_danceOf 66 = .ok (.iconst 1, 1) := by decide +kernel
theorem dX10_danceOf_67 : decode cX10_danceOf 67 = .ok (.if_icmp .ne 7, 3) := by decide +kernel
theorem dX10_danceOf_70 : decode cX10_danceOf 70 = .ok (.iload_n 3, 1) := by decide +kernel
theorem dX10_danceOf_71 : decode cX10_danceOf 71 = .ok (.goto 42, 3) := by decide +kernel
theorem dX10_danceOf_74 : decode cX10_danceOf 74 = .ok (.iload_n 2, 1) := by decide +kernel
theorem dX10_danceOf_75 : decode cX10_danceOf 75 = .ok (.i2l, 1) := by decide +kernel
theorem dX10_danceOf_76 : decode cX10_danceOf 76 = .ok (.ldc2_w 289, 3) := by decide +kernel
theorem dX10_danceOf_79 : decode cX10_danceOf 79 = .ok (.bipush 9, 2) := by decide +kernel
theorem dX10_danceOf_81 : decode cX10_danceOf 81 = .ok (.aload_n 0, 1) := by decide +kernel
theorem dX10_danceOf_82 : decode cX10_danceOf 82 = .ok (.getfield 93, 3) := by decide +kernel
theorem dX10_danceOf_85 : decode cX10_danceOf 85 = .ok (.iload_n 1, 1) := by decide +kernel
theorem dX10_danceOf_86 : decode cX10_danceOf 86 = .ok (.iaload, 1) := by decide +kernel
theorem dX10_danceOf_87 : decode cX10_danceOf 87 = .ok (.iadd, 1) := by decide +kernel
theorem dX10_danceOf_88 : decode cX10_danceOf 88 = .ok (.i2l, 1) := by decide +kernel
theorem dX10_danceOf_89 : decode cX10_danceOf 89 = .ok (.invokestatic 115, 3) := by decide +kernel
theorem dX10_danceOf_92 : decode cX10_danceOf 92 = .ok (.ifCond .eq 20, 3) := by decide +kernel
theorem dX10_danceOf_95 : decode cX10_danceOf 95 = .ok (.aload_n 0, 1) := by decide +kernel
theorem dX10_danceOf_96 : decode cX10_danceOf 96 = .ok (.getfield 96, 3) := by decide +kernel
theorem dX10_danceOf_99 : decode cX10_danceOf 99 = .ok (.bipush 16, 2) := by decide +kernel
theorem dX10_danceOf_101 : decode cX10_danceOf 101 = .ok (.iload_n 1, 1) := by decide +kernel
theorem dX10_danceOf_102 : decode cX10_danceOf 102 = .ok (.imul, 1) := by decide +kernel
theorem dX10_danceOf_103 : decode cX10_danceOf 103 = .ok (.iload_n 2, 1) := by decide +kernel
theorem dX10_danceOf_104 : decode cX10_danceOf 104 = .ok (.iadd, 1) := by decide +kernel
theorem dX10_danceOf_105 : decode cX10_danceOf 105 = .ok (.bipush 10, 2) := by decide +kernel
theorem dX10_danceOf_107 : decode cX10_danceOf 107 = .ok (.isub, 1) := by decide +kernel
theorem dX10_danceOf_108 : decode cX10_danceOf 108 = .ok (.iaload, 1) := by decide +kernel
theorem dX10_danceOf_109 : decode cX10_danceOf 109 = .ok (.goto 4, 3) := by decide +kernel
theorem dX10_danceOf_112 : decode cX10_danceOf 112 = .ok (.iconst (-1), 1) := by decide +kernel
theorem dX10_danceOf_113 : decode cX10_danceOf 113 = .ok (.ireturn, 1) := by decide +kernel
theorem dX10_layLongest_0 : decode cX10_layLongest 0 = .ok (.iconst 0, 1) := by decide +kernel
theorem dX10_layLongest_1 : decode cX10_layLongest 1 = .ok (.istore_n 3, 1) := by decide +kernel
theorem dX10_layLongest_2 : decode cX10_layLongest 2 = .ok (.iload_n 3, 1) := by decide +kernel
theorem dX10_layLongest_3 : decode cX10_layLongest 3 = .ok (.sipush 289, 3) := by decide +kernel
theorem dX10_layLongest_6 : decode cX10_layLongest 6 = .ok (.if_icmp .ge 16, 3) := by decide +kernel
theorem dX10_layLongest_9 : decode cX10_layLongest 9 = .ok (.aload_n 0, 1) := by decide +kernel
theorem dX10_layLongest_10 : decode cX10_layLongest 10 = .ok (.getfield 99, 3) := by decide +kernel
theorem dX10_layLongest_13 : decode cX10_layLongest 13 = .ok (.iload_n 3, 1) := by decide +kernel
theorem dX10_layLongest_14 : decode cX10_layLongest 14 = .ok (.iconst 0, 1) := by decide +kernel
theorem dX10_layLongest_15 : decode cX10_layLongest 15 = .ok (.iastore, 1) := by decide +kernel
theorem dX10_layLongest_16 : decode cX10_layLongest 16 = .ok (.iinc 3 1, 3) := by decide +kernel
theorem dX10_layLongest_19 : decode cX10_layLongest 19 = .ok (.goto (-17), 3) := by decide +kernel
theorem dX10_layLongest_22 : decode cX10_layLongest 22 = .ok (.aload_n 0, 1) := by decide +kernel
theorem dX10_layLongest_23 : decode cX10_layLongest 23 = .ok (.getfield 93, 3) := by decide +kernel
theorem dX10_layLongest_26 : decode cX10_layLongest 26 = .ok (.iload_n 1, 1) := by decide +kernel
theorem dX10_layLongest_27 : decode cX10_layLongest 27 = .ok (.iaload, 1) := by decide +kernel
theorem dX10_layLongest_28 : decode cX10_layLongest 28 = .ok (.iconst 1, 1) := by decide +kernel
theorem dX10_layLongest_29 : decode cX10_layLongest 29 = .ok (.isub, 1) := by decide +kernel
theorem dX10_layLongest_30 : decode cX10_layLongest 30 = .ok (.istore_n 3, 1) := by decide +kernel
theorem dX10_layLongest_31 : decode cX10_layLongest 31 = .ok (.iload_n 3, 1) := by decide +kernel
theorem dX10_layLongest_32 : decode cX10_layLongest 32 = .ok (.ifCond .lt 157, 3) := by decide +kernel
theorem dX10_layLongest_35 : decode cX10_layLongest 35 = .ok (.aload_n 0, 1) := by decide +kernel
theorem dX10_layLongest_36 : decode cX10_layLongest 36 = .ok (.getfield 93, 3) := by decide +kernel
theorem dX10_layLongest_39 : decode cX10_layLongest 39 = .ok (.iload_n 2, 1) := by decide +kernel
theorem dX10_layLongest_40 : decode cX10_layLongest 40 = .ok (.iaload, 1) := by decide +kernel
theorem dX10_layLongest_41 : decode cX10_layLongest 41 = .ok (.iconst 1, 1) := by decide +kernel
theorem dX10_layLongest_42 : decode cX10_layLongest 42 = .ok (.isub, 1) := by decide +kernel
theorem dX10_layLongest_43 : decode cX10_layLongest 43 = .ok (.istore 4, 2) := by decide +kernel
theorem dX10_layLongest_45 : decode cX10_layLongest 45 = .ok (.iload 4, 2) := by decide +kernel
theorem dX10_layLongest_47 : decode cX10_layLongest 47 = .ok (.ifCond .lt 136, 3) := by decide +kernel
theorem dX10_layLongest_50 : decode cX10_layLongest 50 = .ok (.aload_n 0, 1) := by decide +kernel
theorem dX10_layLongest_51 : decode cX10_layLongest 51 = .ok (.getfield 99, 3) := by decide +kernel
theorem dX10_layLongest_54 : decode cX10_layLongest 54 = .ok (.bipush 17, 2) := by decide +kernel
theorem dX10_layLongest_56 : decode cX10_layLongest 56 = .ok (.iload_n 3, 1) := by decide +kernel
theorem dX10_layLongest_57 : decode cX10_layLongest 57 = .ok (.iconst 1, 1) := by decide +kernel
theorem dX10_layLongest_58 : decode cX10_layLongest 58 = .ok (.iadd, 1) := by decide +kernel
theorem dX10_layLongest_59 : decode cX10_layLongest 59 = .ok (.imul, 1) := by decide +kernel
theorem dX10_layLongest_60 : decode cX10_layLongest 60 = .ok (.iload 4, 2) := by decide +kernel
theorem dX10_layLongest_62 : decode cX10_layLongest 62 = .ok (.iadd, 1) := by decide +kernel
theorem dX10_layLongest_63 : decode cX10_layLongest 63 = .ok (.iaload, 1) := by decide +kernel
theorem dX10_layLongest_64 : decode cX10_layLongest 64 = .ok (.istore 5, 2) := by decide +kernel
theorem dX10_layLongest_66 : decode cX10_layLongest 66 = .ok (.aload_n 0, 1) := by decide +kernel
theorem dX10_layLongest_67 : decode cX10_layLongest 67 = .ok (.getfield 99, 3) := by decide +kernel
theorem dX10_layLongest_70 : decode cX10_layLongest 70 = .ok (.bipush 17, 2) := by decide +kernel
theorem dX10_layLongest_72 : decode cX10_layLongest 72 = .ok (.iload_n 3, 1) := by decide +kernel
theorem dX10_layLongest_73 : decode cX10_layLongest 73 = .ok (.imul, 1) := by decide +kernel
theorem dX10_layLongest_74 : decode cX10_layLongest 74 = .ok (.iload 4, 2) := by decide +kernel
theorem dX10_layLongest_76 : decode cX10_layLongest 76 = .ok (.iadd, 1) := by decide +kernel
theorem dX10_layLongest_77 : decode cX10_layLongest 77 = .ok (.iconst 1, 1) := by decide +kernel
theorem dX10_layLongest_78 : decode cX10_layLongest 78 = .ok (.iadd, 1) := by decide +kernel
theorem dX10_layLongest_79 : decode cX10_layLongest 79 = .ok (.iaload, 1) := by decide +kernel
theorem dX10_layLongest_80 : decode cX10_layLongest 80 = .ok (.istore 6, 2) := by decide +kernel
theorem dX10_layLongest_82 : decode cX10_layLongest 82 = .ok (.aload_n 0, 1) := by decide +kernel
theorem dX10_layLongest_83 : decode cX10_layLongest 83 = .ok (.getfield 96, 3) := by decide +kernel
theorem dX10_layLongest_86 : decode cX10_layLongest 86 = .ok (.bipush 16, 2) := by decide +kernel
theorem dX10_layLongest_88 : decode cX10_layLongest 88 = .ok (.iload_n 1, 1) := by decide +kernel
theorem dX10_layLongest_89 : decode cX10_layLongest 89 = .ok (.imul, 1) := by decide +kernel
theorem dX10_layLongest_90 : decode cX10_layLongest 90 = .ok (.iload_n 3, 1) := by decide +kernel
theorem dX10_layLongest_91 : decode cX10_layLongest 91 = .ok (.iadd, 1) := by decide +kernel
theorem dX10_layLongest_92 : decode cX10_layLongest 92 = .ok (.iaload, 1) := by decide +kernel
theorem dX10_layLongest_93 : decode cX10_layLongest 93 = .ok (.aload_n 0, 1) := by decide +kernel
theorem dX10_layLongest_94 : decode cX10_layLongest 94 = .ok (.getfield 96, 3) := by decide +kernel
theorem dX10_layLongest_97 : decode cX10_layLongest 97 = .ok (.bipush 16, 2) := by decide +kernel
theorem dX10_layLongest_99 : decode cX10_layLongest 99 = .ok (.iload_n 2, 1) := by decide +kernel
theorem dX10_layLongest_100 : decode cX10_layLongest 100 = .ok (.imul, 1) := by decide +kernel
theorem dX10_layLongest_101 : decode cX10_layLongest 101 = .ok (.iload 4, 2) := by decide +kernel
theorem dX10_layLongest_103 : decode cX10_layLongest 103 = .ok (.iadd, 1) := by decide +kernel
theorem dX10_layLongest_104 : decode cX10_layLongest 104 = .ok (.iaload, 1) := by decide +kernel
theorem dX10_layLongest_105 : decode cX10_layLongest 105 = .ok (.if_icmp .ne 24, 3) := by decide +kernel
theorem dX10_layLongest_108 : decode cX10_layLongest 108 = .ok (.iconst 1, 1) := by decide +kernel
theorem dX10_layLongest_109 : decode cX10_layLongest 109 = .ok (.aload_n 0, 1) := by decide +kernel
theorem dX10_layLongest_110 : decode cX10_layLongest 110 = .ok (.getfield 99, 3) := by decide +kernel
theorem dX10_layLongest_113 : decode cX10_layLongest 113 = .ok (.bipush 17, 2) := by decide +kernel
theorem dX10_layLongest_115 : decode cX10_layLongest 115 = .ok (.iload_n 3, 1) := by decide +kernel
theorem dX10_layLongest_116 : decode cX10_layLongest 116 = .ok (.iconst 1, 1) := by decide +kernel
theorem dX10_layLongest_117 : decode cX10_layLongest 117 = .ok (.iadd, 1) := by decide +kernel
theorem dX10_layLongest_118 : decode cX10_layLongest 118 = .ok (.imul, 1) := by decide +kernel
theorem dX10_layLongest_119 : decode cX10_layLongest 119 = .ok (.iload 4, 2) := by decide +kernel
theorem dX10_layLongest_121 : decode cX10_layLongest 121 = .ok (.iadd, 1) := by decide +kernel
theorem dX10_layLongest_122 : decode cX10_layLongest 122 = .ok (.iconst 1, 1) := by decide +kernel
theorem dX10_layLongest_123 : decode cX10_layLongest 123 = .ok (.iadd, 1) := by decide +kernel
theorem dX10_layLongest_124 : decode cX10_layLongest 124 = .ok (.iaload, 1) := by decide +kernel
theorem dX10_layLongest_125 : decode cX10_layLongest 125 = .ok (.iadd, 1) := by decide +kernel
theorem dX10_layLongest_126 : decode cX10_layLongest 126 = .ok (.goto 4, 3) := by decide +kernel
theorem dX10_layLongest_129 : decode cX10_layLongest 129 = .ok (.iconst 0, 1) := by decide +kernel
theorem dX10_layLongest_130 : decode cX10_layLongest 130 = .ok (.istore 7, 2) := by decide +kernel
theorem dX10_layLongest_132 : decode cX10_layLongest 132 = .ok (.aload_n 0, 1) := by decide +kernel
theorem dX10_layLongest_133 : decode cX10_layLongest 133 = .ok (.getfield 99, 3) := by decide +kernel
theorem dX10_layLongest_136 : decode cX10_layLongest 136 = .ok (.bipush 17, 2) := by decide +kernel
theorem dX10_layLongest_138 : decode cX10_layLongest 138 = .ok (.iload_n 3, 1) := by decide +kernel
theorem dX10_layLongest_139 : decode cX10_layLongest 139 = .ok (.imul, 1) := by decide +kernel
theorem dX10_layLongest_140 : decode cX10_layLongest 140 = .ok (.iload 4, 2) := by decide +kernel
theorem dX10_layLongest_142 : decode cX10_layLongest 142 = .ok (.iadd, 1) := by decide +kernel
theorem dX10_layLongest_143 : decode cX10_layLongest 143 = .ok (.iload 7, 2) := by decide +kernel
theorem dX10_layLongest_145 : decode cX10_layLongest 145 = .ok (.iload 5, 2) := by decide +kernel
theorem dX10_layLongest_147 : decode cX10_layLongest 147 = .ok (.if_icmp .le 15, 3) := by decide +kernel
theorem dX10_layLongest_150 : decode cX10_layLongest 150 = .ok (.iload 7, 2) := by decide +kernel
theorem dX10_layLongest_152 : decode cX10_layLongest 152 = .ok (.iload 6, 2) := by decide +kernel
theorem dX10_layLongest_154 : decode cX10_layLongest 154 = .ok (.if_icmp .le 8, 3) := by decide +kernel
theorem dX10_layLongest_157 : decode cX10_layLongest 157 = .ok (.iload 7, 2) := by decide +kernel
theorem dX10_layLongest_159 : decode cX10_layLongest 159 = .ok (.goto 17, 3) := by decide +kernel
theorem dX10_layLongest_162 : decode cX10_layLongest 162 = .ok (.iload 5, 2) := by decide +kernel
theorem dX10_layLongest_164 : decode cX10_layLongest 164 = .ok (.iload 6, 2) := by decide +kernel
theorem dX10_layLongest_166 : decode cX10_layLongest 166 = .ok (.if_icmp .le 8, 3) := by decide +kernel
theorem dX10_layLongest_169 : decode cX10_layLongest 169 = .ok (.iload 5, 2) := by decide +kernel
theorem dX10_layLongest_171 : decode cX10_layLongest 171 = .ok (.goto 5, 3) := by decide +kernel
theorem dX10_layLongest_174 : decode cX10_layLongest 174 = .ok (.iload 6, 2) := by decide +kernel
theorem dX10_layLongest_176 : decode cX10_layLongest 176 = .ok (.iastore, 1) := by decide +kernel
theorem dX10_layLongest_177 : decode cX10_layLongest 177 = .ok (.iinc 4 (-1), 3) := by decide +kernel
theorem dX10_layLongest_180 : decode cX10_layLongest 180 = .ok (.goto (-135), 3) := by decide +kernel
theorem dX10_layLongest_183 : decode cX10_layLongest 183 = .ok (.iinc 3 (-1), 3) := by decide +kernel
theorem dX10_layLongest_186 : decode cX10_layLongest 186 = .ok (.goto (-155), 3) := by decide +kernel
theorem dX10_layLongest_189 : decode cX10_layLongest 189 = .ok (.return_, 1) := by decide +kernel
theorem dX10_firstOf_0 : decode cX10_firstOf 0 = .ok (.iload_n 2, 1) := by decide +kernel
theorem dX10_firstOf_1 : decode cX10_firstOf 1 = .ok (.istore 4, 2) := by decide +kernel
theorem dX10_firstOf_3 : decode cX10_firstOf 3 = .ok (.iload 4, 2) := by decide +kernel
theorem dX10_firstOf_5 : decode cX10_firstOf 5 = .ok (.aload_n 0, 1) := by decide +kernel
theorem dX10_firstOf_6 : decode cX10_firstOf 6 = .ok (.getfield 93, 3) := by decide +kernel
theorem dX10_firstOf_9 : decode cX10_firstOf 9 = .ok (.iload_n 1, 1) := by decide +kernel
theorem dX10_firstOf_10 : decode cX10_firstOf 10 = .ok (.iaload, 1) := by decide +kernel
theorem dX10_firstOf_11 : decode cX10_firstOf 11 = .ok (.if_icmp .ge 25, 3) := by decide +kernel
theorem dX10_firstOf_14 : decode cX10_firstOf 14 = .ok (.aload_n 0, 1) := by decide +kernel
theorem dX10_firstOf_15 : decode cX10_firstOf 15 = .ok (.getfield 96, 3) := by decide +kernel
theorem dX10_firstOf_18 : decode cX10_firstOf 18 = .ok (.bipush 16, 2) := by decide +kernel
theorem dX10_firstOf_20 : decode cX10_firstOf 20 = .ok (.iload_n 1, 1) := by decide +kernel
theorem dX10_firstOf_21 : decode cX10_firstOf 21 = .ok (.imul, 1) := by decide +kernel
theorem dX10_firstOf_22 : decode cX10_firstOf 22 = .ok (.iload 4, 2) := by decide +kernel
theorem dX10_firstOf_24 : decode cX10_firstOf 24 = .ok (.iadd, 1) := by decide +kernel
theorem dX10_firstOf_25 : decode cX10_firstOf 25 = .ok (.iaload, 1) := by decide +kernel
theorem dX10_firstOf_26 : decode cX10_firstOf 26 = .ok (.iload_n 3, 1) := by decide +kernel
theorem dX10_firstOf_27 : decode cX10_firstOf 27 = .ok (.if_icmp .eq 9, 3) := by decide +kernel
theorem dX10_firstOf_30 : decode cX10_firstOf 30 = .ok (.iinc 4 1, 3) := by decide +kernel
theorem dX10_firstOf_33 : decode cX10_firstOf 33 = .ok (.goto (-30), 3) := by decide +kernel
theorem dX10_firstOf_36 : decode cX10_firstOf 36 = .ok (.iload 4, 2) := by decide +kernel
theorem dX10_firstOf_38 : decode cX10_firstOf 38 = .ok (.aload_n 0, 1) := by decide +kernel
theorem dX10_firstOf_39 : decode cX10_firstOf 39 = .ok (.getfield 93, 3) := by decide +kernel
theorem dX10_firstOf_42 : decode cX10_firstOf 42 = .ok (.iload_n 1, 1) := by decide +kernel
theorem dX10_firstOf_43 : decode cX10_firstOf 43 = .ok (.iaload, 1) := by decide +kernel
theorem dX10_firstOf_44 : decode cX10_firstOf 44 = .ok (.if_icmp .ge 8, 3) := by decide +kernel
theorem dX10_firstOf_47 : decode cX10_firstOf 47 = .ok (.iload 4, 2) := by decide +kernel
theorem dX10_firstOf_49 : decode cX10_firstOf 49 = .ok (.goto 5, 3) := by decide +kernel
theorem dX10_firstOf_52 : decode cX10_firstOf 52 = .ok (.bipush 16, 2) := by decide +kernel
theorem dX10_firstOf_54 : decode cX10_firstOf 54 = .ok (.ireturn, 1) := by decide +kernel
theorem dX10_shared_0 : decode cX10_shared 0 = .ok (.aload_n 0, 1) := by decide +kernel
theorem dX10_shared_1 : decode cX10_shared 1 = .ok (.iload_n 1, 1) := by decide +kernel
theorem dX10_shared_2 : decode cX10_shared 2 = .ok (.invokevirtual 363, 3) := by decide +kernel
theorem dX10_shared_5 : decode cX10_shared 5 = .ok (.ifCond .eq 21, 3) := by decide +kernel
theorem dX10_shared_8 : decode cX10_shared 8 = .ok (.aload_n 0, 1) := by decide +kernel
theorem dX10_shared_9 : decode cX10_shared 9 = .ok (.iload_n 2, 1) := by decide +kernel
theorem dX10_shared_10 : decode cX10_shared 10 = .ok (.invokevirtual 363, 3) := by decide +kernel
theorem dX10_shared_13 : decode cX10_shared 13 = .ok (.ifCond .eq 13, 3) := by decide +kernel
theorem dX10_shared_16 : decode cX10_shared 16 = .ok (.iload_n 3, 1) := by decide +kernel
theorem dX10_shared_17 : decode cX10_shared 17 = .ok (.ifCond .ge 11, 3) := by decide +kernel
theorem dX10_shared_20 : decode cX10_shared 20 = .ok (.iload_n 3, 1) := by decide +kernel
theorem dX10_shared_21 : decode cX10_shared 21 = .ok (.bipush (-4), 2) := by decide +kernel
theorem dX10_shared_23 : decode cX10_shared 23 = .ok (.if_icmp .eq 5, 3) := by decide +kernel
theorem dX10_shared_26 : decode cX10_shared 26 = .ok (.iconst (-1), 1) := by decide +kernel
theorem dX10_shared_27 : decode cX10_shared 27 = .ok (.ireturn, 1) := by decide +kernel
theorem dX10_shared_28 : decode cX10_shared 28 = .ok (.aload_n 0, 1) := by decide +kernel
theorem dX10_shared_29 : decode cX10_shared 29 = .ok (.iload_n 1, 1) := by decide +kernel
theorem dX10_shared_30 : decode cX10_shared 30 = .ok (.iload_n 2, 1) := by decide +kernel
theorem dX10_shared_31 : decode cX10_shared 31 = .ok (.invokevirtual 366, 3) := by decide +kernel
theorem dX10_shared_34 : decode cX10_shared 34 = .ok (.aload_n 0, 1) := by decide +kernel
theorem dX10_shared_35 : decode cX10_shared 35 = .ok (.getfield 99, 3) := by decide +kernel
theorem dX10_shared_38 : decode cX10_shared 38 = .ok (.iconst 0, 1) := by decide +kernel
theorem dX10_shared_39 : decode cX10_shared 39 = .ok (.iaload, 1) := by decide +kernel
theorem dX10_shared_40 : decode cX10_shared 40 = .ok (.istore 4, 2) := by decide +kernel
theorem dX10_shared_42 : decode cX10_shared 42 = .ok (.iload_n 3, 1) := by decide +kernel
theorem dX10_shared_43 : decode cX10_shared 43 = .ok (.bipush (-4), 2) := by decide +kernel
theorem dX10_shared_45 : decode cX10_shared 45 = .ok (.if_icmp .ne 6, 3) := by decide +kernel
theorem dX10_shared_48 : decode cX10_shared 48 = .ok (.iload 4, 2) := by decide +kernel
theorem dX10_shared_50 : decode cX10_shared 50 = .ok (.ireturn, 1) := by decide +kernel
theorem dX10_shared_51 : decode cX10_shared 51 = .ok (.iload_n 3, 1) := by decide +kernel
theorem dX10_shared_52 : decode cX10_shared 52 = .ok (.iload 4, 2) := by decide +kernel
theorem dX10_shared_54 : decode cX10_shared 54 = .ok (.if_icmp .lt 6, 3) := by decide +kernel
theorem dX10_shared_57 : decode cX10_shared 57 = .ok (.bipush (-4), 2) := by decide +kernel
theorem dX10_shared_59 : decode cX10_shared 59 = .ok (.ireturn, 1) := by decide +kernel
theorem dX10_shared_60 : decode cX10_shared 60 = .ok (.iconst 0, 1) := by decide +kernel
theorem dX10_shared_61 : decode cX10_shared 61 = .ok (.istore 5, 2) := by decide +kernel
theorem dX10_shared_63 : decode cX10_shared 63 = .ok (.iconst 0, 1) := by decide +kernel
theorem dX10_shared_64 : decode cX10_shared 64 = .ok (.istore 6, 2) := by decide +kernel
theorem dX10_shared_66 : decode cX10_shared 66 = .ok (.bipush (-4), 2) := by decide +kernel
theorem dX10_shared_68 : decode cX10_shared 68 = .ok (.istore 7, 2) := by decide +kernel
theorem dX10_shared_70 : decode cX10_shared 70 = .ok (.iconst 0, 1) := by decide +kernel
theorem dX10_shared_71 : decode cX10_shared 71 = .ok (.istore 8, 2) := by decide +kernel
theorem dX10_shared_73 : decode cX10_shared 73 = .ok (.iload 8, 2) := by decide +kernel
theorem dX10_shared_75 : decode cX10_shared 75 = .ok (.iload_n 3, 1) := by decide +kernel
theorem dX10_shared_76 : decode cX10_shared 76 = .ok (.if_icmp .gt 117, 3) := by decide +kernel
theorem dX10_shared_79 : decode cX10_shared 79 = .ok (.bipush (-4), 2) := by decide +kernel
theorem dX10_shared_81 : decode cX10_shared 81 = .ok (.istore 7, 2) := by decide +kernel
theorem dX10_shared_83 : decode cX10_shared 83 = .ok (.iconst 0, 1) := by decide +kernel
theorem dX10_shared_84 : decode cX10_shared 84 = .ok (.istore 9, 2) := by decide +kernel
theorem dX10_shared_86 : decode cX10_shared 86 = .ok (.iload 9, 2) := by decide +kernel
theorem dX10_shared_88 : decode cX10_shared 88 = .ok (.aload_n 0, 1) := by decide +kernel
theorem dX10_shared_89 : decode cX10_shared 89 = .ok (.getfield 262, 3) := by decide +kernel
theorem dX10_shared_92 : decode cX10_shared 92 = .ok (.if_icmp .ge 92, 3) := by decide +kernel
theorem dX10_shared_95 : decode cX10_shared 95 = .ok (.iload 7, 2) := by decide +kernel
theorem dX10_shared_97 : decode cX10_shared 97 = .ok (.bipush (-4), 2) := by decide +kernel
theorem dX10_shared_99 : decode cX10_shared 99 = .ok (.if_icmp .ne 85, 3) := by decide +kernel
theorem dX10_shared_102 : decode cX10_shared 102 = .ok (.aload_n 0, 1) := by decide +kernel
theorem dX10_shared_103 : decode cX10_shared 103 = .ok (.iload_n 1, 1) := by decide +kernel
theorem dX10_shared_104 : decode cX10_shared 104 = .ok (.iload 5, 2) := by decide +kernel
theorem dX10_shared_106 : decode cX10_shared 106 = .ok (.iload 9, 2) := by decide +kernel
theorem dX10_shared_108 : decode cX10_shared 108 = .ok (.invokevirtual 369, 3) := by decide +kernel
theorem dX10_shared_111 : decode cX10_shared 111 = .ok (.istore 10, 2) := by decide +kernel
theorem dX10_shared_113 : decode cX10_shared 113 = .ok (.aload_n 0, 1) := by decide +kernel
theorem dX10_shared_114 : decode cX10_shared 114 = .ok (.iload_n 2, 1) := by decide +kernel
theorem dX10_shared_115 : decode cX10_shared 115 = .ok (.iload 6, 2) := by decide +kernel
theorem dX10_shared_117 : decode cX10_shared 117 = .ok (.iload 9, 2) := by decide +kernel
theorem dX10_shared_119 : decode cX10_shared 119 = .ok (.invokevirtual 369, 3) := by decide +kernel
theorem dX10_shared_122 : decode cX10_shared 122 = .ok (.istore 11, 2) := by decide +kernel
theorem dX10_shared_124 : decode cX10_shared 124 = .ok (.iload 10, 2) := by decide +kernel
theorem dX10_shared_126 : decode cX10_shared 126 = .ok (.bipush 16, 2) := by decide +kernel
theorem dX10_shared_128 : decode cX10_shared 128 = .ok (.if_icmp .ge 50, 3) := by decide +kernel
theorem dX10_shared_131 : decode cX10_shared 131 = .ok (.iload 11, 2) := by decide +kernel
theorem dX10_shared_133 : decode cX10_shared 133 = .ok (.bipush 16, 2) := by decide +kernel
theorem dX10_shared_135 : decode cX10_shared 135 = .ok (.if_icmp .ge 43, 3) := by decide +kernel
theorem dX10_shared_138 : decode cX10_shared 138 = .ok (.iconst 1, 1) := by decide +kernel
theorem dX10_shared_139 : decode cX10_shared 139 = .ok (.aload_n 0, 1) := by decide +kernel
theorem dX10_shared_140 : decode cX10_shared 140 = .ok (.getfield 99, 3) := by decide +kernel
theorem dX10_shared_143 : decode cX10_shared 143 = .ok (.bipush 17, 2) := by decide +kernel
theorem dX10_shared_145 : decode cX10_shared 145 = .ok (.iload 10, 2) := by decide +kernel
theorem dX10_shared_147 : decode cX10_shared 147 = .ok (.iconst 1, 1) := by decide +kernel
theorem dX10_shared_148 : decode cX10_shared 148 = .ok (.iadd, 1) := by decide +kernel
theorem dX10_shared_149 : decode cX10_shared 149 = .ok (.imul, 1) := by decide +kernel
theorem dX10_shared_150 : decode cX10_shared 150 = .ok (.iload 11, 2) := by decide +kernel
theorem dX10_shared_152 : decode cX10_shared 152 = .ok (.iadd, 1) := by decide +kernel
theorem dX10_shared_153 : decode cX10_shared 153 = .ok (.iconst 1, 1) := by decide +kernel
theorem dX10_shared_154 : decode cX10_shared 154 = .ok (.iadd, 1) := by decide +kernel
theorem dX10_shared_155 : decode cX10_shared 155 = .ok (.iaload, 1) := by decide +kernel
theorem dX10_shared_156 : decode cX10_shared 156 = .ok (.iadd, 1) := by decide +kernel
theorem dX10_shared_157 : decode cX10_shared 157 = .ok (.iload 4, 2) := by decide +kernel
theorem dX10_shared_159 : decode cX10_shared 159 = .ok (.if_icmp .ne 19, 3) := by decide +kernel
theorem dX10_shared_162 : decode cX10_shared 162 = .ok (.iload 9, 2) := by decide +kernel
theorem dX10_shared_164 : decode cX10_shared 164 = .ok (.istore 7, 2) := by decide +kernel
theorem dX10_shared_166 : decode cX10_shared 166 = .ok (.iload 10, 2) := by decide +kernel
theorem dX10_shared_168 : decode cX10_shared 168 = .ok (.iconst 1, 1) := by decide +kernel
theorem dX10_shared_169 : decode cX10_shared 169 = .ok (.iadd, 1) := by decide +kernel
theorem dX10_shared_170 : decode cX10_shared 170 = .ok (.istore 5, 2) := by decide +kernel
theorem dX10_shared_172 : decode cX10_shared 172 = .ok (.iload 11, 2) := by decide +kernel
theorem dX10_shared_174 : decode cX10_shared 174 = .ok (.iconst 1, 1) := by decide +kernel
theorem dX10_shared_175 : decode cX10_shared 175 = .ok (.iadd, 1) := by decide +kernel
theorem dX10_shared_176 : decode cX10_shared 176 = .ok (.istore 6, 2) := by decide +kernel
theorem dX10_shared_178 : decode cX10_shared 178 = .ok (.iinc 9 1, 3) := by decide +kernel
theorem dX10_shared_181 : decode cX10_shared 181 = .ok (.goto (-95), 3) := by decide +kernel
theorem dX10_shared_184 : decode cX10_shared 184 = .ok (.iinc 4 (-1), 3) := by decide +kernel
theorem dX10_shared_187 : decode cX10_shared 187 = .ok (.iinc 8 1, 3) := by decide +kernel
theorem dX10_shared_190 : decode cX10_shared 190 = .ok (.goto (-117), 3) := by decide +kernel
theorem dX10_shared_193 : decode cX10_shared 193 = .ok (.iload 7, 2) := by decide +kernel
theorem dX10_shared_195 : decode cX10_shared 195 = .ok (.ireturn, 1) := by decide +kernel
theorem dX10_perform_0 : decode cX10_perform 0 = .ok (.aload_n 0, 1) := by decide +kernel
theorem dX10_perform_1 : decode cX10_perform 1 = .ok (.iload_n 1, 1) := by decide +kernel
theorem dX10_perform_2 : decode cX10_perform 2 = .ok (.invokevirtual 363, 3) := by decide +kernel
theorem dX10_perform_5 : decode cX10_perform 5 = .ok (.ifCond .ne 5, 3) := by decide +kernel
theorem dX10_perform_8 : decode cX10_perform 8 = .ok (.iconst (-1), 1) := by decide +kernel
theorem dX10_perform_9 : decode cX10_perform 9 = .ok (.ireturn, 1) := by decide +kernel
theorem dX10_perform_10 : decode cX10_perform 10 = .ok (.iconst 0, 1) := by decide +kernel
theorem dX10_perform_11 : decode cX10_perform 11 = .ok (.istore_n 2, 1) := by decide +kernel
theorem dX10_perform_12 : decode cX10_perform 12 = .ok (.iload_n 2, 1) := by decide +kernel
theorem dX10_perform_13 : decode cX10_perform 13 = .ok (.aload_n 0, 1) := by decide +kernel
theorem dX10_perform_14 : decode cX10_perform 14 = .ok (.getfield 93, 3) := by decide +kernel
theorem dX10_perform_17 : decode cX10_perform 17 = .ok (.iload_n 1, 1) := by decide +kernel
theorem dX10_perform_18 : decode cX10_perform 18 = .ok (.iaload, 1) := by decide +kernel
theorem dX10_perform_19 : decode cX10_perform 19 = .ok (.if_icmp .ge 43, 3) := by decide +kernel
theorem dX10_perform_22 : decode cX10_perform 22 = .ok (.aload_n 0, 1) := by decide +kernel
theorem dX10_perform_23 : decode cX10_perform 23 = .ok (.aload_n 0, 1) := by decide +kernel
theorem dX10_perform_24 : decode cX10_perform 24 = .ok (.getfield 96, 3) := by decide +kernel
theorem dX10_perform_27 : decode cX10_perform 27 = .ok (.bipush 16, 2) := by decide +kernel
theorem dX10_perform_29 : decode cX10_perform 29 = .ok (.iload_n 1, 1) := by decide +kernel
theorem dX10_perform_30 : decode cX10_perform 30 = .ok (.imul, 1) := by decide +kernel
theorem dX10_perform_31 : decode cX10_perform 31 = .ok (.iload_n 2, 1) := by decide +kernel
theorem dX10_perform_32 : decode cX10_perform 32 = .ok (.iadd, 1) := by decide +kernel
theorem dX10_perform_33 : decode cX10_perform 33 = .ok (.iaload, 1) := by decide +kernel
theorem dX10_perform_34 : decode cX10_perform 34 = .ok (.iconst 1, 1) := by decide +kernel
theorem dX10_perform_35 : decode cX10_perform 35 = .ok (.invokevirtual 296, 3) := by decide +kernel
theorem dX10_perform_38 : decode cX10_perform 38 = .ok (.istore_n 3, 1) := by decide +kernel
theorem dX10_perform_39 : decode cX10_perform 39 = .ok (.aload_n 0, 1) := by decide +kernel
theorem dX10_perform_40 : decode cX10_perform 40 = .ok (.aload_n 0, 1) := by decide +kernel
theorem dX10_perform_41 : decode cX10_perform 41 = .ok (.getfield 293, 3) := by decide +kernel
theorem dX10_perform_44 : decode cX10_perform 44 = .ok (.putfield 300, 3) := by decide +kernel
theorem dX10_perform_47 : decode cX10_perform 47 = .ok (.iload_n 3, 1) := by decide +kernel
theorem dX10_perform_48 : decode cX10_perform 48 = .ok (.ifCond .ge 8, 3) := by decide +kernel
theorem dX10_perform_51 : decode cX10_perform 51 = .ok (.bipush (-100), 2) := by decide +kernel
theorem dX10_perform_53 : decode cX10_perform 53 = .ok (.iload_n 2, 1) := by decide +kernel
theorem dX10_perform_54 : decode cX10_perform 54 = .ok (.isub, 1) := by decide +kernel
theorem dX10_perform_55 : decode cX10_perform 55 = .ok (.ireturn, 1) := by decide +kernel
theorem dX10_perform_56 : decode cX10_perform 56 = .ok (.iinc 2 1, 3) := by decide +kernel
theorem dX10_perform_59 : decode cX10_perform 59 = .ok (.goto (-47), 3) := by decide +kernel
theorem dX10_perform_62 : decode cX10_perform 62 = .ok (.aload_n 0, 1) := by decide +kernel
theorem dX10_perform_63 : decode cX10_perform 63 = .ok (.getfield 93, 3) := by decide +kernel
theorem dX10_perform_66 : decode cX10_perform 66 = .ok (.iload_n 1, 1) := by decide +kernel
theorem dX10_perform_67 : decode cX10_perform 67 = .ok (.iaload, 1) := by decide +kernel
theorem dX10_perform_68 : decode cX10_perform 68 = .ok (.ireturn, 1) := by decide +kernel
theorem dX10_sheet_0 : decode cX10_sheet 0 = .ok (.iload_n 1, 1) := by decide +kernel
theorem dX10_sheet_1 : decode cX10_sheet 1 = .ok (.i2l, 1) := by decide +kernel
theorem dX10_sheet_2 : decode cX10_sheet 2 = .ok (.lconst 0, 1) := by decide +kernel
theorem dX10_sheet_3 : decode cX10_sheet 3 = .ok (.ldc2_w 373, 3) := by decide +kernel
theorem dX10_sheet_6 : decode cX10_sheet 6 = .ok (.invokestatic 115, 3) := by decide +kernel
theorem dX10_sheet_9 : decode cX10_sheet 9 = .ok (.ifCond .eq 21, 3) := by decide +kernel
theorem dX10_sheet_12 : decode cX10_sheet 12 = .ok (.iload_n 2, 1) := by decide +kernel
theorem dX10_sheet_13 : decode cX10_sheet 13 = .ok (.i2l, 1) := by decide +kernel
theorem dX10_sheet_14 : decode cX10_sheet 14 = .ok (.lconst 0, 1) := by decide +kernel
theorem dX10_sheet_15 : decode cX10_sheet 15 = .ok (.ldc2_w 204, 3) := by decide +kernel
theorem dX10_sheet_18 : decode cX10_sheet 18 = .ok (.invokestatic 115, 3) := by decide +kernel
theorem dX10_sheet_21 : decode cX10_sheet 21 = .ok (.ifCond .eq 9, 3) := by decide +kernel
theorem dX10_sheet_24 : decode cX10_sheet 24 = .ok (.iload_n 3, 1) := by decide +kernel
theorem dX10_sheet_25 : decode cX10_sheet 25 = .ok (.bipush 60, 2) := by decide +kernel
theorem dX10_sheet_27 : decode cX10_sheet 27 = .ok (.if_icmp .le 5, 3) := by decide +kernel
theorem dX10_sheet_30 : decode cX10_sheet 30 = .ok (.iconst (-1), 1) := by decide +kernel
theorem dX10_sheet_31 : decode cX10_sheet 31 = .ok (.ireturn, 1) := by decide +kernel
theorem dX10_sheet_32 : decode cX10_sheet 32 = .ok (.iload_n 3, 1) := by decide +kernel
theorem dX10_sheet_33 : decode cX10_sheet 33 = .ok (.ifCond .ge 6, 3) := by decide +kernel
theorem dX10_sheet_36 : decode cX10_sheet 36 = .ok (.bipush (-14), 2) := by decide +kernel
theorem dX10_sheet_38 : decode cX10_sheet 38 = .ok (.ireturn, 1) := by decide +kernel
theorem dX10_sheet_39 : decode cX10_sheet 39 = .ok (.aload_n 0, 1) := by decide +kernel
theorem dX10_sheet_40 : decode cX10_sheet 40 = .ok (.getfield 102, 3) := by decide +kernel
theorem dX10_sheet_43 : decode cX10_sheet 43 = .ok (.iload_n 1, 1) := by decide +kernel
theorem dX10_sheet_44 : decode cX10_sheet 44 = .ok (.iload_n 2, 1) := by decide +kernel
theorem dX10_sheet_45 : decode cX10_sheet 45 = .ok (.iastore, 1) := by decide +kernel
theorem dX10_sheet_46 : decode cX10_sheet 46 = .ok (.aload_n 0, 1) := by decide +kernel
theorem dX10_sheet_47 : decode cX10_sheet 47 = .ok (.getfield 105, 3) := by decide +kernel
theorem dX10_sheet_50 : decode cX10_sheet 50 = .ok (.iload_n 1, 1) := by decide +kernel
theorem dX10_sheet_51 : decode cX10_sheet 51 = .ok (.iload_n 3, 1) := by decide +kernel
theorem dX10_sheet_52 : decode cX10_sheet 52 = .ok (.iastore, 1) := by decide +kernel
theorem dX10_sheet_53 : decode cX10_sheet 53 = .ok (.iconst 0, 1) := by decide +kernel
theorem dX10_sheet_54 : decode cX10_sheet 54 = .ok (.istore 4, 2) := by decide +kernel
theorem dX10_sheet_56 : decode cX10_sheet 56 = .ok (.iload 4, 2) := by decide +kernel
theorem dX10_sheet_58 : decode cX10_sheet 58 = .ok (.bipush 60, 2) := by decide +kernel
theorem dX10_sheet_60 : decode cX10_sheet 60 = .ok (.if_icmp .ge 22, 3) := by decide +kernel
theorem dX10_sheet_63 : decode cX10_sheet 63 = .ok (.aload_n 0, 1) := by decide +kernel
theorem dX10_sheet_64 : decode cX10_sheet 64 = .ok (.getfield 108, 3) := by decide +kernel
theorem dX10_sheet_67 : decode cX10_sheet 67 = .ok (.bipush 60, 2) := by decide +kernel
theorem dX10_sheet_69 : decode cX10_sheet 69 = .ok (.iload_n 1, 1) := by decide +kernel
theorem dX10_sheet_70 : decode cX10_sheet 70 = .ok (.imul, 1) := by decide +kernel
theorem dX10_sheet_71 : decode cX10_sheet 71 = .ok (.iload 4, 2) := by decide +kernel
theorem dX10_sheet_73 : decode cX10_sheet 73 = .ok (.iadd, 1) := by decide +kernel
theorem dX10_sheet_74 : decode cX10_sheet 74 = .ok (.iconst 0, 1) := by decide +kernel
theorem dX10_sheet_75 : decode cX10_sheet 75 = .ok (.iastore, 1) := by decide +kernel
theorem dX10_sheet_76 : decode cX10_sheet 76 = .ok (.iinc 4 1, 3) := by decide +kernel
theorem dX10_sheet_79 : decode cX10_sheet 79 = .ok (.goto (-23), 3) := by decide +kernel
theorem dX10_sheet_82 : decode cX10_sheet 82 = .ok (.iconst 1, 1) := by decide +kernel
theorem dX10_sheet_83 : decode cX10_sheet 83 = .ok (.ireturn, 1) := by decide +kernel
theorem dX10_lay_0 : decode cX10_lay 0 = .ok (.iload_n 1, 1) := by decide +kernel
theorem dX10_lay_1 : decode cX10_lay 1 = .ok (.i2l, 1) := by decide +kernel
theorem dX10_lay_2 : decode cX10_lay 2 = .ok (.lconst 0, 1) := by decide +kernel
theorem dX10_lay_3 : decode cX10_lay 3 = .ok (.ldc2_w 373, 3) := by decide +kernel
theorem dX10_lay_6 : decode cX10_lay 6 = .ok (.invokestatic 115, 3) := by decide +kernel
theorem dX10_lay_9 : decode cX10_lay 9 = .ok (.ifCond .ne 5, 3) := by decide +kernel
theorem dX10_lay_12 : decode cX10_lay 12 = .ok (.iconst (-1), 1) := by decide +kernel
theorem dX10_lay_13 : decode cX10_lay 13 = .ok (.ireturn, 1) := by decide +kernel
theorem dX10_lay_14 : decode cX10_lay 14 = .ok (.aload_n 0, 1) := by decide +kernel
theorem dX10_lay_15 : decode cX10_lay 15 = .ok (.getfield 102, 3) := by decide +kernel
theorem dX10_lay_18 : decode cX10_lay 18 = .ok (.iload_n 1, 1) := by decide +kernel
theorem dX10_lay_19 : decode cX10_lay 19 = .ok (.iaload, 1) := by decide +kernel
theorem dX10_lay_20 : decode cX10_lay 20 = .ok (.bipush (-4), 2) := by decide +kernel
theorem dX10_lay_22 : decode cX10_lay 22 = .ok (.if_icmp .ne 6, 3) := by decide +kernel
theorem dX10_lay_25 : decode cX10_lay 25 = .ok (.bipush (-11), 2) := by decide +kernel
theorem dX10_lay_27 : decode cX10_lay 27 = .ok (.ireturn, 1) := by decide +kernel
theorem dX10_lay_28 : decode cX10_lay 28 = .ok (.iload_n 2, 1) := by decide +kernel
theorem dX10_lay_29 : decode cX10_lay 29 = .ok (.i2l, 1) := by decide +kernel
theorem dX10_lay_30 : decode cX10_lay 30 = .ok (.lconst 0, 1) := by decide +kernel
theorem dX10_lay_31 : decode cX10_lay 31 = .ok (.aload_n 0, 1) := by decide +kernel
theorem dX10_lay_32 : decode cX10_lay 32 = .ok (.getfield 105, 3) := by decide +kernel
theorem dX10_lay_35 : decode cX10_lay 35 = .ok (.iload_n 1, 1) := by decide +kernel
theorem dX10_lay_36 : decode cX10_lay 36 = .ok (.iaload, 1) := by decide +kernel
theorem dX10_lay_37 : decode cX10_lay 37 = .ok (.iconst 1, 1) := by decide +kernel
theorem dX10_lay_38 : decode cX10_lay 38 = .ok (.isub, 1) := by decide +kernel
theorem dX10_lay_39 : decode cX10_lay 39 = .ok (.i2l, 1) := by decide +kernel
theorem dX10_lay_40 : decode cX10_lay 40 = .ok (.invokestatic 115, 3) := by decide +kernel
theorem dX10_lay_43 : decode cX10_lay 43 = .ok (.ifCond .ne 6, 3) := by decide +kernel
theorem dX10_lay_46 : decode cX10_lay 46 = .ok (.bipush (-12), 2) := by decide +kernel
theorem dX10_lay_48 : decode cX10_lay 48 = .ok (.ireturn, 1) := by decide +kernel
theorem dX10_lay_49 : decode cX10_lay 49 = .ok (.aload_n 0, 1) := by decide +kernel
theorem dX10_lay_50 : decode cX10_lay 50 = .ok (.getfield 108, 3) := by decide +kernel
theorem dX10_lay_53 : decode cX10_lay 53 = .ok (.bipush 60, 2) := by decide +kernel
theorem dX10_lay_55 : decode cX10_lay 55 = .ok (.iload_n 1, 1) := by decide +kernel
theorem dX10_lay_56 : decode cX10_lay 56 = .ok (.imul, 1) := by decide +kernel
theorem dX10_lay_57 : decode cX10_lay 57 = .ok (.iload_n 2, 1) := by decide +kernel
theorem dX10_lay_58 : decode cX10_lay 58 = .ok (.iadd, 1) := by decide +kernel
theorem dX10_lay_59 : decode cX10_lay 59 = .ok (.aload_n 0, 1) := by decide +kernel
theorem dX10_lay_60 : decode cX10_lay 60 = .ok (.getfield 102, 3) := by decide +kernel
theorem dX10_lay_63 : decode cX10_lay 63 = .ok (.iload_n 1, 1) := by decide +kernel
theorem dX10_lay_64 : decode cX10_lay 64 = .ok (.iaload, 1) := by decide +kernel
theorem dX10_lay_65 : decode cX10_lay 65 = .ok (.ifCond .ne 13, 3) := by decide +kernel
theorem dX10_lay_68 : decode cX10_lay 68 = .ok (.iload_n 3, 1) := by decide +kernel
theorem dX10_lay_69 : decode cX10_lay 69 = .ok (.bipush 24, 2) := by decide +kernel
theorem dX10_lay_71 : decode cX10_lay 71 = .ok (.ishl, 1) := by decide +kernel
theorem dX10_lay_72 : decode cX10_lay 72 = .ok (.bipush 24, 2) := by decide +kernel
theorem dX10_lay_74 : decode cX10_lay 74 = .ok (.ishr, 1) := by decide +kernel
theorem dX10_lay_75 : decode cX10_lay 75 = .ok (.goto 24, 3) := by decide +kernel
theorem dX10_lay_78 : decode cX10_lay 78 = .ok (.aload_n 0, 1) := by decide +kernel
theorem dX10_lay_79 : decode cX10_lay 79 = .ok (.getfield 102, 3) := by decide +kernel
theorem dX10_lay_82 : decode cX10_lay 82 = .ok (.iload_n 1, 1) := by decide +kernel
theorem dX10_lay_83 : decode cX10_lay 83 = .ok (.iaload, 1) := by decide +kernel
theorem dX10_lay_84 : decode cX10_lay 84 = .ok (.iconst 1, 1) := by decide +kernel
theorem dX10_lay_85 : decode cX10_lay 85 = .ok (.if_icmp .ne 13, 3) := by decide +kernel
theorem dX10_lay_88 : decode cX10_lay 88 = .ok (.iload_n 3, 1) := by decide +kernel
theorem dX10_lay_89 : decode cX10_lay 89 = .ok (.bipush 16, 2) := by decide +kernel
theorem dX10_lay_91 : decode cX10_lay 91 = .ok (.ishl, 1) := by decide +kernel
theorem dX10_lay_92 : decode cX10_lay 92 = .ok (.bipush 16, 2) := by decide +kernel
theorem dX10_lay_94 : decode cX10_lay 94 = .ok (.ishr, 1) := by decide +kernel
theorem dX10_lay_95 : decode cX10_lay 95 = .ok (.goto 4, 3) := by decide +kernel
theorem dX10_lay_98 : decode cX10_lay 98 = .ok (.iload_n 3, 1) := by decide +kernel
theorem dX10_lay_99 : decode cX10_lay 99 = .ok (.iastore, 1) := by decide +kernel
theorem dX10_lay_100 : decode cX10_lay 100 = .ok (.iconst 1, 1) := by decide +kernel
theorem dX10_lay_101 : decode cX10_lay 101 = .ok (.ireturn, 1) := by decide +kernel
theorem dX10_scan_0 : decode cX10_scan 0 = .ok (.iload_n 1, 1) := by decide +kernel
theorem dX10_scan_1 : decode cX10_scan 1 = .ok (.i2l, 1) := by decide +kernel
theorem dX10_scan_2 : decode cX10_scan 2 = .ok (.lconst 0, 1) := by decide +kernel
theorem dX10_scan_3 : decode cX10_scan 3 = .ok (.ldc2_w 373, 3) := by decide +kernel
theorem dX10_scan_6 : decode cX10_scan 6 = .ok (.invokestatic 115, 3) := by decide +kernel
theorem dX10_scan_9 : decode cX10_scan 9 = .ok (.ifCond .eq 28, 3) := by decide +kernel
theorem dX10_scan_12 : decode cX10_scan 12 = .ok (.iload_n 2, 1) := by decide +kernel
theorem dX10_scan_13 : decode cX10_scan 13 = .ok (.i2l, 1) := by decide +kernel
theorem dX10_scan_14 : decode cX10_scan 14 = .ok (.lconst 0, 1) := by decide +kernel
theorem dX10_scan_15 : decode cX10_scan 15 = .ok (.ldc2_w 204, 3) := by decide +kernel
theorem dX10_scan_18 : decode cX10_scan 18 = .ok (.invokestatic 115, 3) := by decide +kernel
theorem dX10_scan_21 : decode cX10_scan 21 = .ok (.ifCond .eq 16, 3) := by decide +kernel
theorem dX10_scan_24 : decode cX10_scan 24 = .ok (.iload 4, 2) := by decide +kernel
theorem dX10_scan_26 : decode cX10_scan 26 = .ok (.i2l, 1) := by decide +kernel
theorem dX10_scan_27 : decode cX10_scan 27 = .ok (.lconst 0, 1) := by decide +kernel
theorem dX10_scan_28 : decode cX10_scan 28 = .ok (.ldc2_w 375, 3) := by decide +kernel
theorem dX10_scan_31 : decode cX10_scan 31 = .ok (.invokestatic 115, 3) := by decide +kernel
theorem dX10_scan_34 : decode cX10_scan 34 = .ok (.ifCond .ne 5, 3) := by decide +kernel
theorem dX10_scan_37 : decode cX10_scan 37 = .ok (.iconst (-1), 1) := by decide +kernel
theorem dX10_scan_38 : decode cX10_scan 38 = .ok (.ireturn, 1) := by decide +kernel
theorem dX10_scan_39 : decode cX10_scan 39 = .ok (.aload_n 0, 1) := by decide +kernel
theorem dX10_scan_40 : decode cX10_scan 40 = .ok (.getfield 102, 3) := by decide +kernel
theorem dX10_scan_43 : decode cX10_scan 43 = .ok (.iload_n 1, 1) := by decide +kernel
theorem dX10_scan_44 : decode cX10_scan 44 = .ok (.iaload, 1) := by decide +kernel
theorem dX10_scan_45 : decode cX10_scan 45 = .ok (.iload_n 2, 1) := by decide +kernel
theorem dX10_scan_46 : decode cX10_scan 46 = .ok (.if_icmp .eq 22, 3) := by decide +kernel
theorem dX10_scan_49 : decode cX10_scan 49 = .ok (.aload_n 0, 1) := by decide +kernel
theorem dX10_scan_50 : decode cX10_scan 50 = .ok (.getfield 102, 3) := by decide +kernel
theorem dX10_scan_53 : decode cX10_scan 53 = .ok (.iload_n 1, 1) := by decide +kernel
theorem dX10_scan_54 : decode cX10_scan 54 = .ok (.iaload, 1) := by decide +kernel
theorem dX10_scan_55 : decode cX10_scan 55 = .ok (.bipush (-4), 2) := by decide +kernel
theorem dX10_scan_57 : decode cX10_scan 57 = .ok (.if_icmp .ne 8, 3) := by decide +kernel
theorem dX10_scan_60 : decode cX10_scan 60 = .ok (.bipush (-11), 2) := by decide +kernel
theorem dX10_scan_62 : decode cX10_scan 62 = .ok (.goto 5, 3) := by decide +kernel
theorem dX10_scan_65 : decode cX10_scan 65 = .ok (.bipush (-13), 2) := by decide +kernel
theorem dX10_scan_67 : decode cX10_scan 67 = .ok (.ireturn, 1) := by decide +kernel
theorem dX10_scan_68 : decode cX10_scan 68 = .ok (.iconst 0, 1) := by decide +kernel
theorem dX10_scan_69 : decode cX10_scan 69 = .ok (.istore 5, 2) := by decide +kernel
theorem dX10_scan_71 : decode cX10_scan 71 = .ok (.iload 5, 2) := by decide +kernel
theorem dX10_scan_73 : decode cX10_scan 73 = .ok (.iload 4, 2) := by decide +kernel
theorem dX10_scan_75 : decode cX10_scan 75 = .ok (.if_icmp .ge 113, 3) := by decide +kernel
theorem dX10_scan_78 : decode cX10_scan 78 = .ok (.iload_n 3, 1) := by decide +kernel
theorem dX10_scan_79 : decode cX10_scan 79 = .ok (.i2l, 1) := by decide +kernel
theorem dX10_scan_80 : decode cX10_scan 80 = .ok (.iconst 2, 1) := by decide +kernel
theorem dX10_scan_81 : decode cX10_scan 81 = .ok (.iload 5, 2) := by decide +kernel
theorem dX10_scan_83 : decode cX10_scan 83 = .ok (.imul, 1) := by decide +kernel
theorem dX10_scan_84 : decode cX10_scan 84 = .ok (.i2l, 1) := by decide +kernel
theorem dX10_scan_85 : decode cX10_scan 85 = .ok (.ladd, 1) := by decide +kernel
theorem dX10_scan_86 : decode cX10_scan 86 = .ok (.lstore 6, 2) := by decide +kernel
theorem dX10_scan_88 : decode cX10_scan 88 = .ok (.lload 6, 2) := by decide +kernel
theorem dX10_scan_90 : decode cX10_scan 90 = .ok (.lconst 0, 1) := by decide +kernel
theorem dX10_scan_91 : decode cX10_scan 91 = .ok (.aload_n 0, 1) := by decide +kernel
theorem dX10_scan_92 : decode cX10_scan 92 = .ok (.getfield 105, 3) := by decide +kernel
theorem dX10_scan_95 : decode cX10_scan 95 = .ok (.iload_n 1, 1) := by decide +kernel
theorem dX10_scan_96 : decode cX10_scan 96 = .ok (.iaload, 1) := by decide +kernel
theorem dX10_scan_97 : decode cX10_scan 97 = .ok (.iconst 2, 1) := by decide +kernel
theorem dX10_scan_98 : decode cX10_scan 98 = .ok (.isub, 1) := by decide +kernel
theorem dX10_scan_99 : decode cX10_scan 99 = .ok (.i2l, 1) := by decide +kernel
theorem dX10_scan_100 : decode cX10_scan 100 = .ok (.invokestatic 115, 3) := by decide +kernel
theorem dX10_scan_103 : decode cX10_scan 103 = .ok (.ifCond .ne 6, 3) := by decide +kernel
theorem dX10_scan_106 : decode cX10_scan 106 = .ok (.bipush (-12), 2) := by decide +kernel
theorem dX10_scan_108 : decode cX10_scan 108 = .ok (.ireturn, 1) := by decide +kernel
theorem dX10_scan_109 : decode cX10_scan 109 = .ok (.bipush 60, 2) := by decide +kernel
theorem dX10_scan_111 : decode cX10_scan 111 = .ok (.iload_n 1, 1) := by decide +kernel
theorem dX10_scan_112 : decode cX10_scan 112 = .ok (.imul, 1) := by decide +kernel
theorem dX10_scan_113 : decode cX10_scan 113 = .ok (.lload 6, 2) := by decide +kernel
theorem dX10_scan_115 : decode cX10_scan 115 = .ok (.l2i, 1) := by decide +kernel
theorem dX10_scan_116 : decode cX10_scan 116 = .ok (.iadd, 1) := by decide +kernel
theorem dX10_scan_117 : decode cX10_scan 117 = .ok (.istore 8, 2) := by decide +kernel
theorem dX10_scan_119 : decode cX10_scan 119 = .ok (.aload_n 0, 1) := by decide +kernel
theorem dX10_scan_120 : decode cX10_scan 120 = .ok (.getfield 108, 3) := by decide +kernel
theorem dX10_scan_123 : decode cX10_scan 123 = .ok (.iload 8, 2) := by decide +kernel
theorem dX10_scan_125 : decode cX10_scan 125 = .ok (.iaload, 1) := by decide +kernel
theorem dX10_scan_126 : decode cX10_scan 126 = .ok (.aload_n 0, 1) := by decide +kernel
theorem dX10_scan_127 : decode cX10_scan 127 = .ok (.getfield 108, 3) := by decide +kernel
theorem dX10_scan_130 : decode cX10_scan 130 = .ok (.iload 8, 2) := by decide +kernel
theorem dX10_scan_132 : decode cX10_scan 132 = .ok (.iconst 1, 1) := by decide +kernel
theorem dX10_scan_133 : decode cX10_scan 133 = .ok (.iadd, 1) := by decide +kernel
theorem dX10_scan_134 : decode cX10_scan 134 = .ok (.iaload, 1) := by decide +kernel
theorem dX10_scan_135 : decode cX10_scan 135 = .ok (.aload_n 0, 1) := by decide +kernel
theorem dX10_scan_136 : decode cX10_scan 136 = .ok (.getfield 7, 3) := by decide +kernel
theorem dX10_scan_139 : decode cX10_scan 139 = .ok (.invokestatic 165, 3) := by decide +kernel
theorem dX10_scan_142 : decode cX10_scan 142 = .ok (.ifCond .eq 26, 3) := by decide +kernel
theorem dX10_scan_145 : decode cX10_scan 145 = .ok (.aload_n 0, 1) := by decide +kernel
theorem dX10_scan_146 : decode cX10_scan 146 = .ok (.aload_n 0, 1) := by decide +kernel
theorem dX10_scan_147 : decode cX10_scan 147 = .ok (.getfield 108, 3) := by decide +kernel
theorem dX10_scan_150 : decode cX10_scan 150 = .ok (.iload 8, 2) := by decide +kernel
theorem dX10_scan_152 : decode cX10_scan 152 = .ok (.iaload, 1) := by decide +kernel
theorem dX10_scan_153 : decode cX10_scan 153 = .ok (.aload_n 0, 1) := by decide +kernel
theorem dX10_scan_154 : decode cX10_scan 154 = .ok (.getfield 108, 3) := by decide +kernel
theorem dX10_scan_157 : decode cX10_scan 157 = .ok (.iload 8, 2) := by decide +kernel
theorem dX10_scan_159 : decode cX10_scan 159 = .ok (.iconst 1, 1) := by decide +kernel
theorem dX10_scan_160 : decode cX10_scan 160 = .ok (.iadd, 1) := by decide +kernel
theorem dX10_scan_161 : decode cX10_scan 161 = .ok (.iaload, 1) := by decide +kernel
theorem dX10_scan_162 : decode cX10_scan 162 = .ok (.invokevirtual 186, 3) := by decide +kernel
theorem dX10_scan_165 : decode cX10_scan 165 = .ok (.goto 4, 3) := by decide +kernel
theorem dX10_scan_168 : decode cX10_scan 168 = .ok (.iconst (-1), 1) := by decide +kernel
theorem dX10_scan_169 : decode cX10_scan 169 = .ok (.istore 9, 2) := by decide +kernel
theorem dX10_scan_171 : decode cX10_scan 171 = .ok (.iload 9, 2) := by decide +kernel
theorem dX10_scan_173 : decode cX10_scan 173 = .ok (.ifCond .ge 9, 3) := by decide +kernel
theorem dX10_scan_176 : decode cX10_scan 176 = .ok (.bipush (-20), 2) := by decide +kernel
theorem dX10_scan_178 : decode cX10_scan 178 = .ok (.iload 9, 2) := by decide +kernel
theorem dX10_scan_180 : decode cX10_scan 180 = .ok (.iadd, 1) := by decide +kernel
theorem dX10_scan_181 : decode cX10_scan 181 = .ok (.ireturn, 1) := by decide +kernel
theorem dX10_scan_182 : decode cX10_scan 182 = .ok (.iinc 5 1, 3) := by decide +kernel
theorem dX10_scan_185 : decode cX10_scan 185 = .ok (.goto (-114), 3) := by decide +kernel
theorem dX10_scan_188 : decode cX10_scan 188 = .ok (.iload 4, 2) := by decide +kernel
theorem dX10_scan_190 : decode cX10_scan 190 = .ok (.ireturn, 1) := by decide +kernel
theorem dX10_count_0 : decode cX10_count 0 = .ok (.iload_n 1, 1) := by decide +kernel
theorem dX10_count_1 : decode cX10_count 1 = .ok (.ifCond .ne 10, 3) := by decide +kernel
theorem dX10_count_4 : decode cX10_count 4 = .ok (.aload_n 0, 1) := by decide +kernel
theorem dX10_count_5 : decode cX10_count 5 = .ok (.getfield 262, 3) := by decide +kernel
theorem dX10_count_8 : decode cX10_count 8 = .ok (.goto 70, 3) := by decide +kernel
theorem dX10_count_11 : decode cX10_count 11 = .ok (.iload_n 1, 1) := by decide +kernel
theorem dX10_count_12 : decode cX10_count 12 = .ok (.iconst 1, 1) := by decide +kernel
theorem dX10_count_13 : decode cX10_count 13 = .ok (.if_icmp .ne 10, 3) := by decide +kernel
theorem dX10_count_16 : decode cX10_count 16 = .ok (.aload_n 0, 1) := by decide +kernel
theorem dX10_count_17 : decode cX10_count 17 = .ok (.getfield 126, 3) := by decide +kernel
theorem dX10_count_20 : decode cX10_count 20 = .ok (.goto 58, 3) := by decide +kernel
theorem dX10_count_23 : decode cX10_count 23 = .ok (.iload_n 1, 1) := by decide +kernel
theorem dX10_count_24 : decode cX10_count 24 = .ok (.iconst 2, 1) := by decide +kernel
theorem dX10_count_25 : decode cX10_count 25 = .ok (.if_icmp .ne 10, 3) := by decide +kernel
theorem dX10_count_28 : decode cX10_count 28 = .ok (.aload_n 0, 1) := by decide +kernel
theorem dX10_count_29 : decode cX10_count 29 = .ok (.getfield 360, 3) := by decide +kernel
theorem dX10_count_32 : decode cX10_count 32 = .ok (.goto 46, 3) := by decide +kernel
theorem dX10_count_35 : decode cX10_count 35 = .ok (.iload_n 1, 1) := by decide +kernel
theorem dX10_count_36 : decode cX10_count 36 = .ok (.iconst 3, 1) := by decide +kernel
theorem dX10_count_37 : decode cX10_count 37 = .ok (.if_icmp .ne 10, 3) := by decide +kernel
theorem dX10_count_40 : decode cX10_count 40 = .ok (.aload_n 0, 1) := by decide +kernel
theorem dX10_count_41 : decode cX10_count 41 = .ok (.getfield 222, 3) := by decide +kernel
theorem dX10_count_44 : decode cX10_count 44 = .ok (.goto 34, 3) := by decide +kernel
theorem dX10_count_47 : decode cX10_count 47 = .ok (.iload_n 1, 1) := by decide +kernel
theorem dX10_count_48 : decode cX10_count 48 = .ok (.iconst 4, 1) := by decide +kernel
theorem dX10_count_49 : decode cX10_count 49 = .ok (.if_icmp .ne 28, 3) := by decide +kernel
theorem dX10_count_52 : decode cX10_count 52 = .ok (.aload_n 0, 1) := by decide +kernel
theorem dX10_count_53 : decode cX10_count 53 = .ok (.getfield 102, 3) := by decide +kernel
theorem dX10_count_56 : decode cX10_count 56 = .ok (.iconst 0, 1) := by decide +kernel
theorem dX10_count_57 : decode cX10_count 57 = .ok (.iaload, 1) := by decide +kernel
theorem dX10_count_58 : decode cX10_count 58 = .ok (.bipush (-4), 2) := by decide +kernel
theorem dX10_count_60 : decode cX10_count 60 = .ok (.if_icmp .ne 8, 3) := by decide +kernel
theorem dX10_count_63 : decode cX10_count 63 = .ok (.bipush (-4), 2) := by decide +kernel
theorem dX10_count_65 : decode cX10_count 65 = .ok (.goto 13, 3) := by decide +kernel
theorem dX10_count_68 : decode cX10_count 68 = .ok (.aload_n 0, 1) := by decide +kernel
theorem dX10_count_69 : decode cX10_count 69 = .ok (.getfield 105, 3) := by decide +kernel
theorem dX10_count_72 : decode cX10_count 72 = .ok (.iconst 0, 1) := by decide +kernel
theorem dX10_count_73 : decode cX10_count 73 = .ok (.iaload, 1) := by decide +kernel
theorem dX10_count_74 : decode cX10_count 74 = .ok (.goto 4, 3) := by decide +kernel
theorem dX10_count_77 : decode cX10_count 77 = .ok (.iconst (-1), 1) := by decide +kernel
theorem dX10_count_78 : decode cX10_count 78 = .ok (.ireturn, 1) := by decide +kernel
theorem dJ11_isValidCodePoint_9a6ad_0 : decode cJ11_isValidCodePoint_9a6ad 0 = .ok (.iload_n 0, 1) := by decide +kernel
theorem dJ11_isValidCodePoint_9a6ad_1 : decode cJ11_isValidCodePoint_9a6ad 1 = .ok (.bipush 16, 2) := by decide +kernel
theorem dJ11_isValidCodePoint_9a6ad_3 : decode cJ11_isValidCodePoint_9a6ad 3 = .ok (.iushr, 1) := by decide +kernel
theorem dJ11_isValidCodePoint_9a6ad_4 : decode cJ11_isValidCodePoint_9a6ad 4 = .ok (.istore_n 1, 1) := by decide +kernel
theorem dJ11_isValidCodePoint_9a6ad_5 : decode cJ11_isValidCodePoint_9a6ad 5 = .ok (.iload_n 1, 1) := by decide +kernel
theorem dJ11_isValidCodePoint_9a6ad_6 : decode cJ11_isValidCodePoint_9a6ad 6 = .ok (.bipush 17, 2) := by decide +kernel
theorem dJ11_isValidCodePoint_9a6ad_8 : decode cJ11_isValidCodePoint_9a6ad 8 = .ok (.if_icmp .ge 7, 3) := by decide +kernel
theorem dJ11_isValidCodePoint_9a6ad_11 : decode cJ11_isValidCodePoint_9a6ad 11 = .ok (.iconst 1, 1) := by decide +kernel
theorem dJ11_isValidCodePoint_9a6ad_12 : decode cJ11_isValidCodePoint_9a6ad 12 = .ok (.goto 4, 3) := by decide +kernel
theorem dJ11_isValidCodePoint_9a6ad_15 : decode cJ11_isValidCodePoint_9a6ad 15 = .ok (.iconst 0, 1) := by decide +kernel
theorem dJ11_isValidCodePoint_9a6ad_16 : decode cJ11_isValidCodePoint_9a6ad 16 = .ok (.ireturn, 1) := by decide +kernel
theorem dJ11_highSurrogate_5068e_0 : decode cJ11_highSurrogate_5068e 0 = .ok (.iload_n 0, 1) := by decide +kernel
theorem dJ11_highSurrogate_5068e_1 : decode cJ11_highSurrogate_5068e 1 = .ok (.bipush 10, 2) := by decide +kernel
theorem dJ11_highSurrogate_5068e_3 : decode cJ11_highSurrogate_5068e 3 = .ok (.iushr, 1) := by decide +kernel
theorem dJ11_highSurrogate_5068e_4 : decode cJ11_highSurrogate_5068e 4 = .ok (.ldc 110, 2) := by decide +kernel
theorem dJ11_highSurrogate_5068e_6 : decode cJ11_highSurrogate_5068e 6 = .ok (.iadd, 1) := by decide +kernel
theorem dJ11_highSurrogate_5068e_7 : decode cJ11_highSurrogate_5068e 7 = .ok (.i2c, 1) := by decide +kernel
theorem dJ11_highSurrogate_5068e_8 : decode cJ11_highSurrogate_5068e 8 = .ok (.ireturn, 1) := by decide +kernel
theorem dJ11_lowSurrogate_5068e_0 : decode cJ11_lowSurrogate_5068e 0 = .ok (.iload_n 0, 1) := by decide +kernel
theorem dJ11_lowSurrogate_5068e_1 : decode cJ11_lowSurrogate_5068e 1 = .ok (.sipush 1023, 3) := by decide +kernel
theorem dJ11_lowSurrogate_5068e_4 : decode cJ11_lowSurrogate_5068e 4 = .ok (.iand, 1) := by decide +kernel
theorem dJ11_lowSurrogate_5068e_5 : decode cJ11_lowSurrogate_5068e 5 = .ok (.ldc 76, 2) := by decide +kernel
theorem dJ11_lowSurrogate_5068e_7 : decode cJ11_lowSurrogate_5068e 7 = .ok (.iadd, 1) := by decide +kernel
theorem dJ11_lowSurrogate_5068e_8 : decode cJ11_lowSurrogate_5068e 8 = .ok (.i2c, 1) := by decide +kernel
theorem dJ11_lowSurrogate_5068e_9 : decode cJ11_lowSurrogate_5068e 9 = .ok (.ireturn, 1) := by decide +kernel
theorem dJ6_bitCount_0f7a4_0 : decode cJ6_bitCount_0f7a4 0 = .ok (.iload_n 0, 1) := by decide +kernel
theorem dJ6_bitCount_0f7a4_1 : decode cJ6_bitCount_0f7a4 1 = .ok (.iload_n 0, 1) := by decide +kernel
theorem dJ6_bitCount_0f7a4_2 : decode cJ6_bitCount_0f7a4 2 = .ok (.iconst 1, 1) := by decide +kernel
theorem dJ6_bitCount_0f7a4_3 : decode cJ6_bitCount_0f7a4 3 = .ok (.iushr, 1) := by decide +kernel
theorem dJ6_bitCount_0f7a4_4 : decode cJ6_bitCount_0f7a4 4 = .ok (.ldc_w 265, 3) := by decide +kernel
theorem dJ6_bitCount_0f7a4_7 : decode cJ6_bitCount_0f7a4 7 = .ok (.iand, 1) := by decide +kernel
theorem dJ6_bitCount_0f7a4_8 : decode cJ6_bitCount_0f7a4 8 = .ok (.isub, 1) := by decide +kernel
theorem dJ6_bitCount_0f7a4_9 : decode cJ6_bitCount_0f7a4 9 = .ok (.istore_n 0, 1) := by decide +kernel
theorem dJ6_bitCount_0f7a4_10 : decode cJ6_bitCount_0f7a4 10 = .ok (.iload_n 0, 1) := by decide +kernel
theorem dJ6_bitCount_0f7a4_11 : decode cJ6_bitCount_0f7a4 11 = .ok (.ldc_w 266, 3) := by decide +kernel
theorem dJ6_bitCount_0f7a4_14 : decode cJ6_bitCount_0f7a4 14 = .ok (.iand, 1) := by decide +kernel
theorem dJ6_bitCount_0f7a4_15 : decode cJ6_bitCount_0f7a4 15 = .ok (.iload_n 0, 1) := by decide +kernel
theorem dJ6_bitCount_0f7a4_16 : decode cJ6_bitCount_0f7a4 16 = .ok (.iconst 2, 1) := by decide +kernel
theorem dJ6_bitCount_0f7a4_17 : decode cJ6_bitCount_0f7a4 17 = .ok (.iushr, 1) := by decide +kernel
theorem dJ6_bitCount_0f7a4_18 : decode cJ6_bitCount_0f7a4 18 = .ok (.ldc_w 266, 3) := by decide +kernel
theorem dJ6_bitCount_0f7a4_21 : decode cJ6_bitCount_0f7a4 21 = .ok (.iand, 1) := by decide +kernel
theorem dJ6_bitCount_0f7a4_22 : decode cJ6_bitCount_0f7a4 22 = .ok (.iadd, 1) := by decide +kernel
theorem dJ6_bitCount_0f7a4_23 : decode cJ6_bitCount_0f7a4 23 = .ok (.istore_n 0, 1) := by decide +kernel
theorem dJ6_bitCount_0f7a4_24 : decode cJ6_bitCount_0f7a4 24 = .ok (.iload_n 0, 1) := by decide +kernel
theorem dJ6_bitCount_0f7a4_25 : decode cJ6_bitCount_0f7a4 25 = .ok (.iload_n 0, 1) := by decide +kernel
theorem dJ6_bitCount_0f7a4_26 : decode cJ6_bitCount_0f7a4 26 = .ok (.iconst 4, 1) := by decide +kernel
theorem dJ6_bitCount_0f7a4_27 : decode cJ6_bitCount_0f7a4 27 = .ok (.iushr, 1) := by decide +kernel
theorem dJ6_bitCount_0f7a4_28 : decode cJ6_bitCount_0f7a4 28 = .ok (.iadd, 1) := by decide +kernel
theorem dJ6_bitCount_0f7a4_29 : decode cJ6_bitCount_0f7a4 29 = .ok (.ldc_w 267, 3) := by decide +kernel
theorem dJ6_bitCount_0f7a4_32 : decode cJ6_bitCount_0f7a4 32 = .ok (.iand, 1) := by decide +kernel
theorem dJ6_bitCount_0f7a4_33 : decode cJ6_bitCount_0f7a4 33 = .ok (.istore_n 0, 1) := by decide +kernel
theorem dJ6_bitCount_0f7a4_34 : decode cJ6_bitCount_0f7a4 34 = .ok (.iload_n 0, 1) := by decide +kernel
theorem dJ6_bitCount_0f7a4_35 : decode cJ6_bitCount_0f7a4 35 = .ok (.iload_n 0, 1) := by decide +kernel
theorem dJ6_bitCount_0f7a4_36 : decode cJ6_bitCount_0f7a4 36 = .ok (.bipush 8, 2) := by decide +kernel
theorem dJ6_bitCount_0f7a4_38 : decode cJ6_bitCount_0f7a4 38 = .ok (.iushr, 1) := by decide +kernel
theorem dJ6_bitCount_0f7a4_39 : decode cJ6_bitCount_0f7a4 39 = .ok (.iadd, 1) := by decide +kernel
theorem dJ6_bitCount_0f7a4_40 : decode cJ6_bitCount_0f7a4 40 = .ok (.istore_n 0, 1) := by decide +kernel
theorem dJ6_bitCount_0f7a4_41 : decode cJ6_bitCount_0f7a4 41 = .ok (.iload_n 0, 1) := by decide +kernel
theorem dJ6_bitCount_0f7a4_42 : decode cJ6_bitCount_0f7a4 42 = .ok (.iload_n 0, 1) := by decide +kernel
theorem dJ6_bitCount_0f7a4_43 : decode cJ6_bitCount_0f7a4 43 = .ok (.bipush 16, 2) := by decide +kernel
theorem dJ6_bitCount_0f7a4_45 : decode cJ6_bitCount_0f7a4 45 = .ok (.iushr, 1) := by decide +kernel
theorem dJ6_bitCount_0f7a4_46 : decode cJ6_bitCount_0f7a4 46 = .ok (.iadd, 1) := by decide +kernel
theorem dJ6_bitCount_0f7a4_47 : decode cJ6_bitCount_0f7a4 47 = .ok (.istore_n 0, 1) := by decide +kernel
theorem dJ6_bitCount_0f7a4_48 : decode cJ6_bitCount_0f7a4 48 = .ok (.iload_n 0, 1) := by decide +kernel
theorem dJ6_bitCount_0f7a4_49 : decode cJ6_bitCount_0f7a4 49 = .ok (.bipush 63, 2) := by decide +kernel
theorem dJ6_bitCount_0f7a4_51 : decode cJ6_bitCount_0f7a4 51 = .ok (.iand, 1) := by decide +kernel
theorem dJ6_bitCount_0f7a4_52 : decode cJ6_bitCount_0f7a4 52 = .ok (.ireturn, 1) := by decide +kernel
theorem dJ13_bitCount_95d88_0 : decode cJ13_bitCount_95d88 0 = .ok (.lload_n 0, 1) := by decide +kernel
theorem dJ13_bitCount_95d88_1 : decode cJ13_bitCount_95d88 1 = .ok (.lload_n 0, 1) := by decide +kernel
theorem dJ13_bitCount_95d88_2 : decode cJ13_bitCount_95d88 2 = .ok (.iconst 1, 1) := by decide +kernel
theorem dJ13_bitCount_95d88_3 : decode cJ13_bitCount_95d88 3 = .ok (.lushr, 1) := by decide +kernel
theorem dJ13_bitCount_95d88_4 : decode cJ13_bitCount_95d88 4 = .ok (.ldc2_w 314, 3) := by decide +kernel
theorem dJ13_bitCount_95d88_7 : decode cJ13_bitCount_95d88 7 = .ok (.land, 1) := by decide +kernel
theorem dJ13_bitCount_95d88_8 : decode cJ13_bitCount_95d88 8 = .ok (.lsub, 1) := by decide +kernel
theorem dJ13_bitCount_95d88_9 : decode cJ13_bitCount_95d88 9 = .ok (.lstore_n 0, 1) := by decide +kernel
theorem dJ13_bitCount_95d88_10 : decode cJ13_bitCount_95d88 10 = .ok (.lload_n 0, 1) := by decide +kernel
theorem dJ13_bitCount_95d88_11 : decode cJ13_bitCount_95d88 11 = .ok (.ldc2_w 316, 3) := by decide +kernel
theorem dJ13_bitCount_95d88_14 : decode cJ13_bitCount_95d88 14 = .ok (.land, 1) := by decide +kernel
theorem dJ13_bitCount_95d88_15 : decode cJ13_bitCount_95d88 15 = .ok (.lload_n 0, 1) := by decide +kernel
theorem dJ13_bitCount_95d88_16 : decode cJ13_bitCount_95d88 16 = .ok (.iconst 2, 1) := by decide +kernel
theorem dJ13_bitCount_95d88_17 : decode cJ13_bitCount_95d88 17 = .ok (.lushr, 1) := by decide +kernel
theorem dJ13_bitCount_95d88_18 : decode cJ13_bitCount_95d88 18 = .ok (.ldc2_w 316, 3) := by decide +kernel
theorem dJ13_bitCount_95d88_21 : decode cJ13_bitCount_95d88 21 = .ok (.land, 1) := by decide +kernel
theorem dJ13_bitCount_95d88_22 : decode cJ13_bitCount_95d88 22 = .ok (.ladd, 1) := by decide +kernel
theorem dJ13_bitCount_95d88_23 : decode cJ13_bitCount_95d88 23 = .ok (.lstore_n 0, 1) := by decide +kernel
theorem dJ13_bitCount_95d88_24 : decode cJ13_bitCount_95d88 24 = .ok (.lload_n 0, 1) := by decide +kernel
theorem dJ13_bitCount_95d88_25 : decode cJ13_bitCount_95d88 25 = .ok (.lload_n 0, 1) := by decide +kernel
theorem dJ13_bitCount_95d88_26 : decode cJ13_bitCount_95d88 26 = .ok (.iconst 4, 1) := by decide +kernel
theorem dJ13_bitCount_95d88_27 : decode cJ13_bitCount_95d88 27 = .ok (.lushr, 1) := by decide +kernel
theorem dJ13_bitCount_95d88_28 : decode cJ13_bitCount_95d88 28 = .ok (.ladd, 1) := by decide +kernel
theorem dJ13_bitCount_95d88_29 : decode cJ13_bitCount_95d88 29 = .ok (.ldc2_w 318, 3) := by decide +kernel
theorem dJ13_bitCount_95d88_32 : decode cJ13_bitCount_95d88 32 = .ok (.land, 1) := by decide +kernel
theorem dJ13_bitCount_95d88_33 : decode cJ13_bitCount_95d88 33 = .ok (.lstore_n 0, 1) := by decide +kernel
theorem dJ13_bitCount_95d88_34 : decode cJ13_bitCount_95d88 34 = .ok (.lload_n 0, 1) := by decide +kernel
theorem dJ13_bitCount_95d88_35 : decode cJ13_bitCount_95d88 35 = .ok (.lload_n 0, 1) := by decide +kernel
theorem dJ13_bitCount_95d88_36 : decode cJ13_bitCount_95d88 36 = .ok (.bipush 8, 2) := by decide +kernel
theorem dJ13_bitCount_95d88_38 : decode cJ13_bitCount_95d88 38 = .ok (.lushr, 1) := by decide +kernel
theorem dJ13_bitCount_95d88_39 : decode cJ13_bitCount_95d88 39 = .ok (.ladd, 1) := by decide +kernel
theorem dJ13_bitCount_95d88_40 : decode cJ13_bitCount_95d88 40 = .ok (.lstore_n 0, 1) := by decide +kernel
theorem dJ13_bitCount_95d88_41 : decode cJ13_bitCount_95d88 41 = .ok (.lload_n 0, 1) := by decide +kernel
theorem dJ13_bitCount_95d88_42 : decode cJ13_bitCount_95d88 42 = .ok (.lload_n 0, 1) := by decide +kernel
theorem dJ13_bitCount_95d88_43 : decode cJ13_bitCount_95d88 43 = .ok (.bipush 16, 2) := by decide +kernel
theorem dJ13_bitCount_95d88_45 : decode cJ13_bitCount_95d88 45 = .ok (.lushr, 1) := by decide +kernel
theorem dJ13_bitCount_95d88_46 : decode cJ13_bitCount_95d88 46 = .ok (.ladd, 1) := by decide +kernel
theorem dJ13_bitCount_95d88_47 : decode cJ13_bitCount_95d88 47 = .ok (.lstore_n 0, 1) := by decide +kernel
theorem dJ13_bitCount_95d88_48 : decode cJ13_bitCount_95d88 48 = .ok (.lload_n 0, 1) := by decide +kernel
theorem dJ13_bitCount_95d88_49 : decode cJ13_bitCount_95d88 49 = .ok (.lload_n 0, 1) := by decide +kernel
theorem dJ13_bitCount_95d88_50 : decode cJ13_bitCount_95d88 50 = .ok (.bipush 32, 2) := by decide +kernel
theorem dJ13_bitCount_95d88_52 : decode cJ13_bitCount_95d88 52 = .ok (.lushr, 1) := by decide +kernel
theorem dJ13_bitCount_95d88_53 : decode cJ13_bitCount_95d88 53 = .ok (.ladd, 1) := by decide +kernel
theorem dJ13_bitCount_95d88_54 : decode cJ13_bitCount_95d88 54 = .ok (.lstore_n 0, 1) := by decide +kernel
theorem dJ13_bitCount_95d88_55 : decode cJ13_bitCount_95d88 55 = .ok (.lload_n 0, 1) := by decide +kernel
theorem dJ13_bitCount_95d88_56 : decode cJ13_bitCount_95d88 56 = .ok (.l2i, 1) := by decide +kernel
theorem dJ13_bitCount_95d88_57 : decode cJ13_bitCount_95d88 57 = .ok (.bipush 127, 2) := by decide +kernel
theorem dJ13_bitCount_95d88_59 : decode cJ13_bitCount_95d88 59 = .ok (.iand, 1) := by decide +kernel
theorem dJ13_bitCount_95d88_60 : decode cJ13_bitCount_95d88 60 = .ok (.ireturn, 1) := by decide +kernel
theorem dJ9_abs_0f7a4_0 : decode cJ9_abs_0f7a4 0 = .ok (.iload_n 0, 1) := by decide +kernel
theorem dJ9_abs_0f7a4_1 : decode cJ9_abs_0f7a4 1 = .ok (.ifCond .ge 8, 3) := by decide +kernel
theorem dJ9_abs_0f7a4_4 : decode cJ9_abs_0f7a4 4 = .ok (.iload_n 0, 1) := by decide +kernel
theorem dJ9_abs_0f7a4_5 : decode cJ9_abs_0f7a4 5 = .ok (.ineg, 1) := by decide +kernel
theorem dJ9_abs_0f7a4_6 : decode cJ9_abs_0f7a4 6 = .ok (.goto 4, 3) := by decide +kernel
theorem dJ9_abs_0f7a4_9 : decode cJ9_abs_0f7a4 9 = .ok (.iload_n 0, 1) := by decide +kernel
theorem dJ9_abs_0f7a4_10 : decode cJ9_abs_0f7a4 10 = .ok (.ireturn, 1) := by decide +kernel
theorem dJ9_max_7cf53_0 : decode cJ9_max_7cf53 0 = .ok (.iload_n 0, 1) := by decide +kernel
theorem dJ9_max_7cf53_1 : decode cJ9_max_7cf53 1 = .ok (.iload_n 1, 1) := by decide +kernel
theorem dJ9_max_7cf53_2 : decode cJ9_max_7cf53 2 = .ok (.if_icmp .lt 7, 3) := by decide +kernel
theorem dJ9_max_7cf53_5 : decode cJ9_max_7cf53 5 = .ok (.iload_n 0, 1) := by decide +kernel
theorem dJ9_max_7cf53_6 : decode cJ9_max_7cf53 6 = .ok (.goto 4, 3) := by decide +kernel
theorem dJ9_max_7cf53_9 : decode cJ9_max_7cf53 9 = .ok (.iload_n 1, 1) := by decide +kernel
theorem dJ9_max_7cf53_10 : decode cJ9_max_7cf53 10 = .ok (.ireturn, 1) := by decide +kernel
theorem dJ9_min_7cf53_0 : decode cJ9_min_7cf53 0 = .ok (.iload_n 0, 1) := by decide +kernel
theorem dJ9_min_7cf53_1 : decode cJ9_min_7cf53 1 = .ok (.iload_n 1, 1) := by decide +kernel
theorem dJ9_min_7cf53_2 : decode cJ9_min_7cf53 2 = .ok (.if_icmp .gt 7, 3) := by decide +kernel
theorem dJ9_min_7cf53_5 : decode cJ9_min_7cf53 5 = .ok (.iload_n 0, 1) := by decide +kernel
theorem dJ9_min_7cf53_6 : decode cJ9_min_7cf53 6 = .ok (.goto 4, 3) := by decide +kernel
theorem dJ9_min_7cf53_9 : decode cJ9_min_7cf53 9 = .ok (.iload_n 1, 1) := by decide +kernel
theorem dJ9_min_7cf53_10 : decode cJ9_min_7cf53 10 = .ok (.ireturn, 1) := by decide +kernel
theorem dJ0_length_8abf5_0 : decode cJ0_length_8abf5 0 = .ok (.aload_n 0, 1) := by decide +kernel
theorem dJ0_length_8abf5_1 : decode cJ0_length_8abf5 1 = .ok (.getfield 9, 3) := by decide +kernel
theorem dJ0_length_8abf5_4 : decode cJ0_length_8abf5 4 = .ok (.arraylength, 1) := by decide +kernel
theorem dJ0_length_8abf5_5 : decode cJ0_length_8abf5 5 = .ok (.aload_n 0, 1) := by decide +kernel
theorem dJ0_length_8abf5_6 : decode cJ0_length_8abf5 6 = .ok (.invokevirtual 335, 3) := by decide +kernel
theorem dJ0_length_8abf5_9 : decode cJ0_length_8abf5 9 = .ok (.ishr, 1) := by decide +kernel
theorem dJ0_length_8abf5_10 : decode cJ0_length_8abf5 10 = .ok (.ireturn, 1) := by decide +kernel
theorem dJ0_indexOf_0f7a4_0 : decode cJ0_indexOf_0f7a4 0 = .ok (.aload_n 0, 1) := by decide +kernel
theorem dJ0_indexOf_0f7a4_1 : decode cJ0_indexOf_0f7a4 1 = .ok (.iload_n 1, 1) := by decide +kernel
theorem dJ0_indexOf_0f7a4_2 : decode cJ0_indexOf_0f7a4 2 = .ok (.iconst 0, 1) := by decide +kernel
theorem dJ0_indexOf_0f7a4_3 : decode cJ0_indexOf_0f7a4 3 = .ok (.invokevirtual 633, 3) := by decide +kernel
theorem dJ0_indexOf_0f7a4_6 : decode cJ0_indexOf_0f7a4 6 = .ok (.ireturn, 1) := by decide +kernel
theorem dJ0_indexOf_7cf53_0 : decode cJ0_indexOf_7cf53 0 = .ok (.aload_n 0, 1) := by decide +kernel
theorem dJ0_indexOf_7cf53_1 : decode cJ0_indexOf_7cf53 1 = .ok (.invokevirtual 492, 3) := by decide +kernel
theorem dJ0_indexOf_7cf53_4 : decode cJ0_indexOf_7cf53 4 = .ok (.ifCond .eq 19, 3) := by decide +kernel
theorem dJ0_indexOf_7cf53_7 : decode cJ0_indexOf_7cf53 7 = .ok (.aload_n 0, 1) := by decide +kernel
theorem dJ0_indexOf_7cf53_8 : decode cJ0_indexOf_7cf53 8 = .ok (.getfield 9, 3) := by decide +kernel
theorem dJ0_indexOf_7cf53_11 : decode cJ0_indexOf_7cf53 11 = .ok (.iload_n 1, 1) := by decide +kernel
theorem dJ0_indexOf_7cf53_12 : decode cJ0_indexOf_7cf53 12 = .ok (.iload_n 2, 1) := by decide +kernel
theorem dJ0_indexOf_7cf53_13 : decode cJ0_indexOf_7cf53 13 = .ok (.aload_n 0, 1) := by decide +kernel
theorem dJ0_indexOf_7cf53_14 : decode cJ0_indexOf_7cf53 14 = .ok (.invokevirtual 505, 3) := by decide +kernel
theorem dJ0_indexOf_7cf53_17 : decode cJ0_indexOf_7cf53 17 = .ok (.invokestatic 637, 3) := by decide +kernel
theorem dJ0_indexOf_7cf53_20 : decode cJ0_indexOf_7cf53 20 = .ok (.goto 16, 3) := by decide +kernel
theorem dJ0_indexOf_7cf53_23 : decode cJ0_indexOf_7cf53 23 = .ok (.aload_n 0, 1) := by decide +kernel
theorem dJ0_indexOf_7cf53_24 : decode cJ0_indexOf_7cf53 24 = .ok (.getfield 9, 3) := by decide +kernel
theorem dJ0_indexOf_7cf53_27 : decode cJ0_indexOf_7cf53 27 = .ok (.iload_n 1, 1) := by decide +kernel
theorem dJ0_indexOf_7cf53_28 : decode cJ0_indexOf_7cf53 28 = .ok (.iload_n 2, 1) := by decide +kernel
theorem dJ0_indexOf_7cf53_29 : decode cJ0_indexOf_7cf53 29 = .ok (.aload_n 0, 1) := by decide +kernel
theorem dJ0_indexOf_7cf53_30 : decode cJ0_indexOf_7cf53 30 = .ok (.invokevirtual 505, 3) := by decide +kernel
theorem dJ0_indexOf_7cf53_33 : decode cJ0_indexOf_7cf53 33 = .ok (.invokestatic 640, 3) := by decide +kernel
theorem dJ0_indexOf_7cf53_36 : decode cJ0_indexOf_7cf53 36 = .ok (.ireturn, 1) := by decide +kernel
theorem dJ0_coder_7d493_0 : decode cJ0_coder_7d493 0 = .ok (.getstatic 38, 3) := by decide +kernel
theorem dJ0_coder_7d493_3 : decode cJ0_coder_7d493 3 = .ok (.ifCond .eq 10, 3) := by decide +kernel
theorem dJ0_coder_7d493_6 : decode cJ0_coder_7d493 6 = .ok (.aload_n 0, 1) := by decide +kernel
theorem dJ0_coder_7d493_7 : decode cJ0_coder_7d493 7 = .ok (.getfield 15, 3) := by decide +kernel
theorem dJ0_coder_7d493_10 : decode cJ0_coder_7d493 10 = .ok (.goto 4, 3) := by decide +kernel
theorem dJ0_coder_7d493_13 : decode cJ0_coder_7d493 13 = .ok (.iconst 1, 1) := by decide +kernel
theorem dJ0_coder_7d493_14 : decode cJ0_coder_7d493 14 = .ok (.ireturn, 1) := by decide +kernel
theorem dJ0_isLatin1_aae02_0 : decode cJ0_isLatin1_aae02 0 = .ok (.getstatic 38, 3) := by decide +kernel
theorem dJ0_isLatin1_aae02_3 : decode cJ0_isLatin1_aae02 3 = .ok (.ifCond .eq 14, 3) := by decide +kernel
theorem dJ0_isLatin1_aae02_6 : decode cJ0_isLatin1_aae02 6 = .ok (.aload_n 0, 1) := by decide +kernel
theorem dJ0_isLatin1_aae02_7 : decode cJ0_isLatin1_aae02 7 = .ok (.getfield 15, 3) := by decide +kernel
theorem dJ0_isLatin1_aae02_10 : decode cJ0_isLatin1_aae02 10 = .ok (.ifCond .ne 7, 3) := by decide +kernel
theorem dJ0_isLatin1_aae02_13 : decode cJ0_isLatin1_aae02 13 = .ok (.iconst 1, 1) := by decide +kernel
theorem dJ0_isLatin1_aae02_14 : decode cJ0_isLatin1_aae02 14 = .ok (.goto 4, 3) := by decide +kernel
theorem dJ0_isLatin1_aae02_17 : decode cJ0_isLatin1_aae02 17 = .ok (.iconst 0, 1) := by decide +kernel
theorem dJ0_isLatin1_aae02_18 : decode cJ0_isLatin1_aae02 18 = .ok (.ireturn, 1) := by decide +kernel
theorem dJ0_checkBoundsBeginEnd_23922_0 : decode cJ0_checkBoundsBeginEnd_23922 0 = .ok (.iload_n 0, 1) := by decide +kernel
theorem dJ0_checkBoundsBeginEnd_23922_1 : decode cJ0_checkBoundsBeginEnd_23922 1 = .ok (.iload_n 1, 1) := by decide +kernel
theorem dJ0_checkBoundsBeginEnd_23922_2 : decode cJ0_checkBoundsBeginEnd_23922 2 = .ok (.iload_n 2, 1) := by decide +kernel
theorem dJ0_checkBoundsBeginEnd_23922_3 : decode cJ0_checkBoundsBeginEnd_23922 3 = .ok (.getstatic 1053, 3) := by decide +kernel
theorem dJ0_checkBoundsBeginEnd_23922_6 : decode cJ0_checkBoundsBeginEnd_23922 6 = .ok (.invokestatic 1062, 3) := by decide +kernel
theorem dJ0_checkBoundsBeginEnd_23922_9 : decode cJ0_checkBoundsBeginEnd_23922 9 = .ok (.pop, 1) := by decide +kernel
theorem dJ0_checkBoundsBeginEnd_23922_10 : decode cJ0_checkBoundsBeginEnd_23922 10 = .ok (.return_, 1) := by decide +kernel
theorem dJ1_canEncode_9a6ad_0 : decode cJ1_canEncode_9a6ad 0 = .ok (.iload_n 0, 1) := by decide +kernel
theorem dJ1_canEncode_9a6ad_1 : decode cJ1_canEncode_9a6ad 1 = .ok (.ifCond .lt 14, 3) := by decide +kernel
theorem dJ1_canEncode_9a6ad_4 : decode cJ1_canEncode_9a6ad 4 = .ok (.iload_n 0, 1) := by decide +kernel
theorem dJ1_canEncode_9a6ad_5 : decode cJ1_canEncode_9a6ad 5 = .ok (.sipush 255, 3) := by decide +kernel
theorem dJ1_canEncode_9a6ad_8 : decode cJ1_canEncode_9a6ad 8 = .ok (.if_icmp .gt 7, 3) := by decide +kernel
theorem dJ1_canEncode_9a6ad_11 : decode cJ1_canEncode_9a6ad 11 = .ok (.iconst 1, 1) := by decide +kernel
theorem dJ1_canEncode_9a6ad_12 : decode cJ1_canEncode_9a6ad 12 = .ok (.goto 4, 3) := by decide +kernel
theorem dJ1_canEncode_9a6ad_15 : decode cJ1_canEncode_9a6ad 15 = .ok (.iconst 0, 1) := by decide +kernel
theorem dJ1_canEncode_9a6ad_16 : decode cJ1_canEncode_9a6ad 16 = .ok (.ireturn, 1) := by decide +kernel
theorem dJ1_indexOf_4cfef_0 : decode cJ1_indexOf_4cfef 0 = .ok (.iload_n 1, 1) := by decide +kernel
theorem dJ1_indexOf_4cfef_1 : decode cJ1_indexOf_4cfef 1 = .ok (.invokestatic 88, 3) := by decide +kernel
theorem dJ1_indexOf_4cfef_4 : decode cJ1_indexOf_4cfef 4 = .ok (.ifCond .ne 5, 3) := by decide +kernel
theorem dJ1_indexOf_4cfef_7 : decode cJ1_indexOf_4cfef 7 = .ok (.iconst (-1), 1) := by decide +kernel
theorem dJ1_indexOf_4cfef_8 : decode cJ1_indexOf_4cfef 8 = .ok (.ireturn, 1) := by decide +kernel
theorem dJ1_indexOf_4cfef_9 : decode cJ1_indexOf_4cfef 9 = .ok (.iload_n 2, 1) := by decide +kernel
theorem dJ1_indexOf_4cfef_10 : decode cJ1_indexOf_4cfef 10 = .ok (.iconst 0, 1) := by decide +kernel
theorem dJ1_indexOf_4cfef_11 : decode cJ1_indexOf_4cfef 11 = .ok (.invokestatic 92, 3) := by decide +kernel
theorem dJ1_indexOf_4cfef_14 : decode cJ1_indexOf_4cfef 14 = .ok (.istore_n 2, 1) := by decide +kernel
theorem dJ1_indexOf_4cfef_15 : decode cJ1_indexOf_4cfef 15 = .ok (.iload_n 3, 1) := by decide +kernel
theorem dJ1_indexOf_4cfef_16 : decode cJ1_indexOf_4cfef 16 = .ok (.aload_n 0, 1) := by decide +kernel
theorem dJ1_indexOf_4cfef_17 : decode cJ1_indexOf_4cfef 17 = .ok (.arraylength, 1) := by decide +kernel
theorem dJ1_indexOf_4cfef_18 : decode cJ1_indexOf_4cfef 18 = .ok (.invokestatic 38, 3) := by decide +kernel
theorem dJ1_indexOf_4cfef_21 : decode cJ1_indexOf_4cfef 21 = .ok (.istore_n 3, 1) := by decide +kernel
theorem dJ1_indexOf_4cfef_22 : decode cJ1_indexOf_4cfef 22 = .ok (.iload_n 2, 1) := by decide +kernel
theorem dJ1_indexOf_4cfef_23 : decode cJ1_indexOf_4cfef 23 = .ok (.iload_n 3, 1) := by decide +kernel
theorem dJ1_indexOf_4cfef_24 : decode cJ1_indexOf_4cfef 24 = .ok (.if_icmp .lt 5, 3) := by decide +kernel
theorem dJ1_indexOf_4cfef_27 : decode cJ1_indexOf_4cfef 27 = .ok (.iconst (-1), 1) := by decide +kernel
theorem dJ1_indexOf_4cfef_28 : decode cJ1_indexOf_4cfef 28 = .ok (.ireturn, 1) := by decide +kernel
theorem dJ1_indexOf_4cfef_29 : decode cJ1_indexOf_4cfef 29 = .ok (.aload_n 0, 1) := by decide +kernel
theorem dJ1_indexOf_4cfef_30 : decode cJ1_indexOf_4cfef 30 = .ok (.iload_n 1, 1) := by decide +kernel
theorem dJ1_indexOf_4cfef_31 : decode cJ1_indexOf_4cfef 31 = .ok (.iload_n 2, 1) := by decide +kernel
theorem dJ1_indexOf_4cfef_32 : decode cJ1_indexOf_4cfef 32 = .ok (.iload_n 3, 1) := by decide +kernel
theorem dJ1_indexOf_4cfef_33 : decode cJ1_indexOf_4cfef 33 = .ok (.invokestatic 95, 3) := by decide +kernel
theorem dJ1_indexOf_4cfef_36 : decode cJ1_indexOf_4cfef 36 = .ok (.ireturn, 1) := by decide +kernel
theorem dJ1_indexOfChar_4cfef_0 : decode cJ1_indexOfChar_4cfef 0 = .ok (.iload_n 1, 1) := by decide +kernel
theorem dJ1_indexOfChar_4cfef_1 : decode cJ1_indexOfChar_4cfef 1 = .ok (.i2b, 1) := by decide +kernel
theorem dJ1_indexOfChar_4cfef_2 : decode cJ1_indexOfChar_4cfef 2 = .ok (.istore 4, 2) := by decide +kernel
theorem dJ1_indexOfChar_4cfef_4 : decode cJ1_indexOfChar_4cfef 4 = .ok (.iload_n 2, 1) := by decide +kernel
theorem dJ1_indexOfChar_4cfef_5 : decode cJ1_indexOfChar_4cfef 5 = .ok (.istore 5, 2) := by decide +kernel
theorem dJ1_indexOfChar_4cfef_7 : decode cJ1_indexOfChar_4cfef 7 = .ok (.iload 5, 2) := by decide +kernel
theorem dJ1_indexOfChar_4cfef_9 : decode cJ1_indexOfChar_4cfef 9 = .ok (.iload_n 3, 1) := by decide +kernel
theorem dJ1_indexOfChar_4cfef_10 : decode cJ1_indexOfChar_4cfef 10 = .ok (.if_icmp .ge 21, 3) := by decide +kernel
theorem dJ1_indexOfChar_4cfef_13 : decode cJ1_indexOfChar_4cfef 13 = .ok (.aload_n 0, 1) := by decide +kernel
theorem dJ1_indexOfChar_4cfef_14 : decode cJ1_indexOfChar_4cfef 14 = .ok (.iload 5, 2) := by decide +kernel
theorem dJ1_indexOfChar_4cfef_16 : decode cJ1_indexOfChar_4cfef 16 = .ok (.baload, 1) := by decide +kernel
theorem dJ1_indexOfChar_4cfef_17 : decode cJ1_indexOfChar_4cfef 17 = .ok (.iload 4, 2) := by decide +kernel
theorem dJ1_indexOfChar_4cfef_19 : decode cJ1_indexOfChar_4cfef 19 = .ok (.if_icmp .ne 6, 3) := by decide +kernel
theorem dJ1_indexOfChar_4cfef_22 : decode cJ1_indexOfChar_4cfef 22 = .ok (.iload 5, 2) := by decide +kernel
theorem dJ1_indexOfChar_4cfef_24 : decode cJ1_indexOfChar_4cfef 24 = .ok (.ireturn, 1) := by decide +kernel
theorem dJ1_indexOfChar_4cfef_25 : decode cJ1_indexOfChar_4cfef 25 = .ok (.iinc 5 1, 3) := by decide +kernel
theorem dJ1_indexOfChar_4cfef_28 : decode cJ1_indexOfChar_4cfef 28 = .ok (.goto (-21), 3) := by decide +kernel
theorem dJ1_indexOfChar_4cfef_31 : decode cJ1_indexOfChar_4cfef 31 = .ok (.iconst (-1), 1) := by decide +kernel
theorem dJ1_indexOfChar_4cfef_32 : decode cJ1_indexOfChar_4cfef 32 = .ok (.ireturn, 1) := by decide +kernel
theorem dJ2_getChar_3b067_0 : decode cJ2_getChar_3b067 0 = .ok (.getstatic 44, 3) := by decide +kernel
theorem dJ2_getChar_3b067_3 : decode cJ2_getChar_3b067 3 = .ok (.ifCond .ne 25, 3) := by decide +kernel
theorem dJ2_getChar_3b067_6 : decode cJ2_getChar_3b067 6 = .ok (.iload_n 1, 1) := by decide +kernel
theorem dJ2_getChar_3b067_7 : decode cJ2_getChar_3b067 7 = .ok (.ifCond .lt 11, 3) := by decide +kernel
theorem dJ2_getChar_3b067_10 : decode cJ2_getChar_3b067 10 = .ok (.iload_n 1, 1) := by decide +kernel
theorem dJ2_getChar_3b067_11 : decode cJ2_getChar_3b067 11 = .ok (.aload_n 0, 1) := by decide +kernel
theorem dJ2_getChar_3b067_12 : decode cJ2_getChar_3b067 12 = .ok (.invokestatic 48, 3) := by decide +kernel
theorem dJ2_getChar_3b067_15 : decode cJ2_getChar_3b067 15 = .ok (.if_icmp .lt 13, 3) := by decide +kernel
theorem dJ2_getChar_3b067_18 : decode cJ2_getChar_3b067 18 = .ok (.new 52, 3) := by decide +kernel
theorem dJ2_getChar_3b067_21 : decode cJ2_getChar_3b067 21 = .ok (.dup, 1) := by decide +kernel
theorem dJ2_getChar_3b067_22 : decode cJ2_getChar_3b067 22 = .ok (.ldc 54, 2) := by decide +kernel
theorem dJ2_getChar_3b067_24 : decode cJ2_getChar_3b067 24 = .ok (.invokespecial 56, 3) := by decide +kernel
theorem dJ2_getChar_3b067_27 : decode cJ2_getChar_3b067 27 = .ok (.athrow, 1) := by decide +kernel
theorem dJ2_getChar_3b067_28 : decode cJ2_getChar_3b067 28 = .ok (.iload_n 1, 1) := by decide +kernel
theorem dJ2_getChar_3b067_29 : decode cJ2_getChar_3b067 29 = .ok (.iconst 1, 1) := by decide +kernel
theorem dJ2_getChar_3b067_30 : decode cJ2_getChar_3b067 30 = .ok (.ishl, 1) := by decide +kernel
theorem dJ2_getChar_3b067_31 : decode cJ2_getChar_3b067 31 = .ok (.istore_n 1, 1) := by decide +kernel
theorem dJ2_getChar_3b067_32 : decode cJ2_getChar_3b067 32 = .ok (.aload_n 0, 1) := by decide +kernel
theorem dJ2_getChar_3b067_33 : decode cJ2_getChar_3b067 33 = .ok (.iload_n 1, 1) := by decide +kernel
theorem dJ2_getChar_3b067_34 : decode cJ2_getChar_3b067 34 = .ok (.iinc 1 1, 3) := by decide +kernel
theorem dJ2_getChar_3b067_37 : decode cJ2_getChar_3b067 37 = .ok (.baload, 1) := by decide +kernel
theorem dJ2_getChar_3b067_38 : decode cJ2_getChar_3b067 38 = .ok (.sipush 255, 3) := by decide +kernel
theorem dJ2_getChar_3b067_41 : decode cJ2_getChar_3b067 41 = .ok (.iand, 1) := by decide +kernel
theorem dJ2_getChar_3b067_42 : decode cJ2_getChar_3b067 42 = .ok (.getstatic 59, 3) := by decide +kernel
theorem dJ2_getChar_3b067_45 : decode cJ2_getChar_3b067 45 = .ok (.ishl, 1) := by decide +kernel
theorem dJ2_getChar_3b067_46 : decode cJ2_getChar_3b067 46 = .ok (.aload_n 0, 1) := by decide +kernel
theorem dJ2_getChar_3b067_47 : decode cJ2_getChar_3b067 47 = .ok (.iload_n 1, 1) := by decide +kernel
theorem dJ2_getChar_3b067_48 : decode cJ2_getChar_3b067 48 = .ok (.baload, 1) := by decide +kernel
theorem dJ2_getChar_3b067_49 : decode cJ2_getChar_3b067 49 = .ok (.sipush 255, 3) := by decide +kernel
theorem dJ2_getChar_3b067_52 : decode cJ2_getChar_3b067 52 = .ok (.iand, 1) := by decide +kernel
theorem dJ2_getChar_3b067_53 : decode cJ2_getChar_3b067 53 = .ok (.getstatic 63, 3) := by decide +kernel
theorem dJ2_getChar_3b067_56 : decode cJ2_getChar_3b067 56 = .ok (.ishl, 1) := by decide +kernel
theorem dJ2_getChar_3b067_57 : decode cJ2_getChar_3b067 57 = .ok (.ior, 1) := by decide +kernel
theorem dJ2_getChar_3b067_58 : decode cJ2_getChar_3b067 58 = .ok (.i2c, 1) := by decide +kernel
theorem dJ2_getChar_3b067_59 : decode cJ2_getChar_3b067 59 = .ok (.ireturn, 1) := by decide +kernel
theorem dJ2_length_9d52b_0 : decode cJ2_length_9d52b 0 = .ok (.aload_n 0, 1) := by decide +kernel
theorem dJ2_length_9d52b_1 : decode cJ2_length_9d52b 1 = .ok (.arraylength, 1) := by decide +kernel
theorem dJ2_length_9d52b_2 : decode cJ2_length_9d52b 2 = .ok (.iconst 1, 1) := by decide +kernel
theorem dJ2_length_9d52b_3 : decode cJ2_length_9d52b 3 = .ok (.ishr, 1) := by decide +kernel
theorem dJ2_length_9d52b_4 : decode cJ2_length_9d52b 4 = .ok (.ireturn, 1) := by decide +kernel
theorem dJ2_indexOf_4cfef_0 : decode cJ2_indexOf_4cfef 0 = .ok (.iload_n 2, 1) := by decide +kernel
theorem dJ2_indexOf_4cfef_1 : decode cJ2_indexOf_4cfef 1 = .ok (.iconst 0, 1) := by decide +kernel
theorem dJ2_indexOf_4cfef_2 : decode cJ2_indexOf_4cfef 2 = .ok (.invokestatic 224, 3) := by decide +kernel
theorem dJ2_indexOf_4cfef_5 : decode cJ2_indexOf_4cfef 5 = .ok (.istore_n 2, 1) := by decide +kernel
theorem dJ2_indexOf_4cfef_6 : decode cJ2_indexOf_4cfef 6 = .ok (.iload_n 3, 1) := by decide +kernel
theorem dJ2_indexOf_4cfef_7 : decode cJ2_indexOf_4cfef 7 = .ok (.aload_n 0, 1) := by decide +kernel
theorem dJ2_indexOf_4cfef_8 : decode cJ2_indexOf_4cfef 8 = .ok (.arraylength, 1) := by decide +kernel
theorem dJ2_indexOf_4cfef_9 : decode cJ2_indexOf_4cfef 9 = .ok (.iconst 1, 1) := by decide +kernel
theorem dJ2_indexOf_4cfef_10 : decode cJ2_indexOf_4cfef 10 = .ok (.ishr, 1) := by decide +kernel
theorem dJ2_indexOf_4cfef_11 : decode cJ2_indexOf_4cfef 11 = .ok (.invokestatic 183, 3) := by decide +kernel
theorem dJ2_indexOf_4cfef_14 : decode cJ2_indexOf_4cfef 14 = .ok (.istore_n 3, 1) := by decide +kernel
theorem dJ2_indexOf_4cfef_15 : decode cJ2_indexOf_4cfef 15 = .ok (.iload_n 2, 1) := by decide +kernel
theorem dJ2_indexOf_4cfef_16 : decode cJ2_indexOf_4cfef 16 = .ok (.iload_n 3, 1) := by decide +kernel
theorem dJ2_indexOf_4cfef_17 : decode cJ2_indexOf_4cfef 17 = .ok (.if_icmp .lt 5, 3) := by decide +kernel
theorem dJ2_indexOf_4cfef_20 : decode cJ2_indexOf_4cfef 20 = .ok (.iconst (-1), 1) := by decide +kernel
theorem dJ2_indexOf_4cfef_21 : decode cJ2_indexOf_4cfef 21 = .ok (.ireturn, 1) := by decide +kernel
theorem dJ2_indexOf_4cfef_22 : decode cJ2_indexOf_4cfef 22 = .ok (.iload_n 1, 1) := by decide +kernel
theorem dJ2_indexOf_4cfef_23 : decode cJ2_indexOf_4cfef 23 = .ok (.ldc 227, 2) := by decide +kernel
theorem dJ2_indexOf_4cfef_25 : decode cJ2_indexOf_4cfef 25 = .ok (.if_icmp .ge 11, 3) := by decide +kernel
theorem dJ2_indexOf_4cfef_28 : decode cJ2_indexOf_4cfef 28 = .ok (.aload_n 0, 1) := by decide +kernel
theorem dJ2_indexOf_4cfef_29 : decode cJ2_indexOf_4cfef 29 = .ok (.iload_n 1, 1) := by decide +kernel
theorem dJ2_indexOf_4cfef_30 : decode cJ2_indexOf_4cfef 30 = .ok (.iload_n 2, 1) := by decide +kernel
theorem dJ2_indexOf_4cfef_31 : decode cJ2_indexOf_4cfef 31 = .ok (.iload_n 3, 1) := by decide +kernel
theorem dJ2_indexOf_4cfef_32 : decode cJ2_indexOf_4cfef 32 = .ok (.invokestatic 228, 3) := by decide +kernel
theorem dJ2_indexOf_4cfef_35 : decode cJ2_indexOf_4cfef 35 = .ok (.ireturn, 1) := by decide +kernel
theorem dJ2_indexOf_4cfef_36 : decode cJ2_indexOf_4cfef 36 = .ok (.aload_n 0, 1) := by decide +kernel
theorem dJ2_indexOf_4cfef_37 : decode cJ2_indexOf_4cfef 37 = .ok (.iload_n 1, 1) := by decide +kernel
theorem dJ2_indexOf_4cfef_38 : decode cJ2_indexOf_4cfef 38 = .ok (.iload_n 2, 1) := by decide +kernel
theorem dJ2_indexOf_4cfef_39 : decode cJ2_indexOf_4cfef 39 = .ok (.iload_n 3, 1) := by decide +kernel
theorem dJ2_indexOf_4cfef_40 : decode cJ2_indexOf_4cfef 40 = .ok (.invokestatic 232, 3) := by decide +kernel
theorem dJ2_indexOf_4cfef_43 : decode cJ2_indexOf_4cfef 43 = .ok (.ireturn, 1) := by decide +kernel
theorem dJ2_indexOfChar_4cfef_0 : decode cJ2_indexOfChar_4cfef 0 = .ok (.iload_n 2, 1) := by decide +kernel
theorem dJ2_indexOfChar_4cfef_1 : decode cJ2_indexOfChar_4cfef 1 = .ok (.iload_n 3, 1) := by decide +kernel
theorem dJ2_indexOfChar_4cfef_2 : decode cJ2_indexOfChar_4cfef 2 = .ok (.aload_n 0, 1) := by decide +kernel
theorem dJ2_indexOfChar_4cfef_3 : decode cJ2_indexOfChar_4cfef 3 = .ok (.invokestatic 96, 3) := by decide +kernel
theorem dJ2_indexOfChar_4cfef_6 : decode cJ2_indexOfChar_4cfef 6 = .ok (.aload_n 0, 1) := by decide +kernel
theorem dJ2_indexOfChar_4cfef_7 : decode cJ2_indexOfChar_4cfef 7 = .ok (.iload_n 1, 1) := by decide +kernel
theorem dJ2_indexOfChar_4cfef_8 : decode cJ2_indexOfChar_4cfef 8 = .ok (.iload_n 2, 1) := by decide +kernel
theorem dJ2_indexOfChar_4cfef_9 : decode cJ2_indexOfChar_4cfef 9 = .ok (.iload_n 3, 1) := by decide +kernel
theorem dJ2_indexOfChar_4cfef_10 : decode cJ2_indexOfChar_4cfef 10 = .ok (.invokestatic 244, 3) := by decide +kernel
theorem dJ2_indexOfChar_4cfef_13 : decode cJ2_indexOfChar_4cfef 13 = .ok (.ireturn, 1) := by decide +kernel
theorem dJ2_indexOfCharUnsafe_4cfef_0 : decode cJ2_indexOfCharUnsafe_4cfef 0 = .ok (.iload_n 2, 1) := by decide +kernel
theorem dJ2_indexOfCharUnsafe_4cfef_1 : decode cJ2_indexOfCharUnsafe_4cfef 1 = .ok (.istore 4, 2) := by decide +kernel
theorem dJ2_indexOfCharUnsafe_4cfef_3 : decode cJ2_indexOfCharUnsafe_4cfef 3 = .ok (.iload 4, 2) := by decide +kernel
theorem dJ2_indexOfCharUnsafe_4cfef_5 : decode cJ2_indexOfCharUnsafe_4cfef 5 = .ok (.iload_n 3, 1) := by decide +kernel
theorem dJ2_indexOfCharUnsafe_4cfef_6 : decode cJ2_indexOfCharUnsafe_4cfef 6 = .ok (.if_icmp .ge 22, 3) := by decide +kernel
theorem dJ2_indexOfCharUnsafe_4cfef_9 : decode cJ2_indexOfCharUnsafe_4cfef 9 = .ok (.aload_n 0, 1) := by decide +kernel
theorem dJ2_indexOfCharUnsafe_4cfef_10 : decode cJ2_indexOfCharUnsafe_4cfef 10 = .ok (.iload 4, 2) := by decide +kernel
theorem dJ2_indexOfCharUnsafe_4cfef_12 : decode cJ2_indexOfCharUnsafe_4cfef 12 = .ok (.invokestatic 71, 3) := by decide +kernel
theorem dJ2_indexOfCharUnsafe_4cfef_15 : decode cJ2_indexOfCharUnsafe_4cfef 15 = .ok (.iload_n 1, 1) := by decide +kernel
theorem dJ2_indexOfCharUnsafe_4cfef_16 : decode cJ2_indexOfCharUnsafe_4cfef 16 = .ok (.if_icmp .ne 6, 3) := by decide +kernel
theorem dJ2_indexOfCharUnsafe_4cfef_19 : decode cJ2_indexOfCharUnsafe_4cfef 19 = .ok (.iload 4, 2) := by decide +kernel
theorem dJ2_indexOfCharUnsafe_4cfef_21 : decode cJ2_indexOfCharUnsafe_4cfef 21 = .ok (.ireturn, 1) := by decide +kernel
theorem dJ2_indexOfCharUnsafe_4cfef_22 : decode cJ2_indexOfCharUnsafe_4cfef 22 = .ok (.iinc 4 1, 3) := by decide +kernel
theorem dJ2_indexOfCharUnsafe_4cfef_25 : decode cJ2_indexOfCharUnsafe_4cfef 25 = .ok (.goto (-22), 3) := by decide +kernel
theorem dJ2_indexOfCharUnsafe_4cfef_28 : decode cJ2_indexOfCharUnsafe_4cfef 28 = .ok (.iconst (-1), 1) := by decide +kernel
theorem dJ2_indexOfCharUnsafe_4cfef_29 : decode cJ2_indexOfCharUnsafe_4cfef 29 = .ok (.ireturn, 1) := by decide +kernel
theorem dJ2_indexOfSupplementary_4cfef_0 : decode cJ2_indexOfSupplementary_4cfef 0 = .ok (.iload_n 1, 1) := by decide +kernel
theorem dJ2_indexOfSupplementary_4cfef_1 : decode cJ2_indexOfSupplementary_4cfef 1 = .ok (.invokestatic 164, 3) := by decide +kernel
theorem dJ2_indexOfSupplementary_4cfef_4 : decode cJ2_indexOfSupplementary_4cfef 4 = .ok (.ifCond .eq 65, 3) := by decide +kernel
theorem dJ2_indexOfSupplementary_4cfef_7 : decode cJ2_indexOfSupplementary_4cfef 7 = .ok (.iload_n 1, 1) := by decide +kernel
theorem dJ2_indexOfSupplementary_4cfef_8 : decode cJ2_indexOfSupplementary_4cfef 8 = .ok (.invokestatic 157, 3) := by decide +kernel
theorem dJ2_indexOfSupplementary_4cfef_11 : decode cJ2_indexOfSupplementary_4cfef 11 = .ok (.istore 4, 2) := by decide +kernel
theorem dJ2_indexOfSupplementary_4cfef_13 : decode cJ2_indexOfSupplementary_4cfef 13 = .ok (.iload_n 1, 1) := by decide +kernel
theorem dJ2_indexOfSupplementary_4cfef_14 : decode cJ2_indexOfSupplementary_4cfef 14 = .ok (.invokestatic 161, 3) := by decide +kernel
theorem dJ2_indexOfSupplementary_4cfef_17 : decode cJ2_indexOfSupplementary_4cfef 17 = .ok (.istore 5, 2) := by decide +kernel
theorem dJ2_indexOfSupplementary_4cfef_19 : decode cJ2_indexOfSupplementary_4cfef 19 = .ok (.iload_n 2, 1) := by decide +kernel
theorem dJ2_indexOfSupplementary_4cfef_20 : decode cJ2_indexOfSupplementary_4cfef 20 = .ok (.iload_n 3, 1) := by decide +kernel
theorem dJ2_indexOfSupplementary_4cfef_21 : decode cJ2_indexOfSupplementary_4cfef 21 = .ok (.aload_n 0, 1) := by decide +kernel
theorem dJ2_indexOfSupplementary_4cfef_22 : decode cJ2_indexOfSupplementary_4cfef 22 = .ok (.invokestatic 96, 3) := by decide +kernel
theorem dJ2_indexOfSupplementary_4cfef_25 : decode cJ2_indexOfSupplementary_4cfef 25 = .ok (.iload_n 2, 1) := by decide +kernel
theorem dJ2_indexOfSupplementary_4cfef_26 : decode cJ2_indexOfSupplementary_4cfef 26 = .ok (.istore 6, 2) := by decide +kernel
theorem dJ2_indexOfSupplementary_4cfef_28 : decode cJ2_indexOfSupplementary_4cfef 28 = .ok (.iload 6, 2) := by decide +kernel
theorem dJ2_indexOfSupplementary_4cfef_30 : decode cJ2_indexOfSupplementary_4cfef 30 = .ok (.iload_n 3, 1) := by decide +kernel
theorem dJ2_indexOfSupplementary_4cfef_31 : decode cJ2_indexOfSupplementary_4cfef 31 = .ok (.iconst 1, 1) := by decide +kernel
theorem dJ2_indexOfSupplementary_4cfef_32 : decode cJ2_indexOfSupplementary_4cfef 32 = .ok (.isub, 1) := by decide +kernel
theorem dJ2_indexOfSupplementary_4cfef_33 : decode cJ2_indexOfSupplementary_4cfef 33 = .ok (.if_icmp .ge 36, 3) := by decide +kernel
theorem dJ2_indexOfSupplementary_4cfef_36 : decode cJ2_indexOfSupplementary_4cfef 36 = .ok (.aload_n 0, 1) := by decide +kernel
theorem dJ2_indexOfSupplementary_4cfef_37 : decode cJ2_indexOfSupplementary_4cfef 37 = .ok (.iload 6, 2) := by decide +kernel
theorem dJ2_indexOfSupplementary_4cfef_39 : decode cJ2_indexOfSupplementary_4cfef 39 = .ok (.invokestatic 71, 3) := by decide +kernel
theorem dJ2_indexOfSupplementary_4cfef_42 : decode cJ2_indexOfSupplementary_4cfef 42 = .ok (.iload 4, 2) := by decide +kernel
theorem dJ2_indexOfSupplementary_4cfef_44 : decode cJ2_indexOfSupplementary_4cfef 44 = .ok (.if_icmp .ne 19, 3) := by decide +kernel
theorem dJ2_indexOfSupplementary_4cfef_47 : decode cJ2_indexOfSupplementary_4cfef 47 = .ok (.aload_n 0, 1) := by decide +kernel
theorem dJ2_indexOfSupplementary_4cfef_48 : decode cJ2_indexOfSupplementary_4cfef 48 = .ok (.iload 6, 2) := by decide +kernel
theorem dJ2_indexOfSupplementary_4cfef_50 : decode cJ2_indexOfSupplementary_4cfef 50 = .ok (.iconst 1, 1) := by decide +kernel
theorem dJ2_indexOfSupplementary_4cfef_51 : decode cJ2_indexOfSupplementary_4cfef 51 = .ok (.iadd, 1) := by decide +kernel
theorem dJ2_indexOfSupplementary_4cfef_52 : decode cJ2_indexOfSupplementary_4cfef 52 = .ok (.invokestatic 71, 3) := by decide +kernel
theorem dJ2_indexOfSupplementary_4cfef_55 : decode cJ2_indexOfSupplementary_4cfef 55 = .ok (.iload 5, 2) := by decide +kernel
theorem dJ2_indexOfSupplementary_4cfef_57 : decode cJ2_indexOfSupplementary_4cfef 57 = .ok (.if_icmp .ne 6, 3) := by decide +kernel
theorem dJ2_indexOfSupplementary_4cfef_60 : decode cJ2_indexOfSupplementary_4cfef 60 = .ok (.iload 6, 2) := by decide +kernel
theorem dJ2_indexOfSupplementary_4cfef_62 : decode cJ2_indexOfSupplementary_4cfef 62 = .ok (.ireturn, 1) := by decide +kernel
theorem dJ2_indexOfSupplementary_4cfef_63 : decode cJ2_indexOfSupplementary_4cfef 63 = .ok (.iinc 6 1, 3) := by decide +kernel
theorem dJ2_indexOfSupplementary_4cfef_66 : decode cJ2_indexOfSupplementary_4cfef 66 = .ok (.goto (-38), 3) := by decide +kernel
theorem dJ2_indexOfSupplementary_4cfef_69 : decode cJ2_indexOfSupplementary_4cfef 69 = .ok (.iconst (-1), 1) := by decide +kernel
theorem dJ2_indexOfSupplementary_4cfef_70 : decode cJ2_indexOfSupplementary_4cfef 70 = .ok (.ireturn, 1) := by decide +kernel
theorem dJ2_checkBoundsBeginEnd_d044e_0 : decode cJ2_checkBoundsBeginEnd_d044e 0 = .ok (.iload_n 0, 1) := by decide +kernel
theorem dJ2_checkBoundsBeginEnd_d044e_1 : decode cJ2_checkBoundsBeginEnd_d044e 1 = .ok (.iload_n 1, 1) := by decide +kernel
theorem dJ2_checkBoundsBeginEnd_d044e_2 : decode cJ2_checkBoundsBeginEnd_d044e 2 = .ok (.aload_n 2, 1) := by decide +kernel
theorem dJ2_checkBoundsBeginEnd_d044e_3 : decode cJ2_checkBoundsBeginEnd_d044e 3 = .ok (.invokestatic 48, 3) := by decide +kernel
theorem dJ2_checkBoundsBeginEnd_d044e_6 : decode cJ2_checkBoundsBeginEnd_d044e 6 = .ok (.invokestatic 241, 3) := by decide +kernel
theorem dJ2_checkBoundsBeginEnd_d044e_9 : decode cJ2_checkBoundsBeginEnd_d044e 9 = .ok (.return_, 1) := by decide +kernel
theorem dJ7_fill_53178_0 : decode cJ7_fill_53178 0 = .ok (.iconst 0, 1) := by decide +kernel
theorem dJ7_fill_53178_1 : decode cJ7_fill_53178 1 = .ok (.istore_n 2, 1) := by decide +kernel
theorem dJ7_fill_53178_2 : decode cJ7_fill_53178 2 = .ok (.aload_n 0, 1) := by decide +kernel
theorem dJ7_fill_53178_3 : decode cJ7_fill_53178 3 = .ok (.arraylength, 1) := by decide +kernel
theorem dJ7_fill_53178_4 : decode cJ7_fill_53178 4 = .ok (.istore_n 3, 1) := by decide +kernel
theorem dJ7_fill_53178_5 : decode cJ7_fill_53178 5 = .ok (.iload_n 2, 1) := by decide +kernel
theorem dJ7_fill_53178_6 : decode cJ7_fill_53178 6 = .ok (.iload_n 3, 1) := by decide +kernel
theorem dJ7_fill_53178_7 : decode cJ7_fill_53178 7 = .ok (.if_icmp .ge 13, 3) := by decide +kernel
theorem dJ7_fill_53178_10 : decode cJ7_fill_53178 10 = .ok (.aload_n 0, 1) := by decide +kernel
theorem dJ7_fill_53178_11 : decode cJ7_fill_53178 11 = .ok (.iload_n 2, 1) := by decide +kernel
theorem dJ7_fill_53178_12 : decode cJ7_fill_53178 12 = .ok (.iload_n 1, 1) := by decide +kernel
theorem dJ7_fill_53178_13 : decode cJ7_fill_53178 13 = .ok (.iastore, 1) := by decide +kernel
theorem dJ7_fill_53178_14 : decode cJ7_fill_53178 14 = .ok (.iinc 2 1, 3) := by decide +kernel
theorem dJ7_fill_53178_17 : decode cJ7_fill_53178 17 = .ok (.goto (-12), 3) := by decide +kernel
theorem dJ7_fill_53178_20 : decode cJ7_fill_53178 20 = .ok (.return_, 1) := by decide +kernel
theorem dJ3_checkFromToIndex_8c36e_0 : decode cJ3_checkFromToIndex_8c36e 0 = .ok (.iload_n 0, 1) := by decide +kernel
theorem dJ3_checkFromToIndex_8c36e_1 : decode cJ3_checkFromToIndex_8c36e 1 = .ok (.ifCond .lt 13, 3) := by decide +kernel
theorem dJ3_checkFromToIndex_8c36e_4 : decode cJ3_checkFromToIndex_8c36e 4 = .ok (.iload_n 0, 1) := by decide +kernel
theorem dJ3_checkFromToIndex_8c36e_5 : decode cJ3_checkFromToIndex_8c36e 5 = .ok (.iload_n 1, 1) := by decide +kernel
theorem dJ3_checkFromToIndex_8c36e_6 : decode cJ3_checkFromToIndex_8c36e 6 = .ok (.if_icmp .gt 8, 3) := by decide +kernel
theorem dJ3_checkFromToIndex_8c36e_9 : decode cJ3_checkFromToIndex_8c36e 9 = .ok (.iload_n 1, 1) := by decide +kernel
theorem dJ3_checkFromToIndex_8c36e_10 : decode cJ3_checkFromToIndex_8c36e 10 = .ok (.iload_n 2, 1) := by decide +kernel
theorem dJ3_checkFromToIndex_8c36e_11 : decode cJ3_checkFromToIndex_8c36e 11 = .ok (.if_icmp .le 11, 3) := by decide +kernel
theorem dJ3_checkFromToIndex_8c36e_14 : decode cJ3_checkFromToIndex_8c36e 14 = .ok (.aload_n 3, 1) := by decide +kernel
theorem dJ3_checkFromToIndex_8c36e_15 : decode cJ3_checkFromToIndex_8c36e 15 = .ok (.iload_n 0, 1) := by decide +kernel
theorem dJ3_checkFromToIndex_8c36e_16 : decode cJ3_checkFromToIndex_8c36e 16 = .ok (.iload_n 1, 1) := by decide +kernel
theorem dJ3_checkFromToIndex_8c36e_17 : decode cJ3_checkFromToIndex_8c36e 17 = .ok (.iload_n 2, 1) := by decide +kernel
theorem dJ3_checkFromToIndex_8c36e_18 : decode cJ3_checkFromToIndex_8c36e 18 = .ok (.invokestatic 99, 3) := by decide +kernel
theorem dJ3_checkFromToIndex_8c36e_21 : decode cJ3_checkFromToIndex_8c36e 21 = .ok (.athrow, 1) := by decide +kernel
theorem dJ3_checkFromToIndex_8c36e_22 : decode cJ3_checkFromToIndex_8c36e 22 = .ok (.iload_n 0, 1) := by decide +kernel
theorem dJ3_checkFromToIndex_8c36e_23 : decode cJ3_checkFromToIndex_8c36e 23 = .ok (.ireturn, 1) := by decide +kernel
theorem dL_law_0 : decode cL_law 0 = .ok (.new 7, 3) := by decide +kernel
theorem dL_law_3 : decode cL_law 3 = .ok (.dup, 1) := by decide +kernel
theorem dL_law_4 : decode cL_law 4 = .ok (.invokespecial 9, 3) := by decide +kernel
theorem dL_law_7 : decode cL_law 7 = .ok (.astore_n 1, 1) := by decide +kernel
theorem dL_law_8 : decode cL_law 8 = .ok (.new 10, 3) := by decide +kernel
theorem dL_law_11 : decode cL_law 11 = .ok (.dup, 1) := by decide +kernel
theorem dL_law_12 : decode cL_law 12 = .ok (.invokespecial 12, 3) := by decide +kernel
theorem dL_law_15 : decode cL_law 15 = .ok (.astore_n 2, 1) := by decide +kernel
theorem dL_law_16 : decode cL_law 16 = .ok (.iconst 0, 1) := by decide +kernel
theorem dL_law_17 : decode cL_law 17 = .ok (.istore_n 3, 1) := by decide +kernel
theorem dL_law_18 : decode cL_law 18 = .ok (.iload_n 3, 1) := by decide +kernel
theorem dL_law_19 : decode cL_law 19 = .ok (.aload_n 0, 1) := by decide +kernel
theorem dL_law_20 : decode cL_law 20 = .ok (.arraylength, 1) := by decide +kernel
theorem dL_law_21 : decode cL_law 21 = .ok (.iconst 5, 1) := by decide +kernel
theorem dL_law_22 : decode cL_law 22 = .ok (.isub, 1) := by decide +kernel
theorem dL_law_23 : decode cL_law 23 = .ok (.if_icmp .gt 1062, 3) := by decide +kernel
theorem dL_law_26 : decode cL_law 26 = .ok (.aload_n 0, 1) := by decide +kernel
theorem dL_law_27 : decode cL_law 27 = .ok (.iload_n 3, 1) := by decide +kernel
theorem dL_law_28 : decode cL_law 28 = .ok (.iaload, 1) := by decide +kernel
theorem dL_law_29 : decode cL_law 29 = .ok (.bipush 63, 2) := by decide +kernel
theorem dL_law_31 : decode cL_law 31 = .ok (.iand, 1) := by decide +kernel
theorem dL_law_32 : decode cL_law 32 = .ok (.tableswitch 1047 0 32 #[148, 171, 204, 217, 250, 283, 316, 339, 362, 415, 438, 451, 464, 497, 520, 533, 556, 579, 602, 615, 638, 661, 684, 717, 740, 753, 786, 819, 862, 885, 928, 971, 1024], 148) := by decide +kernel
theorem dL_law_180 : decode cL_law 180 = .ok (.aload_n 1, 1) := by decide +kernel
theorem dL_law_181 : decode cL_law 181 = .ok (.aload_n 0, 1) := by decide +kernel
theorem dL_law_182 : decode cL_law 182 = .ok (.iload_n 3, 1) := by decide +kernel
theorem dL_law_183 : decode cL_law 183 = .ok (.iconst 1, 1) := by decide +kernel
theorem dL_law_184 : decode cL_law 184 = .ok (.iadd, 1) := by decide +kernel
theorem dL_law_185 : decode cL_law 185 = .ok (.iaload, 1) := by decide +kernel
theorem dL_law_186 : decode cL_law 186 = .ok (.invokevirtual 13, 3) := by decide +kernel
theorem dL_law_189 : decode cL_law 189 = .ok (.aload_n 2, 1) := by decide +kernel
theorem dL_law_190 : decode cL_law 190 = .ok (.aload_n 0, 1) := by decide +kernel
theorem dL_law_191 : decode cL_law 191 = .ok (.iload_n 3, 1) := by decide +kernel
theorem dL_law_192 : decode cL_law 192 = .ok (.iconst 1, 1) := by decide +kernel
theorem dL_law_193 : decode cL_law 193 = .ok (.iadd, 1) := by decide +kernel
theorem dL_law_194 : decode cL_law 194 = .ok (.iaload, 1) := by decide +kernel
theorem dL_law_195 : decode cL_law 195 = .ok (.invokevirtual 17, 3) := by decide +kernel
theorem dL_law_198 : decode cL_law 198 = .ok (.if_icmp .eq 881, 3) := by decide +kernel
theorem dL_law_201 : decode cL_law 201 = .ok (.iconst 0, 1) := by decide +kernel
theorem dL_law_202 : decode cL_law 202 = .ok (.ireturn, 1) := by decide +kernel
theorem dL_law_203 : decode cL_law 203 = .ok (.aload_n 1, 1) := by decide +kernel
theorem dL_law_204 : decode cL_law 204 = .ok (.aload_n 0, 1) := by decide +kernel
theorem dL_law_205 : decode cL_law 205 = .ok (.iload_n 3, 1) := by decide +kernel
theorem dL_law_206 : decode cL_law 206 = .ok (.iconst 1, 1) := by decide +kernel
theorem dL_law_207 : decode cL_law 207 = .ok (.iadd, 1) := by decide +kernel
theorem dL_law_208 : decode cL_law 208 = .ok (.iaload, 1) := by decide +kernel
theorem dL_law_209 : decode cL_law 209 = .ok (.aload_n 0, 1) := by decide +kernel
theorem dL_law_210 : decode cL_law 210 = .ok (.iload_n 3, 1) := by decide +kernel
theorem dL_law_211 : decode cL_law 211 = .ok (.iconst 2, 1) := by decide +kernel
theorem dL_law_212 : decode cL_law 212 = .ok (.iadd, 1) := by decide +kernel
theorem dL_law_213 : decode cL_law 213 = .ok (.iaload, 1) := by decide +kernel
theorem dL_law_214 : decode cL_law 214 = .ok (.invokevirtual 18, 3) := by decide +kernel
theorem dL_law_217 : decode cL_law 217 = .ok (.aload_n 2, 1) := by decide +kernel
theorem dL_law_218 : decode cL_law 218 = .ok (.aload_n 0, 1) := by decide +kernel
theorem dL_law_219 : decode cL_law 219 = .ok (.iload_n 3, 1) := by decide +kernel
theorem dL_law_220 : decode cL_law 220 = .ok (.iconst 1, 1) := by decide +kernel
theorem dL_law_221 : decode cL_law 221 = .ok (.iadd, 1) := by decide +kernel
theorem dL_law_222 : decode cL_law 222 = .ok (.iaload, 1) := by decide +kernel
theorem dL_law_223 : decode cL_law 223 = .ok (.aload_n 0, 1) := by decide +kernel
theorem dL_law_224 : decode cL_law 224 = .ok (.iload_n 3, 1) := by decide +kernel
theorem dL_law_225 : decode cL_law 225 = .ok (.iconst 2, 1) := by decide +kernel
theorem dL_law_226 : decode cL_law 226 = .ok (.iadd, 1) := by decide +kernel
theorem dL_law_227 : decode cL_law 227 = .ok (.iaload, 1) := by decide +kernel
theorem dL_law_228 : decode cL_law 228 = .ok (.invokevirtual 22, 3) := by decide +kernel
theorem dL_law_231 : decode cL_law 231 = .ok (.if_icmp .eq 848, 3) := by decide +kernel
theorem dL_law_234 : decode cL_law 234 = .ok (.iconst 0, 1) := by decide +kernel
theorem dL_law_235 : decode cL_law 235 = .ok (.ireturn, 1) := by decide +kernel
theorem dL_law_236 : decode cL_law 236 = .ok (.aload_n 1, 1) := by decide +kernel
theorem dL_law_237 : decode cL_law 237 = .ok (.invokevirtual 23, 3) := by decide +kernel
theorem dL_law_240 : decode cL_law 240 = .ok (.aload_n 2, 1) := by decide +kernel
theorem dL_law_241 : decode cL_law 241 = .ok (.invokevirtual 27, 3) := by decide +kernel
theorem dL_law_244 : decode cL_law 244 = .ok (.if_icmp .eq 835, 3) := by decide +kernel
theorem dL_law_247 : decode cL_law 247 = .ok (.iconst 0, 1) := by decide +kernel
theorem dL_law_248 : decode cL_law 248 = .ok (.ireturn, 1) := by decide +kernel
theorem dL_law_249 : decode cL_law 249 = .ok (.aload_n 1, 1) := by decide +kernel
theorem dL_law_250 : decode cL_law 250 = .ok (.aload_n 0, 1) := by decide +kernel
theorem dL_law_251 : decode cL_law 251 = .ok (.iload_n 3, 1) := by decide +kernel
theorem dL_law_252 : decode cL_law 252 = .ok (.iconst 1, 1) := by decide +kernel
theorem dL_law_253 : decode cL_law 253 = .ok (.iadd, 1) := by decide +kernel
theorem dL_law_254 : decode cL_law 254 = .ok (.iaload, 1) := by decide +kernel
theorem dL_law_255 : decode cL_law 255 = .ok (.aload_n 0, 1) := by decide +kernel
theorem dL_law_256 : decode cL_law 256 = .ok (.iload_n 3, 1) := by decide +kernel
theorem dL_law_257 : decode cL_law 257 = .ok (.iconst 2, 1) := by decide +kernel
theorem dL_law_258 : decode cL_law 258 = .ok (.iadd, 1) := by decide +kernel
theorem dL_law_259 : decode cL_law 259 = .ok (.iaload, 1) := by decide +kernel
theorem dL_law_260 : decode cL_law 260 = .ok (.invokevirtual 28, 3) := by decide +kernel
theorem dL_law_263 : decode cL_law 263 = .ok (.aload_n 2, 1) := by decide +kernel
theorem dL_law_264 : decode cL_law 264 = .ok (.aload_n 0, 1) := by decide +kernel
theorem dL_law_265 : decode cL_law 265 = .ok (.iload_n 3, 1) := by decide +kernel
theorem dL_law_266 : decode cL_law 266 = .ok (.iconst 1, 1) := by decide +kernel
theorem dL_law_267 : decode cL_law 267 = .ok (.iadd, 1) := by decide +kernel
theorem dL_law_268 : decode cL_law 268 = .ok (.iaload, 1) := by decide +kernel
theorem dL_law_269 : decode cL_law 269 = .ok (.aload_n 0, 1) := by decide +kernel
theorem dL_law_270 : decode cL_law 270 = .ok (.iload_n 3, 1) := by decide +kernel
theorem dL_law_271 : decode cL_law 271 = .ok (.iconst 2, 1) := by decide +kernel
theorem dL_law_272 : decode cL_law 272 = .ok (.iadd, 1) := by decide +kernel
theorem dL_law_273 : decode cL_law 273 = .ok (.iaload, 1) := by decide +kernel
theorem dL_law_274 : decode cL_law 274 = .ok (.invokevirtual 31, 3) := by decide +kernel
theorem dL_law_277 : decode cL_law 277 = .ok (.if_icmp .eq 802, 3) := by decide +kernel
theorem dL_law_280 : decode cL_law 280 = .ok (.iconst 0, 1) := by decide +kernel
theorem dL_law_281 : decode cL_law 281 = .ok (.ireturn, 1) := by decide +kernel
theorem dL_law_282 : decode cL_law 282 = .ok (.aload_n 1, 1) := by decide +kernel
theorem dL_law_283 : decode cL_law 283 = .ok (.aload_n 0, 1) := by decide +kernel
theorem dL_law_284 : decode cL_law 284 = .ok (.iload_n 3, 1) := by decide +kernel
theorem dL_law_285 : decode cL_law 285 = .ok (.iconst 1, 1) := by decide +kernel
theorem dL_law_286 : decode cL_law 286 = .ok (.iadd, 1) := by decide +kernel
theorem dL_law_287 : decode cL_law 287 = .ok (.iaload, 1) := by decide +kernel
theorem dL_law_288 : decode cL_law 288 = .ok (.aload_n 0, 1) := by decide +kernel
theorem dL_law_289 : decode cL_law 289 = .ok (.iload_n 3, 1) := by decide +kernel
theorem dL_law_290 : decode cL_law 290 = .ok (.iconst 2, 1) := by decide +kernel
theorem dL_law_291 : decode cL_law 291 = .ok (.iadd, 1) := by decide +kernel
theorem dL_law_292 : decode cL_law 292 = .ok (.iaload, 1) := by decide +kernel
theorem dL_law_293 : decode cL_law 293 = .ok (.invokevirtual 32, 3) := by decide +kernel
theorem dL_law_296 : decode cL_law 296 = .ok (.aload_n 2, 1) := by decide +kernel
theorem dL_law_297 : decode cL_law 297 = .ok (.aload_n 0, 1) := by decide +kernel
theorem dL_law_298 : decode cL_law 298 = .ok (.iload_n 3, 1) := by decide +kernel
theorem dL_law_299 : decode cL_law 299 = .ok (.iconst 1, 1) := by decide +kernel
theorem dL_law_300 : decode cL_law 300 = .ok (.iadd, 1) := by decide +kernel
theorem dL_law_301 : decode cL_law 301 = .ok (.iaload, 1) := by decide +kernel
theorem dL_law_302 : decode cL_law 302 = .ok (.aload_n 0, 1) := by decide +kernel
theorem dL_law_303 : decode cL_law 303 = .ok (.iload_n 3, 1) := by decide +kernel
theorem dL_law_304 : decode cL_law 304 = .ok (.iconst 2, 1) := by decide +kernel
theorem dL_law_305 : decode cL_law 305 = .ok (.iadd, 1) := by decide +kernel
theorem dL_law_306 : decode cL_law 306 = .ok (.iaload, 1) := by decide +kernel
theorem dL_law_307 : decode cL_law 307 = .ok (.invokevirtual 35, 3) := by decide +kernel
theorem dL_law_310 : decode cL_law 310 = .ok (.if_icmp .eq 769, 3) := by decide +kernel
theorem dL_law_313 : decode cL_law 313 = .ok (.iconst 0, 1) := by decide +kernel
theorem dL_law_314 : decode cL_law 314 = .ok (.ireturn, 1) := by decide +kernel
theorem dL_law_315 : decode cL_law 315 = .ok (.aload_n 1, 1) := by decide +kernel
theorem dL_law_316 : decode cL_law 316 = .ok (.aload_n 0, 1) := by decide +kernel
theorem dL_law_317 : decode cL_law 317 = .ok (.iload_n 3, 1) := by decide +kernel
theorem dL_law_318 : decode cL_law 318 = .ok (.iconst 1, 1) := by decide +kernel
theorem dL_law_319 : decode cL_law 319 = .ok (.iadd, 1) := by decide +kernel
theorem dL_law_320 : decode cL_law 320 = .ok (.iaload, 1) := by decide +kernel
theorem dL_law_321 : decode cL_law 321 = .ok (.aload_n 0, 1) := by decide +kernel
theorem dL_law_322 : decode cL_law 322 = .ok (.iload_n 3, 1) := by decide +kernel
theorem dL_law_323 : decode cL_law 323 = .ok (.iconst 2, 1) := by decide +kernel
theorem dL_law_324 : decode cL_law 324 = .ok (.iadd, 1) := by decide +kernel
theorem dL_law_325 : decode cL_law 325 = .ok (.iaload, 1) := by decide +kernel
theorem dL_law_326 : decode cL_law 326 = .ok (.invokevirtual 36, 3) := by decide +kernel
theorem dL_law_329 : decode cL_law 329 = .ok (.aload_n 2, 1) := by decide +kernel
theorem dL_law_330 : decode cL_law 330 = .ok (.aload_n 0, 1) := by decide +kernel
theorem dL_law_331 : decode cL_law 331 = .ok (.iload_n 3, 1) := by decide +kernel
theorem dL_law_332 : decode cL_law 332 = .ok (.iconst 1, 1) := by decide +kernel
theorem dL_law_333 : decode cL_law 333 = .ok (.iadd, 1) := by decide +kernel
theorem dL_law_334 : decode cL_law 334 = .ok (.iaload, 1) := by decide +kernel
theorem dL_law_335 : decode cL_law 335 = .ok (.aload_n 0, 1) := by decide +kernel
theorem dL_law_336 : decode cL_law 336 = .ok (.iload_n 3, 1) := by decide +kernel
theorem dL_law_337 : decode cL_law 337 = .ok (.iconst 2, 1) := by decide +kernel
theorem dL_law_338 : decode cL_law 338 = .ok (.iadd, 1) := by decide +kernel
theorem dL_law_339 : decode cL_law 339 = .ok (.iaload, 1) := by decide +kernel
theorem dL_law_340 : decode cL_law 340 = .ok (.invokevirtual 39, 3) := by decide +kernel
theorem dL_law_343 : decode cL_law 343 = .ok (.if_icmp .eq 736, 3) := by decide +kernel
theorem dL_law_346 : decode cL_law 346 = .ok (.iconst 0, 1) := by decide +kernel
theorem dL_law_347 : decode cL_law 347 = .ok (.ireturn, 1) := by decide +kernel
theorem dL_law_348 : decode cL_law 348 = .ok (.aload_n 1, 1) := by decide +kernel
theorem dL_law_349 : decode cL_law 349 = .ok (.aload_n 0, 1) := by decide +kernel
theorem dL_law_350 : decode cL_law 350 = .ok (.iload_n 3, 1) := by decide +kernel
theorem dL_law_351 : decode cL_law 351 = .ok (.iconst 1, 1) := by decide +kernel
theorem dL_law_352 : decode cL_law 352 = .ok (.iadd, 1) := by decide +kernel
theorem dL_law_353 : decode cL_law 353 = .ok (.iaload, 1) := by decide +kernel
theorem dL_law_354 : decode cL_law 354 = .ok (.invokevirtual 40, 3) := by decide +kernel
theorem dL_law_357 : decode cL_law 357 = .ok (.aload_n 2, 1) := by decide +kernel
theorem dL_law_358 : decode cL_law 358 = .ok (.aload_n 0, 1) := by decide +kernel
theorem dL_law_359 : decode cL_law 359 = .ok (.iload_n 3, 1) := by decide +kernel
theorem dL_law_360 : decode cL_law 360 = .ok (.iconst 1, 1) := by decide +kernel
theorem dL_law_361 : decode cL_law 361 = .ok (.iadd, 1) := by decide +kernel
theorem dL_law_362 : decode cL_law 362 = .ok (.iaload, 1) := by decide +kernel
theorem dL_law_363 : decode cL_law 363 = .ok (.invokevirtual 43, 3) := by decide +kernel
theorem dL_law_366 : decode cL_law 366 = .ok (.if_icmp .eq 713, 3) := by decide +kernel
theorem dL_law_369 : decode cL_law 369 = .ok (.iconst 0, 1) := by decide +kernel
theorem dL_law_370 : decode cL_law 370 = .ok (.ireturn, 1) := by decide +kernel
theorem dL_law_371 : decode cL_law 371 = .ok (.aload_n 1, 1) := by decide +kernel
theorem dL_law_372 : decode cL_law 372 = .ok (.aload_n 0, 1) := by decide +kernel
theorem dL_law_373 : decode cL_law 373 = .ok (.iload_n 3, 1) := by decide +kernel
theorem dL_law_374 : decode cL_law 374 = .ok (.iconst 1, 1) := by decide +kernel
theorem dL_law_375 : decode cL_law 375 = .ok (.iadd, 1) := by decide +kernel
theorem dL_law_376 : decode cL_law 376 = .ok (.iaload, 1) := by decide +kernel
theorem dL_law_377 : decode cL_law 377 = .ok (.invokevirtual 44, 3) := by decide +kernel
theorem dL_law_380 : decode cL_law 380 = .ok (.aload_n 2, 1) := by decide +kernel
theorem dL_law_381 : decode cL_law 381 = .ok (.aload_n 0, 1) := by decide +kernel
theorem dL_law_382 : decode cL_law 382 = .ok (.iload_n 3, 1) := by decide +kernel
theorem dL_law_383 : decode cL_law 383 = .ok (.iconst 1, 1) := by decide +kernel
theorem dL_law_384 : decode cL_law 384 = .ok (.iadd, 1) := by decide +kernel
theorem dL_law_385 : decode cL_law 385 = .ok (.iaload, 1) := by decide +kernel
theorem dL_law_386 : decode cL_law 386 = .ok (.invokevirtual 47, 3) := by decide +kernel
theorem dL_law_389 : decode cL_law 389 = .ok (.if_icmp .eq 690, 3) := by decide +kernel
theorem dL_law_392 : decode cL_law 392 = .ok (.iconst 0, 1) := by decide +kernel
theorem dL_law_393 : decode cL_law 393 = .ok (.ireturn, 1) := by decide +kernel
theorem dL_law_394 : decode cL_law 394 = .ok (.aload_n 1, 1) := by decide +kernel
theorem dL_law_395 : decode cL_law 395 = .ok (.aload_n 0, 1) := by decide +kernel
theorem dL_law_396 : decode cL_law 396 = .ok (.iload_n 3, 1) := by decide +kernel
theorem dL_law_397 : decode cL_law 397 = .ok (.iconst 1, 1) := by decide +kernel
theorem dL_law_398 : decode cL_law 398 = .ok (.iadd, 1) := by decide +kernel
theorem dL_law_399 : decode cL_law 399 = .ok (.iaload, 1) := by decide +kernel
theorem dL_law_400 : decode cL_law 400 = .ok (.i2l, 1) := by decide +kernel
theorem dL_law_401 : decode cL_law 401 = .ok (.bipush 32, 2) := by decide +kernel
theorem dL_law_403 : decode cL_law 403 = .ok (.lshl, 1) := by decide +kernel
theorem dL_law_404 : decode cL_law 404 = .ok (.aload_n 0, 1) := by decide +kernel
theorem dL_law_405 : decode cL_law 405 = .ok (.iload_n 3, 1) := by decide +kernel
theorem dL_law_406 : decode cL_law 406 = .ok (.iconst 2, 1) := by decide +kernel
theorem dL_law_407 : decode cL_law 407 = .ok (.iadd, 1) := by decide +kernel
theorem dL_law_408 : decode cL_law 408 = .ok (.iaload, 1) := by decide +kernel
theorem dL_law_409 : decode cL_law 409 = .ok (.i2l, 1) := by decide +kernel
theorem dL_law_410 : decode cL_law 410 = .ok (.ldc2_w 48, 3) := by decide +kernel
theorem dL_law_413 : decode cL_law 413 = .ok (.land, 1) := by decide +kernel
theorem dL_law_414 : decode cL_law 414 = .ok (.lor, 1) := by decide +kernel
theorem dL_law_415 : decode cL_law 415 = .ok (.invokevirtual 50, 3) := by decide +kernel
theorem dL_law_418 : decode cL_law 418 = .ok (.aload_n 2, 1) := by decide +kernel
theorem dL_law_419 : decode cL_law 419 = .ok (.aload_n 0, 1) := by decide +kernel
theorem dL_law_420 : decode cL_law 420 = .ok (.iload_n 3, 1) := by decide +kernel
theorem dL_law_421 : decode cL_law 421 = .ok (.iconst 1, 1) := by decide +kernel
theorem dL_law_422 : decode cL_law 422 = .ok (.iadd, 1) := by decide +kernel
theorem dL_law_423 : decode cL_law 423 = .ok (.iaload, 1) := by decide +kernel
theorem dL_law_424 : decode cL_law 424 = .ok (.i2l, 1) := by decide +kernel
theorem dL_law_425 : decode cL_law 425 = .ok (.bipush 32, 2) := by decide +kernel
theorem dL_law_427 : decode cL_law 427 = .ok (.lshl, 1) := by decide +kernel
theorem dL_law_428 : decode cL_law 428 = .ok (.aload_n 0, 1) := by decide +kernel
theorem dL_law_429 : decode cL_law 429 = .ok (.iload_n 3, 1) := by decide +kernel
theorem dL_law_430 : decode cL_law 430 = .ok (.iconst 2, 1) := by decide +kernel
theorem dL_law_431 : decode cL_law 431 = .ok (.iadd, 1) := by decide +kernel
theorem dL_law_432 : decode cL_law 432 = .ok (.iaload, 1) := by decide +kernel
theorem dL_law_433 : decode cL_law 433 = .ok (.i2l, 1) := by decide +kernel
theorem dL_law_434 : decode cL_law 434 = .ok (.ldc2_w 48, 3) := by decide +kernel
theorem dL_law_437 : decode cL_law 437 = .ok (.land, 1) := by decide +kernel
theorem dL_law_438 : decode cL_law 438 = .ok (.lor, 1) := by decide +kernel
theorem dL_law_439 : decode cL_law 439 = .ok (.invokevirtual 54, 3) := by decide +kernel
theorem dL_law_442 : decode cL_law 442 = .ok (.if_icmp .eq 637, 3) := by decide +kernel
theorem dL_law_445 : decode cL_law 445 = .ok (.iconst 0, 1) := by decide +kernel
theorem dL_law_446 : decode cL_law 446 = .ok (.ireturn, 1) := by decide +kernel
theorem dL_law_447 : decode cL_law 447 = .ok (.aload_n 1, 1) := by decide +kernel
theorem dL_law_448 : decode cL_law 448 = .ok (.aload_n 0, 1) := by decide +kernel
theorem dL_law_449 : decode cL_law 449 = .ok (.iload_n 3, 1) := by decide +kernel
theorem dL_law_450 : decode cL_law 450 = .ok (.iconst 1, 1) := by decide +kernel
theorem dL_law_451 : decode cL_law 451 = .ok (.iadd, 1) := by decide +kernel
theorem dL_law_452 : decode cL_law 452 = .ok (.iaload, 1) := by decide +kernel
theorem dL_law_453 : decode cL_law 453 = .ok (.invokevirtual 55, 3) := by decide +kernel
theorem dL_law_456 : decode cL_law 456 = .ok (.aload_n 2, 1) := by decide +kernel
theorem dL_law_457 : decode cL_law 457 = .ok (.aload_n 0, 1) := by decide +kernel
theorem dL_law_458 : decode cL_law 458 = .ok (.iload_n 3, 1) := by decide +kernel
theorem dL_law_459 : decode cL_law 459 = .ok (.iconst 1, 1) := by decide +kernel
theorem dL_law_460 : decode cL_law 460 = .ok (.iadd, 1) := by decide +kernel
theorem dL_law_461 : decode cL_law 461 = .ok (.iaload, 1) := by decide +kernel
theorem dL_law_462 : decode cL_law 462 = .ok (.invokevirtual 58, 3) := by decide +kernel
theorem dL_law_465 : decode cL_law 465 = .ok (.if_icmp .eq 614, 3) := by decide +kernel
theorem dL_law_468 : decode cL_law 468 = .ok (.iconst 0, 1) := by decide +kernel
theorem dL_law_469 : decode cL_law 469 = .ok (.ireturn, 1) := by decide +kernel
theorem dL_law_470 : decode cL_law 470 = .ok (.aload_n 1, 1) := by decide +kernel
theorem dL_law_471 : decode cL_law 471 = .ok (.invokevirtual 59, 3) := by decide +kernel
theorem dL_law_474 : decode cL_law 474 = .ok (.aload_n 2, 1) := by decide +kernel
theorem dL_law_475 : decode cL_law 475 = .ok (.invokevirtual 62, 3) := by decide +kernel
theorem dL_law_478 : decode cL_law 478 = .ok (.if_icmp .eq 601, 3) := by decide +kernel
theorem dL_law_481 : decode cL_law 481 = .ok (.iconst 0, 1) := by decide +kernel
theorem dL_law_482 : decode cL_law 482 = .ok (.ireturn, 1) := by decide +kernel
theorem dL_law_483 : decode cL_law 483 = .ok (.aload_n 1, 1) := by decide +kernel
theorem dL_law_484 : decode cL_law 484 = .ok (.invokevirtual 63, 3) := by decide +kernel
theorem dL_law_487 : decode cL_law 487 = .ok (.aload_n 2, 1) := by decide +kernel
theorem dL_law_488 : decode cL_law 488 = .ok (.invokevirtual 66, 3) := by decide +kernel
theorem dL_law_491 : decode cL_law 491 = .ok (.if_icmp .eq 588, 3) := by decide +kernel
theorem dL_law_494 : decode cL_law 494 = .ok (.iconst 0, 1) := by decide +kernel
theorem dL_law_495 : decode cL_law 495 = .ok (.ireturn, 1) := by decide +kernel
theorem dL_law_496 : decode cL_law 496 = .ok (.aload_n 1, 1) := by decide +kernel
theorem dL_law_497 : decode cL_law 497 = .ok (.aload_n 0, 1) := by decide +kernel
theorem dL_law_498 : decode cL_law 498 = .ok (.iload_n 3, 1) := by decide +kernel
theorem dL_law_499 : decode cL_law 499 = .ok (.iconst 1, 1) := by decide +kernel
theorem dL_law_500 : decode cL_law 500 = .ok (.iadd, 1) := by decide +kernel
theorem dL_law_501 : decode cL_law 501 = .ok (.iaload, 1) := by decide +kernel
theorem dL_law_502 : decode cL_law 502 = .ok (.aload_n 0, 1) := by decide +kernel
theorem dL_law_503 : decode cL_law 503 = .ok (.iload_n 3, 1) := by decide +kernel
theorem dL_law_504 : decode cL_law 504 = .ok (.iconst 2, 1) := by decide +kernel
theorem dL_law_505 : decode cL_law 505 = .ok (.iadd, 1) := by decide +kernel
theorem dL_law_506 : decode cL_law 506 = .ok (.iaload, 1) := by decide +kernel
theorem dL_law_507 : decode cL_law 507 = .ok (.invokevirtual 67, 3) := by decide +kernel
theorem dL_law_510 : decode cL_law 510 = .ok (.aload_n 2, 1) := by decide +kernel
theorem dL_law_511 : decode cL_law 511 = .ok (.aload_n 0, 1) := by decide +kernel
theorem dL_law_512 : decode cL_law 512 = .ok (.iload_n 3, 1) := by decide +kernel
theorem dL_law_513 : decode cL_law 513 = .ok (.iconst 1, 1) := by decide +kernel
theorem dL_law_514 : decode cL_law 514 = .ok (.iadd, 1) := by decide +kernel
theorem dL_law_515 : decode cL_law 515 = .ok (.iaload, 1) := by decide +kernel
theorem dL_law_516 : decode cL_law 516 = .ok (.aload_n 0, 1) := by decide +kernel
theorem dL_law_517 : decode cL_law 517 = .ok (.iload_n 3, 1) := by decide +kernel
theorem dL_law_518 : decode cL_law 518 = .ok (.iconst 2, 1) := by decide +kernel
theorem dL_law_519 : decode cL_law 519 = .ok (.iadd, 1) := by decide +kernel
theorem dL_law_520 : decode cL_law 520 = .ok (.iaload, 1) := by decide +kernel
theorem dL_law_521 : decode cL_law 521 = .ok (.invokevirtual 70, 3) := by decide +kernel
theorem dL_law_524 : decode cL_law 524 = .ok (.if_icmp .eq 555, 3) := by decide +kernel
theorem dL_law_527 : decode cL_law 527 = .ok (.iconst 0, 1) := by decide +kernel
theorem dL_law_528 : decode cL_law 528 = .ok (.ireturn, 1) := by decide +kernel
theorem dL_law_529 : decode cL_law 529 = .ok (.aload_n 1, 1) := by decide +kernel
theorem dL_law_530 : decode cL_law 530 = .ok (.aload_n 0, 1) := by decide +kernel
theorem dL_law_531 : decode cL_law 531 = .ok (.iload_n 3, 1) := by decide +kernel
theorem dL_law_532 : decode cL_law 532 = .ok (.iconst 1, 1) := by decide +kernel
theorem dL_law_533 : decode cL_law 533 = .ok (.iadd, 1) := by decide +kernel
theorem dL_law_534 : decode cL_law 534 = .ok (.iaload, 1) := by decide +kernel
theorem dL_law_535 : decode cL_law 535 = .ok (.invokevirtual 71, 3) := by decide +kernel
theorem dL_law_538 : decode cL_law 538 = .ok (.aload_n 2, 1) := by decide +kernel
theorem dL_law_539 : decode cL_law 539 = .ok (.aload_n 0, 1) := by decide +kernel
theorem dL_law_540 : decode cL_law 540 = .ok (.iload_n 3, 1) := by decide +kernel
theorem dL_law_541 : decode cL_law 541 = .ok (.iconst 1, 1) := by decide +kernel
theorem dL_law_542 : decode cL_law 542 = .ok (.iadd, 1) := by decide +kernel
theorem dL_law_543 : decode cL_law 543 = .ok (.iaload, 1) := by decide +kernel
theorem dL_law_544 : decode cL_law 544 = .ok (.invokevirtual 74, 3) := by decide +kernel
theorem dL_law_547 : decode cL_law 547 = .ok (.if_icmp .eq 532, 3) := by decide +kernel
theorem dL_law_550 : decode cL_law 550 = .ok (.iconst 0, 1) := by decide +kernel
theorem dL_law_551 : decode cL_law 551 = .ok (.ireturn, 1) := by decide +kernel
theorem dL_law_552 : decode cL_law 552 = .ok (.aload_n 1, 1) := by decide +kernel
theorem dL_law_553 : decode cL_law 553 = .ok (.invokevirtual 75, 3) := by decide +kernel
theorem dL_law_556 : decode cL_law 556 = .ok (.aload_n 2, 1) := by decide +kernel
theorem dL_law_557 : decode cL_law 557 = .ok (.invokevirtual 78, 3) := by decide +kernel
theorem dL_law_560 : decode cL_law 560 = .ok (.if_icmp .eq 519, 3) := by decide +kernel
theorem dL_law_563 : decode cL_law 563 = .ok (.iconst 0, 1) := by decide +kernel
theorem dL_law_564 : decode cL_law 564 = .ok (.ireturn, 1) := by decide +kernel
theorem dL_law_565 : decode cL_law 565 = .ok (.aload_n 1, 1) := by decide +kernel
theorem dL_law_566 : decode cL_law 566 = .ok (.aload_n 0, 1) := by decide +kernel
theorem dL_law_567 : decode cL_law 567 = .ok (.iload_n 3, 1) := by decide +kernel
theorem dL_law_568 : decode cL_law 568 = .ok (.iconst 1, 1) := by decide +kernel
theorem dL_law_569 : decode cL_law 569 = .ok (.iadd, 1) := by decide +kernel
theorem dL_law_570 : decode cL_law 570 = .ok (.iaload, 1) := by decide +kernel
theorem dL_law_571 : decode cL_law 571 = .ok (.invokevirtual 79, 3) := by decide +kernel
theorem dL_law_574 : decode cL_law 574 = .ok (.aload_n 2, 1) := by decide +kernel
theorem dL_law_575 : decode cL_law 575 = .ok (.aload_n 0, 1) := by decide +kernel
theorem dL_law_576 : decode cL_law 576 = .ok (.iload_n 3, 1) := by decide +kernel
theorem dL_law_577 : decode cL_law 577 = .ok (.iconst 1, 1) := by decide +kernel
theorem dL_law_578 : decode cL_law 578 = .ok (.iadd, 1) := by decide +kernel
theorem dL_law_579 : decode cL_law 579 = .ok (.iaload, 1) := by decide +kernel
theorem dL_law_580 : decode cL_law 580 = .ok (.invokevirtual 82, 3) := by decide +kernel
theorem dL_law_583 : decode cL_law 583 = .ok (.if_icmp .eq 496, 3) := by decide +kernel
theorem dL_law_586 : decode cL_law 586 = .ok (.iconst 0, 1) := by decide +kernel
theorem dL_law_587 : decode cL_law 587 = .ok (.ireturn, 1) := by decide +kernel
theorem dL_law_588 : decode cL_law 588 = .ok (.aload_n 1, 1) := by decide +kernel
theorem dL_law_589 : decode cL_law 589 = .ok (.aload_n 0, 1) := by decide +kernel
theorem dL_law_590 : decode cL_law 590 = .ok (.iload_n 3, 1) := by decide +kernel
theorem dL_law_591 : decode cL_law 591 = .ok (.iconst 1, 1) := by decide +kernel
theorem dL_law_592 : decode cL_law 592 = .ok (.iadd, 1) := by decide +kernel
theorem dL_law_593 : decode cL_law 593 = .ok (.iaload, 1) := by decide +kernel
theorem dL_law_594 : decode cL_law 594 = .ok (.invokevirtual 83, 3) := by decide +kernel
theorem dL_law_597 : decode cL_law 597 = .ok (.aload_n 2, 1) := by decide +kernel
theorem dL_law_598 : decode cL_law 598 = .ok (.aload_n 0, 1) := by decide +kernel
theorem dL_law_599 : decode cL_law 599 = .ok (.iload_n 3, 1) := by decide +kernel
theorem dL_law_600 : decode cL_law 600 = .ok (.iconst 1, 1) := by decide +kernel
theorem dL_law_601 : decode cL_law 601 = .ok (.iadd, 1) := by decide +kernel
theorem dL_law_602 : decode cL_law 602 = .ok (.iaload, 1) := by decide +kernel
theorem dL_law_603 : decode cL_law 603 = .ok (.invokevirtual 86, 3) := by decide +kernel
theorem dL_law_606 : decode cL_law 606 = .ok (.if_icmp .eq 473, 3) := by decide +kernel
theorem dL_law_609 : decode cL_law 609 = .ok (.iconst 0, 1) := by decide +kernel
theorem dL_law_610 : decode cL_law 610 = .ok (.ireturn, 1) := by decide +kernel
theorem dL_law_611 : decode cL_law 611 = .ok (.aload_n 1, 1) := by decide +kernel
theorem dL_law_612 : decode cL_law 612 = .ok (.aload_n 0, 1) := by decide +kernel
theorem dL_law_613 : decode cL_law 613 = .ok (.iload_n 3, 1) := by decide +kernel
theorem dL_law_614 : decode cL_law 614 = .ok (.iconst 1, 1) := by decide +kernel
theorem dL_law_615 : decode cL_law 615 = .ok (.iadd, 1) := by decide +kernel
theorem dL_law_616 : decode cL_law 616 = .ok (.iaload, 1) := by decide +kernel
theorem dL_law_617 : decode cL_law 617 = .ok (.invokevirtual 87, 3) := by decide +kernel
theorem dL_law_620 : decode cL_law 620 = .ok (.aload_n 2, 1) := by decide +kernel
theorem dL_law_621 : decode cL_law 621 = .ok (.aload_n 0, 1) := by decide +kernel
theorem dL_law_622 : decode cL_law 622 = .ok (.iload_n 3, 1) := by decide +kernel
theorem dL_law_623 : decode cL_law 623 = .ok (.iconst 1, 1) := by decide +kernel
theorem dL_law_624 : decode cL_law 624 = .ok (.iadd, 1) := by decide +kernel
theorem dL_law_625 : decode cL_law 625 = .ok (.iaload, 1) := by decide +kernel
theorem dL_law_626 : decode cL_law 626 = .ok (.invokevirtual 90, 3) := by decide +kernel
theorem dL_law_629 : decode cL_law 629 = .ok (.if_icmp .eq 450, 3) := by decide +kernel
theorem dL_law_632 : decode cL_law 632 = .ok (.iconst 0, 1) := by decide +kernel
theorem dL_law_633 : decode cL_law 633 = .ok (.ireturn, 1) := by decide +kernel
theorem dL_law_634 : decode cL_law 634 = .ok (.aload_n 1, 1) := by decide +kernel
theorem dL_law_635 : decode cL_law 635 = .ok (.invokevirtual 91, 3) := by decide +kernel
theorem dL_law_638 : decode cL_law 638 = .ok (.aload_n 2, 1) := by decide +kernel
theorem dL_law_639 : decode cL_law 639 = .ok (.invokevirtual 94, 3) := by decide +kernel
theorem dL_law_642 : decode cL_law 642 = .ok (.if_icmp .eq 437, 3) := by decide +kernel
theorem dL_law_645 : decode cL_law 645 = .ok (.iconst 0, 1) := by decide +kernel
theorem dL_law_646 : decode cL_law 646 = .ok (.ireturn, 1) := by decide +kernel
theorem dL_law_647 : decode cL_law 647 = .ok (.aload_n 1, 1) := by decide +kernel
theorem dL_law_648 : decode cL_law 648 = .ok (.aload_n 0, 1) := by decide +kernel
theorem dL_law_649 : decode cL_law 649 = .ok (.iload_n 3, 1) := by decide +kernel
theorem dL_law_650 : decode cL_law 650 = .ok (.iconst 1, 1) := by decide +kernel
theorem dL_law_651 : decode cL_law 651 = .ok (.iadd, 1) := by decide +kernel
theorem dL_law_652 : decode cL_law 652 = .ok (.iaload, 1) := by decide +kernel
theorem dL_law_653 : decode cL_law 653 = .ok (.invokevirtual 95, 3) := by decide +kernel
theorem dL_law_656 : decode cL_law 656 = .ok (.aload_n 2, 1) := by decide +kernel
theorem dL_law_657 : decode cL_law 657 = .ok (.aload_n 0, 1) := by decide +kernel
theorem dL_law_658 : decode cL_law 658 = .ok (.iload_n 3, 1) := by decide +kernel
theorem dL_law_659 : decode cL_law 659 = .ok (.iconst 1, 1) := by decide +kernel
theorem dL_law_660 : decode cL_law 660 = .ok (.iadd, 1) := by decide +kernel
theorem dL_law_661 : decode cL_law 661 = .ok (.iaload, 1) := by decide +kernel
theorem dL_law_662 : decode cL_law 662 = .ok (.invokevirtual 98, 3) := by decide +kernel
theorem dL_law_665 : decode cL_law 665 = .ok (.if_icmp .eq 414, 3) := by decide +kernel
theorem dL_law_668 : decode cL_law 668 = .ok (.iconst 0, 1) := by decide +kernel
theorem dL_law_669 : decode cL_law 669 = .ok (.ireturn, 1) := by decide +kernel
theorem dL_law_670 : decode cL_law 670 = .ok (.aload_n 1, 1) := by decide +kernel
theorem dL_law_671 : decode cL_law 671 = .ok (.aload_n 0, 1) := by decide +kernel
theorem dL_law_672 : decode cL_law 672 = .ok (.iload_n 3, 1) := by decide +kernel
theorem dL_law_673 : decode cL_law 673 = .ok (.iconst 1, 1) := by decide +kernel
theorem dL_law_674 : decode cL_law 674 = .ok (.iadd, 1) := by decide +kernel
theorem dL_law_675 : decode cL_law 675 = .ok (.iaload, 1) := by decide +kernel
theorem dL_law_676 : decode cL_law 676 = .ok (.invokevirtual 99, 3) := by decide +kernel
theorem dL_law_679 : decode cL_law 679 = .ok (.aload_n 2, 1) := by decide +kernel
theorem dL_law_680 : decode cL_law 680 = .ok (.aload_n 0, 1) := by decide +kernel
theorem dL_law_681 : decode cL_law 681 = .ok (.iload_n 3, 1) := by decide +kernel
theorem dL_law_682 : decode cL_law 682 = .ok (.iconst 1, 1) := by decide +kernel
theorem dL_law_683 : decode cL_law 683 = .ok (.iadd, 1) := by decide +kernel
theorem dL_law_684 : decode cL_law 684 = .ok (.iaload, 1) := by decide +kernel
theorem dL_law_685 : decode cL_law 685 = .ok (.invokevirtual 102, 3) := by decide +kernel
theorem dL_law_688 : decode cL_law 688 = .ok (.if_icmp .eq 391, 3) := by decide +kernel
theorem dL_law_691 : decode cL_law 691 = .ok (.iconst 0, 1) := by decide +kernel
theorem dL_law_692 : decode cL_law 692 = .ok (.ireturn, 1) := by decide +kernel
theorem dL_law_693 : decode cL_law 693 = .ok (.aload_n 1, 1) := by decide +kernel
theorem dL_law_694 : decode cL_law 694 = .ok (.aload_n 0, 1) := by decide +kernel
theorem dL_law_695 : decode cL_law 695 = .ok (.iload_n 3, 1) := by decide +kernel
theorem dL_law_696 : decode cL_law 696 = .ok (.iconst 1, 1) := by decide +kernel
theorem dL_law_697 : decode cL_law 697 = .ok (.iadd, 1) := by decide +kernel
theorem dL_law_698 : decode cL_law 698 = .ok (.iaload, 1) := by decide +kernel
theorem dL_law_699 : decode cL_law 699 = .ok (.invokevirtual 103, 3) := by decide +kernel
theorem dL_law_702 : decode cL_law 702 = .ok (.aload_n 2, 1) := by decide +kernel
theorem dL_law_703 : decode cL_law 703 = .ok (.aload_n 0, 1) := by decide +kernel
theorem dL_law_704 : decode cL_law 704 = .ok (.iload_n 3, 1) := by decide +kernel
theorem dL_law_705 : decode cL_law 705 = .ok (.iconst 1, 1) := by decide +kernel
theorem dL_law_706 : decode cL_law 706 = .ok (.iadd, 1) := by decide +kernel
theorem dL_law_707 : decode cL_law 707 = .ok (.iaload, 1) := by decide +kernel
theorem dL_law_708 : decode cL_law 708 = .ok (.invokevirtual 106, 3) := by decide +kernel
theorem dL_law_711 : decode cL_law 711 = .ok (.if_icmp .eq 368, 3) := by decide +kernel
theorem dL_law_714 : decode cL_law 714 = .ok (.iconst 0, 1) := by decide +kernel
theorem dL_law_715 : decode cL_law 715 = .ok (.ireturn, 1) := by decide +kernel
theorem dL_law_716 : decode cL_law 716 = .ok (.aload_n 1, 1) := by decide +kernel
theorem dL_law_717 : decode cL_law 717 = .ok (.aload_n 0, 1) := by decide +kernel
theorem dL_law_718 : decode cL_law 718 = .ok (.iload_n 3, 1) := by decide +kernel
theorem dL_law_719 : decode cL_law 719 = .ok (.iconst 1, 1) := by decide +kernel
theorem dL_law_720 : decode cL_law 720 = .ok (.iadd, 1) := by decide +kernel
theorem dL_law_721 : decode cL_law 721 = .ok (.iaload, 1) := by decide +kernel
theorem dL_law_722 : decode cL_law 722 = .ok (.aload_n 0, 1) := by decide +kernel
theorem dL_law_723 : decode cL_law 723 = .ok (.iload_n 3, 1) := by decide +kernel
theorem dL_law_724 : decode cL_law 724 = .ok (.iconst 2, 1) := by decide +kernel
theorem dL_law_725 : decode cL_law 725 = .ok (.iadd, 1) := by decide +kernel
theorem dL_law_726 : decode cL_law 726 = .ok (.iaload, 1) := by decide +kernel
theorem dL_law_727 : decode cL_law 727 = .ok (.invokevirtual 107, 3) := by decide +kernel
theorem dL_law_730 : decode cL_law 730 = .ok (.aload_n 2, 1) := by decide +kernel
theorem dL_law_731 : decode cL_law 731 = .ok (.aload_n 0, 1) := by decide +kernel
theorem dL_law_732 : decode cL_law 732 = .ok (.iload_n 3, 1) := by decide +kernel
theorem dL_law_733 : decode cL_law 733 = .ok (.iconst 1, 1) := by decide +kernel
theorem dL_law_734 : decode cL_law 734 = .ok (.iadd, 1) := by decide +kernel
theorem dL_law_735 : decode cL_law 735 = .ok (.iaload, 1) := by decide +kernel
theorem dL_law_736 : decode cL_law 736 = .ok (.aload_n 0, 1) := by decide +kernel
theorem dL_law_737 : decode cL_law 737 = .ok (.iload_n 3, 1) := by decide +kernel
theorem dL_law_738 : decode cL_law 738 = .ok (.iconst 2, 1) := by decide +kernel
theorem dL_law_739 : decode cL_law 739 = .ok (.iadd, 1) := by decide +kernel
theorem dL_law_740 : decode cL_law 740 = .ok (.iaload, 1) := by decide +kernel
theorem dL_law_741 : decode cL_law 741 = .ok (.invokevirtual 110, 3) := by decide +kernel
theorem dL_law_744 : decode cL_law 744 = .ok (.if_icmp .eq 335, 3) := by decide +kernel
theorem dL_law_747 : decode cL_law 747 = .ok (.iconst 0, 1) := by decide +kernel
theorem dL_law_748 : decode cL_law 748 = .ok (.ireturn, 1) := by decide +kernel
theorem dL_law_749 : decode cL_law 749 = .ok (.aload_n 1, 1) := by decide +kernel
theorem dL_law_750 : decode cL_law 750 = .ok (.aload_n 0, 1) := by decide +kernel
theorem dL_law_751 : decode cL_law 751 = .ok (.iload_n 3, 1) := by decide +kernel
theorem dL_law_752 : decode cL_law 752 = .ok (.iconst 1, 1) := by decide +kernel
theorem dL_law_753 : decode cL_law 753 = .ok (.iadd, 1) := by decide +kernel
theorem dL_law_754 : decode cL_law 754 = .ok (.iaload, 1) := by decide +kernel
theorem dL_law_755 : decode cL_law 755 = .ok (.invokevirtual 111, 3) := by decide +kernel
theorem dL_law_758 : decode cL_law 758 = .ok (.aload_n 2, 1) := by decide +kernel
theorem dL_law_759 : decode cL_law 759 = .ok (.aload_n 0, 1) := by decide +kernel
theorem dL_law_760 : decode cL_law 760 = .ok (.iload_n 3, 1) := by decide +kernel
theorem dL_law_761 : decode cL_law 761 = .ok (.iconst 1, 1) := by decide +kernel
theorem dL_law_762 : decode cL_law 762 = .ok (.iadd, 1) := by decide +kernel
theorem dL_law_763 : decode cL_law 763 = .ok (.iaload, 1) := by decide +kernel
theorem dL_law_764 : decode cL_law 764 = .ok (.invokevirtual 114, 3) := by decide +kernel
theorem dL_law_767 : decode cL_law 767 = .ok (.if_icmp .eq 312, 3) := by decide +kernel
theorem dL_law_770 : decode cL_law 770 = .ok (.iconst 0, 1) := by decide +kernel
theorem dL_law_771 : decode cL_law 771 = .ok (.ireturn, 1) := by decide +kernel
theorem dL_law_772 : decode cL_law 772 = .ok (.aload_n 1, 1) := by decide +kernel
theorem dL_law_773 : decode cL_law 773 = .ok (.invokevirtual 115, 3) := by decide +kernel
theorem dL_law_776 : decode cL_law 776 = .ok (.aload_n 2, 1) := by decide +kernel
theorem dL_law_777 : decode cL_law 777 = .ok (.invokevirtual 118, 3) := by decide +kernel
theorem dL_law_780 : decode cL_law 780 = .ok (.if_icmp .eq 299, 3) := by decide +kernel
theorem dL_law_783 : decode cL_law 783 = .ok (.iconst 0, 1) := by decide +kernel
theorem dL_law_784 : decode cL_law 784 = .ok (.ireturn, 1) := by decide +kernel
theorem dL_law_785 : decode cL_law 785 = .ok (.aload_n 1, 1) := by decide +kernel
theorem dL_law_786 : decode cL_law 786 = .ok (.aload_n 0, 1) := by decide +kernel
theorem dL_law_787 : decode cL_law 787 = .ok (.iload_n 3, 1) := by decide +kernel
theorem dL_law_788 : decode cL_law 788 = .ok (.iconst 1, 1) := by decide +kernel
theorem dL_law_789 : decode cL_law 789 = .ok (.iadd, 1) := by decide +kernel
theorem dL_law_790 : decode cL_law 790 = .ok (.iaload, 1) := by decide +kernel
theorem dL_law_791 : decode cL_law 791 = .ok (.aload_n 0, 1) := by decide +kernel
theorem dL_law_792 : decode cL_law 792 = .ok (.iload_n 3, 1) := by decide +kernel
theorem dL_law_793 : decode cL_law 793 = .ok (.iconst 2, 1) := by decide +kernel
theorem dL_law_794 : decode cL_law 794 = .ok (.iadd, 1) := by decide +kernel
theorem dL_law_795 : decode cL_law 795 = .ok (.iaload, 1) := by decide +kernel
theorem dL_law_796 : decode cL_law 796 = .ok (.invokevirtual 119, 3) := by decide +kernel
theorem dL_law_799 : decode cL_law 799 = .ok (.aload_n 2, 1) := by decide +kernel
theorem dL_law_800 : decode cL_law 800 = .ok (.aload_n 0, 1) := by decide +kernel
theorem dL_law_801 : decode cL_law 801 = .ok (.iload_n 3, 1) := by decide +kernel
theorem dL_law_802 : decode cL_law 802 = .ok (.iconst 1, 1) := by decide +kernel
theorem dL_law_803 : decode cL_law 803 = .ok (.iadd, 1) := by decide +kernel
theorem dL_law_804 : decode cL_law 804 = .ok (.iaload, 1) := by decide +kernel
theorem dL_law_805 : decode cL_law 805 = .ok (.aload_n 0, 1) := by decide +kernel
theorem dL_law_806 : decode cL_law 806 = .ok (.iload_n 3, 1) := by decide +kernel
theorem dL_law_807 : decode cL_law 807 = .ok (.iconst 2, 1) := by decide +kernel
theorem dL_law_808 : decode cL_law 808 = .ok (.iadd, 1) := by decide +kernel
theorem dL_law_809 : decode cL_law 809 = .ok (.iaload, 1) := by decide +kernel
theorem dL_law_810 : decode cL_law 810 = .ok (.invokevirtual 122, 3) := by decide +kernel
theorem dL_law_813 : decode cL_law 813 = .ok (.if_icmp .eq 266, 3) := by decide +kernel
theorem dL_law_816 : decode cL_law 816 = .ok (.iconst 0, 1) := by decide +kernel
theorem dL_law_817 : decode cL_law 817 = .ok (.ireturn, 1) := by decide +kernel
theorem dL_law_818 : decode cL_law 818 = .ok (.aload_n 1, 1) := by decide +kernel
theorem dL_law_819 : decode cL_law 819 = .ok (.aload_n 0, 1) := by decide +kernel
theorem dL_law_820 : decode cL_law 820 = .ok (.iload_n 3, 1) := by decide +kernel
theorem dL_law_821 : decode cL_law 821 = .ok (.iconst 1, 1) := by decide +kernel
theorem dL_law_822 : decode cL_law 822 = .ok (.iadd, 1) := by decide +kernel
theorem dL_law_823 : decode cL_law 823 = .ok (.iaload, 1) := by decide +kernel
theorem dL_law_824 : decode cL_law 824 = .ok (.aload_n 0, 1) := by decide +kernel
theorem dL_law_825 : decode cL_law 825 = .ok (.iload_n 3, 1) := by decide +kernel
theorem dL_law_826 : decode cL_law 826 = .ok (.iconst 2, 1) := by decide +kernel
theorem dL_law_827 : decode cL_law 827 = .ok (.iadd, 1) := by decide +kernel
theorem dL_law_828 : decode cL_law 828 = .ok (.iaload, 1) := by decide +kernel
theorem dL_law_829 : decode cL_law 829 = .ok (.invokevirtual 123, 3) := by decide +kernel
theorem dL_law_832 : decode cL_law 832 = .ok (.aload_n 2, 1) := by decide +kernel
theorem dL_law_833 : decode cL_law 833 = .ok (.aload_n 0, 1) := by decide +kernel
theorem dL_law_834 : decode cL_law 834 = .ok (.iload_n 3, 1) := by decide +kernel
theorem dL_law_835 : decode cL_law 835 = .ok (.iconst 1, 1) := by decide +kernel
theorem dL_law_836 : decode cL_law 836 = .ok (.iadd, 1) := by decide +kernel
theorem dL_law_837 : decode cL_law 837 = .ok (.iaload, 1) := by decide +kernel
theorem dL_law_838 : decode cL_law 838 = .ok (.aload_n 0, 1) := by decide +kernel
theorem dL_law_839 : decode cL_law 839 = .ok (.iload_n 3, 1) := by decide +kernel
theorem dL_law_840 : decode cL_law 840 = .ok (.iconst 2, 1) := by decide +kernel
theorem dL_law_841 : decode cL_law 841 = .ok (.iadd, 1) := by decide +kernel
theorem dL_law_842 : decode cL_law 842 = .ok (.iaload, 1) := by decide +kernel
theorem dL_law_843 : decode cL_law 843 = .ok (.invokevirtual 126, 3) := by decide +kernel
theorem dL_law_846 : decode cL_law 846 = .ok (.if_icmp .eq 233, 3) := by decide +kernel
theorem dL_law_849 : decode cL_law 849 = .ok (.iconst 0, 1) := by decide +kernel
theorem dL_law_850 : decode cL_law 850 = .ok (.ireturn, 1) := by decide +kernel
theorem dL_law_851 : decode cL_law 851 = .ok (.aload_n 1, 1) := by decide +kernel
theorem dL_law_852 : decode cL_law 852 = .ok (.aload_n 0, 1) := by decide +kernel
theorem dL_law_853 : decode cL_law 853 = .ok (.iload_n 3, 1) := by decide +kernel
theorem dL_law_854 : decode cL_law 854 = .ok (.iconst 1, 1) := by decide +kernel
theorem dL_law_855 : decode cL_law 855 = .ok (.iadd, 1) := by decide +kernel
theorem dL_law_856 : decode cL_law 856 = .ok (.iaload, 1) := by decide +kernel
theorem dL_law_857 : decode cL_law 857 = .ok (.aload_n 0, 1) := by decide +kernel
theorem dL_law_858 : decode cL_law 858 = .ok (.iload_n 3, 1) := by decide +kernel
theorem dL_law_859 : decode cL_law 859 = .ok (.iconst 2, 1) := by decide +kernel
theorem dL_law_860 : decode cL_law 860 = .ok (.iadd, 1) := by decide +kernel
theorem dL_law_861 : decode cL_law 861 = .ok (.iaload, 1) := by decide +kernel
theorem dL_law_862 : decode cL_law 862 = .ok (.aload_n 0, 1) := by decide +kernel
theorem dL_law_863 : decode cL_law 863 = .ok (.iload_n 3, 1) := by decide +kernel
theorem dL_law_864 : decode cL_law 864 = .ok (.iconst 3, 1) := by decide +kernel
theorem dL_law_865 : decode cL_law 865 = .ok (.iadd, 1) := by decide +kernel
theorem dL_law_866 : decode cL_law 866 = .ok (.iaload, 1) := by decide +kernel
theorem dL_law_867 : decode cL_law 867 = .ok (.invokevirtual 127, 3) := by decide +kernel
theorem dL_law_870 : decode cL_law 870 = .ok (.aload_n 2, 1) := by decide +kernel
theorem dL_law_871 : decode cL_law 871 = .ok (.aload_n 0, 1) := by decide +kernel
theorem dL_law_872 : decode cL_law 872 = .ok (.iload_n 3, 1) := by decide +kernel
theorem dL_law_873 : decode cL_law 873 = .ok (.iconst 1, 1) := by decide +kernel
theorem dL_law_874 : decode cL_law 874 = .ok (.iadd, 1) := by decide +kernel
theorem dL_law_875 : decode cL_law 875 = .ok (.iaload, 1) := by decide +kernel
theorem dL_law_876 : decode cL_law 876 = .ok (.aload_n 0, 1) := by decide +kernel
theorem dL_law_877 : decode cL_law 877 = .ok (.iload_n 3, 1) := by decide +kernel
theorem dL_law_878 : decode cL_law 878 = .ok (.iconst 2, 1) := by decide +kernel
theorem dL_law_879 : decode cL_law 879 = .ok (.iadd, 1) := by decide +kernel
theorem dL_law_880 : decode cL_law 880 = .ok (.iaload, 1) := by decide +kernel
theorem dL_law_881 : decode cL_law 881 = .ok (.aload_n 0, 1) := by decide +kernel
theorem dL_law_882 : decode cL_law 882 = .ok (.iload_n 3, 1) := by decide +kernel
theorem dL_law_883 : decode cL_law 883 = .ok (.iconst 3, 1) := by decide +kernel
theorem dL_law_884 : decode cL_law 884 = .ok (.iadd, 1) := by decide +kernel
theorem dL_law_885 : decode cL_law 885 = .ok (.iaload, 1) := by decide +kernel
theorem dL_law_886 : decode cL_law 886 = .ok (.invokevirtual 131, 3) := by decide +kernel
theorem dL_law_889 : decode cL_law 889 = .ok (.if_icmp .eq 190, 3) := by decide +kernel
theorem dL_law_892 : decode cL_law 892 = .ok (.iconst 0, 1) := by decide +kernel
theorem dL_law_893 : decode cL_law 893 = .ok (.ireturn, 1) := by decide +kernel
theorem dL_law_894 : decode cL_law 894 = .ok (.aload_n 1, 1) := by decide +kernel
theorem dL_law_895 : decode cL_law 895 = .ok (.aload_n 0, 1) := by decide +kernel
theorem dL_law_896 : decode cL_law 896 = .ok (.iload_n 3, 1) := by decide +kernel
theorem dL_law_897 : decode cL_law 897 = .ok (.iconst 1, 1) := by decide +kernel
theorem dL_law_898 : decode cL_law 898 = .ok (.iadd, 1) := by decide +kernel
theorem dL_law_899 : decode cL_law 899 = .ok (.iaload, 1) := by decide +kernel
theorem dL_law_900 : decode cL_law 900 = .ok (.invokevirtual 132, 3) := by decide +kernel
theorem dL_law_903 : decode cL_law 903 = .ok (.aload_n 2, 1) := by decide +kernel
theorem dL_law_904 : decode cL_law 904 = .ok (.aload_n 0, 1) := by decide +kernel
theorem dL_law_905 : decode cL_law 905 = .ok (.iload_n 3, 1) := by decide +kernel
theorem dL_law_906 : decode cL_law 906 = .ok (.iconst 1, 1) := by decide +kernel
theorem dL_law_907 : decode cL_law 907 = .ok (.iadd, 1) := by decide +kernel
theorem dL_law_908 : decode cL_law 908 = .ok (.iaload, 1) := by decide +kernel
theorem dL_law_909 : decode cL_law 909 = .ok (.invokevirtual 135, 3) := by decide +kernel
theorem dL_law_912 : decode cL_law 912 = .ok (.if_icmp .eq 167, 3) := by decide +kernel
theorem dL_law_915 : decode cL_law 915 = .ok (.iconst 0, 1) := by decide +kernel
theorem dL_law_916 : decode cL_law 916 = .ok (.ireturn, 1) := by decide +kernel
theorem dL_law_917 : decode cL_law 917 = .ok (.aload_n 1, 1) := by decide +kernel
theorem dL_law_918 : decode cL_law 918 = .ok (.aload_n 0, 1) := by decide +kernel
theorem dL_law_919 : decode cL_law 919 = .ok (.iload_n 3, 1) := by decide +kernel
theorem dL_law_920 : decode cL_law 920 = .ok (.iconst 1, 1) := by decide +kernel
theorem dL_law_921 : decode cL_law 921 = .ok (.iadd, 1) := by decide +kernel
theorem dL_law_922 : decode cL_law 922 = .ok (.iaload, 1) := by decide +kernel
theorem dL_law_923 : decode cL_law 923 = .ok (.aload_n 0, 1) := by decide +kernel
theorem dL_law_924 : decode cL_law 924 = .ok (.iload_n 3, 1) := by decide +kernel
theorem dL_law_925 : decode cL_law 925 = .ok (.iconst 2, 1) := by decide +kernel
theorem dL_law_926 : decode cL_law 926 = .ok (.iadd, 1) := by decide +kernel
theorem dL_law_927 : decode cL_law 927 = .ok (.iaload, 1) := by decide +kernel
theorem dL_law_928 : decode cL_law 928 = .ok (.aload_n 0, 1) := by decide +kernel
theorem dL_law_929 : decode cL_law 929 = .ok (.iload_n 3, 1) := by decide +kernel
theorem dL_law_930 : decode cL_law 930 = .ok (.iconst 3, 1) := by decide +kernel
theorem dL_law_931 : decode cL_law 931 = .ok (.iadd, 1) := by decide +kernel
theorem dL_law_932 : decode cL_law 932 = .ok (.iaload, 1) := by decide +kernel
theorem dL_law_933 : decode cL_law 933 = .ok (.invokevirtual 136, 3) := by decide +kernel
theorem dL_law_936 : decode cL_law 936 = .ok (.aload_n 2, 1) := by decide +kernel
theorem dL_law_937 : decode cL_law 937 = .ok (.aload_n 0, 1) := by decide +kernel
theorem dL_law_938 : decode cL_law 938 = .ok (.iload_n 3, 1) := by decide +kernel
theorem dL_law_939 : decode cL_law 939 = .ok (.iconst 1, 1) := by decide +kernel
theorem dL_law_940 : decode cL_law 940 = .ok (.iadd, 1) := by decide +kernel
theorem dL_law_941 : decode cL_law 941 = .ok (.iaload, 1) := by decide +kernel
theorem dL_law_942 : decode cL_law 942 = .ok (.aload_n 0, 1) := by decide +kernel
theorem dL_law_943 : decode cL_law 943 = .ok (.iload_n 3, 1) := by decide +kernel
theorem dL_law_944 : decode cL_law 944 = .ok (.iconst 2, 1) := by decide +kernel
theorem dL_law_945 : decode cL_law 945 = .ok (.iadd, 1) := by decide +kernel
theorem dL_law_946 : decode cL_law 946 = .ok (.iaload, 1) := by decide +kernel
theorem dL_law_947 : decode cL_law 947 = .ok (.aload_n 0, 1) := by decide +kernel
theorem dL_law_948 : decode cL_law 948 = .ok (.iload_n 3, 1) := by decide +kernel
theorem dL_law_949 : decode cL_law 949 = .ok (.iconst 3, 1) := by decide +kernel
theorem dL_law_950 : decode cL_law 950 = .ok (.iadd, 1) := by decide +kernel
theorem dL_law_951 : decode cL_law 951 = .ok (.iaload, 1) := by decide +kernel
theorem dL_law_952 : decode cL_law 952 = .ok (.invokevirtual 139, 3) := by decide +kernel
theorem dL_law_955 : decode cL_law 955 = .ok (.if_icmp .eq 124, 3) := by decide +kernel
theorem dL_law_958 : decode cL_law 958 = .ok (.iconst 0, 1) := by decide +kernel
theorem dL_law_959 : decode cL_law 959 = .ok (.ireturn, 1) := by decide +kernel
theorem dL_law_960 : decode cL_law 960 = .ok (.aload_n 1, 1) := by decide +kernel
theorem dL_law_961 : decode cL_law 961 = .ok (.aload_n 0, 1) := by decide +kernel
theorem dL_law_962 : decode cL_law 962 = .ok (.iload_n 3, 1) := by decide +kernel
theorem dL_law_963 : decode cL_law 963 = .ok (.iconst 1, 1) := by decide +kernel
theorem dL_law_964 : decode cL_law 964 = .ok (.iadd, 1) := by decide +kernel
theorem dL_law_965 : decode cL_law 965 = .ok (.iaload, 1) := by decide +kernel
theorem dL_law_966 : decode cL_law 966 = .ok (.aload_n 0, 1) := by decide +kernel
theorem dL_law_967 : decode cL_law 967 = .ok (.iload_n 3, 1) := by decide +kernel
theorem dL_law_968 : decode cL_law 968 = .ok (.iconst 2, 1) := by decide +kernel
theorem dL_law_969 : decode cL_law 969 = .ok (.iadd, 1) := by decide +kernel
theorem dL_law_970 : decode cL_law 970 = .ok (.iaload, 1) := by decide +kernel
theorem dL_law_971 : decode cL_law 971 = .ok (.aload_n 0, 1) := by decide +kernel
theorem dL_law_972 : decode cL_law 972 = .ok (.iload_n 3, 1) := by decide +kernel
theorem dL_law_973 : decode cL_law 973 = .ok (.iconst 3, 1) := by decide +kernel
theorem dL_law_974 : decode cL_law 974 = .ok (.iadd, 1) := by decide +kernel
theorem dL_law_975 : decode cL_law 975 = .ok (.iaload, 1) := by decide +kernel
theorem dL_law_976 : decode cL_law 976 = .ok (.invokevirtual 140, 3) := by decide +kernel
theorem dL_law_979 : decode cL_law 979 = .ok (.aload_n 2, 1) := by decide +kernel
theorem dL_law_980 : decode cL_law 980 = .ok (.aload_n 0, 1) := by decide +kernel
theorem dL_law_981 : decode cL_law 981 = .ok (.iload_n 3, 1) := by decide +kernel
theorem dL_law_982 : decode cL_law 982 = .ok (.iconst 1, 1) := by decide +kernel
theorem dL_law_983 : decode cL_law 983 = .ok (.iadd, 1) := by decide +kernel
theorem dL_law_984 : decode cL_law 984 = .ok (.iaload, 1) := by decide +kernel
theorem dL_law_985 : decode cL_law 985 = .ok (.aload_n 0, 1) := by decide +kernel
theorem dL_law_986 : decode cL_law 986 = .ok (.iload_n 3, 1) := by decide +kernel
theorem dL_law_987 : decode cL_law 987 = .ok (.iconst 2, 1) := by decide +kernel
theorem dL_law_988 : decode cL_law 988 = .ok (.iadd, 1) := by decide +kernel
theorem dL_law_989 : decode cL_law 989 = .ok (.iaload, 1) := by decide +kernel
theorem dL_law_990 : decode cL_law 990 = .ok (.aload_n 0, 1) := by decide +kernel
theorem dL_law_991 : decode cL_law 991 = .ok (.iload_n 3, 1) := by decide +kernel
theorem dL_law_992 : decode cL_law 992 = .ok (.iconst 3, 1) := by decide +kernel
theorem dL_law_993 : decode cL_law 993 = .ok (.iadd, 1) := by decide +kernel
theorem dL_law_994 : decode cL_law 994 = .ok (.iaload, 1) := by decide +kernel
theorem dL_law_995 : decode cL_law 995 = .ok (.invokevirtual 143, 3) := by decide +kernel
theorem dL_law_998 : decode cL_law 998 = .ok (.if_icmp .eq 81, 3) := by decide +kernel
theorem dL_law_1001 : decode cL_law 1001 = .ok (.iconst 0, 1) := by decide +kernel
theorem dL_law_1002 : decode cL_law 1002 = .ok (.ireturn, 1) := by decide +kernel
theorem dL_law_1003 : decode cL_law 1003 = .ok (.aload_n 1, 1) := by decide +kernel
theorem dL_law_1004 : decode cL_law 1004 = .ok (.aload_n 0, 1) := by decide +kernel
theorem dL_law_1005 : decode cL_law 1005 = .ok (.iload_n 3, 1) := by decide +kernel
theorem dL_law_1006 : decode cL_law 1006 = .ok (.iconst 1, 1) := by decide +kernel
theorem dL_law_1007 : decode cL_law 1007 = .ok (.iadd, 1) := by decide +kernel
theorem dL_law_1008 : decode cL_law 1008 = .ok (.iaload, 1) := by decide +kernel
theorem dL_law_1009 : decode cL_law 1009 = .ok (.aload_n 0, 1) := by decide +kernel
theorem dL_law_1010 : decode cL_law 1010 = .ok (.iload_n 3, 1) := by decide +kernel
theorem dL_law_1011 : decode cL_law 1011 = .ok (.iconst 2, 1) := by decide +kernel
theorem dL_law_1012 : decode cL_law 1012 = .ok (.iadd, 1) := by decide +kernel
theorem dL_law_1013 : decode cL_law 1013 = .ok (.iaload, 1) := by decide +kernel
theorem dL_law_1014 : decode cL_law 1014 = .ok (.aload_n 0, 1) := by decide +kernel
theorem dL_law_1015 : decode cL_law 1015 = .ok (.iload_n 3, 1) := by decide +kernel
theorem dL_law_1016 : decode cL_law 1016 = .ok (.iconst 3, 1) := by decide +kernel
theorem dL_law_1017 : decode cL_law 1017 = .ok (.iadd, 1) := by decide +kernel
theorem dL_law_1018 : decode cL_law 1018 = .ok (.iaload, 1) := by decide +kernel
theorem dL_law_1019 : decode cL_law 1019 = .ok (.aload_n 0, 1) := by decide +kernel
theorem dL_law_1020 : decode cL_law 1020 = .ok (.iload_n 3, 1) := by decide +kernel
theorem dL_law_1021 : decode cL_law 1021 = .ok (.iconst 4, 1) := by decide +kernel
theorem dL_law_1022 : decode cL_law 1022 = .ok (.iadd, 1) := by decide +kernel
theorem dL_law_1023 : decode cL_law 1023 = .ok (.iaload, 1) := by decide +kernel
theorem dL_law_1024 : decode cL_law 1024 = .ok (.invokevirtual 144, 3) := by decide +kernel
theorem dL_law_1027 : decode cL_law 1027 = .ok (.aload_n 2, 1) := by decide +kernel
theorem dL_law_1028 : decode cL_law 1028 = .ok (.aload_n 0, 1) := by decide +kernel
theorem dL_law_1029 : decode cL_law 1029 = .ok (.iload_n 3, 1) := by decide +kernel
theorem dL_law_1030 : decode cL_law 1030 = .ok (.iconst 1, 1) := by decide +kernel
theorem dL_law_1031 : decode cL_law 1031 = .ok (.iadd, 1) := by decide +kernel
theorem dL_law_1032 : decode cL_law 1032 = .ok (.iaload, 1) := by decide +kernel
theorem dL_law_1033 : decode cL_law 1033 = .ok (.aload_n 0, 1) := by decide +kernel
theorem dL_law_1034 : decode cL_law 1034 = .ok (.iload_n 3, 1) := by decide +kernel
theorem dL_law_1035 : decode cL_law 1035 = .ok (.iconst 2, 1) := by decide +kernel
theorem dL_law_1036 : decode cL_law 1036 = .ok (.iadd, 1) := by decide +kernel
theorem dL_law_1037 : decode cL_law 1037 = .ok (.iaload, 1) := by decide +kernel
theorem dL_law_1038 : decode cL_law 1038 = .ok (.aload_n 0, 1) := by decide +kernel
theorem dL_law_1039 : decode cL_law 1039 = .ok (.iload_n 3, 1) := by decide +kernel
theorem dL_law_1040 : decode cL_law 1040 = .ok (.iconst 3, 1) := by decide +kernel
theorem dL_law_1041 : decode cL_law 1041 = .ok (.iadd, 1) := by decide +kernel
theorem dL_law_1042 : decode cL_law 1042 = .ok (.iaload, 1) := by decide +kernel
theorem dL_law_1043 : decode cL_law 1043 = .ok (.aload_n 0, 1) := by decide +kernel
theorem dL_law_1044 : decode cL_law 1044 = .ok (.iload_n 3, 1) := by decide +kernel
theorem dL_law_1045 : decode cL_law 1045 = .ok (.iconst 4, 1) := by decide +kernel
theorem dL_law_1046 : decode cL_law 1046 = .ok (.iadd, 1) := by decide +kernel
theorem dL_law_1047 : decode cL_law 1047 = .ok (.iaload, 1) := by decide +kernel
theorem dL_law_1048 : decode cL_law 1048 = .ok (.invokevirtual 148, 3) := by decide +kernel
theorem dL_law_1051 : decode cL_law 1051 = .ok (.if_icmp .eq 28, 3) := by decide +kernel
theorem dL_law_1054 : decode cL_law 1054 = .ok (.iconst 0, 1) := by decide +kernel
theorem dL_law_1055 : decode cL_law 1055 = .ok (.ireturn, 1) := by decide +kernel
theorem dL_law_1056 : decode cL_law 1056 = .ok (.aload_n 1, 1) := by decide +kernel
theorem dL_law_1057 : decode cL_law 1057 = .ok (.aload_n 0, 1) := by decide +kernel
theorem dL_law_1058 : decode cL_law 1058 = .ok (.iload_n 3, 1) := by decide +kernel
theorem dL_law_1059 : decode cL_law 1059 = .ok (.iconst 1, 1) := by decide +kernel
theorem dL_law_1060 : decode cL_law 1060 = .ok (.iadd, 1) := by decide +kernel
theorem dL_law_1061 : decode cL_law 1061 = .ok (.iaload, 1) := by decide +kernel
theorem dL_law_1062 : decode cL_law 1062 = .ok (.invokevirtual 149, 3) := by decide +kernel
theorem dL_law_1065 : decode cL_law 1065 = .ok (.aload_n 2, 1) := by decide +kernel
theorem dL_law_1066 : decode cL_law 1066 = .ok (.aload_n 0, 1) := by decide +kernel
theorem dL_law_1067 : decode cL_law 1067 = .ok (.iload_n 3, 1) := by decide +kernel
theorem dL_law_1068 : decode cL_law 1068 = .ok (.iconst 1, 1) := by decide +kernel
theorem dL_law_1069 : decode cL_law 1069 = .ok (.iadd, 1) := by decide +kernel
theorem dL_law_1070 : decode cL_law 1070 = .ok (.iaload, 1) := by decide +kernel
theorem dL_law_1071 : decode cL_law 1071 = .ok (.invokevirtual 152, 3) := by decide +kernel
theorem dL_law_1074 : decode cL_law 1074 = .ok (.if_icmp .eq 5, 3) := by decide +kernel
theorem dL_law_1077 : decode cL_law 1077 = .ok (.iconst 0, 1) := by decide +kernel
theorem dL_law_1078 : decode cL_law 1078 = .ok (.ireturn, 1) := by decide +kernel
theorem dL_law_1079 : decode cL_law 1079 = .ok (.iinc 3 5, 3) := by decide +kernel
theorem dL_law_1082 : decode cL_law 1082 = .ok (.goto (-1064), 3) := by decide +kernel
theorem dL_law_1085 : decode cL_law 1085 = .ok (.iconst 1, 1) := by decide +kernel
theorem dL_law_1086 : decode cL_law 1086 = .ok (.ireturn, 1) := by decide +kernel
