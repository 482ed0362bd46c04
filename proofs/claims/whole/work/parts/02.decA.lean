theorem dX0_init_0 : decode cX0_init 0 = .ok (.aload_n 0, 1) := by decide +kernel
theorem dX0_init_1 : decode cX0_init 1 = .ok (.invokespecial 3, 3) := by decide +kernel
theorem dX0_init_4 : decode cX0_init 4 = .ok (.aload_n 0, 1) := by decide +kernel
theorem dX0_init_5 : decode cX0_init 5 = .ok (.bipush 40, 2) := by decide +kernel
theorem dX0_init_7 : decode cX0_init 7 = .ok (.newarray .int, 2) := by decide +kernel
theorem dX0_init_9 : decode cX0_init 9 = .ok (.putfield 9, 3) := by decide +kernel
theorem dX0_init_12 : decode cX0_init 12 = .ok (.aload_n 0, 1) := by decide +kernel
theorem dX0_init_13 : decode cX0_init 13 = .ok (.bipush 40, 2) := by decide +kernel
theorem dX0_init_15 : decode cX0_init 15 = .ok (.newarray .int, 2) := by decide +kernel
theorem dX0_init_17 : decode cX0_init 17 = .ok (.putfield 15, 3) := by decide +kernel
theorem dX0_init_20 : decode cX0_init 20 = .ok (.return_, 1) := by decide +kernel
theorem dX0_note_0 : decode cX0_note 0 = .ok (.iload_n 1, 1) := by decide +kernel
theorem dX0_note_1 : decode cX0_note 1 = .ok (.bipush 10, 2) := by decide +kernel
theorem dX0_note_3 : decode cX0_note 3 = .ok (.imul, 1) := by decide +kernel
theorem dX0_note_4 : decode cX0_note 4 = .ok (.iload_n 2, 1) := by decide +kernel
theorem dX0_note_5 : decode cX0_note 5 = .ok (.iadd, 1) := by decide +kernel
theorem dX0_note_6 : decode cX0_note 6 = .ok (.istore 4, 2) := by decide +kernel
theorem dX0_note_8 : decode cX0_note 8 = .ok (.iload 4, 2) := by decide +kernel
theorem dX0_note_10 : decode cX0_note 10 = .ok (.ifCond .lt 13, 3) := by decide +kernel
theorem dX0_note_13 : decode cX0_note 13 = .ok (.iload 4, 2) := by decide +kernel
theorem dX0_note_15 : decode cX0_note 15 = .ok (.aload_n 0, 1) := by decide +kernel
theorem dX0_note_16 : decode cX0_note 16 = .ok (.getfield 9, 3) := by decide +kernel
theorem dX0_note_19 : decode cX0_note 19 = .ok (.arraylength, 1) := by decide +kernel
theorem dX0_note_20 : decode cX0_note 20 = .ok (.if_icmp .lt 4, 3) := by decide +kernel
theorem dX0_note_23 : decode cX0_note 23 = .ok (.return_, 1) := by decide +kernel
theorem dX0_note_24 : decode cX0_note 24 = .ok (.aload_n 0, 1) := by decide +kernel
theorem dX0_note_25 : decode cX0_note 25 = .ok (.getfield 9, 3) := by decide +kernel
theorem dX0_note_28 : decode cX0_note 28 = .ok (.iload 4, 2) := by decide +kernel
theorem dX0_note_30 : decode cX0_note 30 = .ok (.dup2, 1) := by decide +kernel
theorem dX0_note_31 : decode cX0_note 31 = .ok (.iaload, 1) := by decide +kernel
theorem dX0_note_32 : decode cX0_note 32 = .ok (.iconst 1, 1) := by decide +kernel
theorem dX0_note_33 : decode cX0_note 33 = .ok (.iadd, 1) := by decide +kernel
theorem dX0_note_34 : decode cX0_note 34 = .ok (.iastore, 1) := by decide +kernel
theorem dX0_note_35 : decode cX0_note 35 = .ok (.aload_n 0, 1) := by decide +kernel
theorem dX0_note_36 : decode cX0_note 36 = .ok (.dup, 1) := by decide +kernel
theorem dX0_note_37 : decode cX0_note 37 = .ok (.getfield 18, 3) := by decide +kernel
theorem dX0_note_40 : decode cX0_note 40 = .ok (.iconst 1, 1) := by decide +kernel
theorem dX0_note_41 : decode cX0_note 41 = .ok (.iadd, 1) := by decide +kernel
theorem dX0_note_42 : decode cX0_note 42 = .ok (.putfield 18, 3) := by decide +kernel
theorem dX0_note_45 : decode cX0_note 45 = .ok (.iload_n 3, 1) := by decide +kernel
theorem dX0_note_46 : decode cX0_note 46 = .ok (.ifCond .eq 24, 3) := by decide +kernel
theorem dX0_note_49 : decode cX0_note 49 = .ok (.aload_n 0, 1) := by decide +kernel
theorem dX0_note_50 : decode cX0_note 50 = .ok (.getfield 15, 3) := by decide +kernel
theorem dX0_note_53 : decode cX0_note 53 = .ok (.iload 4, 2) := by decide +kernel
theorem dX0_note_55 : decode cX0_note 55 = .ok (.dup2, 1) := by decide +kernel
theorem dX0_note_56 : decode cX0_note 56 = .ok (.iaload, 1) := by decide +kernel
theorem dX0_note_57 : decode cX0_note 57 = .ok (.iconst 1, 1) := by decide +kernel
theorem dX0_note_58 : decode cX0_note 58 = .ok (.iadd, 1) := by decide +kernel
theorem dX0_note_59 : decode cX0_note 59 = .ok (.iastore, 1) := by decide +kernel
theorem dX0_note_60 : decode cX0_note 60 = .ok (.aload_n 0, 1) := by decide +kernel
theorem dX0_note_61 : decode cX0_note 61 = .ok (.dup, 1) := by decide +kernel
theorem dX0_note_62 : decode cX0_note 62 = .ok (.getfield 22, 3) := by decide +kernel
theorem dX0_note_65 : decode cX0_note 65 = .ok (.iconst 1, 1) := by decide +kernel
theorem dX0_note_66 : decode cX0_note 66 = .ok (.iadd, 1) := by decide +kernel
theorem dX0_note_67 : decode cX0_note 67 = .ok (.putfield 22, 3) := by decide +kernel
theorem dX0_note_70 : decode cX0_note 70 = .ok (.return_, 1) := by decide +kernel
theorem dX0_greatest_0 : decode cX0_greatest 0 = .ok (.iconst 0, 1) := by decide +kernel
theorem dX0_greatest_1 : decode cX0_greatest 1 = .ok (.istore_n 2, 1) := by decide +kernel
theorem dX0_greatest_2 : decode cX0_greatest 2 = .ok (.iconst 1, 1) := by decide +kernel
theorem dX0_greatest_3 : decode cX0_greatest 3 = .ok (.istore_n 3, 1) := by decide +kernel
theorem dX0_greatest_4 : decode cX0_greatest 4 = .ok (.iload_n 3, 1) := by decide +kernel
theorem dX0_greatest_5 : decode cX0_greatest 5 = .ok (.bipush 10, 2) := by decide +kernel
theorem dX0_greatest_7 : decode cX0_greatest 7 = .ok (.if_icmp .ge 30, 3) := by decide +kernel
theorem dX0_greatest_10 : decode cX0_greatest 10 = .ok (.aload_n 0, 1) := by decide +kernel
theorem dX0_greatest_11 : decode cX0_greatest 11 = .ok (.iload_n 1, 1) := by decide +kernel
theorem dX0_greatest_12 : decode cX0_greatest 12 = .ok (.bipush 10, 2) := by decide +kernel
theorem dX0_greatest_14 : decode cX0_greatest 14 = .ok (.imul, 1) := by decide +kernel
theorem dX0_greatest_15 : decode cX0_greatest 15 = .ok (.iload_n 3, 1) := by decide +kernel
theorem dX0_greatest_16 : decode cX0_greatest 16 = .ok (.iadd, 1) := by decide +kernel
theorem dX0_greatest_17 : decode cX0_greatest 17 = .ok (.iload_n 1, 1) := by decide +kernel
theorem dX0_greatest_18 : decode cX0_greatest 18 = .ok (.bipush 10, 2) := by decide +kernel
theorem dX0_greatest_20 : decode cX0_greatest 20 = .ok (.imul, 1) := by decide +kernel
theorem dX0_greatest_21 : decode cX0_greatest 21 = .ok (.iload_n 2, 1) := by decide +kernel
theorem dX0_greatest_22 : decode cX0_greatest 22 = .ok (.iadd, 1) := by decide +kernel
theorem dX0_greatest_23 : decode cX0_greatest 23 = .ok (.invokevirtual 25, 3) := by decide +kernel
theorem dX0_greatest_26 : decode cX0_greatest 26 = .ok (.ifCond .eq 5, 3) := by decide +kernel
theorem dX0_greatest_29 : decode cX0_greatest 29 = .ok (.iload_n 3, 1) := by decide +kernel
theorem dX0_greatest_30 : decode cX0_greatest 30 = .ok (.istore_n 2, 1) := by decide +kernel
theorem dX0_greatest_31 : decode cX0_greatest 31 = .ok (.iinc 3 1, 3) := by decide +kernel
theorem dX0_greatest_34 : decode cX0_greatest 34 = .ok (.goto (-30), 3) := by decide +kernel
theorem dX0_greatest_37 : decode cX0_greatest 37 = .ok (.iload_n 2, 1) := by decide +kernel
theorem dX0_greatest_38 : decode cX0_greatest 38 = .ok (.ireturn, 1) := by decide +kernel
theorem dX0_isGreater_0 : decode cX0_isGreater 0 = .ok (.aload_n 0, 1) := by decide +kernel
theorem dX0_isGreater_1 : decode cX0_isGreater 1 = .ok (.getfield 15, 3) := by decide +kernel
theorem dX0_isGreater_4 : decode cX0_isGreater 4 = .ok (.iload_n 1, 1) := by decide +kernel
theorem dX0_isGreater_5 : decode cX0_isGreater 5 = .ok (.iaload, 1) := by decide +kernel
theorem dX0_isGreater_6 : decode cX0_isGreater 6 = .ok (.iconst 1, 1) := by decide +kernel
theorem dX0_isGreater_7 : decode cX0_isGreater 7 = .ok (.iadd, 1) := by decide +kernel
theorem dX0_isGreater_8 : decode cX0_isGreater 8 = .ok (.aload_n 0, 1) := by decide +kernel
theorem dX0_isGreater_9 : decode cX0_isGreater 9 = .ok (.getfield 9, 3) := by decide +kernel
theorem dX0_isGreater_12 : decode cX0_isGreater 12 = .ok (.iload_n 2, 1) := by decide +kernel
theorem dX0_isGreater_13 : decode cX0_isGreater 13 = .ok (.iaload, 1) := by decide +kernel
theorem dX0_isGreater_14 : decode cX0_isGreater 14 = .ok (.iconst 2, 1) := by decide +kernel
theorem dX0_isGreater_15 : decode cX0_isGreater 15 = .ok (.iadd, 1) := by decide +kernel
theorem dX0_isGreater_16 : decode cX0_isGreater 16 = .ok (.imul, 1) := by decide +kernel
theorem dX0_isGreater_17 : decode cX0_isGreater 17 = .ok (.istore_n 3, 1) := by decide +kernel
theorem dX0_isGreater_18 : decode cX0_isGreater 18 = .ok (.aload_n 0, 1) := by decide +kernel
theorem dX0_isGreater_19 : decode cX0_isGreater 19 = .ok (.getfield 15, 3) := by decide +kernel
theorem dX0_isGreater_22 : decode cX0_isGreater 22 = .ok (.iload_n 2, 1) := by decide +kernel
theorem dX0_isGreater_23 : decode cX0_isGreater 23 = .ok (.iaload, 1) := by decide +kernel
theorem dX0_isGreater_24 : decode cX0_isGreater 24 = .ok (.iconst 1, 1) := by decide +kernel
theorem dX0_isGreater_25 : decode cX0_isGreater 25 = .ok (.iadd, 1) := by decide +kernel
theorem dX0_isGreater_26 : decode cX0_isGreater 26 = .ok (.aload_n 0, 1) := by decide +kernel
theorem dX0_isGreater_27 : decode cX0_isGreater 27 = .ok (.getfield 9, 3) := by decide +kernel
theorem dX0_isGreater_30 : decode cX0_isGreater 30 = .ok (.iload_n 1, 1) := by decide +kernel
theorem dX0_isGreater_31 : decode cX0_isGreater 31 = .ok (.iaload, 1) := by decide +kernel
theorem dX0_isGreater_32 : decode cX0_isGreater 32 = .ok (.iconst 2, 1) := by decide +kernel
theorem dX0_isGreater_33 : decode cX0_isGreater 33 = .ok (.iadd, 1) := by decide +kernel
theorem dX0_isGreater_34 : decode cX0_isGreater 34 = .ok (.imul, 1) := by decide +kernel
theorem dX0_isGreater_35 : decode cX0_isGreater 35 = .ok (.istore 4, 2) := by decide +kernel
theorem dX0_isGreater_37 : decode cX0_isGreater 37 = .ok (.iload_n 3, 1) := by decide +kernel
theorem dX0_isGreater_38 : decode cX0_isGreater 38 = .ok (.iload 4, 2) := by decide +kernel
theorem dX0_isGreater_40 : decode cX0_isGreater 40 = .ok (.if_icmp .le 7, 3) := by decide +kernel
theorem dX0_isGreater_43 : decode cX0_isGreater 43 = .ok (.iconst 1, 1) := by decide +kernel
theorem dX0_isGreater_44 : decode cX0_isGreater 44 = .ok (.goto 4, 3) := by decide +kernel
theorem dX0_isGreater_47 : decode cX0_isGreater 47 = .ok (.iconst 0, 1) := by decide +kernel
theorem dX0_isGreater_48 : decode cX0_isGreater 48 = .ok (.ireturn, 1) := by decide +kernel
theorem dX1_init_0 : decode cX1_init 0 = .ok (.aload_n 0, 1) := by decide +kernel
theorem dX1_init_1 : decode cX1_init 1 = .ok (.invokespecial 3, 3) := by decide +kernel
theorem dX1_init_4 : decode cX1_init 4 = .ok (.aload_n 0, 1) := by decide +kernel
theorem dX1_init_5 : decode cX1_init 5 = .ok (.bipush 12, 2) := by decide +kernel
theorem dX1_init_7 : decode cX1_init 7 = .ok (.newarray .int, 2) := by decide +kernel
theorem dX1_init_9 : decode cX1_init 9 = .ok (.putfield 9, 3) := by decide +kernel
theorem dX1_init_12 : decode cX1_init 12 = .ok (.aload_n 0, 1) := by decide +kernel
theorem dX1_init_13 : decode cX1_init 13 = .ok (.bipush 12, 2) := by decide +kernel
theorem dX1_init_15 : decode cX1_init 15 = .ok (.newarray .int, 2) := by decide +kernel
theorem dX1_init_17 : decode cX1_init 17 = .ok (.putfield 15, 3) := by decide +kernel
theorem dX1_init_20 : decode cX1_init 20 = .ok (.aload_n 0, 1) := by decide +kernel
theorem dX1_init_21 : decode cX1_init 21 = .ok (.iconst 0, 1) := by decide +kernel
theorem dX1_init_22 : decode cX1_init 22 = .ok (.putfield 18, 3) := by decide +kernel
theorem dX1_init_25 : decode cX1_init 25 = .ok (.aload_n 0, 1) := by decide +kernel
theorem dX1_init_26 : decode cX1_init 26 = .ok (.iconst (-1), 1) := by decide +kernel
theorem dX1_init_27 : decode cX1_init 27 = .ok (.putfield 22, 3) := by decide +kernel
theorem dX1_init_30 : decode cX1_init 30 = .ok (.aload_n 0, 1) := by decide +kernel
theorem dX1_init_31 : decode cX1_init 31 = .ok (.iconst (-1), 1) := by decide +kernel
theorem dX1_init_32 : decode cX1_init 32 = .ok (.putfield 25, 3) := by decide +kernel
theorem dX1_init_35 : decode cX1_init 35 = .ok (.aload_n 0, 1) := by decide +kernel
theorem dX1_init_36 : decode cX1_init 36 = .ok (.iload_n 1, 1) := by decide +kernel
theorem dX1_init_37 : decode cX1_init 37 = .ok (.putfield 28, 3) := by decide +kernel
theorem dX1_init_40 : decode cX1_init 40 = .ok (.aload_n 0, 1) := by decide +kernel
theorem dX1_init_41 : decode cX1_init 41 = .ok (.iload_n 2, 1) := by decide +kernel
theorem dX1_init_42 : decode cX1_init 42 = .ok (.putfield 31, 3) := by decide +kernel
theorem dX1_init_45 : decode cX1_init 45 = .ok (.aload_n 0, 1) := by decide +kernel
theorem dX1_init_46 : decode cX1_init 46 = .ok (.iload_n 3, 1) := by decide +kernel
theorem dX1_init_47 : decode cX1_init 47 = .ok (.putfield 34, 3) := by decide +kernel
theorem dX1_init_50 : decode cX1_init 50 = .ok (.return_, 1) := by decide +kernel
theorem dX1_learnTruth_0 : decode cX1_learnTruth 0 = .ok (.aload_n 0, 1) := by decide +kernel
theorem dX1_learnTruth_1 : decode cX1_learnTruth 1 = .ok (.aload_n 1, 1) := by decide +kernel
theorem dX1_learnTruth_2 : decode cX1_learnTruth 2 = .ok (.getfield 37, 3) := by decide +kernel
theorem dX1_learnTruth_5 : decode cX1_learnTruth 5 = .ok (.bipush 12, 2) := by decide +kernel
theorem dX1_learnTruth_7 : decode cX1_learnTruth 7 = .ok (.invokestatic 42, 3) := by decide +kernel
theorem dX1_learnTruth_10 : decode cX1_learnTruth 10 = .ok (.putfield 48, 3) := by decide +kernel
theorem dX1_learnTruth_13 : decode cX1_learnTruth 13 = .ok (.iconst 0, 1) := by decide +kernel
theorem dX1_learnTruth_14 : decode cX1_learnTruth 14 = .ok (.istore_n 2, 1) := by decide +kernel
theorem dX1_learnTruth_15 : decode cX1_learnTruth 15 = .ok (.iload_n 2, 1) := by decide +kernel
theorem dX1_learnTruth_16 : decode cX1_learnTruth 16 = .ok (.aload_n 0, 1) := by decide +kernel
theorem dX1_learnTruth_17 : decode cX1_learnTruth 17 = .ok (.getfield 48, 3) := by decide +kernel
theorem dX1_learnTruth_20 : decode cX1_learnTruth 20 = .ok (.if_icmp .ge 20, 3) := by decide +kernel
theorem dX1_learnTruth_23 : decode cX1_learnTruth 23 = .ok (.aload_n 0, 1) := by decide +kernel
theorem dX1_learnTruth_24 : decode cX1_learnTruth 24 = .ok (.getfield 9, 3) := by decide +kernel
theorem dX1_learnTruth_27 : decode cX1_learnTruth 27 = .ok (.iload_n 2, 1) := by decide +kernel
theorem dX1_learnTruth_28 : decode cX1_learnTruth 28 = .ok (.aload_n 1, 1) := by decide +kernel
theorem dX1_learnTruth_29 : decode cX1_learnTruth 29 = .ok (.iload_n 2, 1) := by decide +kernel
theorem dX1_learnTruth_30 : decode cX1_learnTruth 30 = .ok (.invokevirtual 51, 3) := by decide +kernel
theorem dX1_learnTruth_33 : decode cX1_learnTruth 33 = .ok (.iastore, 1) := by decide +kernel
theorem dX1_learnTruth_34 : decode cX1_learnTruth 34 = .ok (.iinc 2 1, 3) := by decide +kernel
theorem dX1_learnTruth_37 : decode cX1_learnTruth 37 = .ok (.goto (-22), 3) := by decide +kernel
theorem dX1_learnTruth_40 : decode cX1_learnTruth 40 = .ok (.aload_n 0, 1) := by decide +kernel
theorem dX1_learnTruth_41 : decode cX1_learnTruth 41 = .ok (.getfield 48, 3) := by decide +kernel
theorem dX1_learnTruth_44 : decode cX1_learnTruth 44 = .ok (.ireturn, 1) := by decide +kernel
theorem dX1_isToBeAsked_0 : decode cX1_isToBeAsked 0 = .ok (.aload_n 0, 1) := by decide +kernel
theorem dX1_isToBeAsked_1 : decode cX1_isToBeAsked 1 = .ok (.getfield 18, 3) := by decide +kernel
theorem dX1_isToBeAsked_4 : decode cX1_isToBeAsked 4 = .ok (.ifCond .eq 18, 3) := by decide +kernel
theorem dX1_isToBeAsked_7 : decode cX1_isToBeAsked 7 = .ok (.aload_n 0, 1) := by decide +kernel
theorem dX1_isToBeAsked_8 : decode cX1_isToBeAsked 8 = .ok (.getfield 18, 3) := by decide +kernel
theorem dX1_isToBeAsked_11 : decode cX1_isToBeAsked 11 = .ok (.iconst 3, 1) := by decide +kernel
theorem dX1_isToBeAsked_12 : decode cX1_isToBeAsked 12 = .ok (.if_icmp .eq 10, 3) := by decide +kernel
theorem dX1_isToBeAsked_15 : decode cX1_isToBeAsked 15 = .ok (.aload_n 0, 1) := by decide +kernel
theorem dX1_isToBeAsked_16 : decode cX1_isToBeAsked 16 = .ok (.getfield 55, 3) := by decide +kernel
theorem dX1_isToBeAsked_19 : decode cX1_isToBeAsked 19 = .ok (.ifCond .eq 7, 3) := by decide +kernel
theorem dX1_isToBeAsked_22 : decode cX1_isToBeAsked 22 = .ok (.iconst 1, 1) := by decide +kernel
theorem dX1_isToBeAsked_23 : decode cX1_isToBeAsked 23 = .ok (.goto 4, 3) := by decide +kernel
theorem dX1_isToBeAsked_26 : decode cX1_isToBeAsked 26 = .ok (.iconst 0, 1) := by decide +kernel
theorem dX1_isToBeAsked_27 : decode cX1_isToBeAsked 27 = .ok (.ireturn, 1) := by decide +kernel
theorem dX1_startReturn_0 : decode cX1_startReturn 0 = .ok (.aload_n 0, 1) := by decide +kernel
theorem dX1_startReturn_1 : decode cX1_startReturn 1 = .ok (.iload_n 1, 1) := by decide +kernel
theorem dX1_startReturn_2 : decode cX1_startReturn 2 = .ok (.putfield 18, 3) := by decide +kernel
theorem dX1_startReturn_5 : decode cX1_startReturn 5 = .ok (.aload_n 0, 1) := by decide +kernel
theorem dX1_startReturn_6 : decode cX1_startReturn 6 = .ok (.iconst 0, 1) := by decide +kernel
theorem dX1_startReturn_7 : decode cX1_startReturn 7 = .ok (.putfield 55, 3) := by decide +kernel
theorem dX1_startReturn_10 : decode cX1_startReturn 10 = .ok (.aload_n 0, 1) := by decide +kernel
theorem dX1_startReturn_11 : decode cX1_startReturn 11 = .ok (.iconst 0, 1) := by decide +kernel
theorem dX1_startReturn_12 : decode cX1_startReturn 12 = .ok (.putfield 59, 3) := by decide +kernel
theorem dX1_startReturn_15 : decode cX1_startReturn 15 = .ok (.aload_n 0, 1) := by decide +kernel
theorem dX1_startReturn_16 : decode cX1_startReturn 16 = .ok (.iconst 0, 1) := by decide +kernel
theorem dX1_startReturn_17 : decode cX1_startReturn 17 = .ok (.putfield 62, 3) := by decide +kernel
theorem dX1_startReturn_20 : decode cX1_startReturn 20 = .ok (.return_, 1) := by decide +kernel
theorem dX1_addHead_0 : decode cX1_addHead 0 = .ok (.aload_n 0, 1) := by decide +kernel
theorem dX1_addHead_1 : decode cX1_addHead 1 = .ok (.getfield 59, 3) := by decide +kernel
theorem dX1_addHead_4 : decode cX1_addHead 4 = .ok (.bipush 12, 2) := by decide +kernel
theorem dX1_addHead_6 : decode cX1_addHead 6 = .ok (.if_icmp .ge 23, 3) := by decide +kernel
theorem dX1_addHead_9 : decode cX1_addHead 9 = .ok (.aload_n 0, 1) := by decide +kernel
theorem dX1_addHead_10 : decode cX1_addHead 10 = .ok (.getfield 15, 3) := by decide +kernel
theorem dX1_addHead_13 : decode cX1_addHead 13 = .ok (.aload_n 0, 1) := by decide +kernel
theorem dX1_addHead_14 : decode cX1_addHead 14 = .ok (.getfield 59, 3) := by decide +kernel
theorem dX1_addHead_17 : decode cX1_addHead 17 = .ok (.iload_n 1, 1) := by decide +kernel
theorem dX1_addHead_18 : decode cX1_addHead 18 = .ok (.iastore, 1) := by decide +kernel
theorem dX1_addHead_19 : decode cX1_addHead 19 = .ok (.aload_n 0, 1) := by decide +kernel
theorem dX1_addHead_20 : decode cX1_addHead 20 = .ok (.dup, 1) := by decide +kernel
theorem dX1_addHead_21 : decode cX1_addHead 21 = .ok (.getfield 59, 3) := by decide +kernel
theorem dX1_addHead_24 : decode cX1_addHead 24 = .ok (.iconst 1, 1) := by decide +kernel
theorem dX1_addHead_25 : decode cX1_addHead 25 = .ok (.iadd, 1) := by decide +kernel
theorem dX1_addHead_26 : decode cX1_addHead 26 = .ok (.putfield 59, 3) := by decide +kernel
theorem dX1_addHead_29 : decode cX1_addHead 29 = .ok (.return_, 1) := by decide +kernel
theorem dX1_takePaper_0 : decode cX1_takePaper 0 = .ok (.aload_n 0, 1) := by decide +kernel
theorem dX1_takePaper_1 : decode cX1_takePaper 1 = .ok (.iconst 1, 1) := by decide +kernel
theorem dX1_takePaper_2 : decode cX1_takePaper 2 = .ok (.invokevirtual 65, 3) := by decide +kernel
theorem dX1_takePaper_5 : decode cX1_takePaper 5 = .ok (.iconst 0, 1) := by decide +kernel
theorem dX1_takePaper_6 : decode cX1_takePaper 6 = .ok (.istore_n 1, 1) := by decide +kernel
theorem dX1_takePaper_7 : decode cX1_takePaper 7 = .ok (.iload_n 1, 1) := by decide +kernel
theorem dX1_takePaper_8 : decode cX1_takePaper 8 = .ok (.aload_n 0, 1) := by decide +kernel
theorem dX1_takePaper_9 : decode cX1_takePaper 9 = .ok (.getfield 48, 3) := by decide +kernel
theorem dX1_takePaper_12 : decode cX1_takePaper 12 = .ok (.if_icmp .ge 45, 3) := by decide +kernel
theorem dX1_takePaper_15 : decode cX1_takePaper 15 = .ok (.aload_n 0, 1) := by decide +kernel
theorem dX1_takePaper_16 : decode cX1_takePaper 16 = .ok (.getfield 55, 3) := by decide +kernel
theorem dX1_takePaper_19 : decode cX1_takePaper 19 = .ok (.ifCond .ne 38, 3) := by decide +kernel
theorem dX1_takePaper_22 : decode cX1_takePaper 22 = .ok (.aload_n 0, 1) := by decide +kernel
theorem dX1_takePaper_23 : decode cX1_takePaper 23 = .ok (.getfield 9, 3) := by decide +kernel
theorem dX1_takePaper_26 : decode cX1_takePaper 26 = .ok (.iload_n 1, 1) := by decide +kernel
theorem dX1_takePaper_27 : decode cX1_takePaper 27 = .ok (.iaload, 1) := by decide +kernel
theorem dX1_takePaper_28 : decode cX1_takePaper 28 = .ok (.bipush (-2), 2) := by decide +kernel
theorem dX1_takePaper_30 : decode cX1_takePaper 30 = .ok (.if_icmp .ne 11, 3) := by decide +kernel
theorem dX1_takePaper_33 : decode cX1_takePaper 33 = .ok (.aload_n 0, 1) := by decide +kernel
theorem dX1_takePaper_34 : decode cX1_takePaper 34 = .ok (.iconst 1, 1) := by decide +kernel
theorem dX1_takePaper_35 : decode cX1_takePaper 35 = .ok (.putfield 55, 3) := by decide +kernel
theorem dX1_takePaper_38 : decode cX1_takePaper 38 = .ok (.goto 13, 3) := by decide +kernel
theorem dX1_takePaper_41 : decode cX1_takePaper 41 = .ok (.aload_n 0, 1) := by decide +kernel
theorem dX1_takePaper_42 : decode cX1_takePaper 42 = .ok (.aload_n 0, 1) := by decide +kernel
theorem dX1_takePaper_43 : decode cX1_takePaper 43 = .ok (.getfield 9, 3) := by decide +kernel
theorem dX1_takePaper_46 : decode cX1_takePaper 46 = .ok (.iload_n 1, 1) := by decide +kernel
theorem dX1_takePaper_47 : decode cX1_takePaper 47 = .ok (.iaload, 1) := by decide +kernel
theorem dX1_takePaper_48 : decode cX1_takePaper 48 = .ok (.invokevirtual 69, 3) := by decide +kernel
theorem dX1_takePaper_51 : decode cX1_takePaper 51 = .ok (.iinc 1 1, 3) := by decide +kernel
theorem dX1_takePaper_54 : decode cX1_takePaper 54 = .ok (.goto (-47), 3) := by decide +kernel
theorem dX1_takePaper_57 : decode cX1_takePaper 57 = .ok (.aload_n 0, 1) := by decide +kernel
theorem dX1_takePaper_58 : decode cX1_takePaper 58 = .ok (.getfield 59, 3) := by decide +kernel
theorem dX1_takePaper_61 : decode cX1_takePaper 61 = .ok (.ireturn, 1) := by decide +kernel
theorem dX1_takeKnock_0 : decode cX1_takeKnock 0 = .ok (.aload_n 0, 1) := by decide +kernel
theorem dX1_takeKnock_1 : decode cX1_takeKnock 1 = .ok (.dup, 1) := by decide +kernel
theorem dX1_takeKnock_2 : decode cX1_takeKnock 2 = .ok (.getfield 72, 3) := by decide +kernel
theorem dX1_takeKnock_5 : decode cX1_takeKnock 5 = .ok (.iconst 1, 1) := by decide +kernel
theorem dX1_takeKnock_6 : decode cX1_takeKnock 6 = .ok (.iadd, 1) := by decide +kernel
theorem dX1_takeKnock_7 : decode cX1_takeKnock 7 = .ok (.putfield 72, 3) := by decide +kernel
theorem dX1_takeKnock_10 : decode cX1_takeKnock 10 = .ok (.aload_n 0, 1) := by decide +kernel
theorem dX1_takeKnock_11 : decode cX1_takeKnock 11 = .ok (.getfield 34, 3) := by decide +kernel
theorem dX1_takeKnock_14 : decode cX1_takeKnock 14 = .ok (.iload_n 1, 1) := by decide +kernel
theorem dX1_takeKnock_15 : decode cX1_takeKnock 15 = .ok (.ishr, 1) := by decide +kernel
theorem dX1_takeKnock_16 : decode cX1_takeKnock 16 = .ok (.iconst 1, 1) := by decide +kernel
theorem dX1_takeKnock_17 : decode cX1_takeKnock 17 = .ok (.iand, 1) := by decide +kernel
theorem dX1_takeKnock_18 : decode cX1_takeKnock 18 = .ok (.ifCond .ne 5, 3) := by decide +kernel
theorem dX1_takeKnock_21 : decode cX1_takeKnock 21 = .ok (.iconst 0, 1) := by decide +kernel
theorem dX1_takeKnock_22 : decode cX1_takeKnock 22 = .ok (.ireturn, 1) := by decide +kernel
theorem dX1_takeKnock_23 : decode cX1_takeKnock 23 = .ok (.aload_n 0, 1) := by decide +kernel
theorem dX1_takeKnock_24 : decode cX1_takeKnock 24 = .ok (.iconst 2, 1) := by decide +kernel
theorem dX1_takeKnock_25 : decode cX1_takeKnock 25 = .ok (.invokevirtual 65, 3) := by decide +kernel
theorem dX1_takeKnock_28 : decode cX1_takeKnock 28 = .ok (.iconst 0, 1) := by decide +kernel
theorem dX1_takeKnock_29 : decode cX1_takeKnock 29 = .ok (.istore_n 2, 1) := by decide +kernel
theorem dX1_takeKnock_30 : decode cX1_takeKnock 30 = .ok (.iload_n 2, 1) := by decide +kernel
theorem dX1_takeKnock_31 : decode cX1_takeKnock 31 = .ok (.aload_n 0, 1) := by decide +kernel
theorem dX1_takeKnock_32 : decode cX1_takeKnock 32 = .ok (.getfield 48, 3) := by decide +kernel
theorem dX1_takeKnock_35 : decode cX1_takeKnock 35 = .ok (.if_icmp .ge 19, 3) := by decide +kernel
theorem dX1_takeKnock_38 : decode cX1_takeKnock 38 = .ok (.aload_n 0, 1) := by decide +kernel
theorem dX1_takeKnock_39 : decode cX1_takeKnock 39 = .ok (.aload_n 0, 1) := by decide +kernel
theorem dX1_takeKnock_40 : decode cX1_takeKnock 40 = .ok (.getfield 9, 3) := by decide +kernel
theorem dX1_takeKnock_43 : decode cX1_takeKnock 43 = .ok (.iload_n 2, 1) := by decide +kernel
theorem dX1_takeKnock_44 : decode cX1_takeKnock 44 = .ok (.iaload, 1) := by decide +kernel
theorem dX1_takeKnock_45 : decode cX1_takeKnock 45 = .ok (.invokevirtual 69, 3) := by decide +kernel
theorem dX1_takeKnock_48 : decode cX1_takeKnock 48 = .ok (.iinc 2 1, 3) := by decide +kernel
theorem dX1_takeKnock_51 : decode cX1_takeKnock 51 = .ok (.goto (-21), 3) := by decide +kernel
theorem dX1_takeKnock_54 : decode cX1_takeKnock 54 = .ok (.iconst 1, 1) := by decide +kernel
theorem dX1_takeKnock_55 : decode cX1_takeKnock 55 = .ok (.ireturn, 1) := by decide +kernel
theorem dX1_takeProxy_0 : decode cX1_takeProxy 0 = .ok (.aload_n 0, 1) := by decide +kernel
theorem dX1_takeProxy_1 : decode cX1_takeProxy 1 = .ok (.iconst 3, 1) := by decide +kernel
theorem dX1_takeProxy_2 : decode cX1_takeProxy 2 = .ok (.invokevirtual 65, 3) := by decide +kernel
theorem dX1_takeProxy_5 : decode cX1_takeProxy 5 = .ok (.iconst 0, 1) := by decide +kernel
theorem dX1_takeProxy_6 : decode cX1_takeProxy 6 = .ok (.istore_n 2, 1) := by decide +kernel
theorem dX1_takeProxy_7 : decode cX1_takeProxy 7 = .ok (.iload_n 2, 1) := by decide +kernel
theorem dX1_takeProxy_8 : decode cX1_takeProxy 8 = .ok (.iload_n 1, 1) := by decide +kernel
theorem dX1_takeProxy_9 : decode cX1_takeProxy 9 = .ok (.if_icmp .ge 15, 3) := by decide +kernel
theorem dX1_takeProxy_12 : decode cX1_takeProxy 12 = .ok (.aload_n 0, 1) := by decide +kernel
theorem dX1_takeProxy_13 : decode cX1_takeProxy 13 = .ok (.bipush (-2), 2) := by decide +kernel
theorem dX1_takeProxy_15 : decode cX1_takeProxy 15 = .ok (.invokevirtual 69, 3) := by decide +kernel
theorem dX1_takeProxy_18 : decode cX1_takeProxy 18 = .ok (.iinc 2 1, 3) := by decide +kernel
theorem dX1_takeProxy_21 : decode cX1_takeProxy 21 = .ok (.goto (-14), 3) := by decide +kernel
theorem dX1_takeProxy_24 : decode cX1_takeProxy 24 = .ok (.return_, 1) := by decide +kernel
theorem dX1_canFill_0 : decode cX1_canFill 0 = .ok (.aload_n 0, 1) := by decide +kernel
theorem dX1_canFill_1 : decode cX1_canFill 1 = .ok (.getfield 18, 3) := by decide +kernel
theorem dX1_canFill_4 : decode cX1_canFill 4 = .ok (.iconst 1, 1) := by decide +kernel
theorem dX1_canFill_5 : decode cX1_canFill 5 = .ok (.if_icmp .ne 10, 3) := by decide +kernel
theorem dX1_canFill_8 : decode cX1_canFill 8 = .ok (.aload_n 0, 1) := by decide +kernel
theorem dX1_canFill_9 : decode cX1_canFill 9 = .ok (.getfield 55, 3) := by decide +kernel
theorem dX1_canFill_12 : decode cX1_canFill 12 = .ok (.ifCond .eq 11, 3) := by decide +kernel
theorem dX1_canFill_15 : decode cX1_canFill 15 = .ok (.aload_n 0, 1) := by decide +kernel
theorem dX1_canFill_16 : decode cX1_canFill 16 = .ok (.getfield 18, 3) := by decide +kernel
theorem dX1_canFill_19 : decode cX1_canFill 19 = .ok (.iconst 2, 1) := by decide +kernel
theorem dX1_canFill_20 : decode cX1_canFill 20 = .ok (.if_icmp .ne 7, 3) := by decide +kernel
theorem dX1_canFill_23 : decode cX1_canFill 23 = .ok (.iconst 1, 1) := by decide +kernel
theorem dX1_canFill_24 : decode cX1_canFill 24 = .ok (.goto 4, 3) := by decide +kernel
theorem dX1_canFill_27 : decode cX1_canFill 27 = .ok (.iconst 0, 1) := by decide +kernel
theorem dX1_canFill_28 : decode cX1_canFill 28 = .ok (.istore_n 2, 1) := by decide +kernel
theorem dX1_canFill_29 : decode cX1_canFill 29 = .ok (.iload_n 2, 1) := by decide +kernel
theorem dX1_canFill_30 : decode cX1_canFill 30 = .ok (.ifCond .eq 23, 3) := by decide +kernel
theorem dX1_canFill_33 : decode cX1_canFill 33 = .ok (.aload_n 0, 1) := by decide +kernel
theorem dX1_canFill_34 : decode cX1_canFill 34 = .ok (.getfield 31, 3) := by decide +kernel
theorem dX1_canFill_37 : decode cX1_canFill 37 = .ok (.iload_n 1, 1) := by decide +kernel
theorem dX1_canFill_38 : decode cX1_canFill 38 = .ok (.if_icmp .ne 15, 3) := by decide +kernel
theorem dX1_canFill_41 : decode cX1_canFill 41 = .ok (.aload_n 0, 1) := by decide +kernel
theorem dX1_canFill_42 : decode cX1_canFill 42 = .ok (.getfield 75, 3) := by decide +kernel
theorem dX1_canFill_45 : decode cX1_canFill 45 = .ok (.iconst 2, 1) := by decide +kernel
theorem dX1_canFill_46 : decode cX1_canFill 46 = .ok (.if_icmp .ge 7, 3) := by decide +kernel
theorem dX1_canFill_49 : decode cX1_canFill 49 = .ok (.iconst 1, 1) := by decide +kernel
theorem dX1_canFill_50 : decode cX1_canFill 50 = .ok (.goto 4, 3) := by decide +kernel
theorem dX1_canFill_53 : decode cX1_canFill 53 = .ok (.iconst 0, 1) := by decide +kernel
theorem dX1_canFill_54 : decode cX1_canFill 54 = .ok (.ireturn, 1) := by decide +kernel
theorem dX1_takeHeadsOf_0 : decode cX1_takeHeadsOf 0 = .ok (.aload_n 0, 1) := by decide +kernel
theorem dX1_takeHeadsOf_1 : decode cX1_takeHeadsOf 1 = .ok (.iconst 4, 1) := by decide +kernel
theorem dX1_takeHeadsOf_2 : decode cX1_takeHeadsOf 2 = .ok (.invokevirtual 65, 3) := by decide +kernel
theorem dX1_takeHeadsOf_5 : decode cX1_takeHeadsOf 5 = .ok (.iconst 0, 1) := by decide +kernel
theorem dX1_takeHeadsOf_6 : decode cX1_takeHeadsOf 6 = .ok (.istore_n 3, 1) := by decide +kernel
theorem dX1_takeHeadsOf_7 : decode cX1_takeHeadsOf 7 = .ok (.iload_n 3, 1) := by decide +kernel
theorem dX1_takeHeadsOf_8 : decode cX1_takeHeadsOf 8 = .ok (.aload_n 1, 1) := by decide +kernel
theorem dX1_takeHeadsOf_9 : decode cX1_takeHeadsOf 9 = .ok (.getfield 59, 3) := by decide +kernel
theorem dX1_takeHeadsOf_12 : decode cX1_takeHeadsOf 12 = .ok (.if_icmp .ge 27, 3) := by decide +kernel
theorem dX1_takeHeadsOf_15 : decode cX1_takeHeadsOf 15 = .ok (.aload_n 1, 1) := by decide +kernel
theorem dX1_takeHeadsOf_16 : decode cX1_takeHeadsOf 16 = .ok (.iload_n 3, 1) := by decide +kernel
theorem dX1_takeHeadsOf_17 : decode cX1_takeHeadsOf 17 = .ok (.invokevirtual 78, 3) := by decide +kernel
theorem dX1_takeHeadsOf_20 : decode cX1_takeHeadsOf 20 = .ok (.ifCond .ne 13, 3) := by decide +kernel
theorem dX1_takeHeadsOf_23 : decode cX1_takeHeadsOf 23 = .ok (.aload_n 0, 1) := by decide +kernel
theorem dX1_takeHeadsOf_24 : decode cX1_takeHeadsOf 24 = .ok (.aload_n 1, 1) := by decide +kernel
theorem dX1_takeHeadsOf_25 : decode cX1_takeHeadsOf 25 = .ok (.getfield 15, 3) := by decide +kernel
theorem dX1_takeHeadsOf_28 : decode cX1_takeHeadsOf 28 = .ok (.iload_n 3, 1) := by decide +kernel
theorem dX1_takeHeadsOf_29 : decode cX1_takeHeadsOf 29 = .ok (.iaload, 1) := by decide +kernel
theorem dX1_takeHeadsOf_30 : decode cX1_takeHeadsOf 30 = .ok (.invokevirtual 69, 3) := by decide +kernel
theorem dX1_takeHeadsOf_33 : decode cX1_takeHeadsOf 33 = .ok (.iinc 3 1, 3) := by decide +kernel
theorem dX1_takeHeadsOf_36 : decode cX1_takeHeadsOf 36 = .ok (.goto (-29), 3) := by decide +kernel
theorem dX1_takeHeadsOf_39 : decode cX1_takeHeadsOf 39 = .ok (.aload_n 0, 1) := by decide +kernel
theorem dX1_takeHeadsOf_40 : decode cX1_takeHeadsOf 40 = .ok (.iload_n 2, 1) := by decide +kernel
theorem dX1_takeHeadsOf_41 : decode cX1_takeHeadsOf 41 = .ok (.putfield 22, 3) := by decide +kernel
theorem dX1_takeHeadsOf_44 : decode cX1_takeHeadsOf 44 = .ok (.aload_n 1, 1) := by decide +kernel
theorem dX1_takeHeadsOf_45 : decode cX1_takeHeadsOf 45 = .ok (.dup, 1) := by decide +kernel
theorem dX1_takeHeadsOf_46 : decode cX1_takeHeadsOf 46 = .ok (.getfield 75, 3) := by decide +kernel
theorem dX1_takeHeadsOf_49 : decode cX1_takeHeadsOf 49 = .ok (.iconst 1, 1) := by decide +kernel
theorem dX1_takeHeadsOf_50 : decode cX1_takeHeadsOf 50 = .ok (.iadd, 1) := by decide +kernel
theorem dX1_takeHeadsOf_51 : decode cX1_takeHeadsOf 51 = .ok (.putfield 75, 3) := by decide +kernel
theorem dX1_takeHeadsOf_54 : decode cX1_takeHeadsOf 54 = .ok (.return_, 1) := by decide +kernel
theorem dX1_hasHead_0 : decode cX1_hasHead 0 = .ok (.iload_n 1, 1) := by decide +kernel
theorem dX1_hasHead_1 : decode cX1_hasHead 1 = .ok (.ifCond .lt 15, 3) := by decide +kernel
theorem dX1_hasHead_4 : decode cX1_hasHead 4 = .ok (.iload_n 1, 1) := by decide +kernel
theorem dX1_hasHead_5 : decode cX1_hasHead 5 = .ok (.aload_n 0, 1) := by decide +kernel
theorem dX1_hasHead_6 : decode cX1_hasHead 6 = .ok (.getfield 59, 3) := by decide +kernel
theorem dX1_hasHead_9 : decode cX1_hasHead 9 = .ok (.if_icmp .ge 7, 3) := by decide +kernel
theorem dX1_hasHead_12 : decode cX1_hasHead 12 = .ok (.iconst 1, 1) := by decide +kernel
theorem dX1_hasHead_13 : decode cX1_hasHead 13 = .ok (.goto 4, 3) := by decide +kernel
theorem dX1_hasHead_16 : decode cX1_hasHead 16 = .ok (.iconst 0, 1) := by decide +kernel
theorem dX1_hasHead_17 : decode cX1_hasHead 17 = .ok (.ireturn, 1) := by decide +kernel
theorem dX1_isStruck_0 : decode cX1_isStruck 0 = .ok (.aload_n 0, 1) := by decide +kernel
theorem dX1_isStruck_1 : decode cX1_isStruck 1 = .ok (.getfield 62, 3) := by decide +kernel
theorem dX1_isStruck_4 : decode cX1_isStruck 4 = .ok (.iload_n 1, 1) := by decide +kernel
theorem dX1_isStruck_5 : decode cX1_isStruck 5 = .ok (.ishr, 1) := by decide +kernel
theorem dX1_isStruck_6 : decode cX1_isStruck 6 = .ok (.iconst 1, 1) := by decide +kernel
theorem dX1_isStruck_7 : decode cX1_isStruck 7 = .ok (.iand, 1) := by decide +kernel
theorem dX1_isStruck_8 : decode cX1_isStruck 8 = .ok (.ifCond .eq 7, 3) := by decide +kernel
theorem dX1_isStruck_11 : decode cX1_isStruck 11 = .ok (.iconst 1, 1) := by decide +kernel
theorem dX1_isStruck_12 : decode cX1_isStruck 12 = .ok (.goto 4, 3) := by decide +kernel
theorem dX1_isStruck_15 : decode cX1_isStruck 15 = .ok (.iconst 0, 1) := by decide +kernel
theorem dX1_isStruck_16 : decode cX1_isStruck 16 = .ok (.ireturn, 1) := by decide +kernel
theorem dX1_strike_0 : decode cX1_strike 0 = .ok (.aload_n 0, 1) := by decide +kernel
theorem dX1_strike_1 : decode cX1_strike 1 = .ok (.dup, 1) := by decide +kernel
theorem dX1_strike_2 : decode cX1_strike 2 = .ok (.getfield 62, 3) := by decide +kernel
theorem dX1_strike_5 : decode cX1_strike 5 = .ok (.iconst 1, 1) := by decide +kernel
theorem dX1_strike_6 : decode cX1_strike 6 = .ok (.iload_n 1, 1) := by decide +kernel
theorem dX1_strike_7 : decode cX1_strike 7 = .ok (.ishl, 1) := by decide +kernel
theorem dX1_strike_8 : decode cX1_strike 8 = .ok (.ior, 1) := by decide +kernel
theorem dX1_strike_9 : decode cX1_strike 9 = .ok (.putfield 62, 3) := by decide +kernel
theorem dX1_strike_12 : decode cX1_strike 12 = .ok (.return_, 1) := by decide +kernel
theorem dX1_counted_0 : decode cX1_counted 0 = .ok (.aload_n 0, 1) := by decide +kernel
theorem dX1_counted_1 : decode cX1_counted 1 = .ok (.getfield 59, 3) := by decide +kernel
theorem dX1_counted_4 : decode cX1_counted 4 = .ok (.aload_n 0, 1) := by decide +kernel
theorem dX1_counted_5 : decode cX1_counted 5 = .ok (.getfield 62, 3) := by decide +kernel
theorem dX1_counted_8 : decode cX1_counted 8 = .ok (.invokestatic 82, 3) := by decide +kernel
theorem dX1_counted_11 : decode cX1_counted 11 = .ok (.isub, 1) := by decide +kernel
theorem dX1_counted_12 : decode cX1_counted 12 = .ok (.ireturn, 1) := by decide +kernel
theorem dX1_countedInBand_0 : decode cX1_countedInBand 0 = .ok (.iconst 0, 1) := by decide +kernel
theorem dX1_countedInBand_1 : decode cX1_countedInBand 1 = .ok (.istore_n 2, 1) := by decide +kernel
theorem dX1_countedInBand_2 : decode cX1_countedInBand 2 = .ok (.iconst 0, 1) := by decide +kernel
theorem dX1_countedInBand_3 : decode cX1_countedInBand 3 = .ok (.istore_n 3, 1) := by decide +kernel
theorem dX1_countedInBand_4 : decode cX1_countedInBand 4 = .ok (.iload_n 3, 1) := by decide +kernel
theorem dX1_countedInBand_5 : decode cX1_countedInBand 5 = .ok (.aload_n 0, 1) := by decide +kernel
theorem dX1_countedInBand_6 : decode cX1_countedInBand 6 = .ok (.getfield 59, 3) := by decide +kernel
theorem dX1_countedInBand_9 : decode cX1_countedInBand 9 = .ok (.if_icmp .ge 33, 3) := by decide +kernel
theorem dX1_countedInBand_12 : decode cX1_countedInBand 12 = .ok (.aload_n 0, 1) := by decide +kernel
theorem dX1_countedInBand_13 : decode cX1_countedInBand 13 = .ok (.iload_n 3, 1) := by decide +kernel
theorem dX1_countedInBand_14 : decode cX1_countedInBand 14 = .ok (.invokevirtual 78, 3) := by decide +kernel
theorem dX1_countedInBand_17 : decode cX1_countedInBand 17 = .ok (.ifCond .ne 19, 3) := by decide +kernel
theorem dX1_countedInBand_20 : decode cX1_countedInBand 20 = .ok (.aload_n 0, 1) := by decide +kernel
theorem dX1_countedInBand_21 : decode cX1_countedInBand 21 = .ok (.getfield 15, 3) := by decide +kernel
theorem dX1_countedInBand_24 : decode cX1_countedInBand 24 = .ok (.iload_n 3, 1) := by decide +kernel
theorem dX1_countedInBand_25 : decode cX1_countedInBand 25 = .ok (.iaload, 1) := by decide +kernel
theorem dX1_countedInBand_26 : decode cX1_countedInBand 26 = .ok (.invokestatic 87, 3) := by decide +kernel
theorem dX1_countedInBand_29 : decode cX1_countedInBand 29 = .ok (.iload_n 1, 1) := by decide +kernel
theorem dX1_countedInBand_30 : decode cX1_countedInBand 30 = .ok (.if_icmp .ne 6, 3) := by decide +kernel
theorem dX1_countedInBand_33 : decode cX1_countedInBand 33 = .ok (.iinc 2 1, 3) := by decide +kernel
theorem dX1_countedInBand_36 : decode cX1_countedInBand 36 = .ok (.iinc 3 1, 3) := by decide +kernel
theorem dX1_countedInBand_39 : decode cX1_countedInBand 39 = .ok (.goto (-35), 3) := by decide +kernel
theorem dX1_countedInBand_42 : decode cX1_countedInBand 42 = .ok (.iload_n 2, 1) := by decide +kernel
theorem dX1_countedInBand_43 : decode cX1_countedInBand 43 = .ok (.ireturn, 1) := by decide +kernel
theorem dX1_bandOf_0 : decode cX1_bandOf 0 = .ok (.iload_n 0, 1) := by decide +kernel
theorem dX1_bandOf_1 : decode cX1_bandOf 1 = .ok (.bipush (-2), 2) := by decide +kernel
theorem dX1_bandOf_3 : decode cX1_bandOf 3 = .ok (.if_icmp .ne 5, 3) := by decide +kernel
theorem dX1_bandOf_6 : decode cX1_bandOf 6 = .ok (.iconst 3, 1) := by decide +kernel
theorem dX1_bandOf_7 : decode cX1_bandOf 7 = .ok (.ireturn, 1) := by decide +kernel
theorem dX1_bandOf_8 : decode cX1_bandOf 8 = .ok (.iload_n 0, 1) := by decide +kernel
theorem dX1_bandOf_9 : decode cX1_bandOf 9 = .ok (.bipush 17, 2) := by decide +kernel
theorem dX1_bandOf_11 : decode cX1_bandOf 11 = .ok (.if_icmp .gt 5, 3) := by decide +kernel
theorem dX1_bandOf_14 : decode cX1_bandOf 14 = .ok (.iconst 0, 1) := by decide +kernel
theorem dX1_bandOf_15 : decode cX1_bandOf 15 = .ok (.ireturn, 1) := by decide +kernel
theorem dX1_bandOf_16 : decode cX1_bandOf 16 = .ok (.iload_n 0, 1) := by decide +kernel
theorem dX1_bandOf_17 : decode cX1_bandOf 17 = .ok (.bipush 64, 2) := by decide +kernel
theorem dX1_bandOf_19 : decode cX1_bandOf 19 = .ok (.if_icmp .gt 7, 3) := by decide +kernel
theorem dX1_bandOf_22 : decode cX1_bandOf 22 = .ok (.iconst 1, 1) := by decide +kernel
theorem dX1_bandOf_23 : decode cX1_bandOf 23 = .ok (.goto 4, 3) := by decide +kernel
theorem dX1_bandOf_26 : decode cX1_bandOf 26 = .ok (.iconst 2, 1) := by decide +kernel
theorem dX1_bandOf_27 : decode cX1_bandOf 27 = .ok (.ireturn, 1) := by decide +kernel
theorem dX1_countedThatMayHeap_0 : decode cX1_countedThatMayHeap 0 = .ok (.iconst 0, 1) := by decide +kernel
theorem dX1_countedThatMayHeap_1 : decode cX1_countedThatMayHeap 1 = .ok (.istore_n 2, 1) := by decide +kernel
theorem dX1_countedThatMayHeap_2 : decode cX1_countedThatMayHeap 2 = .ok (.iconst 0, 1) := by decide +kernel
theorem dX1_countedThatMayHeap_3 : decode cX1_countedThatMayHeap 3 = .ok (.istore_n 3, 1) := by decide +kernel
theorem dX1_countedThatMayHeap_4 : decode cX1_countedThatMayHeap 4 = .ok (.iload_n 3, 1) := by decide +kernel
theorem dX1_countedThatMayHeap_5 : decode cX1_countedThatMayHeap 5 = .ok (.aload_n 0, 1) := by decide +kernel
theorem dX1_countedThatMayHeap_6 : decode cX1_countedThatMayHeap 6 = .ok (.getfield 59, 3) := by decide +kernel
theorem dX1_countedThatMayHeap_9 : decode cX1_countedThatMayHeap 9 = .ok (.if_icmp .ge 69, 3) := by decide +kernel
theorem dX1_countedThatMayHeap_12 : decode cX1_countedThatMayHeap 12 = .ok (.aload_n 0, 1) := by decide +kernel
theorem dX1_countedThatMayHeap_13 : decode cX1_countedThatMayHeap 13 = .ok (.getfield 15, 3) := by decide +kernel
theorem dX1_countedThatMayHeap_16 : decode cX1_countedThatMayHeap 16 = .ok (.iload_n 3, 1) := by decide +kernel
theorem dX1_countedThatMayHeap_17 : decode cX1_countedThatMayHeap 17 = .ok (.iaload, 1) := by decide +kernel
theorem dX1_countedThatMayHeap_18 : decode cX1_countedThatMayHeap 18 = .ok (.bipush 23, 2) := by decide +kernel
theorem dX1_countedThatMayHeap_20 : decode cX1_countedThatMayHeap 20 = .ok (.if_icmp .lt 26, 3) := by decide +kernel
theorem dX1_countedThatMayHeap_23 : decode cX1_countedThatMayHeap 23 = .ok (.aload_n 0, 1) := by decide +kernel
theorem dX1_countedThatMayHeap_24 : decode cX1_countedThatMayHeap 24 = .ok (.getfield 15, 3) := by decide +kernel
theorem dX1_countedThatMayHeap_27 : decode cX1_countedThatMayHeap 27 = .ok (.iload_n 3, 1) := by decide +kernel
theorem dX1_countedThatMayHeap_28 : decode cX1_countedThatMayHeap 28 = .ok (.iaload, 1) := by decide +kernel
theorem dX1_countedThatMayHeap_29 : decode cX1_countedThatMayHeap 29 = .ok (.bipush 62, 2) := by decide +kernel
theorem dX1_countedThatMayHeap_31 : decode cX1_countedThatMayHeap 31 = .ok (.if_icmp .gt 15, 3) := by decide +kernel
theorem dX1_countedThatMayHeap_34 : decode cX1_countedThatMayHeap 34 = .ok (.aload_n 0, 1) := by decide +kernel
theorem dX1_countedThatMayHeap_35 : decode cX1_countedThatMayHeap 35 = .ok (.iload_n 3, 1) := by decide +kernel
theorem dX1_countedThatMayHeap_36 : decode cX1_countedThatMayHeap 36 = .ok (.invokevirtual 78, 3) := by decide +kernel
theorem dX1_countedThatMayHeap_39 : decode cX1_countedThatMayHeap 39 = .ok (.ifCond .ne 7, 3) := by decide +kernel
theorem dX1_countedThatMayHeap_42 : decode cX1_countedThatMayHeap 42 = .ok (.iconst 1, 1) := by decide +kernel
theorem dX1_countedThatMayHeap_43 : decode cX1_countedThatMayHeap 43 = .ok (.goto 4, 3) := by decide +kernel
theorem dX1_countedThatMayHeap_46 : decode cX1_countedThatMayHeap 46 = .ok (.iconst 0, 1) := by decide +kernel
theorem dX1_countedThatMayHeap_47 : decode cX1_countedThatMayHeap 47 = .ok (.istore 4, 2) := by decide +kernel
theorem dX1_countedThatMayHeap_49 : decode cX1_countedThatMayHeap 49 = .ok (.iload 4, 2) := by decide +kernel
theorem dX1_countedThatMayHeap_51 : decode cX1_countedThatMayHeap 51 = .ok (.ifCond .eq 21, 3) := by decide +kernel
theorem dX1_countedThatMayHeap_54 : decode cX1_countedThatMayHeap 54 = .ok (.iload_n 1, 1) := by decide +kernel
theorem dX1_countedThatMayHeap_55 : decode cX1_countedThatMayHeap 55 = .ok (.ifCond .le 17, 3) := by decide +kernel
theorem dX1_countedThatMayHeap_58 : decode cX1_countedThatMayHeap 58 = .ok (.aload_n 0, 1) := by decide +kernel
theorem dX1_countedThatMayHeap_59 : decode cX1_countedThatMayHeap 59 = .ok (.getfield 15, 3) := by decide +kernel
theorem dX1_countedThatMayHeap_62 : decode cX1_countedThatMayHeap 62 = .ok (.iload_n 3, 1) := by decide +kernel
theorem dX1_countedThatMayHeap_63 : decode cX1_countedThatMayHeap 63 = .ok (.iaload, 1) := by decide +kernel
theorem dX1_countedThatMayHeap_64 : decode cX1_countedThatMayHeap 64 = .ok (.iload_n 1, 1) := by decide +kernel
theorem dX1_countedThatMayHeap_65 : decode cX1_countedThatMayHeap 65 = .ok (.irem, 1) := by decide +kernel
theorem dX1_countedThatMayHeap_66 : decode cX1_countedThatMayHeap 66 = .ok (.ifCond .ne 6, 3) := by decide +kernel
theorem dX1_countedThatMayHeap_69 : decode cX1_countedThatMayHeap 69 = .ok (.iinc 2 1, 3) := by decide +kernel
theorem dX1_countedThatMayHeap_72 : decode cX1_countedThatMayHeap 72 = .ok (.iinc 3 1, 3) := by decide +kernel
theorem dX1_countedThatMayHeap_75 : decode cX1_countedThatMayHeap 75 = .ok (.goto (-71), 3) := by decide +kernel
theorem dX1_countedThatMayHeap_78 : decode cX1_countedThatMayHeap 78 = .ok (.iload_n 2, 1) := by decide +kernel
theorem dX1_countedThatMayHeap_79 : decode cX1_countedThatMayHeap 79 = .ok (.ireturn, 1) := by decide +kernel
theorem dX1_tell_0 : decode cX1_tell 0 = .ok (.iload_n 1, 1) := by decide +kernel
theorem dX1_tell_1 : decode cX1_tell 1 = .ok (.tableswitch 80 0 5 #[39, 44, 57, 62, 70, 75], 39) := by decide +kernel
theorem dX1_tell_40 : decode cX1_tell 40 = .ok (.aload_n 0, 1) := by decide +kernel
theorem dX1_tell_41 : decode cX1_tell 41 = .ok (.getfield 18, 3) := by decide +kernel
theorem dX1_tell_44 : decode cX1_tell 44 = .ok (.ireturn, 1) := by decide +kernel
theorem dX1_tell_45 : decode cX1_tell 45 = .ok (.aload_n 0, 1) := by decide +kernel
theorem dX1_tell_46 : decode cX1_tell 46 = .ok (.getfield 55, 3) := by decide +kernel
theorem dX1_tell_49 : decode cX1_tell 49 = .ok (.ifCond .eq 7, 3) := by decide +kernel
theorem dX1_tell_52 : decode cX1_tell 52 = .ok (.iconst 1, 1) := by decide +kernel
theorem dX1_tell_53 : decode cX1_tell 53 = .ok (.goto 4, 3) := by decide +kernel
theorem dX1_tell_56 : decode cX1_tell 56 = .ok (.iconst 0, 1) := by decide +kernel
theorem dX1_tell_57 : decode cX1_tell 57 = .ok (.ireturn, 1) := by decide +kernel
theorem dX1_tell_58 : decode cX1_tell 58 = .ok (.aload_n 0, 1) := by decide +kernel
theorem dX1_tell_59 : decode cX1_tell 59 = .ok (.getfield 59, 3) := by decide +kernel
theorem dX1_tell_62 : decode cX1_tell 62 = .ok (.ireturn, 1) := by decide +kernel
theorem dX1_tell_63 : decode cX1_tell 63 = .ok (.aload_n 0, 1) := by decide +kernel
theorem dX1_tell_64 : decode cX1_tell 64 = .ok (.getfield 62, 3) := by decide +kernel
theorem dX1_tell_67 : decode cX1_tell 67 = .ok (.invokestatic 82, 3) := by decide +kernel
theorem dX1_tell_70 : decode cX1_tell 70 = .ok (.ireturn, 1) := by decide +kernel
theorem dX1_tell_71 : decode cX1_tell 71 = .ok (.aload_n 0, 1) := by decide +kernel
theorem dX1_tell_72 : decode cX1_tell 72 = .ok (.getfield 72, 3) := by decide +kernel
theorem dX1_tell_75 : decode cX1_tell 75 = .ok (.ireturn, 1) := by decide +kernel
theorem dX1_tell_76 : decode cX1_tell 76 = .ok (.aload_n 0, 1) := by decide +kernel
theorem dX1_tell_77 : decode cX1_tell 77 = .ok (.getfield 75, 3) := by decide +kernel
theorem dX1_tell_80 : decode cX1_tell 80 = .ok (.ireturn, 1) := by decide +kernel
theorem dX1_tell_81 : decode cX1_tell 81 = .ok (.iconst (-1), 1) := by decide +kernel
theorem dX1_tell_82 : decode cX1_tell 82 = .ok (.ireturn, 1) := by decide +kernel
theorem dX2_init_0 : decode cX2_init 0 = .ok (.aload_n 0, 1) := by decide +kernel
theorem dX2_init_1 : decode cX2_init 1 = .ok (.invokespecial 5, 3) := by decide +kernel
theorem dX2_init_4 : decode cX2_init 4 = .ok (.return_, 1) := by decide +kernel
theorem dX2_find_0 : decode cX2_find 0 = .ok (.aload_n 0, 1) := by decide +kernel
theorem dX2_find_1 : decode cX2_find 1 = .ok (.iconst 0, 1) := by decide +kernel
theorem dX2_find_2 : decode cX2_find 2 = .ok (.putfield 11, 3) := by decide +kernel
theorem dX2_find_5 : decode cX2_find 5 = .ok (.aload_n 0, 1) := by decide +kernel
theorem dX2_find_6 : decode cX2_find 6 = .ok (.iconst 0, 1) := by decide +kernel
theorem dX2_find_7 : decode cX2_find 7 = .ok (.putfield 17, 3) := by decide +kernel
theorem dX2_find_10 : decode cX2_find 10 = .ok (.iconst 0, 1) := by decide +kernel
theorem dX2_find_11 : decode cX2_find 11 = .ok (.istore_n 3, 1) := by decide +kernel
theorem dX2_find_12 : decode cX2_find 12 = .ok (.iload_n 3, 1) := by decide +kernel
theorem dX2_find_13 : decode cX2_find 13 = .ok (.bipush 24, 2) := by decide +kernel
theorem dX2_find_15 : decode cX2_find 15 = .ok (.if_icmp .ge 56, 3) := by decide +kernel
theorem dX2_find_18 : decode cX2_find 18 = .ok (.iload_n 3, 1) := by decide +kernel
theorem dX2_find_19 : decode cX2_find 19 = .ok (.aload_n 1, 1) := by decide +kernel
theorem dX2_find_20 : decode cX2_find 20 = .ok (.arraylength, 1) := by decide +kernel
theorem dX2_find_21 : decode cX2_find 21 = .ok (.if_icmp .ge 50, 3) := by decide +kernel
theorem dX2_find_24 : decode cX2_find 24 = .ok (.aload_n 1, 1) := by decide +kernel
theorem dX2_find_25 : decode cX2_find 25 = .ok (.iload_n 3, 1) := by decide +kernel
theorem dX2_find_26 : decode cX2_find 26 = .ok (.iaload, 1) := by decide +kernel
theorem dX2_find_27 : decode cX2_find 27 = .ok (.ifCond .le 38, 3) := by decide +kernel
theorem dX2_find_30 : decode cX2_find 30 = .ok (.aload_n 0, 1) := by decide +kernel
theorem dX2_find_31 : decode cX2_find 31 = .ok (.dup, 1) := by decide +kernel
theorem dX2_find_32 : decode cX2_find 32 = .ok (.getfield 17, 3) := by decide +kernel
theorem dX2_find_35 : decode cX2_find 35 = .ok (.iconst 1, 1) := by decide +kernel
theorem dX2_find_36 : decode cX2_find 36 = .ok (.iload_n 3, 1) := by decide +kernel
theorem dX2_find_37 : decode cX2_find 37 = .ok (.ishl, 1) := by decide +kernel
theorem dX2_find_38 : decode cX2_find 38 = .ok (.ior, 1) := by decide +kernel
theorem dX2_find_39 : decode cX2_find 39 = .ok (.putfield 17, 3) := by decide +kernel
theorem dX2_find_42 : decode cX2_find 42 = .ok (.aload_n 0, 1) := by decide +kernel
theorem dX2_find_43 : decode cX2_find 43 = .ok (.dup, 1) := by decide +kernel
theorem dX2_find_44 : decode cX2_find 44 = .ok (.getfield 11, 3) := by decide +kernel
theorem dX2_find_47 : decode cX2_find 47 = .ok (.aload_n 1, 1) := by decide +kernel
theorem dX2_find_48 : decode cX2_find 48 = .ok (.iload_n 3, 1) := by decide +kernel
theorem dX2_find_49 : decode cX2_find 49 = .ok (.iaload, 1) := by decide +kernel
theorem dX2_find_50 : decode cX2_find 50 = .ok (.iload_n 2, 1) := by decide +kernel
theorem dX2_find_51 : decode cX2_find 51 = .ok (.if_icmp .ge 9, 3) := by decide +kernel
theorem dX2_find_54 : decode cX2_find 54 = .ok (.iconst 1, 1) := by decide +kernel
theorem dX2_find_55 : decode cX2_find 55 = .ok (.iload_n 3, 1) := by decide +kernel
theorem dX2_find_56 : decode cX2_find 56 = .ok (.ishl, 1) := by decide +kernel
theorem dX2_find_57 : decode cX2_find 57 = .ok (.goto 4, 3) := by decide +kernel
theorem dX2_find_60 : decode cX2_find 60 = .ok (.iconst 0, 1) := by decide +kernel
theorem dX2_find_61 : decode cX2_find 61 = .ok (.ior, 1) := by decide +kernel
theorem dX2_find_62 : decode cX2_find 62 = .ok (.putfield 11, 3) := by decide +kernel
theorem dX2_find_65 : decode cX2_find 65 = .ok (.iinc 3 1, 3) := by decide +kernel
theorem dX2_find_68 : decode cX2_find 68 = .ok (.goto (-56), 3) := by decide +kernel
theorem dX2_find_71 : decode cX2_find 71 = .ok (.iconst (-1), 1) := by decide +kernel
theorem dX2_find_72 : decode cX2_find 72 = .ok (.istore_n 3, 1) := by decide +kernel
theorem dX2_find_73 : decode cX2_find 73 = .ok (.iconst 0, 1) := by decide +kernel
theorem dX2_find_74 : decode cX2_find 74 = .ok (.istore 4, 2) := by decide +kernel
theorem dX2_find_76 : decode cX2_find 76 = .ok (.iload 4, 2) := by decide +kernel
theorem dX2_find_78 : decode cX2_find 78 = .ok (.iconst 4, 1) := by decide +kernel
theorem dX2_find_79 : decode cX2_find 79 = .ok (.if_icmp .gt 26, 3) := by decide +kernel
theorem dX2_find_82 : decode cX2_find 82 = .ok (.iload_n 3, 1) := by decide +kernel
theorem dX2_find_83 : decode cX2_find 83 = .ok (.iconst (-1), 1) := by decide +kernel
theorem dX2_find_84 : decode cX2_find 84 = .ok (.if_icmp .ne 21, 3) := by decide +kernel
theorem dX2_find_87 : decode cX2_find 87 = .ok (.aload_n 0, 1) := by decide +kernel
theorem dX2_find_88 : decode cX2_find 88 = .ok (.iconst 0, 1) := by decide +kernel
theorem dX2_find_89 : decode cX2_find 89 = .ok (.aload_n 0, 1) := by decide +kernel
theorem dX2_find_90 : decode cX2_find 90 = .ok (.getfield 11, 3) := by decide +kernel
theorem dX2_find_93 : decode cX2_find 93 = .ok (.iload 4, 2) := by decide +kernel
theorem dX2_find_95 : decode cX2_find 95 = .ok (.invokestatic 20, 3) := by decide +kernel
theorem dX2_find_98 : decode cX2_find 98 = .ok (.istore_n 3, 1) := by decide +kernel
theorem dX2_find_99 : decode cX2_find 99 = .ok (.iinc 4 1, 3) := by decide +kernel
theorem dX2_find_102 : decode cX2_find 102 = .ok (.goto (-26), 3) := by decide +kernel
theorem dX2_find_105 : decode cX2_find 105 = .ok (.iload_n 3, 1) := by decide +kernel
theorem dX2_find_106 : decode cX2_find 106 = .ok (.ireturn, 1) := by decide +kernel
theorem dX2_choose_0 : decode cX2_choose 0 = .ok (.iload_n 2, 1) := by decide +kernel
theorem dX2_choose_1 : decode cX2_choose 1 = .ok (.invokestatic 24, 3) := by decide +kernel
theorem dX2_choose_4 : decode cX2_choose 4 = .ok (.iload_n 3, 1) := by decide +kernel
theorem dX2_choose_5 : decode cX2_choose 5 = .ok (.if_icmp .le 5, 3) := by decide +kernel
theorem dX2_choose_8 : decode cX2_choose 8 = .ok (.iconst (-1), 1) := by decide +kernel
theorem dX2_choose_9 : decode cX2_choose 9 = .ok (.ireturn, 1) := by decide +kernel
theorem dX2_choose_10 : decode cX2_choose 10 = .ok (.iload_n 3, 1) := by decide +kernel
theorem dX2_choose_11 : decode cX2_choose 11 = .ok (.ifCond .gt 17, 3) := by decide +kernel
theorem dX2_choose_14 : decode cX2_choose 14 = .ok (.aload_n 0, 1) := by decide +kernel
theorem dX2_choose_15 : decode cX2_choose 15 = .ok (.iload_n 2, 1) := by decide +kernel
theorem dX2_choose_16 : decode cX2_choose 16 = .ok (.invokevirtual 28, 3) := by decide +kernel
theorem dX2_choose_19 : decode cX2_choose 19 = .ok (.ifCond .eq 7, 3) := by decide +kernel
theorem dX2_choose_22 : decode cX2_choose 22 = .ok (.iload_n 2, 1) := by decide +kernel
theorem dX2_choose_23 : decode cX2_choose 23 = .ok (.goto 4, 3) := by decide +kernel
theorem dX2_choose_26 : decode cX2_choose 26 = .ok (.iconst (-1), 1) := by decide +kernel
theorem dX2_choose_27 : decode cX2_choose 27 = .ok (.ireturn, 1) := by decide +kernel
theorem dX2_choose_28 : decode cX2_choose 28 = .ok (.aload_n 0, 1) := by decide +kernel
theorem dX2_choose_29 : decode cX2_choose 29 = .ok (.iload_n 2, 1) := by decide +kernel
theorem dX2_choose_30 : decode cX2_choose 30 = .ok (.ldc 32, 2) := by decide +kernel
theorem dX2_choose_32 : decode cX2_choose 32 = .ok (.iload_n 1, 1) := by decide +kernel
theorem dX2_choose_33 : decode cX2_choose 33 = .ok (.ishl, 1) := by decide +kernel
theorem dX2_choose_34 : decode cX2_choose 34 = .ok (.ldc 32, 2) := by decide +kernel
theorem dX2_choose_36 : decode cX2_choose 36 = .ok (.iand, 1) := by decide +kernel
theorem dX2_choose_37 : decode cX2_choose 37 = .ok (.ior, 1) := by decide +kernel
theorem dX2_choose_38 : decode cX2_choose 38 = .ok (.invokevirtual 28, 3) := by decide +kernel
theorem dX2_choose_41 : decode cX2_choose 41 = .ok (.ifCond .ne 5, 3) := by decide +kernel
theorem dX2_choose_44 : decode cX2_choose 44 = .ok (.iconst (-1), 1) := by decide +kernel
theorem dX2_choose_45 : decode cX2_choose 45 = .ok (.ireturn, 1) := by decide +kernel
theorem dX2_choose_46 : decode cX2_choose 46 = .ok (.iload_n 1, 1) := by decide +kernel
theorem dX2_choose_47 : decode cX2_choose 47 = .ok (.istore 4, 2) := by decide +kernel
theorem dX2_choose_49 : decode cX2_choose 49 = .ok (.iload 4, 2) := by decide +kernel
theorem dX2_choose_51 : decode cX2_choose 51 = .ok (.bipush 24, 2) := by decide +kernel
theorem dX2_choose_53 : decode cX2_choose 53 = .ok (.if_icmp .ge 49, 3) := by decide +kernel
theorem dX2_choose_56 : decode cX2_choose 56 = .ok (.aload_n 0, 1) := by decide +kernel
theorem dX2_choose_57 : decode cX2_choose 57 = .ok (.getfield 11, 3) := by decide +kernel
theorem dX2_choose_60 : decode cX2_choose 60 = .ok (.iload 4, 2) := by decide +kernel
theorem dX2_choose_62 : decode cX2_choose 62 = .ok (.ishr, 1) := by decide +kernel
theorem dX2_choose_63 : decode cX2_choose 63 = .ok (.iconst 1, 1) := by decide +kernel
theorem dX2_choose_64 : decode cX2_choose 64 = .ok (.iand, 1) := by decide +kernel
theorem dX2_choose_65 : decode cX2_choose 65 = .ok (.ifCond .ne 31, 3) := by decide +kernel
theorem dX2_choose_68 : decode cX2_choose 68 = .ok (.aload_n 0, 1) := by decide +kernel
theorem dX2_choose_69 : decode cX2_choose 69 = .ok (.iload 4, 2) := by decide +kernel
theorem dX2_choose_71 : decode cX2_choose 71 = .ok (.iconst 1, 1) := by decide +kernel
theorem dX2_choose_72 : decode cX2_choose 72 = .ok (.iadd, 1) := by decide +kernel
theorem dX2_choose_73 : decode cX2_choose 73 = .ok (.iload_n 2, 1) := by decide +kernel
theorem dX2_choose_74 : decode cX2_choose 74 = .ok (.iconst 1, 1) := by decide +kernel
theorem dX2_choose_75 : decode cX2_choose 75 = .ok (.iload 4, 2) := by decide +kernel
theorem dX2_choose_77 : decode cX2_choose 77 = .ok (.ishl, 1) := by decide +kernel
theorem dX2_choose_78 : decode cX2_choose 78 = .ok (.ior, 1) := by decide +kernel
theorem dX2_choose_79 : decode cX2_choose 79 = .ok (.iload_n 3, 1) := by decide +kernel
theorem dX2_choose_80 : decode cX2_choose 80 = .ok (.iconst 1, 1) := by decide +kernel
theorem dX2_choose_81 : decode cX2_choose 81 = .ok (.isub, 1) := by decide +kernel
theorem dX2_choose_82 : decode cX2_choose 82 = .ok (.invokestatic 20, 3) := by decide +kernel
theorem dX2_choose_85 : decode cX2_choose 85 = .ok (.istore 5, 2) := by decide +kernel
theorem dX2_choose_87 : decode cX2_choose 87 = .ok (.iload 5, 2) := by decide +kernel
theorem dX2_choose_89 : decode cX2_choose 89 = .ok (.iconst (-1), 1) := by decide +kernel
theorem dX2_choose_90 : decode cX2_choose 90 = .ok (.if_icmp .eq 6, 3) := by decide +kernel
theorem dX2_choose_93 : decode cX2_choose 93 = .ok (.iload 5, 2) := by decide +kernel
theorem dX2_choose_95 : decode cX2_choose 95 = .ok (.ireturn, 1) := by decide +kernel
theorem dX2_choose_96 : decode cX2_choose 96 = .ok (.iinc 4 1, 3) := by decide +kernel
theorem dX2_choose_99 : decode cX2_choose 99 = .ok (.goto (-50), 3) := by decide +kernel
theorem dX2_choose_102 : decode cX2_choose 102 = .ok (.iconst (-1), 1) := by decide +kernel
theorem dX2_choose_103 : decode cX2_choose 103 = .ok (.ireturn, 1) := by decide +kernel
theorem dX2_loneLines_0 : decode cX2_loneLines 0 = .ok (.iconst 0, 1) := by decide +kernel
theorem dX2_loneLines_1 : decode cX2_loneLines 1 = .ok (.istore_n 1, 1) := by decide +kernel
theorem dX2_loneLines_2 : decode cX2_loneLines 2 = .ok (.iconst 0, 1) := by decide +kernel
theorem dX2_loneLines_3 : decode cX2_loneLines 3 = .ok (.istore_n 2, 1) := by decide +kernel
theorem dX2_loneLines_4 : decode cX2_loneLines 4 = .ok (.iload_n 2, 1) := by decide +kernel
theorem dX2_loneLines_5 : decode cX2_loneLines 5 = .ok (.bipush 6, 2) := by decide +kernel
theorem dX2_loneLines_7 : decode cX2_loneLines 7 = .ok (.if_icmp .ge 31, 3) := by decide +kernel
theorem dX2_loneLines_10 : decode cX2_loneLines 10 = .ok (.iload_n 1, 1) := by decide +kernel
theorem dX2_loneLines_11 : decode cX2_loneLines 11 = .ok (.iload_n 0, 1) := by decide +kernel
theorem dX2_loneLines_12 : decode cX2_loneLines 12 = .ok (.bipush 15, 2) := by decide +kernel
theorem dX2_loneLines_14 : decode cX2_loneLines 14 = .ok (.iload_n 2, 1) := by decide +kernel
theorem dX2_loneLines_15 : decode cX2_loneLines 15 = .ok (.iconst 4, 1) := by decide +kernel
theorem dX2_loneLines_16 : decode cX2_loneLines 16 = .ok (.imul, 1) := by decide +kernel
theorem dX2_loneLines_17 : decode cX2_loneLines 17 = .ok (.ishl, 1) := by decide +kernel
theorem dX2_loneLines_18 : decode cX2_loneLines 18 = .ok (.iand, 1) := by decide +kernel
theorem dX2_loneLines_19 : decode cX2_loneLines 19 = .ok (.invokestatic 33, 3) := by decide +kernel
theorem dX2_loneLines_22 : decode cX2_loneLines 22 = .ok (.ifCond .eq 7, 3) := by decide +kernel
theorem dX2_loneLines_25 : decode cX2_loneLines 25 = .ok (.iconst 1, 1) := by decide +kernel
theorem dX2_loneLines_26 : decode cX2_loneLines 26 = .ok (.goto 4, 3) := by decide +kernel
theorem dX2_loneLines_29 : decode cX2_loneLines 29 = .ok (.iconst 0, 1) := by decide +kernel
theorem dX2_loneLines_30 : decode cX2_loneLines 30 = .ok (.iadd, 1) := by decide +kernel
theorem dX2_loneLines_31 : decode cX2_loneLines 31 = .ok (.istore_n 1, 1) := by decide +kernel
theorem dX2_loneLines_32 : decode cX2_loneLines 32 = .ok (.iinc 2 1, 3) := by decide +kernel
theorem dX2_loneLines_35 : decode cX2_loneLines 35 = .ok (.goto (-31), 3) := by decide +kernel
theorem dX2_loneLines_38 : decode cX2_loneLines 38 = .ok (.iconst 0, 1) := by decide +kernel
theorem dX2_loneLines_39 : decode cX2_loneLines 39 = .ok (.istore_n 2, 1) := by decide +kernel
theorem dX2_loneLines_40 : decode cX2_loneLines 40 = .ok (.iconst 0, 1) := by decide +kernel
theorem dX2_loneLines_41 : decode cX2_loneLines 41 = .ok (.istore_n 3, 1) := by decide +kernel
theorem dX2_loneLines_42 : decode cX2_loneLines 42 = .ok (.iload_n 3, 1) := by decide +kernel
theorem dX2_loneLines_43 : decode cX2_loneLines 43 = .ok (.iconst 4, 1) := by decide +kernel
theorem dX2_loneLines_44 : decode cX2_loneLines 44 = .ok (.if_icmp .ge 29, 3) := by decide +kernel
theorem dX2_loneLines_47 : decode cX2_loneLines 47 = .ok (.iload_n 2, 1) := by decide +kernel
theorem dX2_loneLines_48 : decode cX2_loneLines 48 = .ok (.iload_n 0, 1) := by decide +kernel
theorem dX2_loneLines_49 : decode cX2_loneLines 49 = .ok (.ldc 36, 2) := by decide +kernel
theorem dX2_loneLines_51 : decode cX2_loneLines 51 = .ok (.iload_n 3, 1) := by decide +kernel
theorem dX2_loneLines_52 : decode cX2_loneLines 52 = .ok (.ishl, 1) := by decide +kernel
theorem dX2_loneLines_53 : decode cX2_loneLines 53 = .ok (.iand, 1) := by decide +kernel
theorem dX2_loneLines_54 : decode cX2_loneLines 54 = .ok (.invokestatic 33, 3) := by decide +kernel
theorem dX2_loneLines_57 : decode cX2_loneLines 57 = .ok (.ifCond .eq 7, 3) := by decide +kernel
theorem dX2_loneLines_60 : decode cX2_loneLines 60 = .ok (.iconst 1, 1) := by decide +kernel
theorem dX2_loneLines_61 : decode cX2_loneLines 61 = .ok (.goto 4, 3) := by decide +kernel
theorem dX2_loneLines_64 : decode cX2_loneLines 64 = .ok (.iconst 0, 1) := by decide +kernel
theorem dX2_loneLines_65 : decode cX2_loneLines 65 = .ok (.iadd, 1) := by decide +kernel
theorem dX2_loneLines_66 : decode cX2_loneLines 66 = .ok (.istore_n 2, 1) := by decide +kernel
theorem dX2_loneLines_67 : decode cX2_loneLines 67 = .ok (.iinc 3 1, 3) := by decide +kernel
theorem dX2_loneLines_70 : decode cX2_loneLines 70 = .ok (.goto (-28), 3) := by decide +kernel
theorem dX2_loneLines_73 : decode cX2_loneLines 73 = .ok (.iload_n 1, 1) := by decide +kernel
theorem dX2_loneLines_74 : decode cX2_loneLines 74 = .ok (.iload_n 2, 1) := by decide +kernel
theorem dX2_loneLines_75 : decode cX2_loneLines 75 = .ok (.invokestatic 37, 3) := by decide +kernel
theorem dX2_loneLines_78 : decode cX2_loneLines 78 = .ok (.ireturn, 1) := by decide +kernel
theorem dX2_isOneCell_0 : decode cX2_isOneCell 0 = .ok (.iload_n 0, 1) := by decide +kernel
theorem dX2_isOneCell_1 : decode cX2_isOneCell 1 = .ok (.ifCond .eq 15, 3) := by decide +kernel
theorem dX2_isOneCell_4 : decode cX2_isOneCell 4 = .ok (.iload_n 0, 1) := by decide +kernel
theorem dX2_isOneCell_5 : decode cX2_isOneCell 5 = .ok (.iload_n 0, 1) := by decide +kernel
theorem dX2_isOneCell_6 : decode cX2_isOneCell 6 = .ok (.iconst 1, 1) := by decide +kernel
theorem dX2_isOneCell_7 : decode cX2_isOneCell 7 = .ok (.isub, 1) := by decide +kernel
theorem dX2_isOneCell_8 : decode cX2_isOneCell 8 = .ok (.iand, 1) := by decide +kernel
theorem dX2_isOneCell_9 : decode cX2_isOneCell 9 = .ok (.ifCond .ne 7, 3) := by decide +kernel
theorem dX2_isOneCell_12 : decode cX2_isOneCell 12 = .ok (.iconst 1, 1) := by decide +kernel
theorem dX2_isOneCell_13 : decode cX2_isOneCell 13 = .ok (.goto 4, 3) := by decide +kernel
theorem dX2_isOneCell_16 : decode cX2_isOneCell 16 = .ok (.iconst 0, 1) := by decide +kernel
theorem dX2_isOneCell_17 : decode cX2_isOneCell 17 = .ok (.ireturn, 1) := by decide +kernel
theorem dX2_noneFollows_0 : decode cX2_noneFollows 0 = .ok (.iconst 0, 1) := by decide +kernel
theorem dX2_noneFollows_1 : decode cX2_noneFollows 1 = .ok (.istore_n 2, 1) := by decide +kernel
theorem dX2_noneFollows_2 : decode cX2_noneFollows 2 = .ok (.iload_n 2, 1) := by decide +kernel
theorem dX2_noneFollows_3 : decode cX2_noneFollows 3 = .ok (.bipush 24, 2) := by decide +kernel
theorem dX2_noneFollows_5 : decode cX2_noneFollows 5 = .ok (.if_icmp .ge 75, 3) := by decide +kernel
theorem dX2_noneFollows_8 : decode cX2_noneFollows 8 = .ok (.aload_n 0, 1) := by decide +kernel
theorem dX2_noneFollows_9 : decode cX2_noneFollows 9 = .ok (.getfield 11, 3) := by decide +kernel
theorem dX2_noneFollows_12 : decode cX2_noneFollows 12 = .ok (.iload_n 2, 1) := by decide +kernel
theorem dX2_noneFollows_13 : decode cX2_noneFollows 13 = .ok (.ishr, 1) := by decide +kernel
theorem dX2_noneFollows_14 : decode cX2_noneFollows 14 = .ok (.iconst 1, 1) := by decide +kernel
theorem dX2_noneFollows_15 : decode cX2_noneFollows 15 = .ok (.iand, 1) := by decide +kernel
theorem dX2_noneFollows_16 : decode cX2_noneFollows 16 = .ok (.ifCond .ne 6, 3) := by decide +kernel
theorem dX2_noneFollows_19 : decode cX2_noneFollows 19 = .ok (.goto 55, 3) := by decide +kernel
theorem dX2_noneFollows_22 : decode cX2_noneFollows 22 = .ok (.iload_n 1, 1) := by decide +kernel
theorem dX2_noneFollows_23 : decode cX2_noneFollows 23 = .ok (.iconst 1, 1) := by decide +kernel
theorem dX2_noneFollows_24 : decode cX2_noneFollows 24 = .ok (.iload_n 2, 1) := by decide +kernel
theorem dX2_noneFollows_25 : decode cX2_noneFollows 25 = .ok (.ishl, 1) := by decide +kernel
theorem dX2_noneFollows_26 : decode cX2_noneFollows 26 = .ok (.iconst (-1), 1) := by decide +kernel
theorem dX2_noneFollows_27 : decode cX2_noneFollows 27 = .ok (.ixor, 1) := by decide +kernel
theorem dX2_noneFollows_28 : decode cX2_noneFollows 28 = .ok (.iand, 1) := by decide +kernel
theorem dX2_noneFollows_29 : decode cX2_noneFollows 29 = .ok (.istore_n 3, 1) := by decide +kernel
theorem dX2_noneFollows_30 : decode cX2_noneFollows 30 = .ok (.bipush 15, 2) := by decide +kernel
theorem dX2_noneFollows_32 : decode cX2_noneFollows 32 = .ok (.iload_n 2, 1) := by decide +kernel
theorem dX2_noneFollows_33 : decode cX2_noneFollows 33 = .ok (.iconst 4, 1) := by decide +kernel
theorem dX2_noneFollows_34 : decode cX2_noneFollows 34 = .ok (.idiv, 1) := by decide +kernel
theorem dX2_noneFollows_35 : decode cX2_noneFollows 35 = .ok (.iconst 4, 1) := by decide +kernel
theorem dX2_noneFollows_36 : decode cX2_noneFollows 36 = .ok (.imul, 1) := by decide +kernel
theorem dX2_noneFollows_37 : decode cX2_noneFollows 37 = .ok (.ishl, 1) := by decide +kernel
theorem dX2_noneFollows_38 : decode cX2_noneFollows 38 = .ok (.istore 4, 2) := by decide +kernel
theorem dX2_noneFollows_40 : decode cX2_noneFollows 40 = .ok (.ldc 36, 2) := by decide +kernel
theorem dX2_noneFollows_42 : decode cX2_noneFollows 42 = .ok (.iload_n 2, 1) := by decide +kernel
theorem dX2_noneFollows_43 : decode cX2_noneFollows 43 = .ok (.iconst 4, 1) := by decide +kernel
theorem dX2_noneFollows_44 : decode cX2_noneFollows 44 = .ok (.irem, 1) := by decide +kernel
theorem dX2_noneFollows_45 : decode cX2_noneFollows 45 = .ok (.ishl, 1) := by decide +kernel
theorem dX2_noneFollows_46 : decode cX2_noneFollows 46 = .ok (.istore 5, 2) := by decide +kernel
theorem dX2_noneFollows_48 : decode cX2_noneFollows 48 = .ok (.aload_n 0, 1) := by decide +kernel
theorem dX2_noneFollows_49 : decode cX2_noneFollows 49 = .ok (.iload 4, 2) := by decide +kernel
theorem dX2_noneFollows_51 : decode cX2_noneFollows 51 = .ok (.iload 5, 2) := by decide +kernel
theorem dX2_noneFollows_53 : decode cX2_noneFollows 53 = .ok (.iload_n 3, 1) := by decide +kernel
theorem dX2_noneFollows_54 : decode cX2_noneFollows 54 = .ok (.invokevirtual 43, 3) := by decide +kernel
theorem dX2_noneFollows_57 : decode cX2_noneFollows 57 = .ok (.ifCond .ne 17, 3) := by decide +kernel
theorem dX2_noneFollows_60 : decode cX2_noneFollows 60 = .ok (.aload_n 0, 1) := by decide +kernel
theorem dX2_noneFollows_61 : decode cX2_noneFollows 61 = .ok (.iload 4, 2) := by decide +kernel
theorem dX2_noneFollows_63 : decode cX2_noneFollows 63 = .ok (.iload 5, 2) := by decide +kernel
theorem dX2_noneFollows_65 : decode cX2_noneFollows 65 = .ok (.iload_n 3, 1) := by decide +kernel
theorem dX2_noneFollows_66 : decode cX2_noneFollows 66 = .ok (.invokevirtual 47, 3) := by decide +kernel
theorem dX2_noneFollows_69 : decode cX2_noneFollows 69 = .ok (.ifCond .ne 5, 3) := by decide +kernel
theorem dX2_noneFollows_72 : decode cX2_noneFollows 72 = .ok (.iconst 0, 1) := by decide +kernel
theorem dX2_noneFollows_73 : decode cX2_noneFollows 73 = .ok (.ireturn, 1) := by decide +kernel
theorem dX2_noneFollows_74 : decode cX2_noneFollows 74 = .ok (.iinc 2 1, 3) := by decide +kernel
theorem dX2_noneFollows_77 : decode cX2_noneFollows 77 = .ok (.goto (-75), 3) := by decide +kernel
theorem dX2_noneFollows_80 : decode cX2_noneFollows 80 = .ok (.iconst 1, 1) := by decide +kernel
theorem dX2_noneFollows_81 : decode cX2_noneFollows 81 = .ok (.ireturn, 1) := by decide +kernel
theorem dX2_canShrink_0 : decode cX2_canShrink 0 = .ok (.iload_n 1, 1) := by decide +kernel
theorem dX2_canShrink_1 : decode cX2_canShrink 1 = .ok (.istore 4, 2) := by decide +kernel
theorem dX2_canShrink_3 : decode cX2_canShrink 3 = .ok (.iconst 0, 1) := by decide +kernel
theorem dX2_canShrink_4 : decode cX2_canShrink 4 = .ok (.istore 5, 2) := by decide +kernel
theorem dX2_canShrink_6 : decode cX2_canShrink 6 = .ok (.iconst 0, 1) := by decide +kernel
theorem dX2_canShrink_7 : decode cX2_canShrink 7 = .ok (.istore 6, 2) := by decide +kernel
theorem dX2_canShrink_9 : decode cX2_canShrink 9 = .ok (.iload 6, 2) := by decide +kernel
theorem dX2_canShrink_11 : decode cX2_canShrink 11 = .ok (.bipush 6, 2) := by decide +kernel
theorem dX2_canShrink_13 : decode cX2_canShrink 13 = .ok (.if_icmp .ge 55, 3) := by decide +kernel
theorem dX2_canShrink_16 : decode cX2_canShrink 16 = .ok (.iload 4, 2) := by decide +kernel
theorem dX2_canShrink_18 : decode cX2_canShrink 18 = .ok (.iload 5, 2) := by decide +kernel
theorem dX2_canShrink_20 : decode cX2_canShrink 20 = .ok (.if_icmp .eq 48, 3) := by decide +kernel
theorem dX2_canShrink_23 : decode cX2_canShrink 23 = .ok (.iload 4, 2) := by decide +kernel
theorem dX2_canShrink_25 : decode cX2_canShrink 25 = .ok (.iload_n 3, 1) := by decide +kernel
theorem dX2_canShrink_26 : decode cX2_canShrink 26 = .ok (.iand, 1) := by decide +kernel
theorem dX2_canShrink_27 : decode cX2_canShrink 27 = .ok (.invokestatic 50, 3) := by decide +kernel
theorem dX2_canShrink_30 : decode cX2_canShrink 30 = .ok (.istore 7, 2) := by decide +kernel
theorem dX2_canShrink_32 : decode cX2_canShrink 32 = .ok (.iload 7, 2) := by decide +kernel
theorem dX2_canShrink_34 : decode cX2_canShrink 34 = .ok (.iload_n 2, 1) := by decide +kernel
theorem dX2_canShrink_35 : decode cX2_canShrink 35 = .ok (.iand, 1) := by decide +kernel
theorem dX2_canShrink_36 : decode cX2_canShrink 36 = .ok (.ifCond .eq 5, 3) := by decide +kernel
theorem dX2_canShrink_39 : decode cX2_canShrink 39 = .ok (.iconst 1, 1) := by decide +kernel
theorem dX2_canShrink_40 : decode cX2_canShrink 40 = .ok (.ireturn, 1) := by decide +kernel
theorem dX2_canShrink_41 : decode cX2_canShrink 41 = .ok (.iload 4, 2) := by decide +kernel
theorem dX2_canShrink_43 : decode cX2_canShrink 43 = .ok (.istore 5, 2) := by decide +kernel
theorem dX2_canShrink_45 : decode cX2_canShrink 45 = .ok (.iload 4, 2) := by decide +kernel
theorem dX2_canShrink_47 : decode cX2_canShrink 47 = .ok (.iload 7, 2) := by decide +kernel
theorem dX2_canShrink_49 : decode cX2_canShrink 49 = .ok (.iload_n 3, 1) := by decide +kernel
theorem dX2_canShrink_50 : decode cX2_canShrink 50 = .ok (.iand, 1) := by decide +kernel
theorem dX2_canShrink_51 : decode cX2_canShrink 51 = .ok (.aload_n 0, 1) := by decide +kernel
theorem dX2_canShrink_52 : decode cX2_canShrink 52 = .ok (.getfield 17, 3) := by decide +kernel
theorem dX2_canShrink_55 : decode cX2_canShrink 55 = .ok (.iand, 1) := by decide +kernel
theorem dX2_canShrink_56 : decode cX2_canShrink 56 = .ok (.invokestatic 53, 3) := by decide +kernel
theorem dX2_canShrink_59 : decode cX2_canShrink 59 = .ok (.ior, 1) := by decide +kernel
theorem dX2_canShrink_60 : decode cX2_canShrink 60 = .ok (.istore 4, 2) := by decide +kernel
theorem dX2_canShrink_62 : decode cX2_canShrink 62 = .ok (.iinc 6 1, 3) := by decide +kernel
theorem dX2_canShrink_65 : decode cX2_canShrink 65 = .ok (.goto (-56), 3) := by decide +kernel
theorem dX2_canShrink_68 : decode cX2_canShrink 68 = .ok (.iconst 0, 1) := by decide +kernel
theorem dX2_canShrink_69 : decode cX2_canShrink 69 = .ok (.ireturn, 1) := by decide +kernel
theorem dX2_canGrow_0 : decode cX2_canGrow 0 = .ok (.iload_n 2, 1) := by decide +kernel
theorem dX2_canGrow_1 : decode cX2_canGrow 1 = .ok (.istore 4, 2) := by decide +kernel
theorem dX2_canGrow_3 : decode cX2_canGrow 3 = .ok (.iconst 0, 1) := by decide +kernel
theorem dX2_canGrow_4 : decode cX2_canGrow 4 = .ok (.istore 5, 2) := by decide +kernel
theorem dX2_canGrow_6 : decode cX2_canGrow 6 = .ok (.iconst 0, 1) := by decide +kernel
theorem dX2_canGrow_7 : decode cX2_canGrow 7 = .ok (.istore 6, 2) := by decide +kernel
theorem dX2_canGrow_9 : decode cX2_canGrow 9 = .ok (.iload 6, 2) := by decide +kernel
theorem dX2_canGrow_11 : decode cX2_canGrow 11 = .ok (.bipush 6, 2) := by decide +kernel
theorem dX2_canGrow_13 : decode cX2_canGrow 13 = .ok (.if_icmp .ge 55, 3) := by decide +kernel
theorem dX2_canGrow_16 : decode cX2_canGrow 16 = .ok (.iload 4, 2) := by decide +kernel
theorem dX2_canGrow_18 : decode cX2_canGrow 18 = .ok (.iload 5, 2) := by decide +kernel
theorem dX2_canGrow_20 : decode cX2_canGrow 20 = .ok (.if_icmp .eq 48, 3) := by decide +kernel
theorem dX2_canGrow_23 : decode cX2_canGrow 23 = .ok (.iload 4, 2) := by decide +kernel
theorem dX2_canGrow_25 : decode cX2_canGrow 25 = .ok (.iload_n 3, 1) := by decide +kernel
theorem dX2_canGrow_26 : decode cX2_canGrow 26 = .ok (.iand, 1) := by decide +kernel
theorem dX2_canGrow_27 : decode cX2_canGrow 27 = .ok (.aload_n 0, 1) := by decide +kernel
theorem dX2_canGrow_28 : decode cX2_canGrow 28 = .ok (.getfield 17, 3) := by decide +kernel
theorem dX2_canGrow_31 : decode cX2_canGrow 31 = .ok (.iand, 1) := by decide +kernel
theorem dX2_canGrow_32 : decode cX2_canGrow 32 = .ok (.invokestatic 53, 3) := by decide +kernel
theorem dX2_canGrow_35 : decode cX2_canGrow 35 = .ok (.istore 7, 2) := by decide +kernel
theorem dX2_canGrow_37 : decode cX2_canGrow 37 = .ok (.iload 7, 2) := by decide +kernel
theorem dX2_canGrow_39 : decode cX2_canGrow 39 = .ok (.iload_n 1, 1) := by decide +kernel
theorem dX2_canGrow_40 : decode cX2_canGrow 40 = .ok (.iand, 1) := by decide +kernel
theorem dX2_canGrow_41 : decode cX2_canGrow 41 = .ok (.ifCond .eq 5, 3) := by decide +kernel
theorem dX2_canGrow_44 : decode cX2_canGrow 44 = .ok (.iconst 1, 1) := by decide +kernel
theorem dX2_canGrow_45 : decode cX2_canGrow 45 = .ok (.ireturn, 1) := by decide +kernel
theorem dX2_canGrow_46 : decode cX2_canGrow 46 = .ok (.iload 4, 2) := by decide +kernel
theorem dX2_canGrow_48 : decode cX2_canGrow 48 = .ok (.istore 5, 2) := by decide +kernel
theorem dX2_canGrow_50 : decode cX2_canGrow 50 = .ok (.iload 4, 2) := by decide +kernel
theorem dX2_canGrow_52 : decode cX2_canGrow 52 = .ok (.iload 7, 2) := by decide +kernel
theorem dX2_canGrow_54 : decode cX2_canGrow 54 = .ok (.iload_n 3, 1) := by decide +kernel
theorem dX2_canGrow_55 : decode cX2_canGrow 55 = .ok (.iand, 1) := by decide +kernel
theorem dX2_canGrow_56 : decode cX2_canGrow 56 = .ok (.invokestatic 50, 3) := by decide +kernel
theorem dX2_canGrow_59 : decode cX2_canGrow 59 = .ok (.ior, 1) := by decide +kernel
theorem dX2_canGrow_60 : decode cX2_canGrow 60 = .ok (.istore 4, 2) := by decide +kernel
theorem dX2_canGrow_62 : decode cX2_canGrow 62 = .ok (.iinc 6 1, 3) := by decide +kernel
theorem dX2_canGrow_65 : decode cX2_canGrow 65 = .ok (.goto (-56), 3) := by decide +kernel
theorem dX2_canGrow_68 : decode cX2_canGrow 68 = .ok (.iconst 0, 1) := by decide +kernel
theorem dX2_canGrow_69 : decode cX2_canGrow 69 = .ok (.ireturn, 1) := by decide +kernel
theorem dX2_columnsOf_0 : decode cX2_columnsOf 0 = .ok (.iload_n 0, 1) := by decide +kernel
theorem dX2_columnsOf_1 : decode cX2_columnsOf 1 = .ok (.iload_n 0, 1) := by decide +kernel
theorem dX2_columnsOf_2 : decode cX2_columnsOf 2 = .ok (.bipush 8, 2) := by decide +kernel
theorem dX2_columnsOf_4 : decode cX2_columnsOf 4 = .ok (.ishr, 1) := by decide +kernel
theorem dX2_columnsOf_5 : decode cX2_columnsOf 5 = .ok (.ior, 1) := by decide +kernel
theorem dX2_columnsOf_6 : decode cX2_columnsOf 6 = .ok (.iload_n 0, 1) := by decide +kernel
theorem dX2_columnsOf_7 : decode cX2_columnsOf 7 = .ok (.bipush 16, 2) := by decide +kernel
theorem dX2_columnsOf_9 : decode cX2_columnsOf 9 = .ok (.ishr, 1) := by decide +kernel
theorem dX2_columnsOf_10 : decode cX2_columnsOf 10 = .ok (.ior, 1) := by decide +kernel
theorem dX2_columnsOf_11 : decode cX2_columnsOf 11 = .ok (.istore_n 1, 1) := by decide +kernel
theorem dX2_columnsOf_12 : decode cX2_columnsOf 12 = .ok (.iload_n 1, 1) := by decide +kernel
theorem dX2_columnsOf_13 : decode cX2_columnsOf 13 = .ok (.iload_n 1, 1) := by decide +kernel
theorem dX2_columnsOf_14 : decode cX2_columnsOf 14 = .ok (.iconst 4, 1) := by decide +kernel
theorem dX2_columnsOf_15 : decode cX2_columnsOf 15 = .ok (.ishr, 1) := by decide +kernel
theorem dX2_columnsOf_16 : decode cX2_columnsOf 16 = .ok (.ior, 1) := by decide +kernel
theorem dX2_columnsOf_17 : decode cX2_columnsOf 17 = .ok (.bipush 15, 2) := by decide +kernel
theorem dX2_columnsOf_19 : decode cX2_columnsOf 19 = .ok (.iand, 1) := by decide +kernel
theorem dX2_columnsOf_20 : decode cX2_columnsOf 20 = .ok (.ldc 36, 2) := by decide +kernel
theorem dX2_columnsOf_22 : decode cX2_columnsOf 22 = .ok (.imul, 1) := by decide +kernel
theorem dX2_columnsOf_23 : decode cX2_columnsOf 23 = .ok (.ireturn, 1) := by decide +kernel
theorem dX2_rowsOf_0 : decode cX2_rowsOf 0 = .ok (.iload_n 0, 1) := by decide +kernel
theorem dX2_rowsOf_1 : decode cX2_rowsOf 1 = .ok (.iload_n 0, 1) := by decide +kernel
theorem dX2_rowsOf_2 : decode cX2_rowsOf 2 = .ok (.iconst 1, 1) := by decide +kernel
theorem dX2_rowsOf_3 : decode cX2_rowsOf 3 = .ok (.ishr, 1) := by decide +kernel
theorem dX2_rowsOf_4 : decode cX2_rowsOf 4 = .ok (.ior, 1) := by decide +kernel
theorem dX2_rowsOf_5 : decode cX2_rowsOf 5 = .ok (.istore_n 1, 1) := by decide +kernel
theorem dX2_rowsOf_6 : decode cX2_rowsOf 6 = .ok (.iload_n 1, 1) := by decide +kernel
theorem dX2_rowsOf_7 : decode cX2_rowsOf 7 = .ok (.iload_n 1, 1) := by decide +kernel
theorem dX2_rowsOf_8 : decode cX2_rowsOf 8 = .ok (.iconst 2, 1) := by decide +kernel
theorem dX2_rowsOf_9 : decode cX2_rowsOf 9 = .ok (.ishr, 1) := by decide +kernel
theorem dX2_rowsOf_10 : decode cX2_rowsOf 10 = .ok (.ior, 1) := by decide +kernel
theorem dX2_rowsOf_11 : decode cX2_rowsOf 11 = .ok (.ldc 36, 2) := by decide +kernel
theorem dX2_rowsOf_13 : decode cX2_rowsOf 13 = .ok (.iand, 1) := by decide +kernel
theorem dX2_rowsOf_14 : decode cX2_rowsOf 14 = .ok (.bipush 15, 2) := by decide +kernel
theorem dX2_rowsOf_16 : decode cX2_rowsOf 16 = .ok (.imul, 1) := by decide +kernel
theorem dX2_rowsOf_17 : decode cX2_rowsOf 17 = .ok (.ireturn, 1) := by decide +kernel
theorem dX3_init_0 : decode cX3_init 0 = .ok (.aload_n 0, 1) := by decide +kernel
theorem dX3_init_1 : decode cX3_init 1 = .ok (.invokespecial 3, 3) := by decide +kernel
theorem dX3_init_4 : decode cX3_init 4 = .ok (.aload_n 0, 1) := by decide +kernel
theorem dX3_init_5 : decode cX3_init 5 = .ok (.iconst 3, 1) := by decide +kernel
theorem dX3_init_6 : decode cX3_init 6 = .ok (.putfield 9, 3) := by decide +kernel
theorem dX3_init_9 : decode cX3_init 9 = .ok (.aload_n 0, 1) := by decide +kernel
theorem dX3_init_10 : decode cX3_init 10 = .ok (.iconst 2, 1) := by decide +kernel
theorem dX3_init_11 : decode cX3_init 11 = .ok (.putfield 15, 3) := by decide +kernel
theorem dX3_init_14 : decode cX3_init 14 = .ok (.aload_n 0, 1) := by decide +kernel
theorem dX3_init_15 : decode cX3_init 15 = .ok (.iconst 3, 1) := by decide +kernel
theorem dX3_init_16 : decode cX3_init 16 = .ok (.putfield 18, 3) := by decide +kernel
theorem dX3_init_19 : decode cX3_init 19 = .ok (.aload_n 0, 1) := by decide +kernel
theorem dX3_init_20 : decode cX3_init 20 = .ok (.iconst (-1), 1) := by decide +kernel
theorem dX3_init_21 : decode cX3_init 21 = .ok (.putfield 21, 3) := by decide +kernel
theorem dX3_init_24 : decode cX3_init 24 = .ok (.return_, 1) := by decide +kernel
theorem dX3_read_0 : decode cX3_read 0 = .ok (.aload_n 0, 1) := by decide +kernel
theorem dX3_read_1 : decode cX3_read 1 = .ok (.aload_n 1, 1) := by decide +kernel
theorem dX3_read_2 : decode cX3_read 2 = .ok (.invokestatic 24, 3) := by decide +kernel
theorem dX3_read_5 : decode cX3_read 5 = .ok (.putfield 21, 3) := by decide +kernel
theorem dX3_read_8 : decode cX3_read 8 = .ok (.aload_n 0, 1) := by decide +kernel
theorem dX3_read_9 : decode cX3_read 9 = .ok (.getfield 21, 3) := by decide +kernel
theorem dX3_read_12 : decode cX3_read 12 = .ok (.iconst (-1), 1) := by decide +kernel
theorem dX3_read_13 : decode cX3_read 13 = .ok (.if_icmp .eq 5, 3) := by decide +kernel
theorem dX3_read_16 : decode cX3_read 16 = .ok (.iconst 0, 1) := by decide +kernel
theorem dX3_read_17 : decode cX3_read 17 = .ok (.ireturn, 1) := by decide +kernel
theorem dX3_read_18 : decode cX3_read 18 = .ok (.aload_n 0, 1) := by decide +kernel
theorem dX3_read_19 : decode cX3_read 19 = .ok (.aload_n 1, 1) := by decide +kernel
theorem dX3_read_20 : decode cX3_read 20 = .ok (.iconst 1, 1) := by decide +kernel
theorem dX3_read_21 : decode cX3_read 21 = .ok (.invokevirtual 28, 3) := by decide +kernel
theorem dX3_read_24 : decode cX3_read 24 = .ok (.bipush 48, 2) := by decide +kernel
theorem dX3_read_26 : decode cX3_read 26 = .ok (.isub, 1) := by decide +kernel
theorem dX3_read_27 : decode cX3_read 27 = .ok (.putfield 9, 3) := by decide +kernel
theorem dX3_read_30 : decode cX3_read 30 = .ok (.aload_n 0, 1) := by decide +kernel
theorem dX3_read_31 : decode cX3_read 31 = .ok (.aload_n 1, 1) := by decide +kernel
theorem dX3_read_32 : decode cX3_read 32 = .ok (.iconst 3, 1) := by decide +kernel
theorem dX3_read_33 : decode cX3_read 33 = .ok (.invokevirtual 28, 3) := by decide +kernel
theorem dX3_read_36 : decode cX3_read 36 = .ok (.bipush 48, 2) := by decide +kernel
theorem dX3_read_38 : decode cX3_read 38 = .ok (.isub, 1) := by decide +kernel
theorem dX3_read_39 : decode cX3_read 39 = .ok (.putfield 15, 3) := by decide +kernel
theorem dX3_read_42 : decode cX3_read 42 = .ok (.aload_n 0, 1) := by decide +kernel
theorem dX3_read_43 : decode cX3_read 43 = .ok (.aload_n 1, 1) := by decide +kernel
theorem dX3_read_44 : decode cX3_read 44 = .ok (.iconst 5, 1) := by decide +kernel
theorem dX3_read_45 : decode cX3_read 45 = .ok (.invokevirtual 28, 3) := by decide +kernel
theorem dX3_read_48 : decode cX3_read 48 = .ok (.bipush 48, 2) := by decide +kernel
theorem dX3_read_50 : decode cX3_read 50 = .ok (.isub, 1) := by decide +kernel
theorem dX3_read_51 : decode cX3_read 51 = .ok (.putfield 18, 3) := by decide +kernel
theorem dX3_read_54 : decode cX3_read 54 = .ok (.iconst 1, 1) := by decide +kernel
theorem dX3_read_55 : decode cX3_read 55 = .ok (.ireturn, 1) := by decide +kernel
theorem dX3_firstWrongPlace_0 : decode cX3_firstWrongPlace 0 = .ok (.iconst 0, 1) := by decide +kernel
theorem dX3_firstWrongPlace_1 : decode cX3_firstWrongPlace 1 = .ok (.istore_n 1, 1) := by decide +kernel
theorem dX3_firstWrongPlace_2 : decode cX3_firstWrongPlace 2 = .ok (.iload_n 1, 1) := by decide +kernel
theorem dX3_firstWrongPlace_3 : decode cX3_firstWrongPlace 3 = .ok (.bipush 6, 2) := by decide +kernel
theorem dX3_firstWrongPlace_5 : decode cX3_firstWrongPlace 5 = .ok (.if_icmp .ge 31, 3) := by decide +kernel
theorem dX3_firstWrongPlace_8 : decode cX3_firstWrongPlace 8 = .ok (.iload_n 1, 1) := by decide +kernel
theorem dX3_firstWrongPlace_9 : decode cX3_firstWrongPlace 9 = .ok (.aload_n 0, 1) := by decide +kernel
theorem dX3_firstWrongPlace_10 : decode cX3_firstWrongPlace 10 = .ok (.getfield 34, 3) := by decide +kernel
theorem dX3_firstWrongPlace_13 : decode cX3_firstWrongPlace 13 = .ok (.if_icmp .ge 15, 3) := by decide +kernel
theorem dX3_firstWrongPlace_16 : decode cX3_firstWrongPlace 16 = .ok (.iload_n 1, 1) := by decide +kernel
theorem dX3_firstWrongPlace_17 : decode cX3_firstWrongPlace 17 = .ok (.aload_n 0, 1) := by decide +kernel
theorem dX3_firstWrongPlace_18 : decode cX3_firstWrongPlace 18 = .ok (.iload_n 1, 1) := by decide +kernel
theorem dX3_firstWrongPlace_19 : decode cX3_firstWrongPlace 19 = .ok (.invokevirtual 28, 3) := by decide +kernel
theorem dX3_firstWrongPlace_22 : decode cX3_firstWrongPlace 22 = .ok (.invokestatic 37, 3) := by decide +kernel
theorem dX3_firstWrongPlace_25 : decode cX3_firstWrongPlace 25 = .ok (.ifCond .ne 5, 3) := by decide +kernel
theorem dX3_firstWrongPlace_28 : decode cX3_firstWrongPlace 28 = .ok (.iload_n 1, 1) := by decide +kernel
theorem dX3_firstWrongPlace_29 : decode cX3_firstWrongPlace 29 = .ok (.ireturn, 1) := by decide +kernel
theorem dX3_firstWrongPlace_30 : decode cX3_firstWrongPlace 30 = .ok (.iinc 1 1, 3) := by decide +kernel
theorem dX3_firstWrongPlace_33 : decode cX3_firstWrongPlace 33 = .ok (.goto (-31), 3) := by decide +kernel
theorem dX3_firstWrongPlace_36 : decode cX3_firstWrongPlace 36 = .ok (.aload_n 0, 1) := by decide +kernel
theorem dX3_firstWrongPlace_37 : decode cX3_firstWrongPlace 37 = .ok (.getfield 34, 3) := by decide +kernel
theorem dX3_firstWrongPlace_40 : decode cX3_firstWrongPlace 40 = .ok (.bipush 6, 2) := by decide +kernel
theorem dX3_firstWrongPlace_42 : decode cX3_firstWrongPlace 42 = .ok (.if_icmp .le 8, 3) := by decide +kernel
theorem dX3_firstWrongPlace_45 : decode cX3_firstWrongPlace 45 = .ok (.bipush 6, 2) := by decide +kernel
theorem dX3_firstWrongPlace_47 : decode cX3_firstWrongPlace 47 = .ok (.goto 4, 3) := by decide +kernel
theorem dX3_firstWrongPlace_50 : decode cX3_firstWrongPlace 50 = .ok (.iconst (-1), 1) := by decide +kernel
theorem dX3_firstWrongPlace_51 : decode cX3_firstWrongPlace 51 = .ok (.ireturn, 1) := by decide +kernel
theorem dX3_mayStand_0 : decode cX3_mayStand 0 = .ok (.iload_n 0, 1) := by decide +kernel
theorem dX3_mayStand_1 : decode cX3_mayStand 1 = .ok (.iconst 2, 1) := by decide +kernel
theorem dX3_mayStand_2 : decode cX3_mayStand 2 = .ok (.irem, 1) := by decide +kernel
theorem dX3_mayStand_3 : decode cX3_mayStand 3 = .ok (.ifCond .ne 21, 3) := by decide +kernel
theorem dX3_mayStand_6 : decode cX3_mayStand 6 = .ok (.iload_n 1, 1) := by decide +kernel
theorem dX3_mayStand_7 : decode cX3_mayStand 7 = .ok (.ldc 41, 2) := by decide +kernel
theorem dX3_mayStand_9 : decode cX3_mayStand 9 = .ok (.iload_n 0, 1) := by decide +kernel
theorem dX3_mayStand_10 : decode cX3_mayStand 10 = .ok (.iconst 2, 1) := by decide +kernel
theorem dX3_mayStand_11 : decode cX3_mayStand 11 = .ok (.idiv, 1) := by decide +kernel
theorem dX3_mayStand_12 : decode cX3_mayStand 12 = .ok (.invokevirtual 43, 3) := by decide +kernel
theorem dX3_mayStand_15 : decode cX3_mayStand 15 = .ok (.if_icmp .ne 7, 3) := by decide +kernel
theorem dX3_mayStand_18 : decode cX3_mayStand 18 = .ok (.iconst 1, 1) := by decide +kernel
theorem dX3_mayStand_19 : decode cX3_mayStand 19 = .ok (.goto 4, 3) := by decide +kernel
theorem dX3_mayStand_22 : decode cX3_mayStand 22 = .ok (.iconst 0, 1) := by decide +kernel
theorem dX3_mayStand_23 : decode cX3_mayStand 23 = .ok (.ireturn, 1) := by decide +kernel
theorem dX3_mayStand_24 : decode cX3_mayStand 24 = .ok (.iload_n 1, 1) := by decide +kernel
theorem dX3_mayStand_25 : decode cX3_mayStand 25 = .ok (.iload_n 0, 1) := by decide +kernel
theorem dX3_mayStand_26 : decode cX3_mayStand 26 = .ok (.iconst 5, 1) := by decide +kernel
theorem dX3_mayStand_27 : decode cX3_mayStand 27 = .ok (.if_icmp .ne 8, 3) := by decide +kernel
theorem dX3_mayStand_30 : decode cX3_mayStand 30 = .ok (.bipush 50, 2) := by decide +kernel
theorem dX3_mayStand_32 : decode cX3_mayStand 32 = .ok (.goto 5, 3) := by decide +kernel
theorem dX3_mayStand_35 : decode cX3_mayStand 35 = .ok (.bipush 49, 2) := by decide +kernel
theorem dX3_mayStand_37 : decode cX3_mayStand 37 = .ok (.if_icmp .lt 13, 3) := by decide +kernel
theorem dX3_mayStand_40 : decode cX3_mayStand 40 = .ok (.iload_n 1, 1) := by decide +kernel
theorem dX3_mayStand_41 : decode cX3_mayStand 41 = .ok (.bipush 57, 2) := by decide +kernel
theorem dX3_mayStand_43 : decode cX3_mayStand 43 = .ok (.if_icmp .gt 7, 3) := by decide +kernel
theorem dX3_mayStand_46 : decode cX3_mayStand 46 = .ok (.iconst 1, 1) := by decide +kernel
theorem dX3_mayStand_47 : decode cX3_mayStand 47 = .ok (.goto 4, 3) := by decide +kernel
theorem dX3_mayStand_50 : decode cX3_mayStand 50 = .ok (.iconst 0, 1) := by decide +kernel
theorem dX3_mayStand_51 : decode cX3_mayStand 51 = .ok (.ireturn, 1) := by decide +kernel
theorem dX4_init_0 : decode cX4_init 0 = .ok (.aload_n 0, 1) := by decide +kernel
theorem dX4_init_1 : decode cX4_init 1 = .ok (.invokespecial 3, 3) := by decide +kernel
theorem dX4_init_4 : decode cX4_init 4 = .ok (.aload_n 0, 1) := by decide +kernel
theorem dX4_init_5 : decode cX4_init 5 = .ok (.bipush 30, 2) := by decide +kernel
theorem dX4_init_7 : decode cX4_init 7 = .ok (.newarray .long, 2) := by decide +kernel
theorem dX4_init_9 : decode cX4_init 9 = .ok (.putfield 11, 3) := by decide +kernel
theorem dX4_init_12 : decode cX4_init 12 = .ok (.aload_n 0, 1) := by decide +kernel
theorem dX4_init_13 : decode cX4_init 13 = .ok (.iconst (-1), 1) := by decide +kernel
theorem dX4_init_14 : decode cX4_init 14 = .ok (.putfield 15, 3) := by decide +kernel
theorem dX4_init_17 : decode cX4_init 17 = .ok (.aload_n 0, 1) := by decide +kernel
theorem dX4_init_18 : decode cX4_init 18 = .ok (.iconst (-1), 1) := by decide +kernel
theorem dX4_init_19 : decode cX4_init 19 = .ok (.putfield 19, 3) := by decide +kernel
theorem dX4_init_22 : decode cX4_init 22 = .ok (.return_, 1) := by decide +kernel
theorem dX4_isRow_0 : decode cX4_isRow 0 = .ok (.aload_n 0, 1) := by decide +kernel
theorem dX4_isRow_1 : decode cX4_isRow 1 = .ok (.getfield 15, 3) := by decide +kernel
theorem dX4_isRow_4 : decode cX4_isRow 4 = .ok (.iconst (-1), 1) := by decide +kernel
theorem dX4_isRow_5 : decode cX4_isRow 5 = .ok (.if_icmp .eq 7, 3) := by decide +kernel
theorem dX4_isRow_8 : decode cX4_isRow 8 = .ok (.iconst 1, 1) := by decide +kernel
theorem dX4_isRow_9 : decode cX4_isRow 9 = .ok (.goto 4, 3) := by decide +kernel
theorem dX4_isRow_12 : decode cX4_isRow 12 = .ok (.iconst 0, 1) := by decide +kernel
theorem dX4_isRow_13 : decode cX4_isRow 13 = .ok (.ireturn, 1) := by decide +kernel
theorem dX4_isDoor_0 : decode cX4_isDoor 0 = .ok (.aload_n 0, 1) := by decide +kernel
theorem dX4_isDoor_1 : decode cX4_isDoor 1 = .ok (.getfield 19, 3) := by decide +kernel
theorem dX4_isDoor_4 : decode cX4_isDoor 4 = .ok (.iconst (-1), 1) := by decide +kernel
theorem dX4_isDoor_5 : decode cX4_isDoor 5 = .ok (.if_icmp .eq 7, 3) := by decide +kernel
theorem dX4_isDoor_8 : decode cX4_isDoor 8 = .ok (.iconst 1, 1) := by decide +kernel
theorem dX4_isDoor_9 : decode cX4_isDoor 9 = .ok (.goto 4, 3) := by decide +kernel
theorem dX4_isDoor_12 : decode cX4_isDoor 12 = .ok (.iconst 0, 1) := by decide +kernel
theorem dX4_isDoor_13 : decode cX4_isDoor 13 = .ok (.ireturn, 1) := by decide +kernel
theorem dX4_putNothing_0 : decode cX4_putNothing 0 = .ok (.aload_n 0, 1) := by decide +kernel
theorem dX4_putNothing_1 : decode cX4_putNothing 1 = .ok (.iconst (-1), 1) := by decide +kernel
theorem dX4_putNothing_2 : decode cX4_putNothing 2 = .ok (.putfield 15, 3) := by decide +kernel
theorem dX4_putNothing_5 : decode cX4_putNothing 5 = .ok (.aload_n 0, 1) := by decide +kernel
theorem dX4_putNothing_6 : decode cX4_putNothing 6 = .ok (.iconst 0, 1) := by decide +kernel
theorem dX4_putNothing_7 : decode cX4_putNothing 7 = .ok (.putfield 22, 3) := by decide +kernel
theorem dX4_putNothing_10 : decode cX4_putNothing 10 = .ok (.aload_n 0, 1) := by decide +kernel
theorem dX4_putNothing_11 : decode cX4_putNothing 11 = .ok (.iconst (-1), 1) := by decide +kernel
theorem dX4_putNothing_12 : decode cX4_putNothing 12 = .ok (.putfield 19, 3) := by decide +kernel
theorem dX4_putNothing_15 : decode cX4_putNothing 15 = .ok (.return_, 1) := by decide +kernel
theorem dX4_putDoor_0 : decode cX4_putDoor 0 = .ok (.aload_n 0, 1) := by decide +kernel
theorem dX4_putDoor_1 : decode cX4_putDoor 1 = .ok (.invokevirtual 25, 3) := by decide +kernel
theorem dX4_putDoor_4 : decode cX4_putDoor 4 = .ok (.aload_n 0, 1) := by decide +kernel
theorem dX4_putDoor_5 : decode cX4_putDoor 5 = .ok (.iload_n 1, 1) := by decide +kernel
theorem dX4_putDoor_6 : decode cX4_putDoor 6 = .ok (.putfield 19, 3) := by decide +kernel
theorem dX4_putDoor_9 : decode cX4_putDoor 9 = .ok (.return_, 1) := by decide +kernel
theorem dX4_putRow_0 : decode cX4_putRow 0 = .ok (.aload_n 0, 1) := by decide +kernel
theorem dX4_putRow_1 : decode cX4_putRow 1 = .ok (.invokevirtual 25, 3) := by decide +kernel
theorem dX4_putRow_4 : decode cX4_putRow 4 = .ok (.aload_n 0, 1) := by decide +kernel
theorem dX4_putRow_5 : decode cX4_putRow 5 = .ok (.iload_n 1, 1) := by decide +kernel
theorem dX4_putRow_6 : decode cX4_putRow 6 = .ok (.putfield 15, 3) := by decide +kernel
theorem dX4_putRow_9 : decode cX4_putRow 9 = .ok (.aload_n 0, 1) := by decide +kernel
theorem dX4_putRow_10 : decode cX4_putRow 10 = .ok (.iload_n 2, 1) := by decide +kernel
theorem dX4_putRow_11 : decode cX4_putRow 11 = .ok (.putfield 22, 3) := by decide +kernel
theorem dX4_putRow_14 : decode cX4_putRow 14 = .ok (.aload_n 0, 1) := by decide +kernel
theorem dX4_putRow_15 : decode cX4_putRow 15 = .ok (.getfield 11, 3) := by decide +kernel
theorem dX4_putRow_18 : decode cX4_putRow 18 = .ok (.lconst 0, 1) := by decide +kernel
theorem dX4_putRow_19 : decode cX4_putRow 19 = .ok (.invokestatic 28, 3) := by decide +kernel
theorem dX4_putRow_22 : decode cX4_putRow 22 = .ok (.return_, 1) := by decide +kernel
theorem dX4_contents_0 : decode cX4_contents 0 = .ok (.aload_n 0, 1) := by decide +kernel
theorem dX4_contents_1 : decode cX4_contents 1 = .ok (.invokevirtual 34, 3) := by decide +kernel
theorem dX4_contents_4 : decode cX4_contents 4 = .ok (.ifCond .eq 13, 3) := by decide +kernel
theorem dX4_contents_7 : decode cX4_contents 7 = .ok (.bipush 100, 2) := by decide +kernel
theorem dX4_contents_9 : decode cX4_contents 9 = .ok (.aload_n 0, 1) := by decide +kernel
theorem dX4_contents_10 : decode cX4_contents 10 = .ok (.getfield 15, 3) := by decide +kernel
theorem dX4_contents_13 : decode cX4_contents 13 = .ok (.iadd, 1) := by decide +kernel
theorem dX4_contents_14 : decode cX4_contents 14 = .ok (.goto 7, 3) := by decide +kernel
theorem dX4_contents_17 : decode cX4_contents 17 = .ok (.aload_n 0, 1) := by decide +kernel
theorem dX4_contents_18 : decode cX4_contents 18 = .ok (.getfield 19, 3) := by decide +kernel
theorem dX4_contents_21 : decode cX4_contents 21 = .ok (.ireturn, 1) := by decide +kernel
theorem dX4_fitAsRow_0 : decode cX4_fitAsRow 0 = .ok (.aload_n 0, 1) := by decide +kernel
theorem dX4_fitAsRow_1 : decode cX4_fitAsRow 1 = .ok (.invokevirtual 38, 3) := by decide +kernel
theorem dX4_fitAsRow_4 : decode cX4_fitAsRow 4 = .ok (.ifCond .eq 6, 3) := by decide +kernel
theorem dX4_fitAsRow_7 : decode cX4_fitAsRow 7 = .ok (.bipush (-2), 2) := by decide +kernel
theorem dX4_fitAsRow_9 : decode cX4_fitAsRow 9 = .ok (.ireturn, 1) := by decide +kernel
theorem dX4_fitAsRow_10 : decode cX4_fitAsRow 10 = .ok (.aload_n 0, 1) := by decide +kernel
theorem dX4_fitAsRow_11 : decode cX4_fitAsRow 11 = .ok (.invokevirtual 34, 3) := by decide +kernel
theorem dX4_fitAsRow_14 : decode cX4_fitAsRow 14 = .ok (.ifCond .eq 7, 3) := by decide +kernel
theorem dX4_fitAsRow_17 : decode cX4_fitAsRow 17 = .ok (.iconst 0, 1) := by decide +kernel
theorem dX4_fitAsRow_18 : decode cX4_fitAsRow 18 = .ok (.goto 5, 3) := by decide +kernel
theorem dX4_fitAsRow_21 : decode cX4_fitAsRow 21 = .ok (.bipush (-3), 2) := by decide +kernel
theorem dX4_fitAsRow_23 : decode cX4_fitAsRow 23 = .ok (.ireturn, 1) := by decide +kernel
theorem dX4_fitAsDoor_0 : decode cX4_fitAsDoor 0 = .ok (.aload_n 0, 1) := by decide +kernel
theorem dX4_fitAsDoor_1 : decode cX4_fitAsDoor 1 = .ok (.invokevirtual 34, 3) := by decide +kernel
theorem dX4_fitAsDoor_4 : decode cX4_fitAsDoor 4 = .ok (.ifCond .eq 6, 3) := by decide +kernel
theorem dX4_fitAsDoor_7 : decode cX4_fitAsDoor 7 = .ok (.bipush (-2), 2) := by decide +kernel
theorem dX4_fitAsDoor_9 : decode cX4_fitAsDoor 9 = .ok (.ireturn, 1) := by decide +kernel
theorem dX4_fitAsDoor_10 : decode cX4_fitAsDoor 10 = .ok (.aload_n 0, 1) := by decide +kernel
theorem dX4_fitAsDoor_11 : decode cX4_fitAsDoor 11 = .ok (.invokevirtual 38, 3) := by decide +kernel
theorem dX4_fitAsDoor_14 : decode cX4_fitAsDoor 14 = .ok (.ifCond .eq 7, 3) := by decide +kernel
theorem dX4_fitAsDoor_17 : decode cX4_fitAsDoor 17 = .ok (.iconst 0, 1) := by decide +kernel
theorem dX4_fitAsDoor_18 : decode cX4_fitAsDoor 18 = .ok (.goto 5, 3) := by decide +kernel
theorem dX4_fitAsDoor_21 : decode cX4_fitAsDoor 21 = .ok (.bipush (-3), 2) := by decide +kernel
theorem dX4_fitAsDoor_23 : decode cX4_fitAsDoor 23 = .ok (.ireturn, 1) := by decide +kernel
theorem dX4_hasElement_0 : decode cX4_hasElement 0 = .ok (.iload_n 1, 1) := by decide +kernel
theorem dX4_hasElement_1 : decode cX4_hasElement 1 = .ok (.ifCond .lt 15, 3) := by decide +kernel
theorem dX4_hasElement_4 : decode cX4_hasElement 4 = .ok (.iload_n 1, 1) := by decide +kernel
theorem dX4_hasElement_5 : decode cX4_hasElement 5 = .ok (.aload_n 0, 1) := by decide +kernel
theorem dX4_hasElement_6 : decode cX4_hasElement 6 = .ok (.getfield 22, 3) := by decide +kernel
theorem dX4_hasElement_9 : decode cX4_hasElement 9 = .ok (.if_icmp .ge 7, 3) := by decide +kernel
theorem dX4_hasElement_12 : decode cX4_hasElement 12 = .ok (.iconst 1, 1) := by decide +kernel
theorem dX4_hasElement_13 : decode cX4_hasElement 13 = .ok (.goto 4, 3) := by decide +kernel
theorem dX4_hasElement_16 : decode cX4_hasElement 16 = .ok (.iconst 0, 1) := by decide +kernel
theorem dX4_hasElement_17 : decode cX4_hasElement 17 = .ok (.ireturn, 1) := by decide +kernel
theorem dX4_hasStretch_0 : decode cX4_hasStretch 0 = .ok (.iload_n 1, 1) := by decide +kernel
theorem dX4_hasStretch_1 : decode cX4_hasStretch 1 = .ok (.ifCond .lt 29, 3) := by decide +kernel
theorem dX4_hasStretch_4 : decode cX4_hasStretch 4 = .ok (.iload_n 2, 1) := by decide +kernel
theorem dX4_hasStretch_5 : decode cX4_hasStretch 5 = .ok (.ifCond .lt 25, 3) := by decide +kernel
theorem dX4_hasStretch_8 : decode cX4_hasStretch 8 = .ok (.iload_n 2, 1) := by decide +kernel
theorem dX4_hasStretch_9 : decode cX4_hasStretch 9 = .ok (.aload_n 0, 1) := by decide +kernel
theorem dX4_hasStretch_10 : decode cX4_hasStretch 10 = .ok (.getfield 22, 3) := by decide +kernel
theorem dX4_hasStretch_13 : decode cX4_hasStretch 13 = .ok (.if_icmp .gt 17, 3) := by decide +kernel
theorem dX4_hasStretch_16 : decode cX4_hasStretch 16 = .ok (.iload_n 1, 1) := by decide +kernel
theorem dX4_hasStretch_17 : decode cX4_hasStretch 17 = .ok (.aload_n 0, 1) := by decide +kernel
theorem dX4_hasStretch_18 : decode cX4_hasStretch 18 = .ok (.getfield 22, 3) := by decide +kernel
theorem dX4_hasStretch_21 : decode cX4_hasStretch 21 = .ok (.iload_n 2, 1) := by decide +kernel
theorem dX4_hasStretch_22 : decode cX4_hasStretch 22 = .ok (.isub, 1) := by decide +kernel
theorem dX4_hasStretch_23 : decode cX4_hasStretch 23 = .ok (.if_icmp .gt 7, 3) := by decide +kernel
theorem dX4_hasStretch_26 : decode cX4_hasStretch 26 = .ok (.iconst 1, 1) := by decide +kernel
theorem dX4_hasStretch_27 : decode cX4_hasStretch 27 = .ok (.goto 4, 3) := by decide +kernel
theorem dX4_hasStretch_30 : decode cX4_hasStretch 30 = .ok (.iconst 0, 1) := by decide +kernel
theorem dX4_hasStretch_31 : decode cX4_hasStretch 31 = .ok (.ireturn, 1) := by decide +kernel
theorem dX4_putElement_0 : decode cX4_putElement 0 = .ok (.aload_n 0, 1) := by decide +kernel
theorem dX4_putElement_1 : decode cX4_putElement 1 = .ok (.iload_n 1, 1) := by decide +kernel
theorem dX4_putElement_2 : decode cX4_putElement 2 = .ok (.invokevirtual 41, 3) := by decide +kernel
theorem dX4_putElement_5 : decode cX4_putElement 5 = .ok (.ifCond .eq 14, 3) := by decide +kernel
theorem dX4_putElement_8 : decode cX4_putElement 8 = .ok (.aload_n 0, 1) := by decide +kernel
theorem dX4_putElement_9 : decode cX4_putElement 9 = .ok (.getfield 11, 3) := by decide +kernel
theorem dX4_putElement_12 : decode cX4_putElement 12 = .ok (.iload_n 1, 1) := by decide +kernel
theorem dX4_putElement_13 : decode cX4_putElement 13 = .ok (.aload_n 0, 1) := by decide +kernel
theorem dX4_putElement_14 : decode cX4_putElement 14 = .ok (.lload_n 2, 1) := by decide +kernel
theorem dX4_putElement_15 : decode cX4_putElement 15 = .ok (.invokevirtual 45, 3) := by decide +kernel
theorem dX4_putElement_18 : decode cX4_putElement 18 = .ok (.lastore, 1) := by decide +kernel
theorem dX4_putElement_19 : decode cX4_putElement 19 = .ok (.return_, 1) := by decide +kernel
theorem dX4_lowestBits_0 : decode cX4_lowestBits 0 = .ok (.aload_n 0, 1) := by decide +kernel
theorem dX4_lowestBits_1 : decode cX4_lowestBits 1 = .ok (.getfield 15, 3) := by decide +kernel
theorem dX4_lowestBits_4 : decode cX4_lowestBits 4 = .ok (.tableswitch 42 0 2 #[28, 33, 38], 28) := by decide +kernel
theorem dX4_lowestBits_32 : decode cX4_lowestBits 32 = .ok (.lload_n 1, 1) := by decide +kernel
theorem dX4_lowestBits_33 : decode cX4_lowestBits 33 = .ok (.l2i, 1) := by decide +kernel
theorem dX4_lowestBits_34 : decode cX4_lowestBits 34 = .ok (.i2b, 1) := by decide +kernel
theorem dX4_lowestBits_35 : decode cX4_lowestBits 35 = .ok (.i2l, 1) := by decide +kernel
theorem dX4_lowestBits_36 : decode cX4_lowestBits 36 = .ok (.lreturn, 1) := by decide +kernel
theorem dX4_lowestBits_37 : decode cX4_lowestBits 37 = .ok (.lload_n 1, 1) := by decide +kernel
theorem dX4_lowestBits_38 : decode cX4_lowestBits 38 = .ok (.l2i, 1) := by decide +kernel
theorem dX4_lowestBits_39 : decode cX4_lowestBits 39 = .ok (.i2s, 1) := by decide +kernel
theorem dX4_lowestBits_40 : decode cX4_lowestBits 40 = .ok (.i2l, 1) := by decide +kernel
theorem dX4_lowestBits_41 : decode cX4_lowestBits 41 = .ok (.lreturn, 1) := by decide +kernel
theorem dX4_lowestBits_42 : decode cX4_lowestBits 42 = .ok (.lload_n 1, 1) := by decide +kernel
theorem dX4_lowestBits_43 : decode cX4_lowestBits 43 = .ok (.l2i, 1) := by decide +kernel
theorem dX4_lowestBits_44 : decode cX4_lowestBits 44 = .ok (.i2l, 1) := by decide +kernel
theorem dX4_lowestBits_45 : decode cX4_lowestBits 45 = .ok (.lreturn, 1) := by decide +kernel
theorem dX4_lowestBits_46 : decode cX4_lowestBits 46 = .ok (.lload_n 1, 1) := by decide +kernel
theorem dX4_lowestBits_47 : decode cX4_lowestBits 47 = .ok (.lreturn, 1) := by decide +kernel
theorem dX4_elementAsInt_0 : decode cX4_elementAsInt 0 = .ok (.aload_n 0, 1) := by decide +kernel
theorem dX4_elementAsInt_1 : decode cX4_elementAsInt 1 = .ok (.iload_n 1, 1) := by decide +kernel
theorem dX4_elementAsInt_2 : decode cX4_elementAsInt 2 = .ok (.invokevirtual 41, 3) := by decide +kernel
theorem dX4_elementAsInt_5 : decode cX4_elementAsInt 5 = .ok (.ifCond .eq 13, 3) := by decide +kernel
theorem dX4_elementAsInt_8 : decode cX4_elementAsInt 8 = .ok (.aload_n 0, 1) := by decide +kernel
theorem dX4_elementAsInt_9 : decode cX4_elementAsInt 9 = .ok (.getfield 11, 3) := by decide +kernel
theorem dX4_elementAsInt_12 : decode cX4_elementAsInt 12 = .ok (.iload_n 1, 1) := by decide +kernel
theorem dX4_elementAsInt_13 : decode cX4_elementAsInt 13 = .ok (.laload, 1) := by decide +kernel
theorem dX4_elementAsInt_14 : decode cX4_elementAsInt 14 = .ok (.l2i, 1) := by decide +kernel
theorem dX4_elementAsInt_15 : decode cX4_elementAsInt 15 = .ok (.goto 4, 3) := by decide +kernel
theorem dX4_elementAsInt_18 : decode cX4_elementAsInt 18 = .ok (.iconst 0, 1) := by decide +kernel
theorem dX4_elementAsInt_19 : decode cX4_elementAsInt 19 = .ok (.ireturn, 1) := by decide +kernel
theorem dX4_elementAsAge_0 : decode cX4_elementAsAge 0 = .ok (.aload_n 0, 1) := by decide +kernel
theorem dX4_elementAsAge_1 : decode cX4_elementAsAge 1 = .ok (.iload_n 1, 1) := by decide +kernel
theorem dX4_elementAsAge_2 : decode cX4_elementAsAge 2 = .ok (.invokevirtual 49, 3) := by decide +kernel
theorem dX4_elementAsAge_5 : decode cX4_elementAsAge 5 = .ok (.istore_n 2, 1) := by decide +kernel
theorem dX4_elementAsAge_6 : decode cX4_elementAsAge 6 = .ok (.aload_n 0, 1) := by decide +kernel
theorem dX4_elementAsAge_7 : decode cX4_elementAsAge 7 = .ok (.iload_n 1, 1) := by decide +kernel
theorem dX4_elementAsAge_8 : decode cX4_elementAsAge 8 = .ok (.invokevirtual 41, 3) := by decide +kernel
theorem dX4_elementAsAge_11 : decode cX4_elementAsAge 11 = .ok (.ifCond .eq 20, 3) := by decide +kernel
theorem dX4_elementAsAge_14 : decode cX4_elementAsAge 14 = .ok (.aload_n 0, 1) := by decide +kernel
theorem dX4_elementAsAge_15 : decode cX4_elementAsAge 15 = .ok (.getfield 11, 3) := by decide +kernel
theorem dX4_elementAsAge_18 : decode cX4_elementAsAge 18 = .ok (.iload_n 1, 1) := by decide +kernel
theorem dX4_elementAsAge_19 : decode cX4_elementAsAge 19 = .ok (.laload, 1) := by decide +kernel
theorem dX4_elementAsAge_20 : decode cX4_elementAsAge 20 = .ok (.ldc2_w 55, 3) := by decide +kernel
theorem dX4_elementAsAge_23 : decode cX4_elementAsAge 23 = .ok (.lcmp, 1) := by decide +kernel
theorem dX4_elementAsAge_24 : decode cX4_elementAsAge 24 = .ok (.ifCond .ne 7, 3) := by decide +kernel
theorem dX4_elementAsAge_27 : decode cX4_elementAsAge 27 = .ok (.iconst 1, 1) := by decide +kernel
theorem dX4_elementAsAge_28 : decode cX4_elementAsAge 28 = .ok (.goto 4, 3) := by decide +kernel
theorem dX4_elementAsAge_31 : decode cX4_elementAsAge 31 = .ok (.iconst 0, 1) := by decide +kernel
theorem dX4_elementAsAge_32 : decode cX4_elementAsAge 32 = .ok (.istore_n 3, 1) := by decide +kernel
theorem dX4_elementAsAge_33 : decode cX4_elementAsAge 33 = .ok (.iload_n 3, 1) := by decide +kernel
theorem dX4_elementAsAge_34 : decode cX4_elementAsAge 34 = .ok (.ifCond .ne 13, 3) := by decide +kernel
theorem dX4_elementAsAge_37 : decode cX4_elementAsAge 37 = .ok (.iload_n 2, 1) := by decide +kernel
theorem dX4_elementAsAge_38 : decode cX4_elementAsAge 38 = .ok (.ifCond .lt 9, 3) := by decide +kernel
theorem dX4_elementAsAge_41 : decode cX4_elementAsAge 41 = .ok (.iload_n 2, 1) := by decide +kernel
theorem dX4_elementAsAge_42 : decode cX4_elementAsAge 42 = .ok (.bipush 110, 2) := by decide +kernel
theorem dX4_elementAsAge_44 : decode cX4_elementAsAge 44 = .ok (.if_icmp .le 8, 3) := by decide +kernel
theorem dX4_elementAsAge_47 : decode cX4_elementAsAge 47 = .ok (.bipush (-2), 2) := by decide +kernel
theorem dX4_elementAsAge_49 : decode cX4_elementAsAge 49 = .ok (.goto 4, 3) := by decide +kernel
theorem dX4_elementAsAge_52 : decode cX4_elementAsAge 52 = .ok (.iload_n 2, 1) := by decide +kernel
theorem dX4_elementAsAge_53 : decode cX4_elementAsAge 53 = .ok (.ireturn, 1) := by decide +kernel
theorem dX5_init_0 : decode cX5_init 0 = .ok (.aload_n 0, 1) := by decide +kernel
theorem dX5_init_1 : decode cX5_init 1 = .ok (.invokespecial 3, 3) := by decide +kernel
theorem dX5_init_4 : decode cX5_init 4 = .ok (.aload_n 0, 1) := by decide +kernel
theorem dX5_init_5 : decode cX5_init 5 = .ok (.bipush 24, 2) := by decide +kernel
theorem dX5_init_7 : decode cX5_init 7 = .ok (.newarray .int, 2) := by decide +kernel
theorem dX5_init_9 : decode cX5_init 9 = .ok (.putfield 11, 3) := by decide +kernel
theorem dX5_init_12 : decode cX5_init 12 = .ok (.aload_n 0, 1) := by decide +kernel
theorem dX5_init_13 : decode cX5_init 13 = .ok (.bipush 10, 2) := by decide +kernel
theorem dX5_init_15 : decode cX5_init 15 = .ok (.newarray .int, 2) := by decide +kernel
theorem dX5_init_17 : decode cX5_init 17 = .ok (.putfield 17, 3) := by decide +kernel
theorem dX5_init_20 : decode cX5_init 20 = .ok (.aload_n 0, 1) := by decide +kernel
theorem dX5_init_21 : decode cX5_init 21 = .ok (.bipush 10, 2) := by decide +kernel
theorem dX5_init_23 : decode cX5_init 23 = .ok (.newarray .int, 2) := by decide +kernel
theorem dX5_init_25 : decode cX5_init 25 = .ok (.putfield 20, 3) := by decide +kernel
theorem dX5_init_28 : decode cX5_init 28 = .ok (.return_, 1) := by decide +kernel
theorem dX5_extreme_0 : decode cX5_extreme 0 = .ok (.aload_n 1, 1) := by decide +kernel
theorem dX5_extreme_1 : decode cX5_extreme 1 = .ok (.iconst 0, 1) := by decide +kernel
theorem dX5_extreme_2 : decode cX5_extreme 2 = .ok (.aload_n 0, 1) := by decide +kernel
theorem dX5_extreme_3 : decode cX5_extreme 3 = .ok (.getfield 11, 3) := by decide +kernel
theorem dX5_extreme_6 : decode cX5_extreme 6 = .ok (.iconst 0, 1) := by decide +kernel
theorem dX5_extreme_7 : decode cX5_extreme 7 = .ok (.bipush 24, 2) := by decide +kernel
theorem dX5_extreme_9 : decode cX5_extreme 9 = .ok (.invokestatic 23, 3) := by decide +kernel
theorem dX5_extreme_12 : decode cX5_extreme 12 = .ok (.aload_n 0, 1) := by decide +kernel
theorem dX5_extreme_13 : decode cX5_extreme 13 = .ok (.iload_n 2, 1) := by decide +kernel
theorem dX5_extreme_14 : decode cX5_extreme 14 = .ok (.iconst 1, 1) := by decide +kernel
theorem dX5_extreme_15 : decode cX5_extreme 15 = .ok (.iload_n 3, 1) := by decide +kernel
theorem dX5_extreme_16 : decode cX5_extreme 16 = .ok (.ishl, 1) := by decide +kernel
theorem dX5_extreme_17 : decode cX5_extreme 17 = .ok (.iconst (-1), 1) := by decide +kernel
theorem dX5_extreme_18 : decode cX5_extreme 18 = .ok (.ixor, 1) := by decide +kernel
theorem dX5_extreme_19 : decode cX5_extreme 19 = .ok (.iand, 1) := by decide +kernel
theorem dX5_extreme_20 : decode cX5_extreme 20 = .ok (.putfield 29, 3) := by decide +kernel
theorem dX5_extreme_23 : decode cX5_extreme 23 = .ok (.iload_n 3, 1) := by decide +kernel
theorem dX5_extreme_24 : decode cX5_extreme 24 = .ok (.iconst 4, 1) := by decide +kernel
theorem dX5_extreme_25 : decode cX5_extreme 25 = .ok (.idiv, 1) := by decide +kernel
theorem dX5_extreme_26 : decode cX5_extreme 26 = .ok (.istore 5, 2) := by decide +kernel
theorem dX5_extreme_28 : decode cX5_extreme 28 = .ok (.bipush 6, 2) := by decide +kernel
theorem dX5_extreme_30 : decode cX5_extreme 30 = .ok (.iload_n 3, 1) := by decide +kernel
theorem dX5_extreme_31 : decode cX5_extreme 31 = .ok (.iconst 4, 1) := by decide +kernel
theorem dX5_extreme_32 : decode cX5_extreme 32 = .ok (.irem, 1) := by decide +kernel
theorem dX5_extreme_33 : decode cX5_extreme 33 = .ok (.iadd, 1) := by decide +kernel
theorem dX5_extreme_34 : decode cX5_extreme 34 = .ok (.istore 6, 2) := by decide +kernel
theorem dX5_extreme_36 : decode cX5_extreme 36 = .ok (.iload 4, 2) := by decide +kernel
theorem dX5_extreme_38 : decode cX5_extreme 38 = .ok (.ifCond .eq 8, 3) := by decide +kernel
theorem dX5_extreme_41 : decode cX5_extreme 41 = .ok (.iload 6, 2) := by decide +kernel
theorem dX5_extreme_43 : decode cX5_extreme 43 = .ok (.goto 5, 3) := by decide +kernel
theorem dX5_extreme_46 : decode cX5_extreme 46 = .ok (.iload 5, 2) := by decide +kernel
theorem dX5_extreme_48 : decode cX5_extreme 48 = .ok (.istore 7, 2) := by decide +kernel
theorem dX5_extreme_50 : decode cX5_extreme 50 = .ok (.iload 4, 2) := by decide +kernel
theorem dX5_extreme_52 : decode cX5_extreme 52 = .ok (.ifCond .eq 8, 3) := by decide +kernel
theorem dX5_extreme_55 : decode cX5_extreme 55 = .ok (.iload 5, 2) := by decide +kernel
theorem dX5_extreme_57 : decode cX5_extreme 57 = .ok (.goto 5, 3) := by decide +kernel
theorem dX5_extreme_60 : decode cX5_extreme 60 = .ok (.iload 6, 2) := by decide +kernel
theorem dX5_extreme_62 : decode cX5_extreme 62 = .ok (.istore 8, 2) := by decide +kernel
theorem dX5_extreme_64 : decode cX5_extreme 64 = .ok (.iconst 0, 1) := by decide +kernel
theorem dX5_extreme_65 : decode cX5_extreme 65 = .ok (.istore 9, 2) := by decide +kernel
theorem dX5_extreme_67 : decode cX5_extreme 67 = .ok (.iload 9, 2) := by decide +kernel
theorem dX5_extreme_69 : decode cX5_extreme 69 = .ok (.ldc 33, 2) := by decide +kernel
theorem dX5_extreme_71 : decode cX5_extreme 71 = .ok (.if_icmp .ge 88, 3) := by decide +kernel
theorem dX5_extreme_74 : decode cX5_extreme 74 = .ok (.aload_n 0, 1) := by decide +kernel
theorem dX5_extreme_75 : decode cX5_extreme 75 = .ok (.iload 7, 2) := by decide +kernel
theorem dX5_extreme_77 : decode cX5_extreme 77 = .ok (.iload 8, 2) := by decide +kernel
theorem dX5_extreme_79 : decode cX5_extreme 79 = .ok (.invokevirtual 34, 3) := by decide +kernel
theorem dX5_extreme_82 : decode cX5_extreme 82 = .ok (.ifCond .eq 77, 3) := by decide +kernel
theorem dX5_extreme_85 : decode cX5_extreme 85 = .ok (.aload_n 0, 1) := by decide +kernel
theorem dX5_extreme_86 : decode cX5_extreme 86 = .ok (.iload 7, 2) := by decide +kernel
theorem dX5_extreme_88 : decode cX5_extreme 88 = .ok (.iload 8, 2) := by decide +kernel
theorem dX5_extreme_90 : decode cX5_extreme 90 = .ok (.invokevirtual 38, 3) := by decide +kernel
theorem dX5_extreme_93 : decode cX5_extreme 93 = .ok (.istore 10, 2) := by decide +kernel
theorem dX5_extreme_95 : decode cX5_extreme 95 = .ok (.iload 4, 2) := by decide +kernel
theorem dX5_extreme_97 : decode cX5_extreme 97 = .ok (.ifCond .ne 16, 3) := by decide +kernel
theorem dX5_extreme_100 : decode cX5_extreme 100 = .ok (.iload 10, 2) := by decide +kernel
theorem dX5_extreme_102 : decode cX5_extreme 102 = .ok (.aload_n 0, 1) := by decide +kernel
theorem dX5_extreme_103 : decode cX5_extreme 103 = .ok (.getfield 11, 3) := by decide +kernel
theorem dX5_extreme_106 : decode cX5_extreme 106 = .ok (.iload_n 3, 1) := by decide +kernel
theorem dX5_extreme_107 : decode cX5_extreme 107 = .ok (.iaload, 1) := by decide +kernel
theorem dX5_extreme_108 : decode cX5_extreme 108 = .ok (.invokestatic 42, 3) := by decide +kernel
theorem dX5_extreme_111 : decode cX5_extreme 111 = .ok (.istore 10, 2) := by decide +kernel
theorem dX5_extreme_113 : decode cX5_extreme 113 = .ok (.iload 10, 2) := by decide +kernel
theorem dX5_extreme_115 : decode cX5_extreme 115 = .ok (.ifCond .gt 6, 3) := by decide +kernel
theorem dX5_extreme_118 : decode cX5_extreme 118 = .ok (.goto 41, 3) := by decide +kernel
theorem dX5_extreme_121 : decode cX5_extreme 121 = .ok (.aload_n 0, 1) := by decide +kernel
theorem dX5_extreme_122 : decode cX5_extreme 122 = .ok (.iload 7, 2) := by decide +kernel
theorem dX5_extreme_124 : decode cX5_extreme 124 = .ok (.iload 8, 2) := by decide +kernel
theorem dX5_extreme_126 : decode cX5_extreme 126 = .ok (.iload 10, 2) := by decide +kernel
theorem dX5_extreme_128 : decode cX5_extreme 128 = .ok (.invokevirtual 47, 3) := by decide +kernel
theorem dX5_extreme_131 : decode cX5_extreme 131 = .ok (.aload_n 0, 1) := by decide +kernel
theorem dX5_extreme_132 : decode cX5_extreme 132 = .ok (.getfield 11, 3) := by decide +kernel
theorem dX5_extreme_135 : decode cX5_extreme 135 = .ok (.iload_n 3, 1) := by decide +kernel
theorem dX5_extreme_136 : decode cX5_extreme 136 = .ok (.dup2, 1) := by decide +kernel
theorem dX5_extreme_137 : decode cX5_extreme 137 = .ok (.iaload, 1) := by decide +kernel
theorem dX5_extreme_138 : decode cX5_extreme 138 = .ok (.iload 4, 2) := by decide +kernel
theorem dX5_extreme_140 : decode cX5_extreme 140 = .ok (.ifCond .eq 8, 3) := by decide +kernel
theorem dX5_extreme_143 : decode cX5_extreme 143 = .ok (.iload 10, 2) := by decide +kernel
theorem dX5_extreme_145 : decode cX5_extreme 145 = .ok (.goto 6, 3) := by decide +kernel
theorem dX5_extreme_148 : decode cX5_extreme 148 = .ok (.iload 10, 2) := by decide +kernel
theorem dX5_extreme_150 : decode cX5_extreme 150 = .ok (.ineg, 1) := by decide +kernel
theorem dX5_extreme_151 : decode cX5_extreme 151 = .ok (.iadd, 1) := by decide +kernel
theorem dX5_extreme_152 : decode cX5_extreme 152 = .ok (.iastore, 1) := by decide +kernel
theorem dX5_extreme_153 : decode cX5_extreme 153 = .ok (.iinc 9 1, 3) := by decide +kernel
theorem dX5_extreme_156 : decode cX5_extreme 156 = .ok (.goto (-89), 3) := by decide +kernel
theorem dX5_extreme_159 : decode cX5_extreme 159 = .ok (.aload_n 0, 1) := by decide +kernel
theorem dX5_extreme_160 : decode cX5_extreme 160 = .ok (.getfield 11, 3) := by decide +kernel
theorem dX5_extreme_163 : decode cX5_extreme 163 = .ok (.iload_n 3, 1) := by decide +kernel
theorem dX5_extreme_164 : decode cX5_extreme 164 = .ok (.iaload, 1) := by decide +kernel
theorem dX5_extreme_165 : decode cX5_extreme 165 = .ok (.ireturn, 1) := by decide +kernel
theorem dX5_findWay_0 : decode cX5_findWay 0 = .ok (.aload_n 0, 1) := by decide +kernel
theorem dX5_findWay_1 : decode cX5_findWay 1 = .ok (.getfield 17, 3) := by decide +kernel
theorem dX5_findWay_4 : decode cX5_findWay 4 = .ok (.iconst (-1), 1) := by decide +kernel
theorem dX5_findWay_5 : decode cX5_findWay 5 = .ok (.invokestatic 51, 3) := by decide +kernel
theorem dX5_findWay_8 : decode cX5_findWay 8 = .ok (.aload_n 0, 1) := by decide +kernel
theorem dX5_findWay_9 : decode cX5_findWay 9 = .ok (.getfield 17, 3) := by decide +kernel
theorem dX5_findWay_12 : decode cX5_findWay 12 = .ok (.iload_n 1, 1) := by decide +kernel
theorem dX5_findWay_13 : decode cX5_findWay 13 = .ok (.iload_n 1, 1) := by decide +kernel
theorem dX5_findWay_14 : decode cX5_findWay 14 = .ok (.iastore, 1) := by decide +kernel
theorem dX5_findWay_15 : decode cX5_findWay 15 = .ok (.aload_n 0, 1) := by decide +kernel
theorem dX5_findWay_16 : decode cX5_findWay 16 = .ok (.getfield 20, 3) := by decide +kernel
theorem dX5_findWay_19 : decode cX5_findWay 19 = .ok (.iconst 0, 1) := by decide +kernel
theorem dX5_findWay_20 : decode cX5_findWay 20 = .ok (.iload_n 1, 1) := by decide +kernel
theorem dX5_findWay_21 : decode cX5_findWay 21 = .ok (.iastore, 1) := by decide +kernel
theorem dX5_findWay_22 : decode cX5_findWay 22 = .ok (.iconst 1, 1) := by decide +kernel
theorem dX5_findWay_23 : decode cX5_findWay 23 = .ok (.istore_n 3, 1) := by decide +kernel
theorem dX5_findWay_24 : decode cX5_findWay 24 = .ok (.iconst 0, 1) := by decide +kernel
theorem dX5_findWay_25 : decode cX5_findWay 25 = .ok (.istore 4, 2) := by decide +kernel
theorem dX5_findWay_27 : decode cX5_findWay 27 = .ok (.iload 4, 2) := by decide +kernel
theorem dX5_findWay_29 : decode cX5_findWay 29 = .ok (.iload_n 3, 1) := by decide +kernel
theorem dX5_findWay_30 : decode cX5_findWay 30 = .ok (.if_icmp .ge 93, 3) := by decide +kernel
theorem dX5_findWay_33 : decode cX5_findWay 33 = .ok (.aload_n 0, 1) := by decide +kernel
theorem dX5_findWay_34 : decode cX5_findWay 34 = .ok (.getfield 17, 3) := by decide +kernel
theorem dX5_findWay_37 : decode cX5_findWay 37 = .ok (.iload_n 2, 1) := by decide +kernel
theorem dX5_findWay_38 : decode cX5_findWay 38 = .ok (.iaload, 1) := by decide +kernel
theorem dX5_findWay_39 : decode cX5_findWay 39 = .ok (.iconst (-1), 1) := by decide +kernel
theorem dX5_findWay_40 : decode cX5_findWay 40 = .ok (.if_icmp .ne 83, 3) := by decide +kernel
theorem dX5_findWay_43 : decode cX5_findWay 43 = .ok (.iconst 0, 1) := by decide +kernel
theorem dX5_findWay_44 : decode cX5_findWay 44 = .ok (.istore 5, 2) := by decide +kernel
theorem dX5_findWay_46 : decode cX5_findWay 46 = .ok (.iload 5, 2) := by decide +kernel
theorem dX5_findWay_48 : decode cX5_findWay 48 = .ok (.bipush 10, 2) := by decide +kernel
theorem dX5_findWay_50 : decode cX5_findWay 50 = .ok (.if_icmp .ge 67, 3) := by decide +kernel
theorem dX5_findWay_53 : decode cX5_findWay 53 = .ok (.aload_n 0, 1) := by decide +kernel
theorem dX5_findWay_54 : decode cX5_findWay 54 = .ok (.getfield 17, 3) := by decide +kernel
theorem dX5_findWay_57 : decode cX5_findWay 57 = .ok (.iload 5, 2) := by decide +kernel
theorem dX5_findWay_59 : decode cX5_findWay 59 = .ok (.iaload, 1) := by decide +kernel
theorem dX5_findWay_60 : decode cX5_findWay 60 = .ok (.iconst (-1), 1) := by decide +kernel
theorem dX5_findWay_61 : decode cX5_findWay 61 = .ok (.if_icmp .ne 50, 3) := by decide +kernel
theorem dX5_findWay_64 : decode cX5_findWay 64 = .ok (.iload_n 3, 1) := by decide +kernel
theorem dX5_findWay_65 : decode cX5_findWay 65 = .ok (.bipush 10, 2) := by decide +kernel
theorem dX5_findWay_67 : decode cX5_findWay 67 = .ok (.if_icmp .ge 44, 3) := by decide +kernel
theorem dX5_findWay_70 : decode cX5_findWay 70 = .ok (.aload_n 0, 1) := by decide +kernel
theorem dX5_findWay_71 : decode cX5_findWay 71 = .ok (.aload_n 0, 1) := by decide +kernel
theorem dX5_findWay_72 : decode cX5_findWay 72 = .ok (.getfield 20, 3) := by decide +kernel
theorem dX5_findWay_75 : decode cX5_findWay 75 = .ok (.iload 4, 2) := by decide +kernel
theorem dX5_findWay_77 : decode cX5_findWay 77 = .ok (.iaload, 1) := by decide +kernel
theorem dX5_findWay_78 : decode cX5_findWay 78 = .ok (.iload 5, 2) := by decide +kernel
theorem dX5_findWay_80 : decode cX5_findWay 80 = .ok (.invokevirtual 57, 3) := by decide +kernel
theorem dX5_findWay_83 : decode cX5_findWay 83 = .ok (.ifCond .eq 28, 3) := by decide +kernel
theorem dX5_findWay_86 : decode cX5_findWay 86 = .ok (.aload_n 0, 1) := by decide +kernel
theorem dX5_findWay_87 : decode cX5_findWay 87 = .ok (.getfield 17, 3) := by decide +kernel
theorem dX5_findWay_90 : decode cX5_findWay 90 = .ok (.iload 5, 2) := by decide +kernel
theorem dX5_findWay_92 : decode cX5_findWay 92 = .ok (.aload_n 0, 1) := by decide +kernel
theorem dX5_findWay_93 : decode cX5_findWay 93 = .ok (.getfield 20, 3) := by decide +kernel
theorem dX5_findWay_96 : decode cX5_findWay 96 = .ok (.iload 4, 2) := by decide +kernel
theorem dX5_findWay_98 : decode cX5_findWay 98 = .ok (.iaload, 1) := by decide +kernel
theorem dX5_findWay_99 : decode cX5_findWay 99 = .ok (.iastore, 1) := by decide +kernel
theorem dX5_findWay_100 : decode cX5_findWay 100 = .ok (.aload_n 0, 1) := by decide +kernel
theorem dX5_findWay_101 : decode cX5_findWay 101 = .ok (.getfield 20, 3) := by decide +kernel
theorem dX5_findWay_104 : decode cX5_findWay 104 = .ok (.iload_n 3, 1) := by decide +kernel
theorem dX5_findWay_105 : decode cX5_findWay 105 = .ok (.iload 5, 2) := by decide +kernel
theorem dX5_findWay_107 : decode cX5_findWay 107 = .ok (.iastore, 1) := by decide +kernel
theorem dX5_findWay_108 : decode cX5_findWay 108 = .ok (.iinc 3 1, 3) := by decide +kernel
theorem dX5_findWay_111 : decode cX5_findWay 111 = .ok (.iinc 5 1, 3) := by decide +kernel
theorem dX5_findWay_114 : decode cX5_findWay 114 = .ok (.goto (-68), 3) := by decide +kernel
theorem dX5_findWay_117 : decode cX5_findWay 117 = .ok (.iinc 4 1, 3) := by decide +kernel
theorem dX5_findWay_120 : decode cX5_findWay 120 = .ok (.goto (-93), 3) := by decide +kernel
theorem dX5_findWay_123 : decode cX5_findWay 123 = .ok (.aload_n 0, 1) := by decide +kernel
theorem dX5_findWay_124 : decode cX5_findWay 124 = .ok (.getfield 17, 3) := by decide +kernel
theorem dX5_findWay_127 : decode cX5_findWay 127 = .ok (.iload_n 2, 1) := by decide +kernel
theorem dX5_findWay_128 : decode cX5_findWay 128 = .ok (.iaload, 1) := by decide +kernel
theorem dX5_findWay_129 : decode cX5_findWay 129 = .ok (.iconst (-1), 1) := by decide +kernel
theorem dX5_findWay_130 : decode cX5_findWay 130 = .ok (.if_icmp .eq 7, 3) := by decide +kernel
theorem dX5_findWay_133 : decode cX5_findWay 133 = .ok (.iconst 1, 1) := by decide +kernel
theorem dX5_findWay_134 : decode cX5_findWay 134 = .ok (.goto 4, 3) := by decide +kernel
theorem dX5_findWay_137 : decode cX5_findWay 137 = .ok (.iconst 0, 1) := by decide +kernel
theorem dX5_findWay_138 : decode cX5_findWay 138 = .ok (.ireturn, 1) := by decide +kernel
theorem dX5_canStep_0 : decode cX5_canStep 0 = .ok (.iload_n 1, 1) := by decide +kernel
theorem dX5_canStep_1 : decode cX5_canStep 1 = .ok (.bipush 6, 2) := by decide +kernel
theorem dX5_canStep_3 : decode cX5_canStep 3 = .ok (.if_icmp .ge 7, 3) := by decide +kernel
theorem dX5_canStep_6 : decode cX5_canStep 6 = .ok (.iconst 1, 1) := by decide +kernel
theorem dX5_canStep_7 : decode cX5_canStep 7 = .ok (.goto 4, 3) := by decide +kernel
theorem dX5_canStep_10 : decode cX5_canStep 10 = .ok (.iconst 0, 1) := by decide +kernel
theorem dX5_canStep_11 : decode cX5_canStep 11 = .ok (.iload_n 2, 1) := by decide +kernel
theorem dX5_canStep_12 : decode cX5_canStep 12 = .ok (.bipush 6, 2) := by decide +kernel
theorem dX5_canStep_14 : decode cX5_canStep 14 = .ok (.if_icmp .ge 7, 3) := by decide +kernel
theorem dX5_canStep_17 : decode cX5_canStep 17 = .ok (.iconst 1, 1) := by decide +kernel
theorem dX5_canStep_18 : decode cX5_canStep 18 = .ok (.goto 4, 3) := by decide +kernel
theorem dX5_canStep_21 : decode cX5_canStep 21 = .ok (.iconst 0, 1) := by decide +kernel
theorem dX5_canStep_22 : decode cX5_canStep 22 = .ok (.if_icmp .ne 5, 3) := by decide +kernel
theorem dX5_canStep_25 : decode cX5_canStep 25 = .ok (.iconst 0, 1) := by decide +kernel
theorem dX5_canStep_26 : decode cX5_canStep 26 = .ok (.ireturn, 1) := by decide +kernel
theorem dX5_canStep_27 : decode cX5_canStep 27 = .ok (.iload_n 1, 1) := by decide +kernel
theorem dX5_canStep_28 : decode cX5_canStep 28 = .ok (.iload_n 2, 1) := by decide +kernel
theorem dX5_canStep_29 : decode cX5_canStep 29 = .ok (.invokestatic 60, 3) := by decide +kernel
theorem dX5_canStep_32 : decode cX5_canStep 32 = .ok (.istore_n 3, 1) := by decide +kernel
theorem dX5_canStep_33 : decode cX5_canStep 33 = .ok (.aload_n 0, 1) := by decide +kernel
theorem dX5_canStep_34 : decode cX5_canStep 34 = .ok (.getfield 29, 3) := by decide +kernel
theorem dX5_canStep_37 : decode cX5_canStep 37 = .ok (.iload_n 3, 1) := by decide +kernel
theorem dX5_canStep_38 : decode cX5_canStep 38 = .ok (.ishr, 1) := by decide +kernel
theorem dX5_canStep_39 : decode cX5_canStep 39 = .ok (.iconst 1, 1) := by decide +kernel
theorem dX5_canStep_40 : decode cX5_canStep 40 = .ok (.iand, 1) := by decide +kernel
theorem dX5_canStep_41 : decode cX5_canStep 41 = .ok (.ifCond .eq 22, 3) := by decide +kernel
theorem dX5_canStep_44 : decode cX5_canStep 44 = .ok (.iload_n 1, 1) := by decide +kernel
theorem dX5_canStep_45 : decode cX5_canStep 45 = .ok (.bipush 6, 2) := by decide +kernel
theorem dX5_canStep_47 : decode cX5_canStep 47 = .ok (.if_icmp .lt 12, 3) := by decide +kernel
theorem dX5_canStep_50 : decode cX5_canStep 50 = .ok (.aload_n 0, 1) := by decide +kernel
theorem dX5_canStep_51 : decode cX5_canStep 51 = .ok (.getfield 11, 3) := by decide +kernel
theorem dX5_canStep_54 : decode cX5_canStep 54 = .ok (.iload_n 3, 1) := by decide +kernel
theorem dX5_canStep_55 : decode cX5_canStep 55 = .ok (.iaload, 1) := by decide +kernel
theorem dX5_canStep_56 : decode cX5_canStep 56 = .ok (.ifCond .le 7, 3) := by decide +kernel
theorem dX5_canStep_59 : decode cX5_canStep 59 = .ok (.iconst 1, 1) := by decide +kernel
theorem dX5_canStep_60 : decode cX5_canStep 60 = .ok (.goto 4, 3) := by decide +kernel
theorem dX5_canStep_63 : decode cX5_canStep 63 = .ok (.iconst 0, 1) := by decide +kernel
theorem dX5_canStep_64 : decode cX5_canStep 64 = .ok (.ireturn, 1) := by decide +kernel
theorem dX5_cellOf_0 : decode cX5_cellOf 0 = .ok (.iload_n 0, 1) := by decide +kernel
theorem dX5_cellOf_1 : decode cX5_cellOf 1 = .ok (.iload_n 1, 1) := by decide +kernel
theorem dX5_cellOf_2 : decode cX5_cellOf 2 = .ok (.invokestatic 42, 3) := by decide +kernel
theorem dX5_cellOf_5 : decode cX5_cellOf 5 = .ok (.iconst 4, 1) := by decide +kernel
theorem dX5_cellOf_6 : decode cX5_cellOf 6 = .ok (.imul, 1) := by decide +kernel
theorem dX5_cellOf_7 : decode cX5_cellOf 7 = .ok (.iload_n 0, 1) := by decide +kernel
theorem dX5_cellOf_8 : decode cX5_cellOf 8 = .ok (.iload_n 1, 1) := by decide +kernel
theorem dX5_cellOf_9 : decode cX5_cellOf 9 = .ok (.invokestatic 63, 3) := by decide +kernel
theorem dX5_cellOf_12 : decode cX5_cellOf 12 = .ok (.iadd, 1) := by decide +kernel
theorem dX5_cellOf_13 : decode cX5_cellOf 13 = .ok (.bipush 6, 2) := by decide +kernel
theorem dX5_cellOf_15 : decode cX5_cellOf 15 = .ok (.isub, 1) := by decide +kernel
theorem dX5_cellOf_16 : decode cX5_cellOf 16 = .ok (.ireturn, 1) := by decide +kernel
theorem dX5_wayRoom_0 : decode cX5_wayRoom 0 = .ok (.ldc 68, 2) := by decide +kernel
theorem dX5_wayRoom_2 : decode cX5_wayRoom 2 = .ok (.istore_n 3, 1) := by decide +kernel
theorem dX5_wayRoom_3 : decode cX5_wayRoom 3 = .ok (.iload_n 2, 1) := by decide +kernel
theorem dX5_wayRoom_4 : decode cX5_wayRoom 4 = .ok (.istore 4, 2) := by decide +kernel
theorem dX5_wayRoom_6 : decode cX5_wayRoom 6 = .ok (.iconst 0, 1) := by decide +kernel
theorem dX5_wayRoom_7 : decode cX5_wayRoom 7 = .ok (.istore 5, 2) := by decide +kernel
theorem dX5_wayRoom_9 : decode cX5_wayRoom 9 = .ok (.iload 5, 2) := by decide +kernel
theorem dX5_wayRoom_11 : decode cX5_wayRoom 11 = .ok (.bipush 10, 2) := by decide +kernel
theorem dX5_wayRoom_13 : decode cX5_wayRoom 13 = .ok (.if_icmp .ge 53, 3) := by decide +kernel
theorem dX5_wayRoom_16 : decode cX5_wayRoom 16 = .ok (.iload 4, 2) := by decide +kernel
theorem dX5_wayRoom_18 : decode cX5_wayRoom 18 = .ok (.iload_n 1, 1) := by decide +kernel
theorem dX5_wayRoom_19 : decode cX5_wayRoom 19 = .ok (.if_icmp .eq 47, 3) := by decide +kernel
theorem dX5_wayRoom_22 : decode cX5_wayRoom 22 = .ok (.iload 4, 2) := by decide +kernel
theorem dX5_wayRoom_24 : decode cX5_wayRoom 24 = .ok (.bipush 6, 2) := by decide +kernel
theorem dX5_wayRoom_26 : decode cX5_wayRoom 26 = .ok (.if_icmp .ge 25, 3) := by decide +kernel
theorem dX5_wayRoom_29 : decode cX5_wayRoom 29 = .ok (.iload_n 3, 1) := by decide +kernel
theorem dX5_wayRoom_30 : decode cX5_wayRoom 30 = .ok (.aload_n 0, 1) := by decide +kernel
theorem dX5_wayRoom_31 : decode cX5_wayRoom 31 = .ok (.getfield 11, 3) := by decide +kernel
theorem dX5_wayRoom_34 : decode cX5_wayRoom 34 = .ok (.aload_n 0, 1) := by decide +kernel
theorem dX5_wayRoom_35 : decode cX5_wayRoom 35 = .ok (.getfield 17, 3) := by decide +kernel
theorem dX5_wayRoom_38 : decode cX5_wayRoom 38 = .ok (.iload 4, 2) := by decide +kernel
theorem dX5_wayRoom_40 : decode cX5_wayRoom 40 = .ok (.iaload, 1) := by decide +kernel
theorem dX5_wayRoom_41 : decode cX5_wayRoom 41 = .ok (.iload 4, 2) := by decide +kernel
theorem dX5_wayRoom_43 : decode cX5_wayRoom 43 = .ok (.invokestatic 60, 3) := by decide +kernel
theorem dX5_wayRoom_46 : decode cX5_wayRoom 46 = .ok (.iaload, 1) := by decide +kernel
theorem dX5_wayRoom_47 : decode cX5_wayRoom 47 = .ok (.invokestatic 42, 3) := by decide +kernel
theorem dX5_wayRoom_50 : decode cX5_wayRoom 50 = .ok (.istore_n 3, 1) := by decide +kernel
theorem dX5_wayRoom_51 : decode cX5_wayRoom 51 = .ok (.aload_n 0, 1) := by decide +kernel
theorem dX5_wayRoom_52 : decode cX5_wayRoom 52 = .ok (.getfield 17, 3) := by decide +kernel
theorem dX5_wayRoom_55 : decode cX5_wayRoom 55 = .ok (.iload 4, 2) := by decide +kernel
theorem dX5_wayRoom_57 : decode cX5_wayRoom 57 = .ok (.iaload, 1) := by decide +kernel
theorem dX5_wayRoom_58 : decode cX5_wayRoom 58 = .ok (.istore 4, 2) := by decide +kernel
theorem dX5_wayRoom_60 : decode cX5_wayRoom 60 = .ok (.iinc 5 1, 3) := by decide +kernel
theorem dX5_wayRoom_63 : decode cX5_wayRoom 63 = .ok (.goto (-54), 3) := by decide +kernel
theorem dX5_wayRoom_66 : decode cX5_wayRoom 66 = .ok (.iload_n 3, 1) := by decide +kernel
theorem dX5_wayRoom_67 : decode cX5_wayRoom 67 = .ok (.ireturn, 1) := by decide +kernel
theorem dX5_moveAlong_0 : decode cX5_moveAlong 0 = .ok (.iload_n 2, 1) := by decide +kernel
theorem dX5_moveAlong_1 : decode cX5_moveAlong 1 = .ok (.istore 4, 2) := by decide +kernel
theorem dX5_moveAlong_3 : decode cX5_moveAlong 3 = .ok (.iconst 0, 1) := by decide +kernel
theorem dX5_moveAlong_4 : decode cX5_moveAlong 4 = .ok (.istore 5, 2) := by decide +kernel
theorem dX5_moveAlong_6 : decode cX5_moveAlong 6 = .ok (.iload 5, 2) := by decide +kernel
theorem dX5_moveAlong_8 : decode cX5_moveAlong 8 = .ok (.bipush 10, 2) := by decide +kernel
theorem dX5_moveAlong_10 : decode cX5_moveAlong 10 = .ok (.if_icmp .ge 57, 3) := by decide +kernel
theorem dX5_moveAlong_13 : decode cX5_moveAlong 13 = .ok (.iload 4, 2) := by decide +kernel
theorem dX5_moveAlong_15 : decode cX5_moveAlong 15 = .ok (.iload_n 1, 1) := by decide +kernel
theorem dX5_moveAlong_16 : decode cX5_moveAlong 16 = .ok (.if_icmp .eq 51, 3) := by decide +kernel
theorem dX5_moveAlong_19 : decode cX5_moveAlong 19 = .ok (.aload_n 0, 1) := by decide +kernel
theorem dX5_moveAlong_20 : decode cX5_moveAlong 20 = .ok (.getfield 11, 3) := by decide +kernel
theorem dX5_moveAlong_23 : decode cX5_moveAlong 23 = .ok (.aload_n 0, 1) := by decide +kernel
theorem dX5_moveAlong_24 : decode cX5_moveAlong 24 = .ok (.getfield 17, 3) := by decide +kernel
theorem dX5_moveAlong_27 : decode cX5_moveAlong 27 = .ok (.iload 4, 2) := by decide +kernel
theorem dX5_moveAlong_29 : decode cX5_moveAlong 29 = .ok (.iaload, 1) := by decide +kernel
theorem dX5_moveAlong_30 : decode cX5_moveAlong 30 = .ok (.iload 4, 2) := by decide +kernel
theorem dX5_moveAlong_32 : decode cX5_moveAlong 32 = .ok (.invokestatic 60, 3) := by decide +kernel
theorem dX5_moveAlong_35 : decode cX5_moveAlong 35 = .ok (.dup2, 1) := by decide +kernel
theorem dX5_moveAlong_36 : decode cX5_moveAlong 36 = .ok (.iaload, 1) := by decide +kernel
theorem dX5_moveAlong_37 : decode cX5_moveAlong 37 = .ok (.iload 4, 2) := by decide +kernel
theorem dX5_moveAlong_39 : decode cX5_moveAlong 39 = .ok (.bipush 6, 2) := by decide +kernel
theorem dX5_moveAlong_41 : decode cX5_moveAlong 41 = .ok (.if_icmp .ge 8, 3) := by decide +kernel
theorem dX5_moveAlong_44 : decode cX5_moveAlong 44 = .ok (.iload_n 3, 1) := by decide +kernel
theorem dX5_moveAlong_45 : decode cX5_moveAlong 45 = .ok (.ineg, 1) := by decide +kernel
theorem dX5_moveAlong_46 : decode cX5_moveAlong 46 = .ok (.goto 4, 3) := by decide +kernel
theorem dX5_moveAlong_49 : decode cX5_moveAlong 49 = .ok (.iload_n 3, 1) := by decide +kernel
theorem dX5_moveAlong_50 : decode cX5_moveAlong 50 = .ok (.iadd, 1) := by decide +kernel
theorem dX5_moveAlong_51 : decode cX5_moveAlong 51 = .ok (.iastore, 1) := by decide +kernel
theorem dX5_moveAlong_52 : decode cX5_moveAlong 52 = .ok (.aload_n 0, 1) := by decide +kernel
theorem dX5_moveAlong_53 : decode cX5_moveAlong 53 = .ok (.getfield 17, 3) := by decide +kernel
theorem dX5_moveAlong_56 : decode cX5_moveAlong 56 = .ok (.iload 4, 2) := by decide +kernel
theorem dX5_moveAlong_58 : decode cX5_moveAlong 58 = .ok (.iaload, 1) := by decide +kernel
theorem dX5_moveAlong_59 : decode cX5_moveAlong 59 = .ok (.istore 4, 2) := by decide +kernel
theorem dX5_moveAlong_61 : decode cX5_moveAlong 61 = .ok (.iinc 5 1, 3) := by decide +kernel
theorem dX5_moveAlong_64 : decode cX5_moveAlong 64 = .ok (.goto (-58), 3) := by decide +kernel
theorem dX5_moveAlong_67 : decode cX5_moveAlong 67 = .ok (.return_, 1) := by decide +kernel
theorem dX6_init_0 : decode cX6_init 0 = .ok (.aload_n 0, 1) := by decide +kernel
theorem dX6_init_1 : decode cX6_init 1 = .ok (.invokespecial 3, 3) := by decide +kernel
theorem dX6_init_4 : decode cX6_init 4 = .ok (.aload_n 0, 1) := by decide +kernel
theorem dX6_init_5 : decode cX6_init 5 = .ok (.bipush 24, 2) := by decide +kernel
theorem dX6_init_7 : decode cX6_init 7 = .ok (.newarray .int, 2) := by decide +kernel
theorem dX6_init_9 : decode cX6_init 9 = .ok (.putfield 11, 3) := by decide +kernel
theorem dX6_init_12 : decode cX6_init 12 = .ok (.aload_n 0, 1) := by decide +kernel
theorem dX6_init_13 : decode cX6_init 13 = .ok (.bipush 24, 2) := by decide +kernel
theorem dX6_init_15 : decode cX6_init 15 = .ok (.newarray .int, 2) := by decide +kernel
theorem dX6_init_17 : decode cX6_init 17 = .ok (.putfield 15, 3) := by decide +kernel
theorem dX6_init_20 : decode cX6_init 20 = .ok (.aload_n 0, 1) := by decide +kernel
theorem dX6_init_21 : decode cX6_init 21 = .ok (.new 18, 3) := by decide +kernel
theorem dX6_init_24 : decode cX6_init 24 = .ok (.dup, 1) := by decide +kernel
theorem dX6_init_25 : decode cX6_init 25 = .ok (.invokespecial 20, 3) := by decide +kernel
theorem dX6_init_28 : decode cX6_init 28 = .ok (.putfield 21, 3) := by decide +kernel
theorem dX6_init_31 : decode cX6_init 31 = .ok (.aload_n 0, 1) := by decide +kernel
theorem dX6_init_32 : decode cX6_init 32 = .ok (.new 25, 3) := by decide +kernel
theorem dX6_init_35 : decode cX6_init 35 = .ok (.dup, 1) := by decide +kernel
theorem dX6_init_36 : decode cX6_init 36 = .ok (.invokespecial 27, 3) := by decide +kernel
theorem dX6_init_39 : decode cX6_init 39 = .ok (.putfield 28, 3) := by decide +kernel
theorem dX6_init_42 : decode cX6_init 42 = .ok (.return_, 1) := by decide +kernel
theorem dX6_draft_0 : decode cX6_draft 0 = .ok (.iload_n 1, 1) := by decide +kernel
theorem dX6_draft_1 : decode cX6_draft 1 = .ok (.iload_n 2, 1) := by decide +kernel
theorem dX6_draft_2 : decode cX6_draft 2 = .ok (.invokestatic 32, 3) := by decide +kernel
theorem dX6_draft_5 : decode cX6_draft 5 = .ok (.ifCond .eq 14, 3) := by decide +kernel
theorem dX6_draft_8 : decode cX6_draft 8 = .ok (.aload_n 0, 1) := by decide +kernel
theorem dX6_draft_9 : decode cX6_draft 9 = .ok (.getfield 11, 3) := by decide +kernel
theorem dX6_draft_12 : decode cX6_draft 12 = .ok (.iload_n 1, 1) := by decide +kernel
theorem dX6_draft_13 : decode cX6_draft 13 = .ok (.iconst 4, 1) := by decide +kernel
theorem dX6_draft_14 : decode cX6_draft 14 = .ok (.imul, 1) := by decide +kernel
theorem dX6_draft_15 : decode cX6_draft 15 = .ok (.iload_n 2, 1) := by decide +kernel
theorem dX6_draft_16 : decode cX6_draft 16 = .ok (.iadd, 1) := by decide +kernel
theorem dX6_draft_17 : decode cX6_draft 17 = .ok (.iload_n 3, 1) := by decide +kernel
theorem dX6_draft_18 : decode cX6_draft 18 = .ok (.iastore, 1) := by decide +kernel
theorem dX6_draft_19 : decode cX6_draft 19 = .ok (.return_, 1) := by decide +kernel
theorem dX6_make_0 : decode cX6_make 0 = .ok (.aload_n 0, 1) := by decide +kernel
theorem dX6_make_1 : decode cX6_make 1 = .ok (.getfield 21, 3) := by decide +kernel
theorem dX6_make_4 : decode cX6_make 4 = .ok (.aload_n 0, 1) := by decide +kernel
theorem dX6_make_5 : decode cX6_make 5 = .ok (.getfield 11, 3) := by decide +kernel
theorem dX6_make_8 : decode cX6_make 8 = .ok (.iload_n 1, 1) := by decide +kernel
theorem dX6_make_9 : decode cX6_make 9 = .ok (.invokevirtual 36, 3) := by decide +kernel
theorem dX6_make_12 : decode cX6_make 12 = .ok (.istore_n 2, 1) := by decide +kernel
theorem dX6_make_13 : decode cX6_make 13 = .ok (.iload_n 2, 1) := by decide +kernel
theorem dX6_make_14 : decode cX6_make 14 = .ok (.iconst (-1), 1) := by decide +kernel
theorem dX6_make_15 : decode cX6_make 15 = .ok (.if_icmp .ne 5, 3) := by decide +kernel
theorem dX6_make_18 : decode cX6_make 18 = .ok (.iconst 0, 1) := by decide +kernel
theorem dX6_make_19 : decode cX6_make 19 = .ok (.ireturn, 1) := by decide +kernel
theorem dX6_make_20 : decode cX6_make 20 = .ok (.aload_n 0, 1) := by decide +kernel
theorem dX6_make_21 : decode cX6_make 21 = .ok (.getfield 11, 3) := by decide +kernel
theorem dX6_make_24 : decode cX6_make 24 = .ok (.iconst 0, 1) := by decide +kernel
theorem dX6_make_25 : decode cX6_make 25 = .ok (.aload_n 0, 1) := by decide +kernel
theorem dX6_make_26 : decode cX6_make 26 = .ok (.getfield 15, 3) := by decide +kernel
theorem dX6_make_29 : decode cX6_make 29 = .ok (.iconst 0, 1) := by decide +kernel
theorem dX6_make_30 : decode cX6_make 30 = .ok (.bipush 24, 2) := by decide +kernel
theorem dX6_make_32 : decode cX6_make 32 = .ok (.invokestatic 40, 3) := by decide +kernel
theorem dX6_make_35 : decode cX6_make 35 = .ok (.aload_n 0, 1) := by decide +kernel
theorem dX6_make_36 : decode cX6_make 36 = .ok (.iload_n 2, 1) := by decide +kernel
theorem dX6_make_37 : decode cX6_make 37 = .ok (.putfield 46, 3) := by decide +kernel
theorem dX6_make_40 : decode cX6_make 40 = .ok (.aload_n 0, 1) := by decide +kernel
theorem dX6_make_41 : decode cX6_make 41 = .ok (.iconst 1, 1) := by decide +kernel
theorem dX6_make_42 : decode cX6_make 42 = .ok (.putfield 50, 3) := by decide +kernel
theorem dX6_make_45 : decode cX6_make 45 = .ok (.iconst 1, 1) := by decide +kernel
theorem dX6_make_46 : decode cX6_make 46 = .ok (.ireturn, 1) := by decide +kernel
theorem dX6_hiddenCells_0 : decode cX6_hiddenCells 0 = .ok (.aload_n 0, 1) := by decide +kernel
theorem dX6_hiddenCells_1 : decode cX6_hiddenCells 1 = .ok (.getfield 46, 3) := by decide +kernel
theorem dX6_hiddenCells_4 : decode cX6_hiddenCells 4 = .ok (.invokestatic 54, 3) := by decide +kernel
theorem dX6_hiddenCells_7 : decode cX6_hiddenCells 7 = .ok (.ireturn, 1) := by decide +kernel
theorem dX6_tell_0 : decode cX6_tell 0 = .ok (.aload_n 0, 1) := by decide +kernel
theorem dX6_tell_1 : decode cX6_tell 1 = .ok (.getfield 50, 3) := by decide +kernel
theorem dX6_tell_4 : decode cX6_tell 4 = .ok (.ifCond .eq 22, 3) := by decide +kernel
theorem dX6_tell_7 : decode cX6_tell 7 = .ok (.iload_n 1, 1) := by decide +kernel
theorem dX6_tell_8 : decode cX6_tell 8 = .ok (.ifCond .lt 18, 3) := by decide +kernel
theorem dX6_tell_11 : decode cX6_tell 11 = .ok (.iload_n 1, 1) := by decide +kernel
theorem dX6_tell_12 : decode cX6_tell 12 = .ok (.bipush 6, 2) := by decide +kernel
theorem dX6_tell_14 : decode cX6_tell 14 = .ok (.if_icmp .gt 12, 3) := by decide +kernel
theorem dX6_tell_17 : decode cX6_tell 17 = .ok (.iload_n 2, 1) := by decide +kernel
theorem dX6_tell_18 : decode cX6_tell 18 = .ok (.ifCond .lt 8, 3) := by decide +kernel
theorem dX6_tell_21 : decode cX6_tell 21 = .ok (.iload_n 2, 1) := by decide +kernel
theorem dX6_tell_22 : decode cX6_tell 22 = .ok (.iconst 4, 1) := by decide +kernel
theorem dX6_tell_23 : decode cX6_tell 23 = .ok (.if_icmp .le 5, 3) := by decide +kernel
theorem dX6_tell_26 : decode cX6_tell 26 = .ok (.iconst (-1), 1) := by decide +kernel
theorem dX6_tell_27 : decode cX6_tell 27 = .ok (.ireturn, 1) := by decide +kernel
theorem dX6_tell_28 : decode cX6_tell 28 = .ok (.iload_n 1, 1) := by decide +kernel
theorem dX6_tell_29 : decode cX6_tell 29 = .ok (.iload_n 2, 1) := by decide +kernel
theorem dX6_tell_30 : decode cX6_tell 30 = .ok (.invokestatic 32, 3) := by decide +kernel
theorem dX6_tell_33 : decode cX6_tell 33 = .ok (.ifCond .eq 28, 3) := by decide +kernel
theorem dX6_tell_36 : decode cX6_tell 36 = .ok (.aload_n 0, 1) := by decide +kernel
theorem dX6_tell_37 : decode cX6_tell 37 = .ok (.iload_n 1, 1) := by decide +kernel
theorem dX6_tell_38 : decode cX6_tell 38 = .ok (.iload_n 2, 1) := by decide +kernel
theorem dX6_tell_39 : decode cX6_tell 39 = .ok (.invokevirtual 60, 3) := by decide +kernel
theorem dX6_tell_42 : decode cX6_tell 42 = .ok (.ifCond .eq 8, 3) := by decide +kernel
theorem dX6_tell_45 : decode cX6_tell 45 = .ok (.bipush (-2), 2) := by decide +kernel
theorem dX6_tell_47 : decode cX6_tell 47 = .ok (.goto 13, 3) := by decide +kernel
theorem dX6_tell_50 : decode cX6_tell 50 = .ok (.aload_n 0, 1) := by decide +kernel
theorem dX6_tell_51 : decode cX6_tell 51 = .ok (.getfield 15, 3) := by decide +kernel
theorem dX6_tell_54 : decode cX6_tell 54 = .ok (.iload_n 1, 1) := by decide +kernel
theorem dX6_tell_55 : decode cX6_tell 55 = .ok (.iconst 4, 1) := by decide +kernel
theorem dX6_tell_56 : decode cX6_tell 56 = .ok (.imul, 1) := by decide +kernel
theorem dX6_tell_57 : decode cX6_tell 57 = .ok (.iload_n 2, 1) := by decide +kernel
theorem dX6_tell_58 : decode cX6_tell 58 = .ok (.iadd, 1) := by decide +kernel
theorem dX6_tell_59 : decode cX6_tell 59 = .ok (.iaload, 1) := by decide +kernel
theorem dX6_tell_60 : decode cX6_tell 60 = .ok (.ireturn, 1) := by decide +kernel
theorem dX6_tell_61 : decode cX6_tell 61 = .ok (.aload_n 0, 1) := by decide +kernel
theorem dX6_tell_62 : decode cX6_tell 62 = .ok (.iload_n 1, 1) := by decide +kernel
theorem dX6_tell_63 : decode cX6_tell 63 = .ok (.iload_n 2, 1) := by decide +kernel
theorem dX6_tell_64 : decode cX6_tell 64 = .ok (.invokevirtual 63, 3) := by decide +kernel
theorem dX6_tell_67 : decode cX6_tell 67 = .ok (.ireturn, 1) := by decide +kernel
theorem dX6_extreme_0 : decode cX6_extreme 0 = .ok (.aload_n 0, 1) := by decide +kernel
theorem dX6_extreme_1 : decode cX6_extreme 1 = .ok (.getfield 50, 3) := by decide +kernel
theorem dX6_extreme_4 : decode cX6_extreme 4 = .ok (.ifCond .eq 11, 3) := by decide +kernel
theorem dX6_extreme_7 : decode cX6_extreme 7 = .ok (.iload_n 1, 1) := by decide +kernel
theorem dX6_extreme_8 : decode cX6_extreme 8 = .ok (.iload_n 2, 1) := by decide +kernel
theorem dX6_extreme_9 : decode cX6_extreme 9 = .ok (.invokestatic 32, 3) := by decide +kernel
theorem dX6_extreme_12 : decode cX6_extreme 12 = .ok (.ifCond .ne 5, 3) := by decide +kernel
theorem dX6_extreme_15 : decode cX6_extreme 15 = .ok (.iconst (-1), 1) := by decide +kernel
theorem dX6_extreme_16 : decode cX6_extreme 16 = .ok (.ireturn, 1) := by decide +kernel
theorem dX6_extreme_17 : decode cX6_extreme 17 = .ok (.aload_n 0, 1) := by decide +kernel
theorem dX6_extreme_18 : decode cX6_extreme 18 = .ok (.iload_n 1, 1) := by decide +kernel
theorem dX6_extreme_19 : decode cX6_extreme 19 = .ok (.iload_n 2, 1) := by decide +kernel
theorem dX6_extreme_20 : decode cX6_extreme 20 = .ok (.invokevirtual 60, 3) := by decide +kernel
theorem dX6_extreme_23 : decode cX6_extreme 23 = .ok (.ifCond .ne 14, 3) := by decide +kernel
theorem dX6_extreme_26 : decode cX6_extreme 26 = .ok (.aload_n 0, 1) := by decide +kernel
theorem dX6_extreme_27 : decode cX6_extreme 27 = .ok (.getfield 15, 3) := by decide +kernel
theorem dX6_extreme_30 : decode cX6_extreme 30 = .ok (.iload_n 1, 1) := by decide +kernel
theorem dX6_extreme_31 : decode cX6_extreme 31 = .ok (.iconst 4, 1) := by decide +kernel
theorem dX6_extreme_32 : decode cX6_extreme 32 = .ok (.imul, 1) := by decide +kernel
theorem dX6_extreme_33 : decode cX6_extreme 33 = .ok (.iload_n 2, 1) := by decide +kernel
theorem dX6_extreme_34 : decode cX6_extreme 34 = .ok (.iadd, 1) := by decide +kernel
theorem dX6_extreme_35 : decode cX6_extreme 35 = .ok (.iaload, 1) := by decide +kernel
theorem dX6_extreme_36 : decode cX6_extreme 36 = .ok (.ireturn, 1) := by decide +kernel
theorem dX6_extreme_37 : decode cX6_extreme 37 = .ok (.aload_n 0, 1) := by decide +kernel
theorem dX6_extreme_38 : decode cX6_extreme 38 = .ok (.getfield 28, 3) := by decide +kernel
theorem dX6_extreme_41 : decode cX6_extreme 41 = .ok (.aload_n 0, 1) := by decide +kernel
theorem dX6_extreme_42 : decode cX6_extreme 42 = .ok (.getfield 15, 3) := by decide +kernel
theorem dX6_extreme_45 : decode cX6_extreme 45 = .ok (.aload_n 0, 1) := by decide +kernel
theorem dX6_extreme_46 : decode cX6_extreme 46 = .ok (.getfield 46, 3) := by decide +kernel
theorem dX6_extreme_49 : decode cX6_extreme 49 = .ok (.iload_n 1, 1) := by decide +kernel
theorem dX6_extreme_50 : decode cX6_extreme 50 = .ok (.iconst 4, 1) := by decide +kernel
theorem dX6_extreme_51 : decode cX6_extreme 51 = .ok (.imul, 1) := by decide +kernel
theorem dX6_extreme_52 : decode cX6_extreme 52 = .ok (.iload_n 2, 1) := by decide +kernel
theorem dX6_extreme_53 : decode cX6_extreme 53 = .ok (.iadd, 1) := by decide +kernel
theorem dX6_extreme_54 : decode cX6_extreme 54 = .ok (.iload_n 3, 1) := by decide +kernel
theorem dX6_extreme_55 : decode cX6_extreme 55 = .ok (.invokevirtual 67, 3) := by decide +kernel
theorem dX6_extreme_58 : decode cX6_extreme 58 = .ok (.ireturn, 1) := by decide +kernel
theorem dX6_sum_0 : decode cX6_sum 0 = .ok (.iconst 0, 1) := by decide +kernel
theorem dX6_sum_1 : decode cX6_sum 1 = .ok (.istore_n 3, 1) := by decide +kernel
theorem dX6_sum_2 : decode cX6_sum 2 = .ok (.iconst 0, 1) := by decide +kernel
theorem dX6_sum_3 : decode cX6_sum 3 = .ok (.istore 4, 2) := by decide +kernel
theorem dX6_sum_5 : decode cX6_sum 5 = .ok (.iload 4, 2) := by decide +kernel
theorem dX6_sum_7 : decode cX6_sum 7 = .ok (.bipush 24, 2) := by decide +kernel
theorem dX6_sum_9 : decode cX6_sum 9 = .ok (.if_icmp .ge 70, 3) := by decide +kernel
theorem dX6_sum_12 : decode cX6_sum 12 = .ok (.iload_n 1, 1) := by decide +kernel
theorem dX6_sum_13 : decode cX6_sum 13 = .ok (.bipush 6, 2) := by decide +kernel
theorem dX6_sum_15 : decode cX6_sum 15 = .ok (.if_icmp .eq 11, 3) := by decide +kernel
theorem dX6_sum_18 : decode cX6_sum 18 = .ok (.iload_n 1, 1) := by decide +kernel
theorem dX6_sum_19 : decode cX6_sum 19 = .ok (.iload 4, 2) := by decide +kernel
theorem dX6_sum_21 : decode cX6_sum 21 = .ok (.iconst 4, 1) := by decide +kernel
theorem dX6_sum_22 : decode cX6_sum 22 = .ok (.idiv, 1) := by decide +kernel
theorem dX6_sum_23 : decode cX6_sum 23 = .ok (.if_icmp .ne 7, 3) := by decide +kernel
theorem dX6_sum_26 : decode cX6_sum 26 = .ok (.iconst 1, 1) := by decide +kernel
theorem dX6_sum_27 : decode cX6_sum 27 = .ok (.goto 4, 3) := by decide +kernel
theorem dX6_sum_30 : decode cX6_sum 30 = .ok (.iconst 0, 1) := by decide +kernel
theorem dX6_sum_31 : decode cX6_sum 31 = .ok (.istore 5, 2) := by decide +kernel
theorem dX6_sum_33 : decode cX6_sum 33 = .ok (.iload_n 2, 1) := by decide +kernel
theorem dX6_sum_34 : decode cX6_sum 34 = .ok (.iconst 4, 1) := by decide +kernel
theorem dX6_sum_35 : decode cX6_sum 35 = .ok (.if_icmp .eq 11, 3) := by decide +kernel
theorem dX6_sum_38 : decode cX6_sum 38 = .ok (.iload_n 2, 1) := by decide +kernel
theorem dX6_sum_39 : decode cX6_sum 39 = .ok (.iload 4, 2) := by decide +kernel
theorem dX6_sum_41 : decode cX6_sum 41 = .ok (.iconst 4, 1) := by decide +kernel
theorem dX6_sum_42 : decode cX6_sum 42 = .ok (.irem, 1) := by decide +kernel
theorem dX6_sum_43 : decode cX6_sum 43 = .ok (.if_icmp .ne 7, 3) := by decide +kernel
theorem dX6_sum_46 : decode cX6_sum 46 = .ok (.iconst 1, 1) := by decide +kernel
theorem dX6_sum_47 : decode cX6_sum 47 = .ok (.goto 4, 3) := by decide +kernel
theorem dX6_sum_50 : decode cX6_sum 50 = .ok (.iconst 0, 1) := by decide +kernel
theorem dX6_sum_51 : decode cX6_sum 51 = .ok (.istore 6, 2) := by decide +kernel
theorem dX6_sum_53 : decode cX6_sum 53 = .ok (.iload 5, 2) := by decide +kernel
theorem dX6_sum_55 : decode cX6_sum 55 = .ok (.ifCond .eq 18, 3) := by decide +kernel
theorem dX6_sum_58 : decode cX6_sum 58 = .ok (.iload 6, 2) := by decide +kernel
theorem dX6_sum_60 : decode cX6_sum 60 = .ok (.ifCond .eq 13, 3) := by decide +kernel
theorem dX6_sum_63 : decode cX6_sum 63 = .ok (.iload_n 3, 1) := by decide +kernel
theorem dX6_sum_64 : decode cX6_sum 64 = .ok (.aload_n 0, 1) := by decide +kernel
theorem dX6_sum_65 : decode cX6_sum 65 = .ok (.getfield 15, 3) := by decide +kernel
theorem dX6_sum_68 : decode cX6_sum 68 = .ok (.iload 4, 2) := by decide +kernel
theorem dX6_sum_70 : decode cX6_sum 70 = .ok (.iaload, 1) := by decide +kernel
theorem dX6_sum_71 : decode cX6_sum 71 = .ok (.iadd, 1) := by decide +kernel
theorem dX6_sum_72 : decode cX6_sum 72 = .ok (.istore_n 3, 1) := by decide +kernel
theorem dX6_sum_73 : decode cX6_sum 73 = .ok (.iinc 4 1, 3) := by decide +kernel
theorem dX6_sum_76 : decode cX6_sum 76 = .ok (.goto (-71), 3) := by decide +kernel
theorem dX6_sum_79 : decode cX6_sum 79 = .ok (.iload_n 3, 1) := by decide +kernel
theorem dX6_sum_80 : decode cX6_sum 80 = .ok (.ireturn, 1) := by decide +kernel
theorem dX6_isHidden_0 : decode cX6_isHidden 0 = .ok (.aload_n 0, 1) := by decide +kernel
theorem dX6_isHidden_1 : decode cX6_isHidden 1 = .ok (.getfield 46, 3) := by decide +kernel
theorem dX6_isHidden_4 : decode cX6_isHidden 4 = .ok (.iload_n 1, 1) := by decide +kernel
theorem dX6_isHidden_5 : decode cX6_isHidden 5 = .ok (.iconst 4, 1) := by decide +kernel
theorem dX6_isHidden_6 : decode cX6_isHidden 6 = .ok (.imul, 1) := by decide +kernel
theorem dX6_isHidden_7 : decode cX6_isHidden 7 = .ok (.iload_n 2, 1) := by decide +kernel
theorem dX6_isHidden_8 : decode cX6_isHidden 8 = .ok (.iadd, 1) := by decide +kernel
theorem dX6_isHidden_9 : decode cX6_isHidden 9 = .ok (.ishr, 1) := by decide +kernel
theorem dX6_isHidden_10 : decode cX6_isHidden 10 = .ok (.iconst 1, 1) := by decide +kernel
theorem dX6_isHidden_11 : decode cX6_isHidden 11 = .ok (.iand, 1) := by decide +kernel
theorem dX6_isHidden_12 : decode cX6_isHidden 12 = .ok (.ifCond .eq 7, 3) := by decide +kernel
theorem dX6_isHidden_15 : decode cX6_isHidden 15 = .ok (.iconst 1, 1) := by decide +kernel
theorem dX6_isHidden_16 : decode cX6_isHidden 16 = .ok (.goto 4, 3) := by decide +kernel
theorem dX6_isHidden_19 : decode cX6_isHidden 19 = .ok (.iconst 0, 1) := by decide +kernel
theorem dX6_isHidden_20 : decode cX6_isHidden 20 = .ok (.ireturn, 1) := by decide +kernel
theorem dX6_isCell_0 : decode cX6_isCell 0 = .ok (.iload_n 0, 1) := by decide +kernel
theorem dX6_isCell_1 : decode cX6_isCell 1 = .ok (.ifCond .lt 22, 3) := by decide +kernel
theorem dX6_isCell_4 : decode cX6_isCell 4 = .ok (.iload_n 0, 1) := by decide +kernel
theorem dX6_isCell_5 : decode cX6_isCell 5 = .ok (.bipush 6, 2) := by decide +kernel
theorem dX6_isCell_7 : decode cX6_isCell 7 = .ok (.if_icmp .ge 16, 3) := by decide +kernel
theorem dX6_isCell_10 : decode cX6_isCell 10 = .ok (.iload_n 1, 1) := by decide +kernel
theorem dX6_isCell_11 : decode cX6_isCell 11 = .ok (.ifCond .lt 12, 3) := by decide +kernel
theorem dX6_isCell_14 : decode cX6_isCell 14 = .ok (.iload_n 1, 1) := by decide +kernel
theorem dX6_isCell_15 : decode cX6_isCell 15 = .ok (.iconst 4, 1) := by decide +kernel
theorem dX6_isCell_16 : decode cX6_isCell 16 = .ok (.if_icmp .ge 7, 3) := by decide +kernel
theorem dX6_isCell_19 : decode cX6_isCell 19 = .ok (.iconst 1, 1) := by decide +kernel
theorem dX6_isCell_20 : decode cX6_isCell 20 = .ok (.goto 4, 3) := by decide +kernel
theorem dX6_isCell_23 : decode cX6_isCell 23 = .ok (.iconst 0, 1) := by decide +kernel
theorem dX6_isCell_24 : decode cX6_isCell 24 = .ok (.ireturn, 1) := by decide +kernel
theorem dX7_init_0 : decode cX7_init 0 = .ok (.aload_n 0, 1) := by decide +kernel
theorem dX7_init_1 : decode cX7_init 1 = .ok (.invokespecial 3, 3) := by decide +kernel
theorem dX7_init_4 : decode cX7_init 4 = .ok (.aload_n 0, 1) := by decide +kernel
theorem dX7_init_5 : decode cX7_init 5 = .ok (.bipush 6, 2) := by decide +kernel
theorem dX7_init_7 : decode cX7_init 7 = .ok (.newarray .int, 2) := by decide +kernel
theorem dX7_init_9 : decode cX7_init 9 = .ok (.putfield 9, 3) := by decide +kernel
theorem dX7_init_12 : decode cX7_init 12 = .ok (.aload_n 0, 1) := by decide +kernel
theorem dX7_init_13 : decode cX7_init 13 = .ok (.bipush 6, 2) := by decide +kernel
theorem dX7_init_15 : decode cX7_init 15 = .ok (.newarray .int, 2) := by decide +kernel
theorem dX7_init_17 : decode cX7_init 17 = .ok (.putfield 15, 3) := by decide +kernel
theorem dX7_init_20 : decode cX7_init 20 = .ok (.aload_n 0, 1) := by decide +kernel
theorem dX7_init_21 : decode cX7_init 21 = .ok (.bipush 6, 2) := by decide +kernel
theorem dX7_init_23 : decode cX7_init 23 = .ok (.newarray .int, 2) := by decide +kernel
theorem dX7_init_25 : decode cX7_init 25 = .ok (.putfield 18, 3) := by decide +kernel
theorem dX7_init_28 : decode cX7_init 28 = .ok (.aload_n 0, 1) := by decide +kernel
theorem dX7_init_29 : decode cX7_init 29 = .ok (.bipush 6, 2) := by decide +kernel
theorem dX7_init_31 : decode cX7_init 31 = .ok (.newarray .int, 2) := by decide +kernel
theorem dX7_init_33 : decode cX7_init 33 = .ok (.putfield 21, 3) := by decide +kernel
theorem dX7_init_36 : decode cX7_init 36 = .ok (.aload_n 0, 1) := by decide +kernel
theorem dX7_init_37 : decode cX7_init 37 = .ok (.bipush 6, 2) := by decide +kernel
theorem dX7_init_39 : decode cX7_init 39 = .ok (.newarray .int, 2) := by decide +kernel
theorem dX7_init_41 : decode cX7_init 41 = .ok (.putfield 24, 3) := by decide +kernel
theorem dX7_init_44 : decode cX7_init 44 = .ok (.aload_n 0, 1) := by decide +kernel
theorem dX7_init_45 : decode cX7_init 45 = .ok (.bipush 6, 2) := by decide +kernel
theorem dX7_init_47 : decode cX7_init 47 = .ok (.newarray .int, 2) := by decide +kernel
theorem dX7_init_49 : decode cX7_init 49 = .ok (.putfield 27, 3) := by decide +kernel
theorem dX7_init_52 : decode cX7_init 52 = .ok (.aload_n 0, 1) := by decide +kernel
theorem dX7_init_53 : decode cX7_init 53 = .ok (.getfield 18, 3) := by decide +kernel
theorem dX7_init_56 : decode cX7_init 56 = .ok (.iconst (-1), 1) := by decide +kernel
theorem dX7_init_57 : decode cX7_init 57 = .ok (.invokestatic 30, 3) := by decide +kernel
theorem dX7_init_60 : decode cX7_init 60 = .ok (.return_, 1) := by decide +kernel
theorem dX7_join_0 : decode cX7_join 0 = .ok (.aload_n 0, 1) := by decide +kernel
theorem dX7_join_1 : decode cX7_join 1 = .ok (.getfield 9, 3) := by decide +kernel
theorem dX7_join_4 : decode cX7_join 4 = .ok (.iload_n 1, 1) := by decide +kernel
theorem dX7_join_5 : decode cX7_join 5 = .ok (.iaload, 1) := by decide +kernel
theorem dX7_join_6 : decode cX7_join 6 = .ok (.iload_n 2, 1) := by decide +kernel
theorem dX7_join_7 : decode cX7_join 7 = .ok (.ishr, 1) := by decide +kernel
theorem dX7_join_8 : decode cX7_join 8 = .ok (.iconst 1, 1) := by decide +kernel
theorem dX7_join_9 : decode cX7_join 9 = .ok (.iand, 1) := by decide +kernel
theorem dX7_join_10 : decode cX7_join 10 = .ok (.ifCond .ne 7, 3) := by decide +kernel
theorem dX7_join_13 : decode cX7_join 13 = .ok (.iconst 1, 1) := by decide +kernel
theorem dX7_join_14 : decode cX7_join 14 = .ok (.goto 4, 3) := by decide +kernel
theorem dX7_join_17 : decode cX7_join 17 = .ok (.iconst 0, 1) := by decide +kernel
theorem dX7_join_18 : decode cX7_join 18 = .ok (.istore_n 3, 1) := by decide +kernel
theorem dX7_join_19 : decode cX7_join 19 = .ok (.aload_n 0, 1) := by decide +kernel
theorem dX7_join_20 : decode cX7_join 20 = .ok (.getfield 9, 3) := by decide +kernel
theorem dX7_join_23 : decode cX7_join 23 = .ok (.iload_n 1, 1) := by decide +kernel
theorem dX7_join_24 : decode cX7_join 24 = .ok (.dup2, 1) := by decide +kernel
theorem dX7_join_25 : decode cX7_join 25 = .ok (.iaload, 1) := by decide +kernel
theorem dX7_join_26 : decode cX7_join 26 = .ok (.iconst 1, 1) := by decide +kernel
theorem dX7_join_27 : decode cX7_join 27 = .ok (.iload_n 2, 1) := by decide +kernel
theorem dX7_join_28 : decode cX7_join 28 = .ok (.ishl, 1) := by decide +kernel
theorem dX7_join_29 : decode cX7_join 29 = .ok (.ior, 1) := by decide +kernel
theorem dX7_join_30 : decode cX7_join 30 = .ok (.iastore, 1) := by decide +kernel
theorem dX7_join_31 : decode cX7_join 31 = .ok (.aload_n 0, 1) := by decide +kernel
theorem dX7_join_32 : decode cX7_join 32 = .ok (.getfield 9, 3) := by decide +kernel
theorem dX7_join_35 : decode cX7_join 35 = .ok (.iload_n 2, 1) := by decide +kernel
theorem dX7_join_36 : decode cX7_join 36 = .ok (.dup2, 1) := by decide +kernel
theorem dX7_join_37 : decode cX7_join 37 = .ok (.iaload, 1) := by decide +kernel
theorem dX7_join_38 : decode cX7_join 38 = .ok (.iconst 1, 1) := by decide +kernel
theorem dX7_join_39 : decode cX7_join 39 = .ok (.iload_n 1, 1) := by decide +kernel
theorem dX7_join_40 : decode cX7_join 40 = .ok (.ishl, 1) := by decide +kernel
theorem dX7_join_41 : decode cX7_join 41 = .ok (.ior, 1) := by decide +kernel
theorem dX7_join_42 : decode cX7_join 42 = .ok (.iastore, 1) := by decide +kernel
theorem dX7_join_43 : decode cX7_join 43 = .ok (.iload_n 3, 1) := by decide +kernel
theorem dX7_join_44 : decode cX7_join 44 = .ok (.ireturn, 1) := by decide +kernel
theorem dX7_numberOf_0 : decode cX7_numberOf 0 = .ok (.aload_n 0, 1) := by decide +kernel
theorem dX7_numberOf_1 : decode cX7_numberOf 1 = .ok (.getfield 18, 3) := by decide +kernel
theorem dX7_numberOf_4 : decode cX7_numberOf 4 = .ok (.iload_n 1, 1) := by decide +kernel
theorem dX7_numberOf_5 : decode cX7_numberOf 5 = .ok (.iaload, 1) := by decide +kernel
theorem dX7_numberOf_6 : decode cX7_numberOf 6 = .ok (.ireturn, 1) := by decide +kernel
theorem dX7_clearWork_0 : decode cX7_clearWork 0 = .ok (.aload_n 0, 1) := by decide +kernel
theorem dX7_clearWork_1 : decode cX7_clearWork 1 = .ok (.iconst 0, 1) := by decide +kernel
theorem dX7_clearWork_2 : decode cX7_clearWork 2 = .ok (.putfield 36, 3) := by decide +kernel
theorem dX7_clearWork_5 : decode cX7_clearWork 5 = .ok (.aload_n 0, 1) := by decide +kernel
theorem dX7_clearWork_6 : decode cX7_clearWork 6 = .ok (.getfield 15, 3) := by decide +kernel
theorem dX7_clearWork_9 : decode cX7_clearWork 9 = .ok (.iconst 0, 1) := by decide +kernel
theorem dX7_clearWork_10 : decode cX7_clearWork 10 = .ok (.invokestatic 30, 3) := by decide +kernel
theorem dX7_clearWork_13 : decode cX7_clearWork 13 = .ok (.return_, 1) := by decide +kernel
theorem dX7_addDoor_0 : decode cX7_addDoor 0 = .ok (.aload_n 0, 1) := by decide +kernel
theorem dX7_addDoor_1 : decode cX7_addDoor 1 = .ok (.dup, 1) := by decide +kernel
theorem dX7_addDoor_2 : decode cX7_addDoor 2 = .ok (.getfield 36, 3) := by decide +kernel
theorem dX7_addDoor_5 : decode cX7_addDoor 5 = .ok (.iconst 1, 1) := by decide +kernel
theorem dX7_addDoor_6 : decode cX7_addDoor 6 = .ok (.iload_n 1, 1) := by decide +kernel
theorem dX7_addDoor_7 : decode cX7_addDoor 7 = .ok (.ishl, 1) := by decide +kernel
theorem dX7_addDoor_8 : decode cX7_addDoor 8 = .ok (.ior, 1) := by decide +kernel
theorem dX7_addDoor_9 : decode cX7_addDoor 9 = .ok (.putfield 36, 3) := by decide +kernel
theorem dX7_addDoor_12 : decode cX7_addDoor 12 = .ok (.iload_n 2, 1) := by decide +kernel
theorem dX7_addDoor_13 : decode cX7_addDoor 13 = .ok (.ifCond .eq 13, 3) := by decide +kernel
theorem dX7_addDoor_16 : decode cX7_addDoor 16 = .ok (.aload_n 0, 1) := by decide +kernel
theorem dX7_addDoor_17 : decode cX7_addDoor 17 = .ok (.getfield 15, 3) := by decide +kernel
theorem dX7_addDoor_20 : decode cX7_addDoor 20 = .ok (.iload_n 1, 1) := by decide +kernel
theorem dX7_addDoor_21 : decode cX7_addDoor 21 = .ok (.dup2, 1) := by decide +kernel
theorem dX7_addDoor_22 : decode cX7_addDoor 22 = .ok (.iaload, 1) := by decide +kernel
theorem dX7_addDoor_23 : decode cX7_addDoor 23 = .ok (.iconst 1, 1) := by decide +kernel
theorem dX7_addDoor_24 : decode cX7_addDoor 24 = .ok (.iadd, 1) := by decide +kernel
theorem dX7_addDoor_25 : decode cX7_addDoor 25 = .ok (.iastore, 1) := by decide +kernel
theorem dX7_addDoor_26 : decode cX7_addDoor 26 = .ok (.return_, 1) := by decide +kernel
theorem dX7_part_0 : decode cX7_part 0 = .ok (.aload_n 0, 1) := by decide +kernel
theorem dX7_part_1 : decode cX7_part 1 = .ok (.iload_n 1, 1) := by decide +kernel
theorem dX7_part_2 : decode cX7_part 2 = .ok (.putfield 40, 3) := by decide +kernel
theorem dX7_part_5 : decode cX7_part 5 = .ok (.aload_n 0, 1) := by decide +kernel
theorem dX7_part_6 : decode cX7_part 6 = .ok (.bipush 7, 2) := by decide +kernel
theorem dX7_part_8 : decode cX7_part 8 = .ok (.putfield 43, 3) := by decide +kernel
theorem dX7_part_11 : decode cX7_part 11 = .ok (.aload_n 0, 1) := by decide +kernel
theorem dX7_part_12 : decode cX7_part 12 = .ok (.iconst 0, 1) := by decide +kernel
theorem dX7_part_13 : decode cX7_part 13 = .ok (.putfield 46, 3) := by decide +kernel
theorem dX7_part_16 : decode cX7_part 16 = .ok (.aload_n 0, 1) := by decide +kernel
theorem dX7_part_17 : decode cX7_part 17 = .ok (.getfield 24, 3) := by decide +kernel
theorem dX7_part_20 : decode cX7_part 20 = .ok (.iconst (-1), 1) := by decide +kernel
theorem dX7_part_21 : decode cX7_part 21 = .ok (.invokestatic 30, 3) := by decide +kernel
theorem dX7_part_24 : decode cX7_part 24 = .ok (.aload_n 0, 1) := by decide +kernel
theorem dX7_part_25 : decode cX7_part 25 = .ok (.getfield 21, 3) := by decide +kernel
theorem dX7_part_28 : decode cX7_part 28 = .ok (.iconst 0, 1) := by decide +kernel
theorem dX7_part_29 : decode cX7_part 29 = .ok (.invokestatic 30, 3) := by decide +kernel
theorem dX7_part_32 : decode cX7_part 32 = .ok (.aload_n 0, 1) := by decide +kernel
theorem dX7_part_33 : decode cX7_part 33 = .ok (.iconst 0, 1) := by decide +kernel
theorem dX7_part_34 : decode cX7_part 34 = .ok (.iconst 0, 1) := by decide +kernel
theorem dX7_part_35 : decode cX7_part 35 = .ok (.invokestatic 49, 3) := by decide +kernel
theorem dX7_part_38 : decode cX7_part 38 = .ok (.aload_n 0, 1) := by decide +kernel
theorem dX7_part_39 : decode cX7_part 39 = .ok (.getfield 43, 3) := by decide +kernel
theorem dX7_part_42 : decode cX7_part 42 = .ok (.bipush 6, 2) := by decide +kernel
theorem dX7_part_44 : decode cX7_part 44 = .ok (.if_icmp .le 5, 3) := by decide +kernel
theorem dX7_part_47 : decode cX7_part 47 = .ok (.iconst (-1), 1) := by decide +kernel
theorem dX7_part_48 : decode cX7_part 48 = .ok (.ireturn, 1) := by decide +kernel
theorem dX7_part_49 : decode cX7_part 49 = .ok (.aload_n 0, 1) := by decide +kernel
theorem dX7_part_50 : decode cX7_part 50 = .ok (.getfield 27, 3) := by decide +kernel
theorem dX7_part_53 : decode cX7_part 53 = .ok (.iconst 0, 1) := by decide +kernel
theorem dX7_part_54 : decode cX7_part 54 = .ok (.aload_n 0, 1) := by decide +kernel
theorem dX7_part_55 : decode cX7_part 55 = .ok (.getfield 18, 3) := by decide +kernel
theorem dX7_part_58 : decode cX7_part 58 = .ok (.iconst 0, 1) := by decide +kernel
theorem dX7_part_59 : decode cX7_part 59 = .ok (.bipush 6, 2) := by decide +kernel
theorem dX7_part_61 : decode cX7_part 61 = .ok (.invokestatic 53, 3) := by decide +kernel
theorem dX7_part_64 : decode cX7_part 64 = .ok (.aload_n 0, 1) := by decide +kernel
theorem dX7_part_65 : decode cX7_part 65 = .ok (.getfield 43, 3) := by decide +kernel
theorem dX7_part_68 : decode cX7_part 68 = .ok (.ireturn, 1) := by decide +kernel
theorem dX7_place_0 : decode cX7_place 0 = .ok (.iload_n 2, 1) := by decide +kernel
theorem dX7_place_1 : decode cX7_place 1 = .ok (.aload_n 0, 1) := by decide +kernel
theorem dX7_place_2 : decode cX7_place 2 = .ok (.getfield 43, 3) := by decide +kernel
theorem dX7_place_5 : decode cX7_place 5 = .ok (.if_icmp .le 4, 3) := by decide +kernel
theorem dX7_place_8 : decode cX7_place 8 = .ok (.return_, 1) := by decide +kernel
theorem dX7_place_9 : decode cX7_place 9 = .ok (.iload_n 1, 1) := by decide +kernel
theorem dX7_place_10 : decode cX7_place 10 = .ok (.bipush 6, 2) := by decide +kernel
theorem dX7_place_12 : decode cX7_place 12 = .ok (.if_icmp .lt 9, 3) := by decide +kernel
theorem dX7_place_15 : decode cX7_place 15 = .ok (.aload_n 0, 1) := by decide +kernel
theorem dX7_place_16 : decode cX7_place 16 = .ok (.iload_n 2, 1) := by decide +kernel
theorem dX7_place_17 : decode cX7_place 17 = .ok (.invokevirtual 59, 3) := by decide +kernel
theorem dX7_place_20 : decode cX7_place 20 = .ok (.return_, 1) := by decide +kernel
theorem dX7_place_21 : decode cX7_place 21 = .ok (.aload_n 0, 1) := by decide +kernel
theorem dX7_place_22 : decode cX7_place 22 = .ok (.getfield 36, 3) := by decide +kernel
theorem dX7_place_25 : decode cX7_place 25 = .ok (.iload_n 1, 1) := by decide +kernel
theorem dX7_place_26 : decode cX7_place 26 = .ok (.ishr, 1) := by decide +kernel
theorem dX7_place_27 : decode cX7_place 27 = .ok (.iconst 1, 1) := by decide +kernel
theorem dX7_place_28 : decode cX7_place 28 = .ok (.iand, 1) := by decide +kernel
theorem dX7_place_29 : decode cX7_place 29 = .ok (.ifCond .ne 12, 3) := by decide +kernel
theorem dX7_place_32 : decode cX7_place 32 = .ok (.aload_n 0, 1) := by decide +kernel
theorem dX7_place_33 : decode cX7_place 33 = .ok (.iload_n 1, 1) := by decide +kernel
theorem dX7_place_34 : decode cX7_place 34 = .ok (.iconst 1, 1) := by decide +kernel
theorem dX7_place_35 : decode cX7_place 35 = .ok (.iadd, 1) := by decide +kernel
theorem dX7_place_36 : decode cX7_place 36 = .ok (.iload_n 2, 1) := by decide +kernel
theorem dX7_place_37 : decode cX7_place 37 = .ok (.invokestatic 49, 3) := by decide +kernel
theorem dX7_place_40 : decode cX7_place 40 = .ok (.return_, 1) := by decide +kernel
theorem dX7_place_41 : decode cX7_place 41 = .ok (.iconst 0, 1) := by decide +kernel
theorem dX7_place_42 : decode cX7_place 42 = .ok (.istore_n 3, 1) := by decide +kernel
theorem dX7_place_43 : decode cX7_place 43 = .ok (.iload_n 3, 1) := by decide +kernel
theorem dX7_place_44 : decode cX7_place 44 = .ok (.iload_n 2, 1) := by decide +kernel
theorem dX7_place_45 : decode cX7_place 45 = .ok (.if_icmp .gt 62, 3) := by decide +kernel
theorem dX7_place_48 : decode cX7_place 48 = .ok (.iload_n 3, 1) := by decide +kernel
theorem dX7_place_49 : decode cX7_place 49 = .ok (.bipush 6, 2) := by decide +kernel
theorem dX7_place_51 : decode cX7_place 51 = .ok (.if_icmp .ge 56, 3) := by decide +kernel
theorem dX7_place_54 : decode cX7_place 54 = .ok (.aload_n 0, 1) := by decide +kernel
theorem dX7_place_55 : decode cX7_place 55 = .ok (.getfield 21, 3) := by decide +kernel
theorem dX7_place_58 : decode cX7_place 58 = .ok (.iload_n 3, 1) := by decide +kernel
theorem dX7_place_59 : decode cX7_place 59 = .ok (.dup2, 1) := by decide +kernel
theorem dX7_place_60 : decode cX7_place 60 = .ok (.iaload, 1) := by decide +kernel
theorem dX7_place_61 : decode cX7_place 61 = .ok (.iconst 1, 1) := by decide +kernel
theorem dX7_place_62 : decode cX7_place 62 = .ok (.iload_n 1, 1) := by decide +kernel
theorem dX7_place_63 : decode cX7_place 63 = .ok (.ishl, 1) := by decide +kernel
theorem dX7_place_64 : decode cX7_place 64 = .ok (.ior, 1) := by decide +kernel
theorem dX7_place_65 : decode cX7_place 65 = .ok (.iastore, 1) := by decide +kernel
theorem dX7_place_66 : decode cX7_place 66 = .ok (.aload_n 0, 1) := by decide +kernel
theorem dX7_place_67 : decode cX7_place 67 = .ok (.getfield 24, 3) := by decide +kernel
theorem dX7_place_70 : decode cX7_place 70 = .ok (.iload_n 1, 1) := by decide +kernel
theorem dX7_place_71 : decode cX7_place 71 = .ok (.iload_n 3, 1) := by decide +kernel
theorem dX7_place_72 : decode cX7_place 72 = .ok (.iastore, 1) := by decide +kernel
theorem dX7_place_73 : decode cX7_place 73 = .ok (.aload_n 0, 1) := by decide +kernel
theorem dX7_place_74 : decode cX7_place 74 = .ok (.iload_n 1, 1) := by decide +kernel
theorem dX7_place_75 : decode cX7_place 75 = .ok (.iconst 1, 1) := by decide +kernel
theorem dX7_place_76 : decode cX7_place 76 = .ok (.iadd, 1) := by decide +kernel
theorem dX7_place_77 : decode cX7_place 77 = .ok (.iload_n 2, 1) := by decide +kernel
theorem dX7_place_78 : decode cX7_place 78 = .ok (.iload_n 3, 1) := by decide +kernel
theorem dX7_place_79 : decode cX7_place 79 = .ok (.iconst 1, 1) := by decide +kernel
theorem dX7_place_80 : decode cX7_place 80 = .ok (.iadd, 1) := by decide +kernel
theorem dX7_place_81 : decode cX7_place 81 = .ok (.invokestatic 63, 3) := by decide +kernel
theorem dX7_place_84 : decode cX7_place 84 = .ok (.invokestatic 49, 3) := by decide +kernel
theorem dX7_place_87 : decode cX7_place 87 = .ok (.aload_n 0, 1) := by decide +kernel
theorem dX7_place_88 : decode cX7_place 88 = .ok (.getfield 21, 3) := by decide +kernel
theorem dX7_place_91 : decode cX7_place 91 = .ok (.iload_n 3, 1) := by decide +kernel
theorem dX7_place_92 : decode cX7_place 92 = .ok (.dup2, 1) := by decide +kernel
theorem dX7_place_93 : decode cX7_place 93 = .ok (.iaload, 1) := by decide +kernel
theorem dX7_place_94 : decode cX7_place 94 = .ok (.iconst 1, 1) := by decide +kernel
theorem dX7_place_95 : decode cX7_place 95 = .ok (.iload_n 1, 1) := by decide +kernel
theorem dX7_place_96 : decode cX7_place 96 = .ok (.ishl, 1) := by decide +kernel
theorem dX7_place_97 : decode cX7_place 97 = .ok (.iconst (-1), 1) := by decide +kernel
theorem dX7_place_98 : decode cX7_place 98 = .ok (.ixor, 1) := by decide +kernel
theorem dX7_place_99 : decode cX7_place 99 = .ok (.iand, 1) := by decide +kernel
theorem dX7_place_100 : decode cX7_place 100 = .ok (.iastore, 1) := by decide +kernel
theorem dX7_place_101 : decode cX7_place 101 = .ok (.iinc 3 1, 3) := by decide +kernel
theorem dX7_place_104 : decode cX7_place 104 = .ok (.goto (-61), 3) := by decide +kernel
theorem dX7_place_107 : decode cX7_place 107 = .ok (.return_, 1) := by decide +kernel
theorem dX7_judge_0 : decode cX7_judge 0 = .ok (.iconst 0, 1) := by decide +kernel
theorem dX7_judge_1 : decode cX7_judge 1 = .ok (.istore_n 2, 1) := by decide +kernel
theorem dX7_judge_2 : decode cX7_judge 2 = .ok (.iconst 0, 1) := by decide +kernel
theorem dX7_judge_3 : decode cX7_judge 3 = .ok (.istore_n 3, 1) := by decide +kernel
theorem dX7_judge_4 : decode cX7_judge 4 = .ok (.iload_n 3, 1) := by decide +kernel
theorem dX7_judge_5 : decode cX7_judge 5 = .ok (.iload_n 1, 1) := by decide +kernel
theorem dX7_judge_6 : decode cX7_judge 6 = .ok (.if_icmp .ge 24, 3) := by decide +kernel
theorem dX7_judge_9 : decode cX7_judge 9 = .ok (.iload_n 2, 1) := by decide +kernel
theorem dX7_judge_10 : decode cX7_judge 10 = .ok (.aload_n 0, 1) := by decide +kernel
theorem dX7_judge_11 : decode cX7_judge 11 = .ok (.aload_n 0, 1) := by decide +kernel
theorem dX7_judge_12 : decode cX7_judge 12 = .ok (.getfield 21, 3) := by decide +kernel
theorem dX7_judge_15 : decode cX7_judge 15 = .ok (.iload_n 3, 1) := by decide +kernel
theorem dX7_judge_16 : decode cX7_judge 16 = .ok (.iaload, 1) := by decide +kernel
theorem dX7_judge_17 : decode cX7_judge 17 = .ok (.invokevirtual 69, 3) := by decide +kernel
theorem dX7_judge_20 : decode cX7_judge 20 = .ok (.invokestatic 63, 3) := by decide +kernel
theorem dX7_judge_23 : decode cX7_judge 23 = .ok (.istore_n 2, 1) := by decide +kernel
theorem dX7_judge_24 : decode cX7_judge 24 = .ok (.iinc 3 1, 3) := by decide +kernel
theorem dX7_judge_27 : decode cX7_judge 27 = .ok (.goto (-23), 3) := by decide +kernel
theorem dX7_judge_30 : decode cX7_judge 30 = .ok (.iload_n 1, 1) := by decide +kernel
theorem dX7_judge_31 : decode cX7_judge 31 = .ok (.aload_n 0, 1) := by decide +kernel
theorem dX7_judge_32 : decode cX7_judge 32 = .ok (.getfield 43, 3) := by decide +kernel
theorem dX7_judge_35 : decode cX7_judge 35 = .ok (.if_icmp .lt 19, 3) := by decide +kernel
theorem dX7_judge_38 : decode cX7_judge 38 = .ok (.iload_n 1, 1) := by decide +kernel
theorem dX7_judge_39 : decode cX7_judge 39 = .ok (.aload_n 0, 1) := by decide +kernel
theorem dX7_judge_40 : decode cX7_judge 40 = .ok (.getfield 43, 3) := by decide +kernel
theorem dX7_judge_43 : decode cX7_judge 43 = .ok (.if_icmp .ne 15, 3) := by decide +kernel
theorem dX7_judge_46 : decode cX7_judge 46 = .ok (.iload_n 2, 1) := by decide +kernel
theorem dX7_judge_47 : decode cX7_judge 47 = .ok (.aload_n 0, 1) := by decide +kernel
theorem dX7_judge_48 : decode cX7_judge 48 = .ok (.getfield 46, 3) := by decide +kernel
theorem dX7_judge_51 : decode cX7_judge 51 = .ok (.if_icmp .ge 7, 3) := by decide +kernel
theorem dX7_judge_54 : decode cX7_judge 54 = .ok (.iconst 1, 1) := by decide +kernel
theorem dX7_judge_55 : decode cX7_judge 55 = .ok (.goto 4, 3) := by decide +kernel
theorem dX7_judge_58 : decode cX7_judge 58 = .ok (.iconst 0, 1) := by decide +kernel
theorem dX7_judge_59 : decode cX7_judge 59 = .ok (.istore_n 3, 1) := by decide +kernel
theorem dX7_judge_60 : decode cX7_judge 60 = .ok (.iload_n 2, 1) := by decide +kernel
theorem dX7_judge_61 : decode cX7_judge 61 = .ok (.aload_n 0, 1) := by decide +kernel
theorem dX7_judge_62 : decode cX7_judge 62 = .ok (.getfield 40, 3) := by decide +kernel
theorem dX7_judge_65 : decode cX7_judge 65 = .ok (.if_icmp .gt 15, 3) := by decide +kernel
theorem dX7_judge_68 : decode cX7_judge 68 = .ok (.iload_n 3, 1) := by decide +kernel
theorem dX7_judge_69 : decode cX7_judge 69 = .ok (.ifCond .eq 11, 3) := by decide +kernel
theorem dX7_judge_72 : decode cX7_judge 72 = .ok (.aload_n 0, 1) := by decide +kernel
theorem dX7_judge_73 : decode cX7_judge 73 = .ok (.iload_n 1, 1) := by decide +kernel
theorem dX7_judge_74 : decode cX7_judge 74 = .ok (.invokevirtual 73, 3) := by decide +kernel
theorem dX7_judge_77 : decode cX7_judge 77 = .ok (.ifCond .ne 4, 3) := by decide +kernel
theorem dX7_judge_80 : decode cX7_judge 80 = .ok (.return_, 1) := by decide +kernel
theorem dX7_judge_81 : decode cX7_judge 81 = .ok (.aload_n 0, 1) := by decide +kernel
theorem dX7_judge_82 : decode cX7_judge 82 = .ok (.iload_n 1, 1) := by decide +kernel
theorem dX7_judge_83 : decode cX7_judge 83 = .ok (.putfield 43, 3) := by decide +kernel
theorem dX7_judge_86 : decode cX7_judge 86 = .ok (.aload_n 0, 1) := by decide +kernel
theorem dX7_judge_87 : decode cX7_judge 87 = .ok (.iload_n 2, 1) := by decide +kernel
theorem dX7_judge_88 : decode cX7_judge 88 = .ok (.putfield 46, 3) := by decide +kernel
theorem dX7_judge_91 : decode cX7_judge 91 = .ok (.aload_n 0, 1) := by decide +kernel
theorem dX7_judge_92 : decode cX7_judge 92 = .ok (.getfield 24, 3) := by decide +kernel
theorem dX7_judge_95 : decode cX7_judge 95 = .ok (.iconst 0, 1) := by decide +kernel
theorem dX7_judge_96 : decode cX7_judge 96 = .ok (.aload_n 0, 1) := by decide +kernel
theorem dX7_judge_97 : decode cX7_judge 97 = .ok (.getfield 27, 3) := by decide +kernel
theorem dX7_judge_100 : decode cX7_judge 100 = .ok (.iconst 0, 1) := by decide +kernel
theorem dX7_judge_101 : decode cX7_judge 101 = .ok (.bipush 6, 2) := by decide +kernel
theorem dX7_judge_103 : decode cX7_judge 103 = .ok (.invokestatic 53, 3) := by decide +kernel
theorem dX7_judge_106 : decode cX7_judge 106 = .ok (.return_, 1) := by decide +kernel
theorem dX7_workOf_0 : decode cX7_workOf 0 = .ok (.iconst 0, 1) := by decide +kernel
theorem dX7_workOf_1 : decode cX7_workOf 1 = .ok (.istore_n 2, 1) := by decide +kernel
theorem dX7_workOf_2 : decode cX7_workOf 2 = .ok (.iconst 0, 1) := by decide +kernel
theorem dX7_workOf_3 : decode cX7_workOf 3 = .ok (.istore_n 3, 1) := by decide +kernel
theorem dX7_workOf_4 : decode cX7_workOf 4 = .ok (.iload_n 3, 1) := by decide +kernel
theorem dX7_workOf_5 : decode cX7_workOf 5 = .ok (.bipush 6, 2) := by decide +kernel
theorem dX7_workOf_7 : decode cX7_workOf 7 = .ok (.if_icmp .ge 26, 3) := by decide +kernel
theorem dX7_workOf_10 : decode cX7_workOf 10 = .ok (.iload_n 1, 1) := by decide +kernel
theorem dX7_workOf_11 : decode cX7_workOf 11 = .ok (.iload_n 3, 1) := by decide +kernel
theorem dX7_workOf_12 : decode cX7_workOf 12 = .ok (.ishr, 1) := by decide +kernel
theorem dX7_workOf_13 : decode cX7_workOf 13 = .ok (.iconst 1, 1) := by decide +kernel
theorem dX7_workOf_14 : decode cX7_workOf 14 = .ok (.iand, 1) := by decide +kernel
theorem dX7_workOf_15 : decode cX7_workOf 15 = .ok (.ifCond .eq 12, 3) := by decide +kernel
theorem dX7_workOf_18 : decode cX7_workOf 18 = .ok (.iload_n 2, 1) := by decide +kernel
theorem dX7_workOf_19 : decode cX7_workOf 19 = .ok (.aload_n 0, 1) := by decide +kernel
theorem dX7_workOf_20 : decode cX7_workOf 20 = .ok (.getfield 15, 3) := by decide +kernel
theorem dX7_workOf_23 : decode cX7_workOf 23 = .ok (.iload_n 3, 1) := by decide +kernel
theorem dX7_workOf_24 : decode cX7_workOf 24 = .ok (.iaload, 1) := by decide +kernel
theorem dX7_workOf_25 : decode cX7_workOf 25 = .ok (.iadd, 1) := by decide +kernel
theorem dX7_workOf_26 : decode cX7_workOf 26 = .ok (.istore_n 2, 1) := by decide +kernel
theorem dX7_workOf_27 : decode cX7_workOf 27 = .ok (.iinc 3 1, 3) := by decide +kernel
theorem dX7_workOf_30 : decode cX7_workOf 30 = .ok (.goto (-26), 3) := by decide +kernel
theorem dX7_workOf_33 : decode cX7_workOf 33 = .ok (.iload_n 2, 1) := by decide +kernel
theorem dX7_workOf_34 : decode cX7_workOf 34 = .ok (.ireturn, 1) := by decide +kernel
theorem dX7_allTogether_0 : decode cX7_allTogether 0 = .ok (.iconst 0, 1) := by decide +kernel
theorem dX7_allTogether_1 : decode cX7_allTogether 1 = .ok (.istore_n 2, 1) := by decide +kernel
theorem dX7_allTogether_2 : decode cX7_allTogether 2 = .ok (.iload_n 2, 1) := by decide +kernel
theorem dX7_allTogether_3 : decode cX7_allTogether 3 = .ok (.iload_n 1, 1) := by decide +kernel
theorem dX7_allTogether_4 : decode cX7_allTogether 4 = .ok (.if_icmp .ge 24, 3) := by decide +kernel
theorem dX7_allTogether_7 : decode cX7_allTogether 7 = .ok (.aload_n 0, 1) := by decide +kernel
theorem dX7_allTogether_8 : decode cX7_allTogether 8 = .ok (.aload_n 0, 1) := by decide +kernel
theorem dX7_allTogether_9 : decode cX7_allTogether 9 = .ok (.getfield 21, 3) := by decide +kernel
theorem dX7_allTogether_12 : decode cX7_allTogether 12 = .ok (.iload_n 2, 1) := by decide +kernel
theorem dX7_allTogether_13 : decode cX7_allTogether 13 = .ok (.iaload, 1) := by decide +kernel
theorem dX7_allTogether_14 : decode cX7_allTogether 14 = .ok (.invokevirtual 77, 3) := by decide +kernel
theorem dX7_allTogether_17 : decode cX7_allTogether 17 = .ok (.ifCond .ne 5, 3) := by decide +kernel
theorem dX7_allTogether_20 : decode cX7_allTogether 20 = .ok (.iconst 0, 1) := by decide +kernel
theorem dX7_allTogether_21 : decode cX7_allTogether 21 = .ok (.ireturn, 1) := by decide +kernel
theorem dX7_allTogether_22 : decode cX7_allTogether 22 = .ok (.iinc 2 1, 3) := by decide +kernel
theorem dX7_allTogether_25 : decode cX7_allTogether 25 = .ok (.goto (-23), 3) := by decide +kernel
theorem dX7_allTogether_28 : decode cX7_allTogether 28 = .ok (.iconst 1, 1) := by decide +kernel
theorem dX7_allTogether_29 : decode cX7_allTogether 29 = .ok (.ireturn, 1) := by decide +kernel
theorem dX7_isTogether_0 : decode cX7_isTogether 0 = .ok (.iload_n 1, 1) := by decide +kernel
theorem dX7_isTogether_1 : decode cX7_isTogether 1 = .ok (.iload_n 1, 1) := by decide +kernel
theorem dX7_isTogether_2 : decode cX7_isTogether 2 = .ok (.ineg, 1) := by decide +kernel
theorem dX7_isTogether_3 : decode cX7_isTogether 3 = .ok (.iand, 1) := by decide +kernel
theorem dX7_isTogether_4 : decode cX7_isTogether 4 = .ok (.istore_n 2, 1) := by decide +kernel
theorem dX7_isTogether_5 : decode cX7_isTogether 5 = .ok (.iconst 0, 1) := by decide +kernel
theorem dX7_isTogether_6 : decode cX7_isTogether 6 = .ok (.istore_n 3, 1) := by decide +kernel
theorem dX7_isTogether_7 : decode cX7_isTogether 7 = .ok (.iload_n 3, 1) := by decide +kernel
theorem dX7_isTogether_8 : decode cX7_isTogether 8 = .ok (.bipush 6, 2) := by decide +kernel
theorem dX7_isTogether_10 : decode cX7_isTogether 10 = .ok (.if_icmp .ge 24, 3) := by decide +kernel
theorem dX7_isTogether_13 : decode cX7_isTogether 13 = .ok (.iload_n 2, 1) := by decide +kernel
theorem dX7_isTogether_14 : decode cX7_isTogether 14 = .ok (.iload_n 1, 1) := by decide +kernel
theorem dX7_isTogether_15 : decode cX7_isTogether 15 = .ok (.if_icmp .eq 19, 3) := by decide +kernel
theorem dX7_isTogether_18 : decode cX7_isTogether 18 = .ok (.iload_n 2, 1) := by decide +kernel
theorem dX7_isTogether_19 : decode cX7_isTogether 19 = .ok (.aload_n 0, 1) := by decide +kernel
theorem dX7_isTogether_20 : decode cX7_isTogether 20 = .ok (.iload_n 2, 1) := by decide +kernel
theorem dX7_isTogether_21 : decode cX7_isTogether 21 = .ok (.invokevirtual 80, 3) := by decide +kernel
theorem dX7_isTogether_24 : decode cX7_isTogether 24 = .ok (.iload_n 1, 1) := by decide +kernel
theorem dX7_isTogether_25 : decode cX7_isTogether 25 = .ok (.iand, 1) := by decide +kernel
theorem dX7_isTogether_26 : decode cX7_isTogether 26 = .ok (.ior, 1) := by decide +kernel
theorem dX7_isTogether_27 : decode cX7_isTogether 27 = .ok (.istore_n 2, 1) := by decide +kernel
theorem dX7_isTogether_28 : decode cX7_isTogether 28 = .ok (.iinc 3 1, 3) := by decide +kernel
theorem dX7_isTogether_31 : decode cX7_isTogether 31 = .ok (.goto (-24), 3) := by decide +kernel
theorem dX7_isTogether_34 : decode cX7_isTogether 34 = .ok (.iload_n 2, 1) := by decide +kernel
theorem dX7_isTogether_35 : decode cX7_isTogether 35 = .ok (.iload_n 1, 1) := by decide +kernel
theorem dX7_isTogether_36 : decode cX7_isTogether 36 = .ok (.if_icmp .ne 7, 3) := by decide +kernel
theorem dX7_isTogether_39 : decode cX7_isTogether 39 = .ok (.iconst 1, 1) := by decide +kernel
theorem dX7_isTogether_40 : decode cX7_isTogether 40 = .ok (.goto 4, 3) := by decide +kernel
theorem dX7_isTogether_43 : decode cX7_isTogether 43 = .ok (.iconst 0, 1) := by decide +kernel
theorem dX7_isTogether_44 : decode cX7_isTogether 44 = .ok (.ireturn, 1) := by decide +kernel
theorem dX7_nearOnes_0 : decode cX7_nearOnes 0 = .ok (.iconst 0, 1) := by decide +kernel
theorem dX7_nearOnes_1 : decode cX7_nearOnes 1 = .ok (.istore_n 2, 1) := by decide +kernel
theorem dX7_nearOnes_2 : decode cX7_nearOnes 2 = .ok (.iconst 0, 1) := by decide +kernel
theorem dX7_nearOnes_3 : decode cX7_nearOnes 3 = .ok (.istore_n 3, 1) := by decide +kernel
theorem dX7_nearOnes_4 : decode cX7_nearOnes 4 = .ok (.iload_n 3, 1) := by decide +kernel
theorem dX7_nearOnes_5 : decode cX7_nearOnes 5 = .ok (.bipush 6, 2) := by decide +kernel
theorem dX7_nearOnes_7 : decode cX7_nearOnes 7 = .ok (.if_icmp .ge 26, 3) := by decide +kernel
theorem dX7_nearOnes_10 : decode cX7_nearOnes 10 = .ok (.iload_n 1, 1) := by decide +kernel
theorem dX7_nearOnes_11 : decode cX7_nearOnes 11 = .ok (.iload_n 3, 1) := by decide +kernel
theorem dX7_nearOnes_12 : decode cX7_nearOnes 12 = .ok (.ishr, 1) := by decide +kernel
theorem dX7_nearOnes_13 : decode cX7_nearOnes 13 = .ok (.iconst 1, 1) := by decide +kernel
theorem dX7_nearOnes_14 : decode cX7_nearOnes 14 = .ok (.iand, 1) := by decide +kernel
theorem dX7_nearOnes_15 : decode cX7_nearOnes 15 = .ok (.ifCond .eq 12, 3) := by decide +kernel
theorem dX7_nearOnes_18 : decode cX7_nearOnes 18 = .ok (.iload_n 2, 1) := by decide +kernel
theorem dX7_nearOnes_19 : decode cX7_nearOnes 19 = .ok (.aload_n 0, 1) := by decide +kernel
theorem dX7_nearOnes_20 : decode cX7_nearOnes 20 = .ok (.getfield 9, 3) := by decide +kernel
theorem dX7_nearOnes_23 : decode cX7_nearOnes 23 = .ok (.iload_n 3, 1) := by decide +kernel
theorem dX7_nearOnes_24 : decode cX7_nearOnes 24 = .ok (.iaload, 1) := by decide +kernel
theorem dX7_nearOnes_25 : decode cX7_nearOnes 25 = .ok (.ior, 1) := by decide +kernel
theorem dX7_nearOnes_26 : decode cX7_nearOnes 26 = .ok (.istore_n 2, 1) := by decide +kernel
theorem dX7_nearOnes_27 : decode cX7_nearOnes 27 = .ok (.iinc 3 1, 3) := by decide +kernel
theorem dX7_nearOnes_30 : decode cX7_nearOnes 30 = .ok (.goto (-26), 3) := by decide +kernel
theorem dX7_nearOnes_33 : decode cX7_nearOnes 33 = .ok (.iload_n 2, 1) := by decide +kernel
theorem dX7_nearOnes_34 : decode cX7_nearOnes 34 = .ok (.ireturn, 1) := by decide +kernel
theorem dJ0_charAt_5068e_0 : decode cJ0_charAt_5068e 0 = .ok (.aload_n 0, 1) := by decide +kernel
theorem dJ0_charAt_5068e_1 : decode cJ0_charAt_5068e 1 = .ok (.invokevirtual 492, 3) := by decide +kernel
theorem dJ0_charAt_5068e_4 : decode cJ0_charAt_5068e 4 = .ok (.ifCond .eq 12, 3) := by decide +kernel
theorem dJ0_charAt_5068e_7 : decode cJ0_charAt_5068e 7 = .ok (.aload_n 0, 1) := by decide +kernel
theorem dJ0_charAt_5068e_8 : decode cJ0_charAt_5068e 8 = .ok (.getfield 9, 3) := by decide +kernel
theorem dJ0_charAt_5068e_11 : decode cJ0_charAt_5068e 11 = .ok (.iload_n 1, 1) := by decide +kernel
theorem dJ0_charAt_5068e_12 : decode cJ0_charAt_5068e 12 = .ok (.invokestatic 495, 3) := by decide +kernel
theorem dJ0_charAt_5068e_15 : decode cJ0_charAt_5068e 15 = .ok (.ireturn, 1) := by decide +kernel
theorem dJ0_charAt_5068e_16 : decode cJ0_charAt_5068e 16 = .ok (.aload_n 0, 1) := by decide +kernel
theorem dJ0_charAt_5068e_17 : decode cJ0_charAt_5068e 17 = .ok (.getfield 9, 3) := by decide +kernel
theorem dJ0_charAt_5068e_20 : decode cJ0_charAt_5068e 20 = .ok (.iload_n 1, 1) := by decide +kernel
theorem dJ0_charAt_5068e_21 : decode cJ0_charAt_5068e 21 = .ok (.invokestatic 498, 3) := by decide +kernel
theorem dJ0_charAt_5068e_24 : decode cJ0_charAt_5068e 24 = .ok (.ireturn, 1) := by decide +kernel
theorem dJ0_isLatin1_aae02_0 : decode cJ0_isLatin1_aae02 0 = .ok (.getstatic 38, 3) := by decide +kernel
theorem dJ0_isLatin1_aae02_3 : decode cJ0_isLatin1_aae02 3 = .ok (.ifCond .eq 14, 3) := by decide +kernel
theorem dJ0_isLatin1_aae02_6 : decode cJ0_isLatin1_aae02 6 = .ok (.aload_n 0, 1) := by decide +kernel
theorem dJ0_isLatin1_aae02_7 : decode cJ0_isLatin1_aae02 7 = .ok (.getfield 15, 3) := by decide +kernel
theorem dJ0_isLatin1_aae02_10 : decode cJ0_isLatin1_aae02 10 = .ok (.ifCond .ne 7, 3) := by decide +kernel
theorem dJ0_isLatin1_aae02_13 : decode cJ0_isLatin1_aae02 13 = .ok (.iconst 1, 1) := by decide +kernel
theorem dJ0_isLatin1_aae02_14 : decode cJ0_isLatin1_aae02 14 = .ok (.goto 4, 3) := by decide +kernel
theorem dJ0_isLatin1_aae02_17 : decode cJ0_isLatin1_aae02 17 = .ok (.iconst 0, 1) := by decide +kernel
theorem dJ0_isLatin1_aae02_18 : decode cJ0_isLatin1_aae02 18 = .ok (.ireturn, 1) := by decide +kernel
theorem dJ0_checkIndex_df160_0 : decode cJ0_checkIndex_df160 0 = .ok (.iload_n 0, 1) := by decide +kernel
theorem dJ0_checkIndex_df160_1 : decode cJ0_checkIndex_df160 1 = .ok (.iload_n 1, 1) := by decide +kernel
theorem dJ0_checkIndex_df160_2 : decode cJ0_checkIndex_df160 2 = .ok (.getstatic 1053, 3) := by decide +kernel
theorem dJ0_checkIndex_df160_5 : decode cJ0_checkIndex_df160 5 = .ok (.invokestatic 1059, 3) := by decide +kernel
theorem dJ0_checkIndex_df160_8 : decode cJ0_checkIndex_df160 8 = .ok (.pop, 1) := by decide +kernel
theorem dJ0_checkIndex_df160_9 : decode cJ0_checkIndex_df160 9 = .ok (.return_, 1) := by decide +kernel
theorem dJ1_charAt_3b067_0 : decode cJ1_charAt_3b067 0 = .ok (.iload_n 1, 1) := by decide +kernel
theorem dJ1_charAt_3b067_1 : decode cJ1_charAt_3b067 1 = .ok (.aload_n 0, 1) := by decide +kernel
theorem dJ1_charAt_3b067_2 : decode cJ1_charAt_3b067 2 = .ok (.arraylength, 1) := by decide +kernel
theorem dJ1_charAt_3b067_3 : decode cJ1_charAt_3b067 3 = .ok (.invokestatic 9, 3) := by decide +kernel
theorem dJ1_charAt_3b067_6 : decode cJ1_charAt_3b067 6 = .ok (.aload_n 0, 1) := by decide +kernel
theorem dJ1_charAt_3b067_7 : decode cJ1_charAt_3b067 7 = .ok (.iload_n 1, 1) := by decide +kernel
theorem dJ1_charAt_3b067_8 : decode cJ1_charAt_3b067 8 = .ok (.baload, 1) := by decide +kernel
theorem dJ1_charAt_3b067_9 : decode cJ1_charAt_3b067 9 = .ok (.sipush 255, 3) := by decide +kernel
theorem dJ1_charAt_3b067_12 : decode cJ1_charAt_3b067 12 = .ok (.iand, 1) := by decide +kernel
theorem dJ1_charAt_3b067_13 : decode cJ1_charAt_3b067 13 = .ok (.i2c, 1) := by decide +kernel
theorem dJ1_charAt_3b067_14 : decode cJ1_charAt_3b067 14 = .ok (.ireturn, 1) := by decide +kernel
theorem dJ3_checkIndex_8e157_0 : decode cJ3_checkIndex_8e157 0 = .ok (.iload_n 0, 1) := by decide +kernel
theorem dJ3_checkIndex_8e157_1 : decode cJ3_checkIndex_8e157 1 = .ok (.ifCond .lt 8, 3) := by decide +kernel
theorem dJ3_checkIndex_8e157_4 : decode cJ3_checkIndex_8e157 4 = .ok (.iload_n 0, 1) := by decide +kernel
theorem dJ3_checkIndex_8e157_5 : decode cJ3_checkIndex_8e157 5 = .ok (.iload_n 1, 1) := by decide +kernel
theorem dJ3_checkIndex_8e157_6 : decode cJ3_checkIndex_8e157 6 = .ok (.if_icmp .lt 10, 3) := by decide +kernel
theorem dJ3_checkIndex_8e157_9 : decode cJ3_checkIndex_8e157 9 = .ok (.aload_n 2, 1) := by decide +kernel
theorem dJ3_checkIndex_8e157_10 : decode cJ3_checkIndex_8e157 10 = .ok (.iload_n 0, 1) := by decide +kernel
theorem dJ3_checkIndex_8e157_11 : decode cJ3_checkIndex_8e157 11 = .ok (.iload_n 1, 1) := by decide +kernel
theorem dJ3_checkIndex_8e157_12 : decode cJ3_checkIndex_8e157 12 = .ok (.invokestatic 95, 3) := by decide +kernel
theorem dJ3_checkIndex_8e157_15 : decode cJ3_checkIndex_8e157 15 = .ok (.athrow, 1) := by decide +kernel
theorem dJ3_checkIndex_8e157_16 : decode cJ3_checkIndex_8e157 16 = .ok (.iload_n 0, 1) := by decide +kernel
theorem dJ3_checkIndex_8e157_17 : decode cJ3_checkIndex_8e157 17 = .ok (.ireturn, 1) := by decide +kernel
theorem dJ6_bitCount_0f7a4_0 : decode cJ6_bitCount_0f7a4 0 = .ok (.iload_n 0, 1) := by decide +kernel
theorem dJ6_bitCount_0f7a4_1 : decode cJ6_bitCount_0f7a4 1 = .ok (.iload_n 0, 1) := by decide +kernel
theorem dJ6_bitCount_0f7a4_2 : decode cJ6_bitCount_0f7a4 2 = .ok (.iconst 1, 1) := by decide +kernel
theorem dJ6_bitCount_0f7a4_3 : decode cJ6_bitCount_0f7a4 3 = .ok (.iushr, 1) := by decide +kernel
theorem dJ6_bitCount_0f7a4_4 : decode cJ6_bitCount_0f7a4 4 = .ok (.ldc_w 265, 3) := by decide +kernel
theorem dJ6_bitCount_0f7a4_7 : decode cJ6_bitCount_0f7a4 7 = .ok (.iand, 1) := by decide +kernel
theorem dJ6_bitCount_0f7a4_8 : decode cJ6_bitCount_0f7a4 8 = .ok (.isub, 1) := by decide +kernel
theorem dJ6_bitCount_0f7a4_9 : decode cJ6_bitCount_0f7a4 9 = .ok (.istore_n 0, 1) := by decide +kernel
theorem dJ6_bitCount_0f7a4_10 : decode cJ6_bitCount_0f7a4 10 = .ok (.iload_n 0, 1) := by decide +kernel
theorem dJ6_bitCount_0f7a4_11 : decode cJ6_bitCount_0f7a4 11 = .ok (.ldc_w 266, 3) := by decide +kernel
theorem dJ6_bitCount_0f7a4_14 : decode cJ6_bitCount_0f7a4 14 = .ok (.iand, 1) := by decide +kernel
theorem dJ6_bitCount_0f7a4_15 : decode cJ6_bitCount_0f7a4 15 = .ok (.iload_n 0, 1) := by decide +kernel
theorem dJ6_bitCount_0f7a4_16 : decode cJ6_bitCount_0f7a4 16 = .ok (.iconst 2, 1) := by decide +kernel
theorem dJ6_bitCount_0f7a4_17 : decode cJ6_bitCount_0f7a4 17 = .ok (.iushr, 1) := by decide +kernel
theorem dJ6_bitCount_0f7a4_18 : decode cJ6_bitCount_0f7a4 18 = .ok (.ldc_w 266, 3) := by decide +kernel
theorem dJ6_bitCount_0f7a4_21 : decode cJ6_bitCount_0f7a4 21 = .ok (.iand, 1) := by decide +kernel
theorem dJ6_bitCount_0f7a4_22 : decode cJ6_bitCount_0f7a4 22 = .ok (.iadd, 1) := by decide +kernel
theorem dJ6_bitCount_0f7a4_23 : decode cJ6_bitCount_0f7a4 23 = .ok (.istore_n 0, 1) := by decide +kernel
theorem dJ6_bitCount_0f7a4_24 : decode cJ6_bitCount_0f7a4 24 = .ok (.iload_n 0, 1) := by decide +kernel
theorem dJ6_bitCount_0f7a4_25 : decode cJ6_bitCount_0f7a4 25 = .ok (.iload_n 0, 1) := by decide +kernel
theorem dJ6_bitCount_0f7a4_26 : decode cJ6_bitCount_0f7a4 26 = .ok (.iconst 4, 1) := by decide +kernel
theorem dJ6_bitCount_0f7a4_27 : decode cJ6_bitCount_0f7a4 27 = .ok (.iushr, 1) := by decide +kernel
theorem dJ6_bitCount_0f7a4_28 : decode cJ6_bitCount_0f7a4 28 = .ok (.iadd, 1) := by decide +kernel
theorem dJ6_bitCount_0f7a4_29 : decode cJ6_bitCount_0f7a4 29 = .ok (.ldc_w 267, 3) := by decide +kernel
theorem dJ6_bitCount_0f7a4_32 : decode cJ6_bitCount_0f7a4 32 = .ok (.iand, 1) := by decide +kernel
theorem dJ6_bitCount_0f7a4_33 : decode cJ6_bitCount_0f7a4 33 = .ok (.istore_n 0, 1) := by decide +kernel
theorem dJ6_bitCount_0f7a4_34 : decode cJ6_bitCount_0f7a4 34 = .ok (.iload_n 0, 1) := by decide +kernel
theorem dJ6_bitCount_0f7a4_35 : decode cJ6_bitCount_0f7a4 35 = .ok (.iload_n 0, 1) := by decide +kernel
theorem dJ6_bitCount_0f7a4_36 : decode cJ6_bitCount_0f7a4 36 = .ok (.bipush 8, 2) := by decide +kernel
theorem dJ6_bitCount_0f7a4_38 : decode cJ6_bitCount_0f7a4 38 = .ok (.iushr, 1) := by decide +kernel
theorem dJ6_bitCount_0f7a4_39 : decode cJ6_bitCount_0f7a4 39 = .ok (.iadd, 1) := by decide +kernel
theorem dJ6_bitCount_0f7a4_40 : decode cJ6_bitCount_0f7a4 40 = .ok (.istore_n 0, 1) := by decide +kernel
theorem dJ6_bitCount_0f7a4_41 : decode cJ6_bitCount_0f7a4 41 = .ok (.iload_n 0, 1) := by decide +kernel
theorem dJ6_bitCount_0f7a4_42 : decode cJ6_bitCount_0f7a4 42 = .ok (.iload_n 0, 1) := by decide +kernel
theorem dJ6_bitCount_0f7a4_43 : decode cJ6_bitCount_0f7a4 43 = .ok (.bipush 16, 2) := by decide +kernel
theorem dJ6_bitCount_0f7a4_45 : decode cJ6_bitCount_0f7a4 45 = .ok (.iushr, 1) := by decide +kernel
theorem dJ6_bitCount_0f7a4_46 : decode cJ6_bitCount_0f7a4 46 = .ok (.iadd, 1) := by decide +kernel
theorem dJ6_bitCount_0f7a4_47 : decode cJ6_bitCount_0f7a4 47 = .ok (.istore_n 0, 1) := by decide +kernel
theorem dJ6_bitCount_0f7a4_48 : decode cJ6_bitCount_0f7a4 48 = .ok (.iload_n 0, 1) := by decide +kernel
theorem dJ6_bitCount_0f7a4_49 : decode cJ6_bitCount_0f7a4 49 = .ok (.bipush 63, 2) := by decide +kernel
theorem dJ6_bitCount_0f7a4_51 : decode cJ6_bitCount_0f7a4 51 = .ok (.iand, 1) := by decide +kernel
theorem dJ6_bitCount_0f7a4_52 : decode cJ6_bitCount_0f7a4 52 = .ok (.ireturn, 1) := by decide +kernel
theorem dJ7_fill_d0a16_0 : decode cJ7_fill_d0a16 0 = .ok (.iconst 0, 1) := by decide +kernel
theorem dJ7_fill_d0a16_1 : decode cJ7_fill_d0a16 1 = .ok (.istore_n 3, 1) := by decide +kernel
theorem dJ7_fill_d0a16_2 : decode cJ7_fill_d0a16 2 = .ok (.aload_n 0, 1) := by decide +kernel
theorem dJ7_fill_d0a16_3 : decode cJ7_fill_d0a16 3 = .ok (.arraylength, 1) := by decide +kernel
theorem dJ7_fill_d0a16_4 : decode cJ7_fill_d0a16 4 = .ok (.istore 4, 2) := by decide +kernel
theorem dJ7_fill_d0a16_6 : decode cJ7_fill_d0a16 6 = .ok (.iload_n 3, 1) := by decide +kernel
theorem dJ7_fill_d0a16_7 : decode cJ7_fill_d0a16 7 = .ok (.iload 4, 2) := by decide +kernel
theorem dJ7_fill_d0a16_9 : decode cJ7_fill_d0a16 9 = .ok (.if_icmp .ge 13, 3) := by decide +kernel
theorem dJ7_fill_d0a16_12 : decode cJ7_fill_d0a16 12 = .ok (.aload_n 0, 1) := by decide +kernel
theorem dJ7_fill_d0a16_13 : decode cJ7_fill_d0a16 13 = .ok (.iload_n 3, 1) := by decide +kernel
theorem dJ7_fill_d0a16_14 : decode cJ7_fill_d0a16 14 = .ok (.lload_n 1, 1) := by decide +kernel
theorem dJ7_fill_d0a16_15 : decode cJ7_fill_d0a16 15 = .ok (.lastore, 1) := by decide +kernel
theorem dJ7_fill_d0a16_16 : decode cJ7_fill_d0a16 16 = .ok (.iinc 3 1, 3) := by decide +kernel
theorem dJ7_fill_d0a16_19 : decode cJ7_fill_d0a16 19 = .ok (.goto (-13), 3) := by decide +kernel
theorem dJ7_fill_d0a16_22 : decode cJ7_fill_d0a16 22 = .ok (.return_, 1) := by decide +kernel
theorem dJ7_fill_53178_0 : decode cJ7_fill_53178 0 = .ok (.iconst 0, 1) := by decide +kernel
theorem dJ7_fill_53178_1 : decode cJ7_fill_53178 1 = .ok (.istore_n 2, 1) := by decide +kernel
theorem dJ7_fill_53178_2 : decode cJ7_fill_53178 2 = .ok (.aload_n 0, 1) := by decide +kernel
theorem dJ7_fill_53178_3 : decode cJ7_fill_53178 3 = .ok (.arraylength, 1) := by decide +kernel
theorem dJ7_fill_53178_4 : decode cJ7_fill_53178 4 = .ok (.istore_n 3, 1) := by decide +kernel
theorem dJ7_fill_53178_5 : decode cJ7_fill_53178 5 = .ok (.iload_n 2, 1) := by decide +kernel
theorem dJ7_fill_53178_6 : decode cJ7_fill_53178 6 = .ok (.iload_n 3, 1) := by decide +kernel
theorem dJ7_fill_53178_7 : decode cJ7_fill_53178 7 = .ok (.if_icmp .ge 13, 3) := by decide +kernel
theorem dJ7_fill_53178_10 : decode cJ7_fill_53178 10 = .ok (.aload_n 0, 1) := by decide +kernel
theorem dJ7_fill_53178_11 : decode cJ7_fill_53178 11 = .ok (.iload_n 2, 1) := by decide +kernel
theorem dJ7_fill_53178_12 : decode cJ7_fill_53178 12 = .ok (.iload_n 1, 1) := by decide +kernel
theorem dJ7_fill_53178_13 : decode cJ7_fill_53178 13 = .ok (.iastore, 1) := by decide +kernel
theorem dJ7_fill_53178_14 : decode cJ7_fill_53178 14 = .ok (.iinc 2 1, 3) := by decide +kernel
theorem dJ7_fill_53178_17 : decode cJ7_fill_53178 17 = .ok (.goto (-12), 3) := by decide +kernel
theorem dJ7_fill_53178_20 : decode cJ7_fill_53178 20 = .ok (.return_, 1) := by decide +kernel
theorem dJ9_abs_0f7a4_0 : decode cJ9_abs_0f7a4 0 = .ok (.iload_n 0, 1) := by decide +kernel
theorem dJ9_abs_0f7a4_1 : decode cJ9_abs_0f7a4 1 = .ok (.ifCond .ge 8, 3) := by decide +kernel
theorem dJ9_abs_0f7a4_4 : decode cJ9_abs_0f7a4 4 = .ok (.iload_n 0, 1) := by decide +kernel
theorem dJ9_abs_0f7a4_5 : decode cJ9_abs_0f7a4 5 = .ok (.ineg, 1) := by decide +kernel
theorem dJ9_abs_0f7a4_6 : decode cJ9_abs_0f7a4 6 = .ok (.goto 4, 3) := by decide +kernel
theorem dJ9_abs_0f7a4_9 : decode cJ9_abs_0f7a4 9 = .ok (.iload_n 0, 1) := by decide +kernel
theorem dJ9_abs_0f7a4_10 : decode cJ9_abs_0f7a4 10 = .ok (.ireturn, 1) := by decide +kernel
theorem dJ9_max_7cf53_0 : decode cJ9_max_7cf53 0 = .ok (.iload_n 0, 1) := by decide +kernel
theorem dJ9_max_7cf53_1 : decode cJ9_max_7cf53 1 = .ok (.iload_n 1, 1) := by decide +kernel
theorem dJ9_max_7cf53_2 : decode cJ9_max_7cf53 2 = .ok (.if_icmp .lt 7, 3) := by decide +kernel
theorem dJ9_max_7cf53_5 : decode cJ9_max_7cf53 5 = .ok (.iload_n 0, 1) := by decide +kernel
theorem dJ9_max_7cf53_6 : decode cJ9_max_7cf53 6 = .ok (.goto 4, 3) := by decide +kernel
theorem dJ9_max_7cf53_9 : decode cJ9_max_7cf53 9 = .ok (.iload_n 1, 1) := by decide +kernel
theorem dJ9_max_7cf53_10 : decode cJ9_max_7cf53 10 = .ok (.ireturn, 1) := by decide +kernel
theorem dJ9_min_7cf53_0 : decode cJ9_min_7cf53 0 = .ok (.iload_n 0, 1) := by decide +kernel
theorem dJ9_min_7cf53_1 : decode cJ9_min_7cf53 1 = .ok (.iload_n 1, 1) := by decide +kernel
theorem dJ9_min_7cf53_2 : decode cJ9_min_7cf53 2 = .ok (.if_icmp .gt 7, 3) := by decide +kernel
theorem dJ9_min_7cf53_5 : decode cJ9_min_7cf53 5 = .ok (.iload_n 0, 1) := by decide +kernel
theorem dJ9_min_7cf53_6 : decode cJ9_min_7cf53 6 = .ok (.goto 4, 3) := by decide +kernel
theorem dJ9_min_7cf53_9 : decode cJ9_min_7cf53 9 = .ok (.iload_n 1, 1) := by decide +kernel
theorem dJ9_min_7cf53_10 : decode cJ9_min_7cf53 10 = .ok (.ireturn, 1) := by decide +kernel
