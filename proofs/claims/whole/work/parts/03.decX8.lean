theorem dX8_init_0 : decode cX8_init 0 = .ok (.aload_n 0, 1) := by decide +kernel
theorem dX8_init_1 : decode cX8_init 1 = .ok (.invokespecial 1, 3) := by decide +kernel
theorem dX8_init_4 : decode cX8_init 4 = .ok (.aload_n 0, 1) := by decide +kernel
theorem dX8_init_5 : decode cX8_init 5 = .ok (.bipush 8, 2) := by decide +kernel
theorem dX8_init_7 : decode cX8_init 7 = .ok (.anewarray 9, 3) := by decide +kernel
theorem dX8_init_10 : decode cX8_init 10 = .ok (.putfield 11, 3) := by decide +kernel
theorem dX8_init_13 : decode cX8_init 13 = .ok (.aload_n 0, 1) := by decide +kernel
theorem dX8_init_14 : decode cX8_init 14 = .ok (.bipush 24, 2) := by decide +kernel
theorem dX8_init_16 : decode cX8_init 16 = .ok (.anewarray 15, 3) := by decide +kernel
theorem dX8_init_19 : decode cX8_init 19 = .ok (.putfield 17, 3) := by decide +kernel
theorem dX8_init_22 : decode cX8_init 22 = .ok (.aload_n 0, 1) := by decide +kernel
theorem dX8_init_23 : decode cX8_init 23 = .ok (.bipush 8, 2) := by decide +kernel
theorem dX8_init_25 : decode cX8_init 25 = .ok (.newarray .int, 2) := by decide +kernel
theorem dX8_init_27 : decode cX8_init 27 = .ok (.putfield 21, 3) := by decide +kernel
theorem dX8_init_30 : decode cX8_init 30 = .ok (.aload_n 0, 1) := by decide +kernel
theorem dX8_init_31 : decode cX8_init 31 = .ok (.new 25, 3) := by decide +kernel
theorem dX8_init_34 : decode cX8_init 34 = .ok (.dup, 1) := by decide +kernel
theorem dX8_init_35 : decode cX8_init 35 = .ok (.invokespecial 27, 3) := by decide +kernel
theorem dX8_init_38 : decode cX8_init 38 = .ok (.putfield 28, 3) := by decide +kernel
theorem dX8_init_41 : decode cX8_init 41 = .ok (.aload_n 0, 1) := by decide +kernel
theorem dX8_init_42 : decode cX8_init 42 = .ok (.new 32, 3) := by decide +kernel
theorem dX8_init_45 : decode cX8_init 45 = .ok (.dup, 1) := by decide +kernel
theorem dX8_init_46 : decode cX8_init 46 = .ok (.invokespecial 34, 3) := by decide +kernel
theorem dX8_init_49 : decode cX8_init 49 = .ok (.putfield 35, 3) := by decide +kernel
theorem dX8_init_52 : decode cX8_init 52 = .ok (.aload_n 0, 1) := by decide +kernel
theorem dX8_init_53 : decode cX8_init 53 = .ok (.new 39, 3) := by decide +kernel
theorem dX8_init_56 : decode cX8_init 56 = .ok (.dup, 1) := by decide +kernel
theorem dX8_init_57 : decode cX8_init 57 = .ok (.invokespecial 41, 3) := by decide +kernel
theorem dX8_init_60 : decode cX8_init 60 = .ok (.putfield 42, 3) := by decide +kernel
theorem dX8_init_63 : decode cX8_init 63 = .ok (.aload_n 0, 1) := by decide +kernel
theorem dX8_init_64 : decode cX8_init 64 = .ok (.new 46, 3) := by decide +kernel
theorem dX8_init_67 : decode cX8_init 67 = .ok (.dup, 1) := by decide +kernel
theorem dX8_init_68 : decode cX8_init 68 = .ok (.invokespecial 48, 3) := by decide +kernel
theorem dX8_init_71 : decode cX8_init 71 = .ok (.putfield 49, 3) := by decide +kernel
theorem dX8_init_74 : decode cX8_init 74 = .ok (.iconst 0, 1) := by decide +kernel
theorem dX8_init_75 : decode cX8_init 75 = .ok (.istore_n 1, 1) := by decide +kernel
theorem dX8_init_76 : decode cX8_init 76 = .ok (.iload_n 1, 1) := by decide +kernel
theorem dX8_init_77 : decode cX8_init 77 = .ok (.bipush 8, 2) := by decide +kernel
theorem dX8_init_79 : decode cX8_init 79 = .ok (.if_icmp .ge 22, 3) := by decide +kernel
theorem dX8_init_82 : decode cX8_init 82 = .ok (.aload_n 0, 1) := by decide +kernel
theorem dX8_init_83 : decode cX8_init 83 = .ok (.getfield 11, 3) := by decide +kernel
theorem dX8_init_86 : decode cX8_init 86 = .ok (.iload_n 1, 1) := by decide +kernel
theorem dX8_init_87 : decode cX8_init 87 = .ok (.new 9, 3) := by decide +kernel
theorem dX8_init_90 : decode cX8_init 90 = .ok (.dup, 1) := by decide +kernel
theorem dX8_init_91 : decode cX8_init 91 = .ok (.invokespecial 53, 3) := by decide +kernel
theorem dX8_init_94 : decode cX8_init 94 = .ok (.aastore, 1) := by decide +kernel
theorem dX8_init_95 : decode cX8_init 95 = .ok (.iinc 1 1, 3) := by decide +kernel
theorem dX8_init_98 : decode cX8_init 98 = .ok (.goto (-22), 3) := by decide +kernel
theorem dX8_init_101 : decode cX8_init 101 = .ok (.return_, 1) := by decide +kernel
theorem dX8_door_0 : decode cX8_door 0 = .ok (.iload_n 1, 1) := by decide +kernel
theorem dX8_door_1 : decode cX8_door 1 = .ok (.invokestatic 54, 3) := by decide +kernel
theorem dX8_door_4 : decode cX8_door 4 = .ok (.ifCond .ne 9, 3) := by decide +kernel
theorem dX8_door_7 : decode cX8_door 7 = .ok (.aload_n 0, 1) := by decide +kernel
theorem dX8_door_8 : decode cX8_door 8 = .ok (.iconst (-1), 1) := by decide +kernel
theorem dX8_door_9 : decode cX8_door 9 = .ok (.invokevirtual 58, 3) := by decide +kernel
theorem dX8_door_12 : decode cX8_door 12 = .ok (.ireturn, 1) := by decide +kernel
theorem dX8_door_13 : decode cX8_door 13 = .ok (.iload_n 2, 1) := by decide +kernel
theorem dX8_door_14 : decode cX8_door 14 = .ok (.invokestatic 62, 3) := by decide +kernel
theorem dX8_door_17 : decode cX8_door 17 = .ok (.ifCond .eq 21, 3) := by decide +kernel
theorem dX8_door_20 : decode cX8_door 20 = .ok (.iload_n 3, 1) := by decide +kernel
theorem dX8_door_21 : decode cX8_door 21 = .ok (.ifCond .lt 17, 3) := by decide +kernel
theorem dX8_door_24 : decode cX8_door 24 = .ok (.iload_n 3, 1) := by decide +kernel
theorem dX8_door_25 : decode cX8_door 25 = .ok (.sipush 1024, 3) := by decide +kernel
theorem dX8_door_28 : decode cX8_door 28 = .ok (.if_icmp .ge 10, 3) := by decide +kernel
theorem dX8_door_31 : decode cX8_door 31 = .ok (.aload_n 0, 1) := by decide +kernel
theorem dX8_door_32 : decode cX8_door 32 = .ok (.getfield 65, 3) := by decide +kernel
theorem dX8_door_35 : decode cX8_door 35 = .ok (.ifCond .eq 10, 3) := by decide +kernel
theorem dX8_door_38 : decode cX8_door 38 = .ok (.aload_n 0, 1) := by decide +kernel
theorem dX8_door_39 : decode cX8_door 39 = .ok (.bipush (-6), 2) := by decide +kernel
theorem dX8_door_41 : decode cX8_door 41 = .ok (.invokevirtual 58, 3) := by decide +kernel
theorem dX8_door_44 : decode cX8_door 44 = .ok (.ireturn, 1) := by decide +kernel
theorem dX8_door_45 : decode cX8_door 45 = .ok (.aload_n 0, 1) := by decide +kernel
theorem dX8_door_46 : decode cX8_door 46 = .ok (.getfield 69, 3) := by decide +kernel
theorem dX8_door_49 : decode cX8_door 49 = .ok (.bipush 24, 2) := by decide +kernel
theorem dX8_door_51 : decode cX8_door 51 = .ok (.if_icmp .lt 10, 3) := by decide +kernel
theorem dX8_door_54 : decode cX8_door 54 = .ok (.aload_n 0, 1) := by decide +kernel
theorem dX8_door_55 : decode cX8_door 55 = .ok (.bipush (-7), 2) := by decide +kernel
theorem dX8_door_57 : decode cX8_door 57 = .ok (.invokevirtual 58, 3) := by decide +kernel
theorem dX8_door_60 : decode cX8_door 60 = .ok (.ireturn, 1) := by decide +kernel
theorem dX8_door_61 : decode cX8_door 61 = .ok (.aload_n 0, 1) := by decide +kernel
theorem dX8_door_62 : decode cX8_door 62 = .ok (.getfield 17, 3) := by decide +kernel
theorem dX8_door_65 : decode cX8_door 65 = .ok (.aload_n 0, 1) := by decide +kernel
theorem dX8_door_66 : decode cX8_door 66 = .ok (.getfield 69, 3) := by decide +kernel
theorem dX8_door_69 : decode cX8_door 69 = .ok (.new 15, 3) := by decide +kernel
theorem dX8_door_72 : decode cX8_door 72 = .ok (.dup, 1) := by decide +kernel
theorem dX8_door_73 : decode cX8_door 73 = .ok (.iload_n 1, 1) := by decide +kernel
theorem dX8_door_74 : decode cX8_door 74 = .ok (.iload_n 2, 1) := by decide +kernel
theorem dX8_door_75 : decode cX8_door 75 = .ok (.iload_n 3, 1) := by decide +kernel
theorem dX8_door_76 : decode cX8_door 76 = .ok (.invokespecial 73, 3) := by decide +kernel
theorem dX8_door_79 : decode cX8_door 79 = .ok (.aastore, 1) := by decide +kernel
theorem dX8_door_80 : decode cX8_door 80 = .ok (.aload_n 0, 1) := by decide +kernel
theorem dX8_door_81 : decode cX8_door 81 = .ok (.dup, 1) := by decide +kernel
theorem dX8_door_82 : decode cX8_door 82 = .ok (.getfield 69, 3) := by decide +kernel
theorem dX8_door_85 : decode cX8_door 85 = .ok (.iconst 1, 1) := by decide +kernel
theorem dX8_door_86 : decode cX8_door 86 = .ok (.iadd, 1) := by decide +kernel
theorem dX8_door_87 : decode cX8_door 87 = .ok (.putfield 69, 3) := by decide +kernel
theorem dX8_door_90 : decode cX8_door 90 = .ok (.aload_n 0, 1) := by decide +kernel
theorem dX8_door_91 : decode cX8_door 91 = .ok (.getfield 69, 3) := by decide +kernel
theorem dX8_door_94 : decode cX8_door 94 = .ok (.iconst 1, 1) := by decide +kernel
theorem dX8_door_95 : decode cX8_door 95 = .ok (.isub, 1) := by decide +kernel
theorem dX8_door_96 : decode cX8_door 96 = .ok (.ireturn, 1) := by decide +kernel
theorem dX8_near_0 : decode cX8_near 0 = .ok (.iload_n 1, 1) := by decide +kernel
theorem dX8_near_1 : decode cX8_near 1 = .ok (.invokestatic 54, 3) := by decide +kernel
theorem dX8_near_4 : decode cX8_near 4 = .ok (.ifCond .eq 10, 3) := by decide +kernel
theorem dX8_near_7 : decode cX8_near 7 = .ok (.iload_n 2, 1) := by decide +kernel
theorem dX8_near_8 : decode cX8_near 8 = .ok (.invokestatic 54, 3) := by decide +kernel
theorem dX8_near_11 : decode cX8_near 11 = .ok (.ifCond .ne 9, 3) := by decide +kernel
theorem dX8_near_14 : decode cX8_near 14 = .ok (.aload_n 0, 1) := by decide +kernel
theorem dX8_near_15 : decode cX8_near 15 = .ok (.iconst (-1), 1) := by decide +kernel
theorem dX8_near_16 : decode cX8_near 16 = .ok (.invokevirtual 58, 3) := by decide +kernel
theorem dX8_near_19 : decode cX8_near 19 = .ok (.ireturn, 1) := by decide +kernel
theorem dX8_near_20 : decode cX8_near 20 = .ok (.iload_n 1, 1) := by decide +kernel
theorem dX8_near_21 : decode cX8_near 21 = .ok (.iload_n 2, 1) := by decide +kernel
theorem dX8_near_22 : decode cX8_near 22 = .ok (.if_icmp .ne 10, 3) := by decide +kernel
theorem dX8_near_25 : decode cX8_near 25 = .ok (.aload_n 0, 1) := by decide +kernel
theorem dX8_near_26 : decode cX8_near 26 = .ok (.bipush (-6), 2) := by decide +kernel
theorem dX8_near_28 : decode cX8_near 28 = .ok (.invokevirtual 58, 3) := by decide +kernel
theorem dX8_near_31 : decode cX8_near 31 = .ok (.ireturn, 1) := by decide +kernel
theorem dX8_near_32 : decode cX8_near 32 = .ok (.aload_n 0, 1) := by decide +kernel
theorem dX8_near_33 : decode cX8_near 33 = .ok (.getfield 42, 3) := by decide +kernel
theorem dX8_near_36 : decode cX8_near 36 = .ok (.iload_n 1, 1) := by decide +kernel
theorem dX8_near_37 : decode cX8_near 37 = .ok (.iload_n 2, 1) := by decide +kernel
theorem dX8_near_38 : decode cX8_near 38 = .ok (.invokevirtual 76, 3) := by decide +kernel
theorem dX8_near_41 : decode cX8_near 41 = .ok (.ifCond .eq 7, 3) := by decide +kernel
theorem dX8_near_44 : decode cX8_near 44 = .ok (.iconst 1, 1) := by decide +kernel
theorem dX8_near_45 : decode cX8_near 45 = .ok (.goto 4, 3) := by decide +kernel
theorem dX8_near_48 : decode cX8_near 48 = .ok (.iconst 0, 1) := by decide +kernel
theorem dX8_near_49 : decode cX8_near 49 = .ok (.ireturn, 1) := by decide +kernel
theorem dX8_row_0 : decode cX8_row 0 = .ok (.iload_n 1, 1) := by decide +kernel
theorem dX8_row_1 : decode cX8_row 1 = .ok (.invokestatic 80, 3) := by decide +kernel
theorem dX8_row_4 : decode cX8_row 4 = .ok (.ifCond .ne 9, 3) := by decide +kernel
theorem dX8_row_7 : decode cX8_row 7 = .ok (.aload_n 0, 1) := by decide +kernel
theorem dX8_row_8 : decode cX8_row 8 = .ok (.iconst (-1), 1) := by decide +kernel
theorem dX8_row_9 : decode cX8_row 9 = .ok (.invokevirtual 58, 3) := by decide +kernel
theorem dX8_row_12 : decode cX8_row 12 = .ok (.ireturn, 1) := by decide +kernel
theorem dX8_row_13 : decode cX8_row 13 = .ok (.iload_n 3, 1) := by decide +kernel
theorem dX8_row_14 : decode cX8_row 14 = .ok (.ifCond .ge 10, 3) := by decide +kernel
theorem dX8_row_17 : decode cX8_row 17 = .ok (.aload_n 0, 1) := by decide +kernel
theorem dX8_row_18 : decode cX8_row 18 = .ok (.bipush (-4), 2) := by decide +kernel
theorem dX8_row_20 : decode cX8_row 20 = .ok (.invokevirtual 58, 3) := by decide +kernel
theorem dX8_row_23 : decode cX8_row 23 = .ok (.ireturn, 1) := by decide +kernel
theorem dX8_row_24 : decode cX8_row 24 = .ok (.iload_n 2, 1) := by decide +kernel
theorem dX8_row_25 : decode cX8_row 25 = .ok (.ifCond .lt 8, 3) := by decide +kernel
theorem dX8_row_28 : decode cX8_row 28 = .ok (.iload_n 2, 1) := by decide +kernel
theorem dX8_row_29 : decode cX8_row 29 = .ok (.iconst 4, 1) := by decide +kernel
theorem dX8_row_30 : decode cX8_row 30 = .ok (.if_icmp .lt 10, 3) := by decide +kernel
theorem dX8_row_33 : decode cX8_row 33 = .ok (.aload_n 0, 1) := by decide +kernel
theorem dX8_row_34 : decode cX8_row 34 = .ok (.bipush (-6), 2) := by decide +kernel
theorem dX8_row_36 : decode cX8_row 36 = .ok (.invokevirtual 58, 3) := by decide +kernel
theorem dX8_row_39 : decode cX8_row 39 = .ok (.ireturn, 1) := by decide +kernel
theorem dX8_row_40 : decode cX8_row 40 = .ok (.iload_n 3, 1) := by decide +kernel
theorem dX8_row_41 : decode cX8_row 41 = .ok (.bipush 30, 2) := by decide +kernel
theorem dX8_row_43 : decode cX8_row 43 = .ok (.if_icmp .le 10, 3) := by decide +kernel
theorem dX8_row_46 : decode cX8_row 46 = .ok (.aload_n 0, 1) := by decide +kernel
theorem dX8_row_47 : decode cX8_row 47 = .ok (.bipush (-7), 2) := by decide +kernel
theorem dX8_row_49 : decode cX8_row 49 = .ok (.invokevirtual 58, 3) := by decide +kernel
theorem dX8_row_52 : decode cX8_row 52 = .ok (.ireturn, 1) := by decide +kernel
theorem dX8_row_53 : decode cX8_row 53 = .ok (.aload_n 0, 1) := by decide +kernel
theorem dX8_row_54 : decode cX8_row 54 = .ok (.getfield 11, 3) := by decide +kernel
theorem dX8_row_57 : decode cX8_row 57 = .ok (.iload_n 1, 1) := by decide +kernel
theorem dX8_row_58 : decode cX8_row 58 = .ok (.aaload, 1) := by decide +kernel
theorem dX8_row_59 : decode cX8_row 59 = .ok (.iload_n 2, 1) := by decide +kernel
theorem dX8_row_60 : decode cX8_row 60 = .ok (.iload_n 3, 1) := by decide +kernel
theorem dX8_row_61 : decode cX8_row 61 = .ok (.invokevirtual 83, 3) := by decide +kernel
theorem dX8_row_64 : decode cX8_row 64 = .ok (.iconst 1, 1) := by decide +kernel
theorem dX8_row_65 : decode cX8_row 65 = .ok (.ireturn, 1) := by decide +kernel
theorem dX8_set_0 : decode cX8_set 0 = .ok (.iload_n 1, 1) := by decide +kernel
theorem dX8_set_1 : decode cX8_set 1 = .ok (.invokestatic 80, 3) := by decide +kernel
theorem dX8_set_4 : decode cX8_set 4 = .ok (.ifCond .eq 15, 3) := by decide +kernel
theorem dX8_set_7 : decode cX8_set 7 = .ok (.aload_n 0, 1) := by decide +kernel
theorem dX8_set_8 : decode cX8_set 8 = .ok (.getfield 11, 3) := by decide +kernel
theorem dX8_set_11 : decode cX8_set 11 = .ok (.iload_n 1, 1) := by decide +kernel
theorem dX8_set_12 : decode cX8_set 12 = .ok (.aaload, 1) := by decide +kernel
theorem dX8_set_13 : decode cX8_set 13 = .ok (.invokevirtual 87, 3) := by decide +kernel
theorem dX8_set_16 : decode cX8_set 16 = .ok (.goto 4, 3) := by decide +kernel
theorem dX8_set_19 : decode cX8_set 19 = .ok (.iconst (-1), 1) := by decide +kernel
theorem dX8_set_20 : decode cX8_set 20 = .ok (.istore 5, 2) := by decide +kernel
theorem dX8_set_22 : decode cX8_set 22 = .ok (.iload 5, 2) := by decide +kernel
theorem dX8_set_24 : decode cX8_set 24 = .ok (.ifCond .eq 10, 3) := by decide +kernel
theorem dX8_set_27 : decode cX8_set 27 = .ok (.aload_n 0, 1) := by decide +kernel
theorem dX8_set_28 : decode cX8_set 28 = .ok (.iload 5, 2) := by decide +kernel
theorem dX8_set_30 : decode cX8_set 30 = .ok (.invokevirtual 58, 3) := by decide +kernel
theorem dX8_set_33 : decode cX8_set 33 = .ok (.ireturn, 1) := by decide +kernel
theorem dX8_set_34 : decode cX8_set 34 = .ok (.aload_n 0, 1) := by decide +kernel
theorem dX8_set_35 : decode cX8_set 35 = .ok (.getfield 11, 3) := by decide +kernel
theorem dX8_set_38 : decode cX8_set 38 = .ok (.iload_n 1, 1) := by decide +kernel
theorem dX8_set_39 : decode cX8_set 39 = .ok (.aaload, 1) := by decide +kernel
theorem dX8_set_40 : decode cX8_set 40 = .ok (.iload_n 2, 1) := by decide +kernel
theorem dX8_set_41 : decode cX8_set 41 = .ok (.invokevirtual 91, 3) := by decide +kernel
theorem dX8_set_44 : decode cX8_set 44 = .ok (.ifCond .ne 10, 3) := by decide +kernel
theorem dX8_set_47 : decode cX8_set 47 = .ok (.aload_n 0, 1) := by decide +kernel
theorem dX8_set_48 : decode cX8_set 48 = .ok (.bipush (-5), 2) := by decide +kernel
theorem dX8_set_50 : decode cX8_set 50 = .ok (.invokevirtual 58, 3) := by decide +kernel
theorem dX8_set_53 : decode cX8_set 53 = .ok (.ireturn, 1) := by decide +kernel
theorem dX8_set_54 : decode cX8_set 54 = .ok (.aload_n 0, 1) := by decide +kernel
theorem dX8_set_55 : decode cX8_set 55 = .ok (.getfield 11, 3) := by decide +kernel
theorem dX8_set_58 : decode cX8_set 58 = .ok (.iload_n 1, 1) := by decide +kernel
theorem dX8_set_59 : decode cX8_set 59 = .ok (.aaload, 1) := by decide +kernel
theorem dX8_set_60 : decode cX8_set 60 = .ok (.iload_n 2, 1) := by decide +kernel
theorem dX8_set_61 : decode cX8_set 61 = .ok (.lload_n 3, 1) := by decide +kernel
theorem dX8_set_62 : decode cX8_set 62 = .ok (.invokevirtual 94, 3) := by decide +kernel
theorem dX8_set_65 : decode cX8_set 65 = .ok (.iconst 1, 1) := by decide +kernel
theorem dX8_set_66 : decode cX8_set 66 = .ok (.ireturn, 1) := by decide +kernel
theorem dX8_copy_0 : decode cX8_copy 0 = .ok (.iload_n 1, 1) := by decide +kernel
theorem dX8_copy_1 : decode cX8_copy 1 = .ok (.invokestatic 80, 3) := by decide +kernel
theorem dX8_copy_4 : decode cX8_copy 4 = .ok (.ifCond .eq 10, 3) := by decide +kernel
theorem dX8_copy_7 : decode cX8_copy 7 = .ok (.iload_n 2, 1) := by decide +kernel
theorem dX8_copy_8 : decode cX8_copy 8 = .ok (.invokestatic 80, 3) := by decide +kernel
theorem dX8_copy_11 : decode cX8_copy 11 = .ok (.ifCond .ne 9, 3) := by decide +kernel
theorem dX8_copy_14 : decode cX8_copy 14 = .ok (.aload_n 0, 1) := by decide +kernel
theorem dX8_copy_15 : decode cX8_copy 15 = .ok (.iconst (-1), 1) := by decide +kernel
theorem dX8_copy_16 : decode cX8_copy 16 = .ok (.invokevirtual 58, 3) := by decide +kernel
theorem dX8_copy_19 : decode cX8_copy 19 = .ok (.ireturn, 1) := by decide +kernel
theorem dX8_copy_20 : decode cX8_copy 20 = .ok (.aload_n 0, 1) := by decide +kernel
theorem dX8_copy_21 : decode cX8_copy 21 = .ok (.getfield 11, 3) := by decide +kernel
theorem dX8_copy_24 : decode cX8_copy 24 = .ok (.iload_n 1, 1) := by decide +kernel
theorem dX8_copy_25 : decode cX8_copy 25 = .ok (.aaload, 1) := by decide +kernel
theorem dX8_copy_26 : decode cX8_copy 26 = .ok (.astore 6, 2) := by decide +kernel
theorem dX8_copy_28 : decode cX8_copy 28 = .ok (.aload_n 0, 1) := by decide +kernel
theorem dX8_copy_29 : decode cX8_copy 29 = .ok (.getfield 11, 3) := by decide +kernel
theorem dX8_copy_32 : decode cX8_copy 32 = .ok (.iload_n 2, 1) := by decide +kernel
theorem dX8_copy_33 : decode cX8_copy 33 = .ok (.aaload, 1) := by decide +kernel
theorem dX8_copy_34 : decode cX8_copy 34 = .ok (.astore 7, 2) := by decide +kernel
theorem dX8_copy_36 : decode cX8_copy 36 = .ok (.aload 6, 2) := by decide +kernel
theorem dX8_copy_38 : decode cX8_copy 38 = .ok (.invokevirtual 98, 3) := by decide +kernel
theorem dX8_copy_41 : decode cX8_copy 41 = .ok (.ifCond .ne 11, 3) := by decide +kernel
theorem dX8_copy_44 : decode cX8_copy 44 = .ok (.aload 7, 2) := by decide +kernel
theorem dX8_copy_46 : decode cX8_copy 46 = .ok (.invokevirtual 98, 3) := by decide +kernel
theorem dX8_copy_49 : decode cX8_copy 49 = .ok (.ifCond .eq 10, 3) := by decide +kernel
theorem dX8_copy_52 : decode cX8_copy 52 = .ok (.aload_n 0, 1) := by decide +kernel
theorem dX8_copy_53 : decode cX8_copy 53 = .ok (.bipush (-2), 2) := by decide +kernel
theorem dX8_copy_55 : decode cX8_copy 55 = .ok (.invokevirtual 58, 3) := by decide +kernel
theorem dX8_copy_58 : decode cX8_copy 58 = .ok (.ireturn, 1) := by decide +kernel
theorem dX8_copy_59 : decode cX8_copy 59 = .ok (.aload 6, 2) := by decide +kernel
theorem dX8_copy_61 : decode cX8_copy 61 = .ok (.invokevirtual 102, 3) := by decide +kernel
theorem dX8_copy_64 : decode cX8_copy 64 = .ok (.ifCond .eq 31, 3) := by decide +kernel
theorem dX8_copy_67 : decode cX8_copy 67 = .ok (.aload 7, 2) := by decide +kernel
theorem dX8_copy_69 : decode cX8_copy 69 = .ok (.invokevirtual 102, 3) := by decide +kernel
theorem dX8_copy_72 : decode cX8_copy 72 = .ok (.ifCond .eq 23, 3) := by decide +kernel
theorem dX8_copy_75 : decode cX8_copy 75 = .ok (.aload 6, 2) := by decide +kernel
theorem dX8_copy_77 : decode cX8_copy 77 = .ok (.getfield 105, 3) := by decide +kernel
theorem dX8_copy_80 : decode cX8_copy 80 = .ok (.aload 7, 2) := by decide +kernel
theorem dX8_copy_82 : decode cX8_copy 82 = .ok (.getfield 105, 3) := by decide +kernel
theorem dX8_copy_85 : decode cX8_copy 85 = .ok (.if_icmp .eq 10, 3) := by decide +kernel
theorem dX8_copy_88 : decode cX8_copy 88 = .ok (.aload_n 0, 1) := by decide +kernel
theorem dX8_copy_89 : decode cX8_copy 89 = .ok (.bipush (-2), 2) := by decide +kernel
theorem dX8_copy_91 : decode cX8_copy 91 = .ok (.invokevirtual 58, 3) := by decide +kernel
theorem dX8_copy_94 : decode cX8_copy 94 = .ok (.ireturn, 1) := by decide +kernel
theorem dX8_copy_95 : decode cX8_copy 95 = .ok (.aload 6, 2) := by decide +kernel
theorem dX8_copy_97 : decode cX8_copy 97 = .ok (.invokevirtual 102, 3) := by decide +kernel
theorem dX8_copy_100 : decode cX8_copy 100 = .ok (.ifCond .eq 11, 3) := by decide +kernel
theorem dX8_copy_103 : decode cX8_copy 103 = .ok (.aload 7, 2) := by decide +kernel
theorem dX8_copy_105 : decode cX8_copy 105 = .ok (.invokevirtual 102, 3) := by decide +kernel
theorem dX8_copy_108 : decode cX8_copy 108 = .ok (.ifCond .ne 10, 3) := by decide +kernel
theorem dX8_copy_111 : decode cX8_copy 111 = .ok (.aload_n 0, 1) := by decide +kernel
theorem dX8_copy_112 : decode cX8_copy 112 = .ok (.bipush (-3), 2) := by decide +kernel
theorem dX8_copy_114 : decode cX8_copy 114 = .ok (.invokevirtual 58, 3) := by decide +kernel
theorem dX8_copy_117 : decode cX8_copy 117 = .ok (.ireturn, 1) := by decide +kernel
theorem dX8_copy_118 : decode cX8_copy 118 = .ok (.iload 5, 2) := by decide +kernel
theorem dX8_copy_120 : decode cX8_copy 120 = .ok (.ifCond .ge 10, 3) := by decide +kernel
theorem dX8_copy_123 : decode cX8_copy 123 = .ok (.aload_n 0, 1) := by decide +kernel
theorem dX8_copy_124 : decode cX8_copy 124 = .ok (.bipush (-4), 2) := by decide +kernel
theorem dX8_copy_126 : decode cX8_copy 126 = .ok (.invokevirtual 58, 3) := by decide +kernel
theorem dX8_copy_129 : decode cX8_copy 129 = .ok (.ireturn, 1) := by decide +kernel
theorem dX8_copy_130 : decode cX8_copy 130 = .ok (.aload 6, 2) := by decide +kernel
theorem dX8_copy_132 : decode cX8_copy 132 = .ok (.iload_n 3, 1) := by decide +kernel
theorem dX8_copy_133 : decode cX8_copy 133 = .ok (.iload 5, 2) := by decide +kernel
theorem dX8_copy_135 : decode cX8_copy 135 = .ok (.invokevirtual 108, 3) := by decide +kernel
theorem dX8_copy_138 : decode cX8_copy 138 = .ok (.ifCond .eq 15, 3) := by decide +kernel
theorem dX8_copy_141 : decode cX8_copy 141 = .ok (.aload 7, 2) := by decide +kernel
theorem dX8_copy_143 : decode cX8_copy 143 = .ok (.iload 4, 2) := by decide +kernel
theorem dX8_copy_145 : decode cX8_copy 145 = .ok (.iload 5, 2) := by decide +kernel
theorem dX8_copy_147 : decode cX8_copy 147 = .ok (.invokevirtual 108, 3) := by decide +kernel
theorem dX8_copy_150 : decode cX8_copy 150 = .ok (.ifCond .ne 10, 3) := by decide +kernel
theorem dX8_copy_153 : decode cX8_copy 153 = .ok (.aload_n 0, 1) := by decide +kernel
theorem dX8_copy_154 : decode cX8_copy 154 = .ok (.bipush (-5), 2) := by decide +kernel
theorem dX8_copy_156 : decode cX8_copy 156 = .ok (.invokevirtual 58, 3) := by decide +kernel
theorem dX8_copy_159 : decode cX8_copy 159 = .ok (.ireturn, 1) := by decide +kernel
theorem dX8_copy_160 : decode cX8_copy 160 = .ok (.aload 6, 2) := by decide +kernel
theorem dX8_copy_162 : decode cX8_copy 162 = .ok (.getfield 111, 3) := by decide +kernel
theorem dX8_copy_165 : decode cX8_copy 165 = .ok (.iload_n 3, 1) := by decide +kernel
theorem dX8_copy_166 : decode cX8_copy 166 = .ok (.aload 7, 2) := by decide +kernel
theorem dX8_copy_168 : decode cX8_copy 168 = .ok (.getfield 111, 3) := by decide +kernel
theorem dX8_copy_171 : decode cX8_copy 171 = .ok (.iload 4, 2) := by decide +kernel
theorem dX8_copy_173 : decode cX8_copy 173 = .ok (.iload 5, 2) := by decide +kernel
theorem dX8_copy_175 : decode cX8_copy 175 = .ok (.invokestatic 115, 3) := by decide +kernel
theorem dX8_copy_178 : decode cX8_copy 178 = .ok (.iconst 1, 1) := by decide +kernel
theorem dX8_copy_179 : decode cX8_copy 179 = .ok (.ireturn, 1) := by decide +kernel
theorem dX8_element_0 : decode cX8_element 0 = .ok (.iload_n 1, 1) := by decide +kernel
theorem dX8_element_1 : decode cX8_element 1 = .ok (.invokestatic 80, 3) := by decide +kernel
theorem dX8_element_4 : decode cX8_element 4 = .ok (.ifCond .eq 16, 3) := by decide +kernel
theorem dX8_element_7 : decode cX8_element 7 = .ok (.aload_n 0, 1) := by decide +kernel
theorem dX8_element_8 : decode cX8_element 8 = .ok (.getfield 11, 3) := by decide +kernel
theorem dX8_element_11 : decode cX8_element 11 = .ok (.iload_n 1, 1) := by decide +kernel
theorem dX8_element_12 : decode cX8_element 12 = .ok (.aaload, 1) := by decide +kernel
theorem dX8_element_13 : decode cX8_element 13 = .ok (.iload_n 2, 1) := by decide +kernel
theorem dX8_element_14 : decode cX8_element 14 = .ok (.invokevirtual 91, 3) := by decide +kernel
theorem dX8_element_17 : decode cX8_element 17 = .ok (.ifCond .ne 5, 3) := by decide +kernel
theorem dX8_element_20 : decode cX8_element 20 = .ok (.lconst 0, 1) := by decide +kernel
theorem dX8_element_21 : decode cX8_element 21 = .ok (.lreturn, 1) := by decide +kernel
theorem dX8_element_22 : decode cX8_element 22 = .ok (.aload_n 0, 1) := by decide +kernel
theorem dX8_element_23 : decode cX8_element 23 = .ok (.getfield 11, 3) := by decide +kernel
theorem dX8_element_26 : decode cX8_element 26 = .ok (.iload_n 1, 1) := by decide +kernel
theorem dX8_element_27 : decode cX8_element 27 = .ok (.aaload, 1) := by decide +kernel
theorem dX8_element_28 : decode cX8_element 28 = .ok (.getfield 111, 3) := by decide +kernel
theorem dX8_element_31 : decode cX8_element 31 = .ok (.iload_n 2, 1) := by decide +kernel
theorem dX8_element_32 : decode cX8_element 32 = .ok (.laload, 1) := by decide +kernel
theorem dX8_element_33 : decode cX8_element 33 = .ok (.lreturn, 1) := by decide +kernel
theorem dX8_show_0 : decode cX8_show 0 = .ok (.iload_n 1, 1) := by decide +kernel
theorem dX8_show_1 : decode cX8_show 1 = .ok (.invokestatic 80, 3) := by decide +kernel
theorem dX8_show_4 : decode cX8_show 4 = .ok (.ifCond .eq 16, 3) := by decide +kernel
theorem dX8_show_7 : decode cX8_show 7 = .ok (.iload_n 2, 1) := by decide +kernel
theorem dX8_show_8 : decode cX8_show 8 = .ok (.iconst (-1), 1) := by decide +kernel
theorem dX8_show_9 : decode cX8_show 9 = .ok (.if_icmp .eq 17, 3) := by decide +kernel
theorem dX8_show_12 : decode cX8_show 12 = .ok (.aload_n 0, 1) := by decide +kernel
theorem dX8_show_13 : decode cX8_show 13 = .ok (.iload_n 2, 1) := by decide +kernel
theorem dX8_show_14 : decode cX8_show 14 = .ok (.invokevirtual 121, 3) := by decide +kernel
theorem dX8_show_17 : decode cX8_show 17 = .ok (.ifCond .ne 9, 3) := by decide +kernel
theorem dX8_show_20 : decode cX8_show 20 = .ok (.aload_n 0, 1) := by decide +kernel
theorem dX8_show_21 : decode cX8_show 21 = .ok (.iconst (-1), 1) := by decide +kernel
theorem dX8_show_22 : decode cX8_show 22 = .ok (.invokevirtual 58, 3) := by decide +kernel
theorem dX8_show_25 : decode cX8_show 25 = .ok (.ireturn, 1) := by decide +kernel
theorem dX8_show_26 : decode cX8_show 26 = .ok (.iload_n 2, 1) := by decide +kernel
theorem dX8_show_27 : decode cX8_show 27 = .ok (.iconst (-1), 1) := by decide +kernel
theorem dX8_show_28 : decode cX8_show 28 = .ok (.if_icmp .ne 14, 3) := by decide +kernel
theorem dX8_show_31 : decode cX8_show 31 = .ok (.aload_n 0, 1) := by decide +kernel
theorem dX8_show_32 : decode cX8_show 32 = .ok (.getfield 11, 3) := by decide +kernel
theorem dX8_show_35 : decode cX8_show 35 = .ok (.iload_n 1, 1) := by decide +kernel
theorem dX8_show_36 : decode cX8_show 36 = .ok (.aaload, 1) := by decide +kernel
theorem dX8_show_37 : decode cX8_show 37 = .ok (.invokevirtual 123, 3) := by decide +kernel
theorem dX8_show_40 : decode cX8_show 40 = .ok (.iconst 0, 1) := by decide +kernel
theorem dX8_show_41 : decode cX8_show 41 = .ok (.ireturn, 1) := by decide +kernel
theorem dX8_show_42 : decode cX8_show 42 = .ok (.aload_n 0, 1) := by decide +kernel
theorem dX8_show_43 : decode cX8_show 43 = .ok (.getfield 11, 3) := by decide +kernel
theorem dX8_show_46 : decode cX8_show 46 = .ok (.iload_n 1, 1) := by decide +kernel
theorem dX8_show_47 : decode cX8_show 47 = .ok (.aaload, 1) := by decide +kernel
theorem dX8_show_48 : decode cX8_show 48 = .ok (.iload_n 2, 1) := by decide +kernel
theorem dX8_show_49 : decode cX8_show 49 = .ok (.invokevirtual 126, 3) := by decide +kernel
theorem dX8_show_52 : decode cX8_show 52 = .ok (.iconst 1, 1) := by decide +kernel
theorem dX8_show_53 : decode cX8_show 53 = .ok (.ireturn, 1) := by decide +kernel
theorem dX8_holds_0 : decode cX8_holds 0 = .ok (.iload_n 1, 1) := by decide +kernel
theorem dX8_holds_1 : decode cX8_holds 1 = .ok (.invokestatic 80, 3) := by decide +kernel
theorem dX8_holds_4 : decode cX8_holds 4 = .ok (.ifCond .eq 15, 3) := by decide +kernel
theorem dX8_holds_7 : decode cX8_holds 7 = .ok (.aload_n 0, 1) := by decide +kernel
theorem dX8_holds_8 : decode cX8_holds 8 = .ok (.getfield 11, 3) := by decide +kernel
theorem dX8_holds_11 : decode cX8_holds 11 = .ok (.iload_n 1, 1) := by decide +kernel
theorem dX8_holds_12 : decode cX8_holds 12 = .ok (.aaload, 1) := by decide +kernel
theorem dX8_holds_13 : decode cX8_holds 13 = .ok (.invokevirtual 130, 3) := by decide +kernel
theorem dX8_holds_16 : decode cX8_holds 16 = .ok (.goto 4, 3) := by decide +kernel
theorem dX8_holds_19 : decode cX8_holds 19 = .ok (.iconst (-1), 1) := by decide +kernel
theorem dX8_holds_20 : decode cX8_holds 20 = .ok (.ireturn, 1) := by decide +kernel
theorem dX8_blockIn_0 : decode cX8_blockIn 0 = .ok (.iload_n 1, 1) := by decide +kernel
theorem dX8_blockIn_1 : decode cX8_blockIn 1 = .ok (.invokestatic 80, 3) := by decide +kernel
theorem dX8_blockIn_4 : decode cX8_blockIn 4 = .ok (.ifCond .eq 15, 3) := by decide +kernel
theorem dX8_blockIn_7 : decode cX8_blockIn 7 = .ok (.aload_n 0, 1) := by decide +kernel
theorem dX8_blockIn_8 : decode cX8_blockIn 8 = .ok (.getfield 11, 3) := by decide +kernel
theorem dX8_blockIn_11 : decode cX8_blockIn 11 = .ok (.iload_n 1, 1) := by decide +kernel
theorem dX8_blockIn_12 : decode cX8_blockIn 12 = .ok (.aaload, 1) := by decide +kernel
theorem dX8_blockIn_13 : decode cX8_blockIn 13 = .ok (.invokevirtual 133, 3) := by decide +kernel
theorem dX8_blockIn_16 : decode cX8_blockIn 16 = .ok (.goto 4, 3) := by decide +kernel
theorem dX8_blockIn_19 : decode cX8_blockIn 19 = .ok (.iconst (-1), 1) := by decide +kernel
theorem dX8_blockIn_20 : decode cX8_blockIn 20 = .ok (.istore_n 2, 1) := by decide +kernel
theorem dX8_blockIn_21 : decode cX8_blockIn 21 = .ok (.iload_n 2, 1) := by decide +kernel
theorem dX8_blockIn_22 : decode cX8_blockIn 22 = .ok (.ifCond .eq 9, 3) := by decide +kernel
theorem dX8_blockIn_25 : decode cX8_blockIn 25 = .ok (.aload_n 0, 1) := by decide +kernel
theorem dX8_blockIn_26 : decode cX8_blockIn 26 = .ok (.iload_n 2, 1) := by decide +kernel
theorem dX8_blockIn_27 : decode cX8_blockIn 27 = .ok (.invokevirtual 58, 3) := by decide +kernel
theorem dX8_blockIn_30 : decode cX8_blockIn 30 = .ok (.ireturn, 1) := by decide +kernel
theorem dX8_blockIn_31 : decode cX8_blockIn 31 = .ok (.aload_n 0, 1) := by decide +kernel
theorem dX8_blockIn_32 : decode cX8_blockIn 32 = .ok (.aload_n 0, 1) := by decide +kernel
theorem dX8_blockIn_33 : decode cX8_blockIn 33 = .ok (.getfield 11, 3) := by decide +kernel
theorem dX8_blockIn_36 : decode cX8_blockIn 36 = .ok (.iload_n 1, 1) := by decide +kernel
theorem dX8_blockIn_37 : decode cX8_blockIn 37 = .ok (.aaload, 1) := by decide +kernel
theorem dX8_blockIn_38 : decode cX8_blockIn 38 = .ok (.getfield 136, 3) := by decide +kernel
theorem dX8_blockIn_41 : decode cX8_blockIn 41 = .ok (.invokevirtual 139, 3) := by decide +kernel
theorem dX8_blockIn_44 : decode cX8_blockIn 44 = .ok (.astore_n 3, 1) := by decide +kernel
theorem dX8_blockIn_45 : decode cX8_blockIn 45 = .ok (.aload_n 3, 1) := by decide +kernel
theorem dX8_blockIn_46 : decode cX8_blockIn 46 = .ok (.ifnonnull 11, 3) := by decide +kernel
theorem dX8_blockIn_49 : decode cX8_blockIn 49 = .ok (.aload_n 0, 1) := by decide +kernel
theorem dX8_blockIn_50 : decode cX8_blockIn 50 = .ok (.iconst (-1), 1) := by decide +kernel
theorem dX8_blockIn_51 : decode cX8_blockIn 51 = .ok (.invokevirtual 58, 3) := by decide +kernel
theorem dX8_blockIn_54 : decode cX8_blockIn 54 = .ok (.goto 7, 3) := by decide +kernel
theorem dX8_blockIn_57 : decode cX8_blockIn 57 = .ok (.aload_n 3, 1) := by decide +kernel
theorem dX8_blockIn_58 : decode cX8_blockIn 58 = .ok (.getfield 143, 3) := by decide +kernel
theorem dX8_blockIn_61 : decode cX8_blockIn 61 = .ok (.ireturn, 1) := by decide +kernel
theorem dX8_law_0 : decode cX8_law 0 = .ok (.iload_n 1, 1) := by decide +kernel
theorem dX8_law_1 : decode cX8_law 1 = .ok (.invokestatic 80, 3) := by decide +kernel
theorem dX8_law_4 : decode cX8_law 4 = .ok (.ifCond .eq 15, 3) := by decide +kernel
theorem dX8_law_7 : decode cX8_law 7 = .ok (.aload_n 0, 1) := by decide +kernel
theorem dX8_law_8 : decode cX8_law 8 = .ok (.getfield 11, 3) := by decide +kernel
theorem dX8_law_11 : decode cX8_law 11 = .ok (.iload_n 1, 1) := by decide +kernel
theorem dX8_law_12 : decode cX8_law 12 = .ok (.aaload, 1) := by decide +kernel
theorem dX8_law_13 : decode cX8_law 13 = .ok (.invokevirtual 87, 3) := by decide +kernel
theorem dX8_law_16 : decode cX8_law 16 = .ok (.goto 4, 3) := by decide +kernel
theorem dX8_law_19 : decode cX8_law 19 = .ok (.iconst (-1), 1) := by decide +kernel
theorem dX8_law_20 : decode cX8_law 20 = .ok (.istore_n 2, 1) := by decide +kernel
theorem dX8_law_21 : decode cX8_law 21 = .ok (.iload_n 2, 1) := by decide +kernel
theorem dX8_law_22 : decode cX8_law 22 = .ok (.ifCond .eq 9, 3) := by decide +kernel
theorem dX8_law_25 : decode cX8_law 25 = .ok (.aload_n 0, 1) := by decide +kernel
theorem dX8_law_26 : decode cX8_law 26 = .ok (.iload_n 2, 1) := by decide +kernel
theorem dX8_law_27 : decode cX8_law 27 = .ok (.invokevirtual 58, 3) := by decide +kernel
theorem dX8_law_30 : decode cX8_law 30 = .ok (.ireturn, 1) := by decide +kernel
theorem dX8_law_31 : decode cX8_law 31 = .ok (.aload_n 0, 1) := by decide +kernel
theorem dX8_law_32 : decode cX8_law 32 = .ok (.getfield 28, 3) := by decide +kernel
theorem dX8_law_35 : decode cX8_law 35 = .ok (.aload_n 0, 1) := by decide +kernel
theorem dX8_law_36 : decode cX8_law 36 = .ok (.getfield 11, 3) := by decide +kernel
theorem dX8_law_39 : decode cX8_law 39 = .ok (.iload_n 1, 1) := by decide +kernel
theorem dX8_law_40 : decode cX8_law 40 = .ok (.aaload, 1) := by decide +kernel
theorem dX8_law_41 : decode cX8_law 41 = .ok (.invokevirtual 146, 3) := by decide +kernel
theorem dX8_law_44 : decode cX8_law 44 = .ok (.ifCond .eq 7, 3) := by decide +kernel
theorem dX8_law_47 : decode cX8_law 47 = .ok (.iconst 1, 1) := by decide +kernel
theorem dX8_law_48 : decode cX8_law 48 = .ok (.goto 9, 3) := by decide +kernel
theorem dX8_law_51 : decode cX8_law 51 = .ok (.aload_n 0, 1) := by decide +kernel
theorem dX8_law_52 : decode cX8_law 52 = .ok (.bipush (-6), 2) := by decide +kernel
theorem dX8_law_54 : decode cX8_law 54 = .ok (.invokevirtual 58, 3) := by decide +kernel
theorem dX8_law_57 : decode cX8_law 57 = .ok (.ireturn, 1) := by decide +kernel
theorem dX8_fault_0 : decode cX8_fault 0 = .ok (.aload_n 0, 1) := by decide +kernel
theorem dX8_fault_1 : decode cX8_fault 1 = .ok (.getfield 28, 3) := by decide +kernel
theorem dX8_fault_4 : decode cX8_fault 4 = .ok (.getfield 150, 3) := by decide +kernel
theorem dX8_fault_7 : decode cX8_fault 7 = .ok (.ireturn, 1) := by decide +kernel
theorem dX8_truth_0 : decode cX8_truth 0 = .ok (.aload_n 0, 1) := by decide +kernel
theorem dX8_truth_1 : decode cX8_truth 1 = .ok (.iload_n 1, 1) := by decide +kernel
theorem dX8_truth_2 : decode cX8_truth 2 = .ok (.invokevirtual 139, 3) := by decide +kernel
theorem dX8_truth_5 : decode cX8_truth 5 = .ok (.astore_n 3, 1) := by decide +kernel
theorem dX8_truth_6 : decode cX8_truth 6 = .ok (.aload_n 3, 1) := by decide +kernel
theorem dX8_truth_7 : decode cX8_truth 7 = .ok (.ifnull 10, 3) := by decide +kernel
theorem dX8_truth_10 : decode cX8_truth 10 = .ok (.iload_n 2, 1) := by decide +kernel
theorem dX8_truth_11 : decode cX8_truth 11 = .ok (.invokestatic 80, 3) := by decide +kernel
theorem dX8_truth_14 : decode cX8_truth 14 = .ok (.ifCond .ne 9, 3) := by decide +kernel
theorem dX8_truth_17 : decode cX8_truth 17 = .ok (.aload_n 0, 1) := by decide +kernel
theorem dX8_truth_18 : decode cX8_truth 18 = .ok (.iconst (-1), 1) := by decide +kernel
theorem dX8_truth_19 : decode cX8_truth 19 = .ok (.invokevirtual 58, 3) := by decide +kernel
theorem dX8_truth_22 : decode cX8_truth 22 = .ok (.ireturn, 1) := by decide +kernel
theorem dX8_truth_23 : decode cX8_truth 23 = .ok (.aload_n 0, 1) := by decide +kernel
theorem dX8_truth_24 : decode cX8_truth 24 = .ok (.getfield 11, 3) := by decide +kernel
theorem dX8_truth_27 : decode cX8_truth 27 = .ok (.iload_n 2, 1) := by decide +kernel
theorem dX8_truth_28 : decode cX8_truth 28 = .ok (.aaload, 1) := by decide +kernel
theorem dX8_truth_29 : decode cX8_truth 29 = .ok (.invokevirtual 87, 3) := by decide +kernel
theorem dX8_truth_32 : decode cX8_truth 32 = .ok (.istore 4, 2) := by decide +kernel
theorem dX8_truth_34 : decode cX8_truth 34 = .ok (.iload 4, 2) := by decide +kernel
theorem dX8_truth_36 : decode cX8_truth 36 = .ok (.ifCond .eq 10, 3) := by decide +kernel
theorem dX8_truth_39 : decode cX8_truth 39 = .ok (.aload_n 0, 1) := by decide +kernel
theorem dX8_truth_40 : decode cX8_truth 40 = .ok (.iload 4, 2) := by decide +kernel
theorem dX8_truth_42 : decode cX8_truth 42 = .ok (.invokevirtual 58, 3) := by decide +kernel
theorem dX8_truth_45 : decode cX8_truth 45 = .ok (.ireturn, 1) := by decide +kernel
theorem dX8_truth_46 : decode cX8_truth 46 = .ok (.aload_n 0, 1) := by decide +kernel
theorem dX8_truth_47 : decode cX8_truth 47 = .ok (.getfield 65, 3) := by decide +kernel
theorem dX8_truth_50 : decode cX8_truth 50 = .ok (.ifCond .eq 10, 3) := by decide +kernel
theorem dX8_truth_53 : decode cX8_truth 53 = .ok (.aload_n 0, 1) := by decide +kernel
theorem dX8_truth_54 : decode cX8_truth 54 = .ok (.bipush (-6), 2) := by decide +kernel
theorem dX8_truth_56 : decode cX8_truth 56 = .ok (.invokevirtual 58, 3) := by decide +kernel
theorem dX8_truth_59 : decode cX8_truth 59 = .ok (.ireturn, 1) := by decide +kernel
theorem dX8_truth_60 : decode cX8_truth 60 = .ok (.aload_n 0, 1) := by decide +kernel
theorem dX8_truth_61 : decode cX8_truth 61 = .ok (.getfield 11, 3) := by decide +kernel
theorem dX8_truth_64 : decode cX8_truth 64 = .ok (.iload_n 2, 1) := by decide +kernel
theorem dX8_truth_65 : decode cX8_truth 65 = .ok (.aaload, 1) := by decide +kernel
theorem dX8_truth_66 : decode cX8_truth 66 = .ok (.getfield 153, 3) := by decide +kernel
theorem dX8_truth_69 : decode cX8_truth 69 = .ok (.bipush 12, 2) := by decide +kernel
theorem dX8_truth_71 : decode cX8_truth 71 = .ok (.if_icmp .le 10, 3) := by decide +kernel
theorem dX8_truth_74 : decode cX8_truth 74 = .ok (.aload_n 0, 1) := by decide +kernel
theorem dX8_truth_75 : decode cX8_truth 75 = .ok (.bipush (-7), 2) := by decide +kernel
theorem dX8_truth_77 : decode cX8_truth 77 = .ok (.invokevirtual 58, 3) := by decide +kernel
theorem dX8_truth_80 : decode cX8_truth 80 = .ok (.ireturn, 1) := by decide +kernel
theorem dX8_truth_81 : decode cX8_truth 81 = .ok (.aload_n 3, 1) := by decide +kernel
theorem dX8_truth_82 : decode cX8_truth 82 = .ok (.aload_n 0, 1) := by decide +kernel
theorem dX8_truth_83 : decode cX8_truth 83 = .ok (.getfield 11, 3) := by decide +kernel
theorem dX8_truth_86 : decode cX8_truth 86 = .ok (.iload_n 2, 1) := by decide +kernel
theorem dX8_truth_87 : decode cX8_truth 87 = .ok (.aaload, 1) := by decide +kernel
theorem dX8_truth_88 : decode cX8_truth 88 = .ok (.invokevirtual 156, 3) := by decide +kernel
theorem dX8_truth_91 : decode cX8_truth 91 = .ok (.ireturn, 1) := by decide +kernel
theorem dX8_paper_0 : decode cX8_paper 0 = .ok (.aload_n 0, 1) := by decide +kernel
theorem dX8_paper_1 : decode cX8_paper 1 = .ok (.iload_n 1, 1) := by decide +kernel
theorem dX8_paper_2 : decode cX8_paper 2 = .ok (.invokevirtual 139, 3) := by decide +kernel
theorem dX8_paper_5 : decode cX8_paper 5 = .ok (.astore_n 2, 1) := by decide +kernel
theorem dX8_paper_6 : decode cX8_paper 6 = .ok (.aload_n 2, 1) := by decide +kernel
theorem dX8_paper_7 : decode cX8_paper 7 = .ok (.ifnonnull 9, 3) := by decide +kernel
theorem dX8_paper_10 : decode cX8_paper 10 = .ok (.aload_n 0, 1) := by decide +kernel
theorem dX8_paper_11 : decode cX8_paper 11 = .ok (.iconst (-1), 1) := by decide +kernel
theorem dX8_paper_12 : decode cX8_paper 12 = .ok (.invokevirtual 58, 3) := by decide +kernel
theorem dX8_paper_15 : decode cX8_paper 15 = .ok (.ireturn, 1) := by decide +kernel
theorem dX8_paper_16 : decode cX8_paper 16 = .ok (.aload_n 0, 1) := by decide +kernel
theorem dX8_paper_17 : decode cX8_paper 17 = .ok (.getfield 65, 3) := by decide +kernel
theorem dX8_paper_20 : decode cX8_paper 20 = .ok (.ifCond .ne 17, 3) := by decide +kernel
theorem dX8_paper_23 : decode cX8_paper 23 = .ok (.aload_n 2, 1) := by decide +kernel
theorem dX8_paper_24 : decode cX8_paper 24 = .ok (.invokevirtual 160, 3) := by decide +kernel
theorem dX8_paper_27 : decode cX8_paper 27 = .ok (.ifCond .eq 10, 3) := by decide +kernel
theorem dX8_paper_30 : decode cX8_paper 30 = .ok (.aload_n 2, 1) := by decide +kernel
theorem dX8_paper_31 : decode cX8_paper 31 = .ok (.getfield 163, 3) := by decide +kernel
theorem dX8_paper_34 : decode cX8_paper 34 = .ok (.ifCond .eq 10, 3) := by decide +kernel
theorem dX8_paper_37 : decode cX8_paper 37 = .ok (.aload_n 0, 1) := by decide +kernel
theorem dX8_paper_38 : decode cX8_paper 38 = .ok (.bipush (-6), 2) := by decide +kernel
theorem dX8_paper_40 : decode cX8_paper 40 = .ok (.invokevirtual 58, 3) := by decide +kernel
theorem dX8_paper_43 : decode cX8_paper 43 = .ok (.ireturn, 1) := by decide +kernel
theorem dX8_paper_44 : decode cX8_paper 44 = .ok (.aload_n 2, 1) := by decide +kernel
theorem dX8_paper_45 : decode cX8_paper 45 = .ok (.invokevirtual 166, 3) := by decide +kernel
theorem dX8_paper_48 : decode cX8_paper 48 = .ok (.ireturn, 1) := by decide +kernel
theorem dX8_knock_0 : decode cX8_knock 0 = .ok (.aload_n 0, 1) := by decide +kernel
theorem dX8_knock_1 : decode cX8_knock 1 = .ok (.iload_n 1, 1) := by decide +kernel
theorem dX8_knock_2 : decode cX8_knock 2 = .ok (.invokevirtual 139, 3) := by decide +kernel
theorem dX8_knock_5 : decode cX8_knock 5 = .ok (.astore_n 3, 1) := by decide +kernel
theorem dX8_knock_6 : decode cX8_knock 6 = .ok (.aload_n 3, 1) := by decide +kernel
theorem dX8_knock_7 : decode cX8_knock 7 = .ok (.ifnonnull 9, 3) := by decide +kernel
theorem dX8_knock_10 : decode cX8_knock 10 = .ok (.aload_n 0, 1) := by decide +kernel
theorem dX8_knock_11 : decode cX8_knock 11 = .ok (.iconst (-1), 1) := by decide +kernel
theorem dX8_knock_12 : decode cX8_knock 12 = .ok (.invokevirtual 58, 3) := by decide +kernel
theorem dX8_knock_15 : decode cX8_knock 15 = .ok (.ireturn, 1) := by decide +kernel
theorem dX8_knock_16 : decode cX8_knock 16 = .ok (.iload_n 2, 1) := by decide +kernel
theorem dX8_knock_17 : decode cX8_knock 17 = .ok (.ifCond .lt 23, 3) := by decide +kernel
theorem dX8_knock_20 : decode cX8_knock 20 = .ok (.iload_n 2, 1) := by decide +kernel
theorem dX8_knock_21 : decode cX8_knock 21 = .ok (.bipush 10, 2) := by decide +kernel
theorem dX8_knock_23 : decode cX8_knock 23 = .ok (.if_icmp .ge 17, 3) := by decide +kernel
theorem dX8_knock_26 : decode cX8_knock 26 = .ok (.aload_n 0, 1) := by decide +kernel
theorem dX8_knock_27 : decode cX8_knock 27 = .ok (.getfield 65, 3) := by decide +kernel
theorem dX8_knock_30 : decode cX8_knock 30 = .ok (.ifCond .ne 10, 3) := by decide +kernel
theorem dX8_knock_33 : decode cX8_knock 33 = .ok (.aload_n 3, 1) := by decide +kernel
theorem dX8_knock_34 : decode cX8_knock 34 = .ok (.invokevirtual 160, 3) := by decide +kernel
theorem dX8_knock_37 : decode cX8_knock 37 = .ok (.ifCond .ne 10, 3) := by decide +kernel
theorem dX8_knock_40 : decode cX8_knock 40 = .ok (.aload_n 0, 1) := by decide +kernel
theorem dX8_knock_41 : decode cX8_knock 41 = .ok (.bipush (-6), 2) := by decide +kernel
theorem dX8_knock_43 : decode cX8_knock 43 = .ok (.invokevirtual 58, 3) := by decide +kernel
theorem dX8_knock_46 : decode cX8_knock 46 = .ok (.ireturn, 1) := by decide +kernel
theorem dX8_knock_47 : decode cX8_knock 47 = .ok (.aload_n 3, 1) := by decide +kernel
theorem dX8_knock_48 : decode cX8_knock 48 = .ok (.getfield 169, 3) := by decide +kernel
theorem dX8_knock_51 : decode cX8_knock 51 = .ok (.aload_n 0, 1) := by decide +kernel
theorem dX8_knock_52 : decode cX8_knock 52 = .ok (.getfield 28, 3) := by decide +kernel
theorem dX8_knock_55 : decode cX8_knock 55 = .ok (.getfield 172, 3) := by decide +kernel
theorem dX8_knock_58 : decode cX8_knock 58 = .ok (.if_icmp .lt 10, 3) := by decide +kernel
theorem dX8_knock_61 : decode cX8_knock 61 = .ok (.aload_n 0, 1) := by decide +kernel
theorem dX8_knock_62 : decode cX8_knock 62 = .ok (.bipush (-6), 2) := by decide +kernel
theorem dX8_knock_64 : decode cX8_knock 64 = .ok (.invokevirtual 58, 3) := by decide +kernel
theorem dX8_knock_67 : decode cX8_knock 67 = .ok (.ireturn, 1) := by decide +kernel
theorem dX8_knock_68 : decode cX8_knock 68 = .ok (.aload_n 3, 1) := by decide +kernel
theorem dX8_knock_69 : decode cX8_knock 69 = .ok (.iload_n 2, 1) := by decide +kernel
theorem dX8_knock_70 : decode cX8_knock 70 = .ok (.invokevirtual 175, 3) := by decide +kernel
theorem dX8_knock_73 : decode cX8_knock 73 = .ok (.istore 4, 2) := by decide +kernel
theorem dX8_knock_75 : decode cX8_knock 75 = .ok (.aload_n 0, 1) := by decide +kernel
theorem dX8_knock_76 : decode cX8_knock 76 = .ok (.getfield 35, 3) := by decide +kernel
theorem dX8_knock_79 : decode cX8_knock 79 = .ok (.aload_n 3, 1) := by decide +kernel
theorem dX8_knock_80 : decode cX8_knock 80 = .ok (.getfield 178, 3) := by decide +kernel
theorem dX8_knock_83 : decode cX8_knock 83 = .ok (.iload_n 2, 1) := by decide +kernel
theorem dX8_knock_84 : decode cX8_knock 84 = .ok (.iload 4, 2) := by decide +kernel
theorem dX8_knock_86 : decode cX8_knock 86 = .ok (.invokevirtual 181, 3) := by decide +kernel
theorem dX8_knock_89 : decode cX8_knock 89 = .ok (.iload 4, 2) := by decide +kernel
theorem dX8_knock_91 : decode cX8_knock 91 = .ok (.ifCond .eq 7, 3) := by decide +kernel
theorem dX8_knock_94 : decode cX8_knock 94 = .ok (.iconst 1, 1) := by decide +kernel
theorem dX8_knock_95 : decode cX8_knock 95 = .ok (.goto 4, 3) := by decide +kernel
theorem dX8_knock_98 : decode cX8_knock 98 = .ok (.iconst 0, 1) := by decide +kernel
theorem dX8_knock_99 : decode cX8_knock 99 = .ok (.ireturn, 1) := by decide +kernel
theorem dX8_proxy_0 : decode cX8_proxy 0 = .ok (.aload_n 0, 1) := by decide +kernel
theorem dX8_proxy_1 : decode cX8_proxy 1 = .ok (.iload_n 1, 1) := by decide +kernel
theorem dX8_proxy_2 : decode cX8_proxy 2 = .ok (.invokevirtual 139, 3) := by decide +kernel
theorem dX8_proxy_5 : decode cX8_proxy 5 = .ok (.astore_n 3, 1) := by decide +kernel
theorem dX8_proxy_6 : decode cX8_proxy 6 = .ok (.aload_n 3, 1) := by decide +kernel
theorem dX8_proxy_7 : decode cX8_proxy 7 = .ok (.ifnonnull 9, 3) := by decide +kernel
theorem dX8_proxy_10 : decode cX8_proxy 10 = .ok (.aload_n 0, 1) := by decide +kernel
theorem dX8_proxy_11 : decode cX8_proxy 11 = .ok (.iconst (-1), 1) := by decide +kernel
theorem dX8_proxy_12 : decode cX8_proxy 12 = .ok (.invokevirtual 58, 3) := by decide +kernel
theorem dX8_proxy_15 : decode cX8_proxy 15 = .ok (.ireturn, 1) := by decide +kernel
theorem dX8_proxy_16 : decode cX8_proxy 16 = .ok (.iload_n 2, 1) := by decide +kernel
theorem dX8_proxy_17 : decode cX8_proxy 17 = .ok (.ifCond .lt 23, 3) := by decide +kernel
theorem dX8_proxy_20 : decode cX8_proxy 20 = .ok (.iload_n 2, 1) := by decide +kernel
theorem dX8_proxy_21 : decode cX8_proxy 21 = .ok (.bipush 12, 2) := by decide +kernel
theorem dX8_proxy_23 : decode cX8_proxy 23 = .ok (.if_icmp .gt 17, 3) := by decide +kernel
theorem dX8_proxy_26 : decode cX8_proxy 26 = .ok (.aload_n 0, 1) := by decide +kernel
theorem dX8_proxy_27 : decode cX8_proxy 27 = .ok (.getfield 65, 3) := by decide +kernel
theorem dX8_proxy_30 : decode cX8_proxy 30 = .ok (.ifCond .ne 10, 3) := by decide +kernel
theorem dX8_proxy_33 : decode cX8_proxy 33 = .ok (.aload_n 3, 1) := by decide +kernel
theorem dX8_proxy_34 : decode cX8_proxy 34 = .ok (.invokevirtual 160, 3) := by decide +kernel
theorem dX8_proxy_37 : decode cX8_proxy 37 = .ok (.ifCond .ne 10, 3) := by decide +kernel
theorem dX8_proxy_40 : decode cX8_proxy 40 = .ok (.aload_n 0, 1) := by decide +kernel
theorem dX8_proxy_41 : decode cX8_proxy 41 = .ok (.bipush (-6), 2) := by decide +kernel
theorem dX8_proxy_43 : decode cX8_proxy 43 = .ok (.invokevirtual 58, 3) := by decide +kernel
theorem dX8_proxy_46 : decode cX8_proxy 46 = .ok (.ireturn, 1) := by decide +kernel
theorem dX8_proxy_47 : decode cX8_proxy 47 = .ok (.aload_n 3, 1) := by decide +kernel
theorem dX8_proxy_48 : decode cX8_proxy 48 = .ok (.getfield 185, 3) := by decide +kernel
theorem dX8_proxy_51 : decode cX8_proxy 51 = .ok (.iconst 3, 1) := by decide +kernel
theorem dX8_proxy_52 : decode cX8_proxy 52 = .ok (.if_icmp .eq 17, 3) := by decide +kernel
theorem dX8_proxy_55 : decode cX8_proxy 55 = .ok (.aload_n 3, 1) := by decide +kernel
theorem dX8_proxy_56 : decode cX8_proxy 56 = .ok (.getfield 169, 3) := by decide +kernel
theorem dX8_proxy_59 : decode cX8_proxy 59 = .ok (.aload_n 0, 1) := by decide +kernel
theorem dX8_proxy_60 : decode cX8_proxy 60 = .ok (.getfield 28, 3) := by decide +kernel
theorem dX8_proxy_63 : decode cX8_proxy 63 = .ok (.getfield 188, 3) := by decide +kernel
theorem dX8_proxy_66 : decode cX8_proxy 66 = .ok (.if_icmp .ge 10, 3) := by decide +kernel
theorem dX8_proxy_69 : decode cX8_proxy 69 = .ok (.aload_n 0, 1) := by decide +kernel
theorem dX8_proxy_70 : decode cX8_proxy 70 = .ok (.bipush (-6), 2) := by decide +kernel
theorem dX8_proxy_72 : decode cX8_proxy 72 = .ok (.invokevirtual 58, 3) := by decide +kernel
theorem dX8_proxy_75 : decode cX8_proxy 75 = .ok (.ireturn, 1) := by decide +kernel
theorem dX8_proxy_76 : decode cX8_proxy 76 = .ok (.aload_n 3, 1) := by decide +kernel
theorem dX8_proxy_77 : decode cX8_proxy 77 = .ok (.iload_n 2, 1) := by decide +kernel
theorem dX8_proxy_78 : decode cX8_proxy 78 = .ok (.invokevirtual 191, 3) := by decide +kernel
theorem dX8_proxy_81 : decode cX8_proxy 81 = .ok (.iload_n 2, 1) := by decide +kernel
theorem dX8_proxy_82 : decode cX8_proxy 82 = .ok (.ireturn, 1) := by decide +kernel
theorem dX8_twice_0 : decode cX8_twice 0 = .ok (.aload_n 0, 1) := by decide +kernel
theorem dX8_twice_1 : decode cX8_twice 1 = .ok (.iload_n 1, 1) := by decide +kernel
theorem dX8_twice_2 : decode cX8_twice 2 = .ok (.invokevirtual 139, 3) := by decide +kernel
theorem dX8_twice_5 : decode cX8_twice 5 = .ok (.astore 5, 2) := by decide +kernel
theorem dX8_twice_7 : decode cX8_twice 7 = .ok (.aload_n 0, 1) := by decide +kernel
theorem dX8_twice_8 : decode cX8_twice 8 = .ok (.iload_n 3, 1) := by decide +kernel
theorem dX8_twice_9 : decode cX8_twice 9 = .ok (.invokevirtual 139, 3) := by decide +kernel
theorem dX8_twice_12 : decode cX8_twice 12 = .ok (.astore 6, 2) := by decide +kernel
theorem dX8_twice_14 : decode cX8_twice 14 = .ok (.aload 5, 2) := by decide +kernel
theorem dX8_twice_16 : decode cX8_twice 16 = .ok (.ifnull 8, 3) := by decide +kernel
theorem dX8_twice_19 : decode cX8_twice 19 = .ok (.aload 6, 2) := by decide +kernel
theorem dX8_twice_21 : decode cX8_twice 21 = .ok (.ifnonnull 9, 3) := by decide +kernel
theorem dX8_twice_24 : decode cX8_twice 24 = .ok (.aload_n 0, 1) := by decide +kernel
theorem dX8_twice_25 : decode cX8_twice 25 = .ok (.iconst (-1), 1) := by decide +kernel
theorem dX8_twice_26 : decode cX8_twice 26 = .ok (.invokevirtual 58, 3) := by decide +kernel
theorem dX8_twice_29 : decode cX8_twice 29 = .ok (.ireturn, 1) := by decide +kernel
theorem dX8_twice_30 : decode cX8_twice 30 = .ok (.aload 5, 2) := by decide +kernel
theorem dX8_twice_32 : decode cX8_twice 32 = .ok (.iload_n 2, 1) := by decide +kernel
theorem dX8_twice_33 : decode cX8_twice 33 = .ok (.invokevirtual 194, 3) := by decide +kernel
theorem dX8_twice_36 : decode cX8_twice 36 = .ok (.ifCond .eq 13, 3) := by decide +kernel
theorem dX8_twice_39 : decode cX8_twice 39 = .ok (.aload 6, 2) := by decide +kernel
theorem dX8_twice_41 : decode cX8_twice 41 = .ok (.iload 4, 2) := by decide +kernel
theorem dX8_twice_43 : decode cX8_twice 43 = .ok (.invokevirtual 194, 3) := by decide +kernel
theorem dX8_twice_46 : decode cX8_twice 46 = .ok (.ifCond .ne 10, 3) := by decide +kernel
theorem dX8_twice_49 : decode cX8_twice 49 = .ok (.aload_n 0, 1) := by decide +kernel
theorem dX8_twice_50 : decode cX8_twice 50 = .ok (.bipush (-5), 2) := by decide +kernel
theorem dX8_twice_52 : decode cX8_twice 52 = .ok (.invokevirtual 58, 3) := by decide +kernel
theorem dX8_twice_55 : decode cX8_twice 55 = .ok (.ireturn, 1) := by decide +kernel
theorem dX8_twice_56 : decode cX8_twice 56 = .ok (.iload_n 1, 1) := by decide +kernel
theorem dX8_twice_57 : decode cX8_twice 57 = .ok (.iload_n 3, 1) := by decide +kernel
theorem dX8_twice_58 : decode cX8_twice 58 = .ok (.if_icmp .eq 22, 3) := by decide +kernel
theorem dX8_twice_61 : decode cX8_twice 61 = .ok (.aload 5, 2) := by decide +kernel
theorem dX8_twice_63 : decode cX8_twice 63 = .ok (.iload_n 2, 1) := by decide +kernel
theorem dX8_twice_64 : decode cX8_twice 64 = .ok (.invokevirtual 197, 3) := by decide +kernel
theorem dX8_twice_67 : decode cX8_twice 67 = .ok (.ifCond .ne 13, 3) := by decide +kernel
theorem dX8_twice_70 : decode cX8_twice 70 = .ok (.aload 6, 2) := by decide +kernel
theorem dX8_twice_72 : decode cX8_twice 72 = .ok (.iload 4, 2) := by decide +kernel
theorem dX8_twice_74 : decode cX8_twice 74 = .ok (.invokevirtual 197, 3) := by decide +kernel
theorem dX8_twice_77 : decode cX8_twice 77 = .ok (.ifCond .eq 10, 3) := by decide +kernel
theorem dX8_twice_80 : decode cX8_twice 80 = .ok (.aload_n 0, 1) := by decide +kernel
theorem dX8_twice_81 : decode cX8_twice 81 = .ok (.bipush (-6), 2) := by decide +kernel
theorem dX8_twice_83 : decode cX8_twice 83 = .ok (.invokevirtual 58, 3) := by decide +kernel
theorem dX8_twice_86 : decode cX8_twice 86 = .ok (.ireturn, 1) := by decide +kernel
theorem dX8_twice_87 : decode cX8_twice 87 = .ok (.aload 5, 2) := by decide +kernel
theorem dX8_twice_89 : decode cX8_twice 89 = .ok (.getfield 185, 3) := by decide +kernel
theorem dX8_twice_92 : decode cX8_twice 92 = .ok (.iconst 4, 1) := by decide +kernel
theorem dX8_twice_93 : decode cX8_twice 93 = .ok (.if_icmp .eq 12, 3) := by decide +kernel
theorem dX8_twice_96 : decode cX8_twice 96 = .ok (.aload 6, 2) := by decide +kernel
theorem dX8_twice_98 : decode cX8_twice 98 = .ok (.getfield 185, 3) := by decide +kernel
theorem dX8_twice_101 : decode cX8_twice 101 = .ok (.iconst 4, 1) := by decide +kernel
theorem dX8_twice_102 : decode cX8_twice 102 = .ok (.if_icmp .ne 10, 3) := by decide +kernel
theorem dX8_twice_105 : decode cX8_twice 105 = .ok (.aload_n 0, 1) := by decide +kernel
theorem dX8_twice_106 : decode cX8_twice 106 = .ok (.bipush (-6), 2) := by decide +kernel
theorem dX8_twice_108 : decode cX8_twice 108 = .ok (.invokevirtual 58, 3) := by decide +kernel
theorem dX8_twice_111 : decode cX8_twice 111 = .ok (.ireturn, 1) := by decide +kernel
theorem dX8_twice_112 : decode cX8_twice 112 = .ok (.iload_n 1, 1) := by decide +kernel
theorem dX8_twice_113 : decode cX8_twice 113 = .ok (.iload_n 3, 1) := by decide +kernel
theorem dX8_twice_114 : decode cX8_twice 114 = .ok (.if_icmp .le 11, 3) := by decide +kernel
theorem dX8_twice_117 : decode cX8_twice 117 = .ok (.aload 5, 2) := by decide +kernel
theorem dX8_twice_119 : decode cX8_twice 119 = .ok (.iload_n 2, 1) := by decide +kernel
theorem dX8_twice_120 : decode cX8_twice 120 = .ok (.invokevirtual 200, 3) := by decide +kernel
theorem dX8_twice_123 : decode cX8_twice 123 = .ok (.iload_n 1, 1) := by decide +kernel
theorem dX8_twice_124 : decode cX8_twice 124 = .ok (.ireturn, 1) := by decide +kernel
theorem dX8_twice_125 : decode cX8_twice 125 = .ok (.aload 6, 2) := by decide +kernel
theorem dX8_twice_127 : decode cX8_twice 127 = .ok (.iload 4, 2) := by decide +kernel
theorem dX8_twice_129 : decode cX8_twice 129 = .ok (.invokevirtual 200, 3) := by decide +kernel
theorem dX8_twice_132 : decode cX8_twice 132 = .ok (.iload_n 3, 1) := by decide +kernel
theorem dX8_twice_133 : decode cX8_twice 133 = .ok (.ireturn, 1) := by decide +kernel
theorem dX8_fill_0 : decode cX8_fill 0 = .ok (.aload_n 0, 1) := by decide +kernel
theorem dX8_fill_1 : decode cX8_fill 1 = .ok (.getfield 65, 3) := by decide +kernel
theorem dX8_fill_4 : decode cX8_fill 4 = .ok (.ifCond .eq 10, 3) := by decide +kernel
theorem dX8_fill_7 : decode cX8_fill 7 = .ok (.aload_n 0, 1) := by decide +kernel
theorem dX8_fill_8 : decode cX8_fill 8 = .ok (.bipush (-6), 2) := by decide +kernel
theorem dX8_fill_10 : decode cX8_fill 10 = .ok (.invokevirtual 58, 3) := by decide +kernel
theorem dX8_fill_13 : decode cX8_fill 13 = .ok (.ireturn, 1) := by decide +kernel
theorem dX8_fill_14 : decode cX8_fill 14 = .ok (.aload_n 0, 1) := by decide +kernel
theorem dX8_fill_15 : decode cX8_fill 15 = .ok (.iconst 1, 1) := by decide +kernel
theorem dX8_fill_16 : decode cX8_fill 16 = .ok (.putfield 65, 3) := by decide +kernel
theorem dX8_fill_19 : decode cX8_fill 19 = .ok (.iconst 0, 1) := by decide +kernel
theorem dX8_fill_20 : decode cX8_fill 20 = .ok (.istore_n 1, 1) := by decide +kernel
theorem dX8_fill_21 : decode cX8_fill 21 = .ok (.iconst 0, 1) := by decide +kernel
theorem dX8_fill_22 : decode cX8_fill 22 = .ok (.istore_n 2, 1) := by decide +kernel
theorem dX8_fill_23 : decode cX8_fill 23 = .ok (.iload_n 2, 1) := by decide +kernel
theorem dX8_fill_24 : decode cX8_fill 24 = .ok (.aload_n 0, 1) := by decide +kernel
theorem dX8_fill_25 : decode cX8_fill 25 = .ok (.getfield 69, 3) := by decide +kernel
theorem dX8_fill_28 : decode cX8_fill 28 = .ok (.if_icmp .ge 32, 3) := by decide +kernel
theorem dX8_fill_31 : decode cX8_fill 31 = .ok (.aload_n 0, 1) := by decide +kernel
theorem dX8_fill_32 : decode cX8_fill 32 = .ok (.getfield 17, 3) := by decide +kernel
theorem dX8_fill_35 : decode cX8_fill 35 = .ok (.iload_n 2, 1) := by decide +kernel
theorem dX8_fill_36 : decode cX8_fill 36 = .ok (.aaload, 1) := by decide +kernel
theorem dX8_fill_37 : decode cX8_fill 37 = .ok (.getfield 185, 3) := by decide +kernel
theorem dX8_fill_40 : decode cX8_fill 40 = .ok (.ifCond .ne 14, 3) := by decide +kernel
theorem dX8_fill_43 : decode cX8_fill 43 = .ok (.aload_n 0, 1) := by decide +kernel
theorem dX8_fill_44 : decode cX8_fill 44 = .ok (.iload_n 2, 1) := by decide +kernel
theorem dX8_fill_45 : decode cX8_fill 45 = .ok (.invokevirtual 203, 3) := by decide +kernel
theorem dX8_fill_48 : decode cX8_fill 48 = .ok (.ifCond .eq 6, 3) := by decide +kernel
theorem dX8_fill_51 : decode cX8_fill 51 = .ok (.iinc 1 1, 3) := by decide +kernel
theorem dX8_fill_54 : decode cX8_fill 54 = .ok (.iinc 2 1, 3) := by decide +kernel
theorem dX8_fill_57 : decode cX8_fill 57 = .ok (.goto (-34), 3) := by decide +kernel
theorem dX8_fill_60 : decode cX8_fill 60 = .ok (.iload_n 1, 1) := by decide +kernel
theorem dX8_fill_61 : decode cX8_fill 61 = .ok (.ireturn, 1) := by decide +kernel
theorem dX8_from_0 : decode cX8_from 0 = .ok (.aload_n 0, 1) := by decide +kernel
theorem dX8_from_1 : decode cX8_from 1 = .ok (.iload_n 1, 1) := by decide +kernel
theorem dX8_from_2 : decode cX8_from 2 = .ok (.invokevirtual 139, 3) := by decide +kernel
theorem dX8_from_5 : decode cX8_from 5 = .ok (.astore_n 2, 1) := by decide +kernel
theorem dX8_from_6 : decode cX8_from 6 = .ok (.aload_n 2, 1) := by decide +kernel
theorem dX8_from_7 : decode cX8_from 7 = .ok (.ifnonnull 7, 3) := by decide +kernel
theorem dX8_from_10 : decode cX8_from 10 = .ok (.iconst (-1), 1) := by decide +kernel
theorem dX8_from_11 : decode cX8_from 11 = .ok (.goto 7, 3) := by decide +kernel
theorem dX8_from_14 : decode cX8_from 14 = .ok (.aload_n 2, 1) := by decide +kernel
theorem dX8_from_15 : decode cX8_from 15 = .ok (.getfield 206, 3) := by decide +kernel
theorem dX8_from_18 : decode cX8_from 18 = .ok (.ireturn, 1) := by decide +kernel
theorem dX8_about_0 : decode cX8_about 0 = .ok (.aload_n 0, 1) := by decide +kernel
theorem dX8_about_1 : decode cX8_about 1 = .ok (.iload_n 1, 1) := by decide +kernel
theorem dX8_about_2 : decode cX8_about 2 = .ok (.invokevirtual 139, 3) := by decide +kernel
theorem dX8_about_5 : decode cX8_about 5 = .ok (.astore_n 3, 1) := by decide +kernel
theorem dX8_about_6 : decode cX8_about 6 = .ok (.aload_n 3, 1) := by decide +kernel
theorem dX8_about_7 : decode cX8_about 7 = .ok (.ifnonnull 7, 3) := by decide +kernel
theorem dX8_about_10 : decode cX8_about 10 = .ok (.iconst (-1), 1) := by decide +kernel
theorem dX8_about_11 : decode cX8_about 11 = .ok (.goto 8, 3) := by decide +kernel
theorem dX8_about_14 : decode cX8_about 14 = .ok (.aload_n 3, 1) := by decide +kernel
theorem dX8_about_15 : decode cX8_about 15 = .ok (.iload_n 2, 1) := by decide +kernel
theorem dX8_about_16 : decode cX8_about 16 = .ok (.invokevirtual 209, 3) := by decide +kernel
theorem dX8_about_19 : decode cX8_about 19 = .ok (.ireturn, 1) := by decide +kernel
theorem dX8_age_0 : decode cX8_age 0 = .ok (.aload_n 0, 1) := by decide +kernel
theorem dX8_age_1 : decode cX8_age 1 = .ok (.iload_n 1, 1) := by decide +kernel
theorem dX8_age_2 : decode cX8_age 2 = .ok (.invokevirtual 139, 3) := by decide +kernel
theorem dX8_age_5 : decode cX8_age 5 = .ok (.astore_n 3, 1) := by decide +kernel
theorem dX8_age_6 : decode cX8_age 6 = .ok (.aload_n 3, 1) := by decide +kernel
theorem dX8_age_7 : decode cX8_age 7 = .ok (.ifnull 11, 3) := by decide +kernel
theorem dX8_age_10 : decode cX8_age 10 = .ok (.aload_n 3, 1) := by decide +kernel
theorem dX8_age_11 : decode cX8_age 11 = .ok (.iload_n 2, 1) := by decide +kernel
theorem dX8_age_12 : decode cX8_age 12 = .ok (.invokevirtual 194, 3) := by decide +kernel
theorem dX8_age_15 : decode cX8_age 15 = .ok (.ifCond .ne 7, 3) := by decide +kernel
theorem dX8_age_18 : decode cX8_age 18 = .ok (.iconst (-1), 1) := by decide +kernel
theorem dX8_age_19 : decode cX8_age 19 = .ok (.goto 9, 3) := by decide +kernel
theorem dX8_age_22 : decode cX8_age 22 = .ok (.aload_n 3, 1) := by decide +kernel
theorem dX8_age_23 : decode cX8_age 23 = .ok (.getfield 212, 3) := by decide +kernel
theorem dX8_age_26 : decode cX8_age 26 = .ok (.iload_n 2, 1) := by decide +kernel
theorem dX8_age_27 : decode cX8_age 27 = .ok (.iaload, 1) := by decide +kernel
theorem dX8_age_28 : decode cX8_age 28 = .ok (.ireturn, 1) := by decide +kernel
theorem dX8_count_0 : decode cX8_count 0 = .ok (.iload_n 1, 1) := by decide +kernel
theorem dX8_count_1 : decode cX8_count 1 = .ok (.invokestatic 54, 3) := by decide +kernel
theorem dX8_count_4 : decode cX8_count 4 = .ok (.ifCond .eq 12, 3) := by decide +kernel
theorem dX8_count_7 : decode cX8_count 7 = .ok (.iload_n 2, 1) := by decide +kernel
theorem dX8_count_8 : decode cX8_count 8 = .ok (.ifCond .lt 8, 3) := by decide +kernel
theorem dX8_count_11 : decode cX8_count 11 = .ok (.iload_n 2, 1) := by decide +kernel
theorem dX8_count_12 : decode cX8_count 12 = .ok (.iconst 4, 1) := by decide +kernel
theorem dX8_count_13 : decode cX8_count 13 = .ok (.if_icmp .lt 5, 3) := by decide +kernel
theorem dX8_count_16 : decode cX8_count 16 = .ok (.iconst (-1), 1) := by decide +kernel
theorem dX8_count_17 : decode cX8_count 17 = .ok (.ireturn, 1) := by decide +kernel
theorem dX8_count_18 : decode cX8_count 18 = .ok (.iconst 0, 1) := by decide +kernel
theorem dX8_count_19 : decode cX8_count 19 = .ok (.istore 4, 2) := by decide +kernel
theorem dX8_count_21 : decode cX8_count 21 = .ok (.iconst 0, 1) := by decide +kernel
theorem dX8_count_22 : decode cX8_count 22 = .ok (.istore 5, 2) := by decide +kernel
theorem dX8_count_24 : decode cX8_count 24 = .ok (.iload 5, 2) := by decide +kernel
theorem dX8_count_26 : decode cX8_count 26 = .ok (.aload_n 0, 1) := by decide +kernel
theorem dX8_count_27 : decode cX8_count 27 = .ok (.getfield 69, 3) := by decide +kernel
theorem dX8_count_30 : decode cX8_count 30 = .ok (.if_icmp .ge 51, 3) := by decide +kernel
theorem dX8_count_33 : decode cX8_count 33 = .ok (.aload_n 0, 1) := by decide +kernel
theorem dX8_count_34 : decode cX8_count 34 = .ok (.getfield 17, 3) := by decide +kernel
theorem dX8_count_37 : decode cX8_count 37 = .ok (.iload 5, 2) := by decide +kernel
theorem dX8_count_39 : decode cX8_count 39 = .ok (.aaload, 1) := by decide +kernel
theorem dX8_count_40 : decode cX8_count 40 = .ok (.astore 6, 2) := by decide +kernel
theorem dX8_count_42 : decode cX8_count 42 = .ok (.aload 6, 2) := by decide +kernel
theorem dX8_count_44 : decode cX8_count 44 = .ok (.getfield 143, 3) := by decide +kernel
theorem dX8_count_47 : decode cX8_count 47 = .ok (.iload_n 1, 1) := by decide +kernel
theorem dX8_count_48 : decode cX8_count 48 = .ok (.if_icmp .ne 27, 3) := by decide +kernel
theorem dX8_count_51 : decode cX8_count 51 = .ok (.iload_n 3, 1) := by decide +kernel
theorem dX8_count_52 : decode cX8_count 52 = .ok (.ifCond .ne 12, 3) := by decide +kernel
theorem dX8_count_55 : decode cX8_count 55 = .ok (.aload 6, 2) := by decide +kernel
theorem dX8_count_57 : decode cX8_count 57 = .ok (.getfield 185, 3) := by decide +kernel
theorem dX8_count_60 : decode cX8_count 60 = .ok (.iconst 4, 1) := by decide +kernel
theorem dX8_count_61 : decode cX8_count 61 = .ok (.if_icmp .eq 14, 3) := by decide +kernel
theorem dX8_count_64 : decode cX8_count 64 = .ok (.iload 4, 2) := by decide +kernel
theorem dX8_count_66 : decode cX8_count 66 = .ok (.aload 6, 2) := by decide +kernel
theorem dX8_count_68 : decode cX8_count 68 = .ok (.iload_n 2, 1) := by decide +kernel
theorem dX8_count_69 : decode cX8_count 69 = .ok (.invokevirtual 215, 3) := by decide +kernel
theorem dX8_count_72 : decode cX8_count 72 = .ok (.iadd, 1) := by decide +kernel
theorem dX8_count_73 : decode cX8_count 73 = .ok (.istore 4, 2) := by decide +kernel
theorem dX8_count_75 : decode cX8_count 75 = .ok (.iinc 5 1, 3) := by decide +kernel
theorem dX8_count_78 : decode cX8_count 78 = .ok (.goto (-54), 3) := by decide +kernel
theorem dX8_count_81 : decode cX8_count 81 = .ok (.iload 4, 2) := by decide +kernel
theorem dX8_count_83 : decode cX8_count 83 = .ok (.ireturn, 1) := by decide +kernel
theorem dX8_bestHour_0 : decode cX8_bestHour 0 = .ok (.iload_n 1, 1) := by decide +kernel
theorem dX8_bestHour_1 : decode cX8_bestHour 1 = .ok (.invokestatic 62, 3) := by decide +kernel
theorem dX8_bestHour_4 : decode cX8_bestHour 4 = .ok (.ifCond .eq 14, 3) := by decide +kernel
theorem dX8_bestHour_7 : decode cX8_bestHour 7 = .ok (.aload_n 0, 1) := by decide +kernel
theorem dX8_bestHour_8 : decode cX8_bestHour 8 = .ok (.getfield 35, 3) := by decide +kernel
theorem dX8_bestHour_11 : decode cX8_bestHour 11 = .ok (.iload_n 1, 1) := by decide +kernel
theorem dX8_bestHour_12 : decode cX8_bestHour 12 = .ok (.invokevirtual 218, 3) := by decide +kernel
theorem dX8_bestHour_15 : decode cX8_bestHour 15 = .ok (.goto 4, 3) := by decide +kernel
theorem dX8_bestHour_18 : decode cX8_bestHour 18 = .ok (.iconst (-1), 1) := by decide +kernel
theorem dX8_bestHour_19 : decode cX8_bestHour 19 = .ok (.ireturn, 1) := by decide +kernel
theorem dX8_cut_0 : decode cX8_cut 0 = .ok (.iload_n 1, 1) := by decide +kernel
theorem dX8_cut_1 : decode cX8_cut 1 = .ok (.ifCond .lt 9, 3) := by decide +kernel
theorem dX8_cut_4 : decode cX8_cut 4 = .ok (.iload_n 1, 1) := by decide +kernel
theorem dX8_cut_5 : decode cX8_cut 5 = .ok (.bipush 24, 2) := by decide +kernel
theorem dX8_cut_7 : decode cX8_cut 7 = .ok (.if_icmp .le 10, 3) := by decide +kernel
theorem dX8_cut_10 : decode cX8_cut 10 = .ok (.aload_n 0, 1) := by decide +kernel
theorem dX8_cut_11 : decode cX8_cut 11 = .ok (.bipush (-6), 2) := by decide +kernel
theorem dX8_cut_13 : decode cX8_cut 13 = .ok (.invokevirtual 58, 3) := by decide +kernel
theorem dX8_cut_16 : decode cX8_cut 16 = .ok (.ireturn, 1) := by decide +kernel
theorem dX8_cut_17 : decode cX8_cut 17 = .ok (.aload_n 0, 1) := by decide +kernel
theorem dX8_cut_18 : decode cX8_cut 18 = .ok (.getfield 42, 3) := by decide +kernel
theorem dX8_cut_21 : decode cX8_cut 21 = .ok (.invokevirtual 221, 3) := by decide +kernel
theorem dX8_cut_24 : decode cX8_cut 24 = .ok (.iconst 0, 1) := by decide +kernel
theorem dX8_cut_25 : decode cX8_cut 25 = .ok (.istore_n 2, 1) := by decide +kernel
theorem dX8_cut_26 : decode cX8_cut 26 = .ok (.iload_n 2, 1) := by decide +kernel
theorem dX8_cut_27 : decode cX8_cut 27 = .ok (.aload_n 0, 1) := by decide +kernel
theorem dX8_cut_28 : decode cX8_cut 28 = .ok (.getfield 69, 3) := by decide +kernel
theorem dX8_cut_31 : decode cX8_cut 31 = .ok (.if_icmp .ge 34, 3) := by decide +kernel
theorem dX8_cut_34 : decode cX8_cut 34 = .ok (.aload_n 0, 1) := by decide +kernel
theorem dX8_cut_35 : decode cX8_cut 35 = .ok (.getfield 42, 3) := by decide +kernel
theorem dX8_cut_38 : decode cX8_cut 38 = .ok (.aload_n 0, 1) := by decide +kernel
theorem dX8_cut_39 : decode cX8_cut 39 = .ok (.getfield 17, 3) := by decide +kernel
theorem dX8_cut_42 : decode cX8_cut 42 = .ok (.iload_n 2, 1) := by decide +kernel
theorem dX8_cut_43 : decode cX8_cut 43 = .ok (.aaload, 1) := by decide +kernel
theorem dX8_cut_44 : decode cX8_cut 44 = .ok (.getfield 143, 3) := by decide +kernel
theorem dX8_cut_47 : decode cX8_cut 47 = .ok (.aload_n 0, 1) := by decide +kernel
theorem dX8_cut_48 : decode cX8_cut 48 = .ok (.getfield 17, 3) := by decide +kernel
theorem dX8_cut_51 : decode cX8_cut 51 = .ok (.iload_n 2, 1) := by decide +kernel
theorem dX8_cut_52 : decode cX8_cut 52 = .ok (.aaload, 1) := by decide +kernel
theorem dX8_cut_53 : decode cX8_cut 53 = .ok (.invokevirtual 160, 3) := by decide +kernel
theorem dX8_cut_56 : decode cX8_cut 56 = .ok (.invokevirtual 224, 3) := by decide +kernel
theorem dX8_cut_59 : decode cX8_cut 59 = .ok (.iinc 2 1, 3) := by decide +kernel
theorem dX8_cut_62 : decode cX8_cut 62 = .ok (.goto (-36), 3) := by decide +kernel
theorem dX8_cut_65 : decode cX8_cut 65 = .ok (.aload_n 0, 1) := by decide +kernel
theorem dX8_cut_66 : decode cX8_cut 66 = .ok (.getfield 42, 3) := by decide +kernel
theorem dX8_cut_69 : decode cX8_cut 69 = .ok (.iload_n 1, 1) := by decide +kernel
theorem dX8_cut_70 : decode cX8_cut 70 = .ok (.invokevirtual 228, 3) := by decide +kernel
theorem dX8_cut_73 : decode cX8_cut 73 = .ok (.istore_n 2, 1) := by decide +kernel
theorem dX8_cut_74 : decode cX8_cut 74 = .ok (.iload_n 2, 1) := by decide +kernel
theorem dX8_cut_75 : decode cX8_cut 75 = .ok (.iconst (-1), 1) := by decide +kernel
theorem dX8_cut_76 : decode cX8_cut 76 = .ok (.if_icmp .ne 12, 3) := by decide +kernel
theorem dX8_cut_79 : decode cX8_cut 79 = .ok (.aload_n 0, 1) := by decide +kernel
theorem dX8_cut_80 : decode cX8_cut 80 = .ok (.bipush (-6), 2) := by decide +kernel
theorem dX8_cut_82 : decode cX8_cut 82 = .ok (.invokevirtual 58, 3) := by decide +kernel
theorem dX8_cut_85 : decode cX8_cut 85 = .ok (.goto 4, 3) := by decide +kernel
theorem dX8_cut_88 : decode cX8_cut 88 = .ok (.iload_n 2, 1) := by decide +kernel
theorem dX8_cut_89 : decode cX8_cut 89 = .ok (.ireturn, 1) := by decide +kernel
theorem dX8_walk_0 : decode cX8_walk 0 = .ok (.iload_n 1, 1) := by decide +kernel
theorem dX8_walk_1 : decode cX8_walk 1 = .ok (.invokestatic 54, 3) := by decide +kernel
theorem dX8_walk_4 : decode cX8_walk 4 = .ok (.ifCond .eq 14, 3) := by decide +kernel
theorem dX8_walk_7 : decode cX8_walk 7 = .ok (.aload_n 0, 1) := by decide +kernel
theorem dX8_walk_8 : decode cX8_walk 8 = .ok (.getfield 42, 3) := by decide +kernel
theorem dX8_walk_11 : decode cX8_walk 11 = .ok (.iload_n 1, 1) := by decide +kernel
theorem dX8_walk_12 : decode cX8_walk 12 = .ok (.invokevirtual 231, 3) := by decide +kernel
theorem dX8_walk_15 : decode cX8_walk 15 = .ok (.goto 4, 3) := by decide +kernel
theorem dX8_walk_18 : decode cX8_walk 18 = .ok (.iconst (-1), 1) := by decide +kernel
theorem dX8_walk_19 : decode cX8_walk 19 = .ok (.ireturn, 1) := by decide +kernel
theorem dX8_second_0 : decode cX8_second 0 = .ok (.iload_n 1, 1) := by decide +kernel
theorem dX8_second_1 : decode cX8_second 1 = .ok (.invokestatic 54, 3) := by decide +kernel
theorem dX8_second_4 : decode cX8_second 4 = .ok (.ifCond .eq 10, 3) := by decide +kernel
theorem dX8_second_7 : decode cX8_second 7 = .ok (.iload_n 2, 1) := by decide +kernel
theorem dX8_second_8 : decode cX8_second 8 = .ok (.invokestatic 80, 3) := by decide +kernel
theorem dX8_second_11 : decode cX8_second 11 = .ok (.ifCond .ne 9, 3) := by decide +kernel
theorem dX8_second_14 : decode cX8_second 14 = .ok (.aload_n 0, 1) := by decide +kernel
theorem dX8_second_15 : decode cX8_second 15 = .ok (.iconst (-1), 1) := by decide +kernel
theorem dX8_second_16 : decode cX8_second 16 = .ok (.invokevirtual 58, 3) := by decide +kernel
theorem dX8_second_19 : decode cX8_second 19 = .ok (.ireturn, 1) := by decide +kernel
theorem dX8_second_20 : decode cX8_second 20 = .ok (.aload_n 0, 1) := by decide +kernel
theorem dX8_second_21 : decode cX8_second 21 = .ok (.getfield 11, 3) := by decide +kernel
theorem dX8_second_24 : decode cX8_second 24 = .ok (.iload_n 2, 1) := by decide +kernel
theorem dX8_second_25 : decode cX8_second 25 = .ok (.aaload, 1) := by decide +kernel
theorem dX8_second_26 : decode cX8_second 26 = .ok (.astore_n 3, 1) := by decide +kernel
theorem dX8_second_27 : decode cX8_second 27 = .ok (.aload_n 3, 1) := by decide +kernel
theorem dX8_second_28 : decode cX8_second 28 = .ok (.invokevirtual 87, 3) := by decide +kernel
theorem dX8_second_31 : decode cX8_second 31 = .ok (.istore 4, 2) := by decide +kernel
theorem dX8_second_33 : decode cX8_second 33 = .ok (.iload 4, 2) := by decide +kernel
theorem dX8_second_35 : decode cX8_second 35 = .ok (.ifCond .eq 10, 3) := by decide +kernel
theorem dX8_second_38 : decode cX8_second 38 = .ok (.aload_n 0, 1) := by decide +kernel
theorem dX8_second_39 : decode cX8_second 39 = .ok (.iload 4, 2) := by decide +kernel
theorem dX8_second_41 : decode cX8_second 41 = .ok (.invokevirtual 58, 3) := by decide +kernel
theorem dX8_second_44 : decode cX8_second 44 = .ok (.ireturn, 1) := by decide +kernel
theorem dX8_second_45 : decode cX8_second 45 = .ok (.aload_n 0, 1) := by decide +kernel
theorem dX8_second_46 : decode cX8_second 46 = .ok (.iload_n 1, 1) := by decide +kernel
theorem dX8_second_47 : decode cX8_second 47 = .ok (.invokevirtual 234, 3) := by decide +kernel
theorem dX8_second_50 : decode cX8_second 50 = .ok (.istore 5, 2) := by decide +kernel
theorem dX8_second_52 : decode cX8_second 52 = .ok (.aload_n 3, 1) := by decide +kernel
theorem dX8_second_53 : decode cX8_second 53 = .ok (.getfield 153, 3) := by decide +kernel
theorem dX8_second_56 : decode cX8_second 56 = .ok (.iload 5, 2) := by decide +kernel
theorem dX8_second_58 : decode cX8_second 58 = .ok (.if_icmp .ge 10, 3) := by decide +kernel
theorem dX8_second_61 : decode cX8_second 61 = .ok (.aload_n 0, 1) := by decide +kernel
theorem dX8_second_62 : decode cX8_second 62 = .ok (.bipush (-5), 2) := by decide +kernel
theorem dX8_second_64 : decode cX8_second 64 = .ok (.invokevirtual 58, 3) := by decide +kernel
theorem dX8_second_67 : decode cX8_second 67 = .ok (.ireturn, 1) := by decide +kernel
theorem dX8_second_68 : decode cX8_second 68 = .ok (.iconst 0, 1) := by decide +kernel
theorem dX8_second_69 : decode cX8_second 69 = .ok (.istore 6, 2) := by decide +kernel
theorem dX8_second_71 : decode cX8_second 71 = .ok (.iload 6, 2) := by decide +kernel
theorem dX8_second_73 : decode cX8_second 73 = .ok (.iload 5, 2) := by decide +kernel
theorem dX8_second_75 : decode cX8_second 75 = .ok (.if_icmp .ge 36, 3) := by decide +kernel
theorem dX8_second_78 : decode cX8_second 78 = .ok (.aload_n 3, 1) := by decide +kernel
theorem dX8_second_79 : decode cX8_second 79 = .ok (.iload 6, 2) := by decide +kernel
theorem dX8_second_81 : decode cX8_second 81 = .ok (.invokevirtual 237, 3) := by decide +kernel
theorem dX8_second_84 : decode cX8_second 84 = .ok (.ifCond .lt 14, 3) := by decide +kernel
theorem dX8_second_87 : decode cX8_second 87 = .ok (.aload_n 3, 1) := by decide +kernel
theorem dX8_second_88 : decode cX8_second 88 = .ok (.iload 6, 2) := by decide +kernel
theorem dX8_second_90 : decode cX8_second 90 = .ok (.invokevirtual 237, 3) := by decide +kernel
theorem dX8_second_93 : decode cX8_second 93 = .ok (.bipush 99, 2) := by decide +kernel
theorem dX8_second_95 : decode cX8_second 95 = .ok (.if_icmp .le 10, 3) := by decide +kernel
theorem dX8_second_98 : decode cX8_second 98 = .ok (.aload_n 0, 1) := by decide +kernel
theorem dX8_second_99 : decode cX8_second 99 = .ok (.bipush (-6), 2) := by decide +kernel
theorem dX8_second_101 : decode cX8_second 101 = .ok (.invokevirtual 58, 3) := by decide +kernel
theorem dX8_second_104 : decode cX8_second 104 = .ok (.ireturn, 1) := by decide +kernel
theorem dX8_second_105 : decode cX8_second 105 = .ok (.iinc 6 1, 3) := by decide +kernel
theorem dX8_second_108 : decode cX8_second 108 = .ok (.goto (-37), 3) := by decide +kernel
theorem dX8_second_111 : decode cX8_second 111 = .ok (.aload_n 0, 1) := by decide +kernel
theorem dX8_second_112 : decode cX8_second 112 = .ok (.iload_n 1, 1) := by decide +kernel
theorem dX8_second_113 : decode cX8_second 113 = .ok (.aload_n 3, 1) := by decide +kernel
theorem dX8_second_114 : decode cX8_second 114 = .ok (.invokevirtual 240, 3) := by decide +kernel
theorem dX8_second_117 : decode cX8_second 117 = .ok (.ireturn, 1) := by decide +kernel
theorem dX8_right_0 : decode cX8_right 0 = .ok (.lconst 0, 1) := by decide +kernel
theorem dX8_right_1 : decode cX8_right 1 = .ok (.lstore_n 2, 1) := by decide +kernel
theorem dX8_right_2 : decode cX8_right 2 = .ok (.lconst 0, 1) := by decide +kernel
theorem dX8_right_3 : decode cX8_right 3 = .ok (.lstore 4, 2) := by decide +kernel
theorem dX8_right_5 : decode cX8_right 5 = .ok (.iconst 0, 1) := by decide +kernel
theorem dX8_right_6 : decode cX8_right 6 = .ok (.istore 6, 2) := by decide +kernel
theorem dX8_right_8 : decode cX8_right 8 = .ok (.iload 6, 2) := by decide +kernel
theorem dX8_right_10 : decode cX8_right 10 = .ok (.aload_n 0, 1) := by decide +kernel
theorem dX8_right_11 : decode cX8_right 11 = .ok (.getfield 69, 3) := by decide +kernel
theorem dX8_right_14 : decode cX8_right 14 = .ok (.if_icmp .ge 55, 3) := by decide +kernel
theorem dX8_right_17 : decode cX8_right 17 = .ok (.aload_n 0, 1) := by decide +kernel
theorem dX8_right_18 : decode cX8_right 18 = .ok (.getfield 17, 3) := by decide +kernel
theorem dX8_right_21 : decode cX8_right 21 = .ok (.iload 6, 2) := by decide +kernel
theorem dX8_right_23 : decode cX8_right 23 = .ok (.aaload, 1) := by decide +kernel
theorem dX8_right_24 : decode cX8_right 24 = .ok (.astore 7, 2) := by decide +kernel
theorem dX8_right_26 : decode cX8_right 26 = .ok (.aload 7, 2) := by decide +kernel
theorem dX8_right_28 : decode cX8_right 28 = .ok (.getfield 244, 3) := by decide +kernel
theorem dX8_right_31 : decode cX8_right 31 = .ok (.iconst (-1), 1) := by decide +kernel
theorem dX8_right_32 : decode cX8_right 32 = .ok (.if_icmp .eq 31, 3) := by decide +kernel
theorem dX8_right_35 : decode cX8_right 35 = .ok (.lload_n 2, 1) := by decide +kernel
theorem dX8_right_36 : decode cX8_right 36 = .ok (.aload 7, 2) := by decide +kernel
theorem dX8_right_38 : decode cX8_right 38 = .ok (.getfield 244, 3) := by decide +kernel
theorem dX8_right_41 : decode cX8_right 41 = .ok (.i2l, 1) := by decide +kernel
theorem dX8_right_42 : decode cX8_right 42 = .ok (.ladd, 1) := by decide +kernel
theorem dX8_right_43 : decode cX8_right 43 = .ok (.lstore_n 2, 1) := by decide +kernel
theorem dX8_right_44 : decode cX8_right 44 = .ok (.lload 4, 2) := by decide +kernel
theorem dX8_right_46 : decode cX8_right 46 = .ok (.aload 7, 2) := by decide +kernel
theorem dX8_right_48 : decode cX8_right 48 = .ok (.getfield 244, 3) := by decide +kernel
theorem dX8_right_51 : decode cX8_right 51 = .ok (.aload 7, 2) := by decide +kernel
theorem dX8_right_53 : decode cX8_right 53 = .ok (.invokevirtual 247, 3) := by decide +kernel
theorem dX8_right_56 : decode cX8_right 56 = .ok (.invokestatic 250, 3) := by decide +kernel
theorem dX8_right_59 : decode cX8_right 59 = .ok (.i2l, 1) := by decide +kernel
theorem dX8_right_60 : decode cX8_right 60 = .ok (.ladd, 1) := by decide +kernel
theorem dX8_right_61 : decode cX8_right 61 = .ok (.lstore 4, 2) := by decide +kernel
theorem dX8_right_63 : decode cX8_right 63 = .ok (.iinc 6 1, 3) := by decide +kernel
theorem dX8_right_66 : decode cX8_right 66 = .ok (.goto (-58), 3) := by decide +kernel
theorem dX8_right_69 : decode cX8_right 69 = .ok (.lload 4, 2) := by decide +kernel
theorem dX8_right_71 : decode cX8_right 71 = .ok (.lconst 0, 1) := by decide +kernel
theorem dX8_right_72 : decode cX8_right 72 = .ok (.lcmp, 1) := by decide +kernel
theorem dX8_right_73 : decode cX8_right 73 = .ok (.ifCond .ne 13, 3) := by decide +kernel
theorem dX8_right_76 : decode cX8_right 76 = .ok (.iload_n 1, 1) := by decide +kernel
theorem dX8_right_77 : decode cX8_right 77 = .ok (.ifCond .eq 7, 3) := by decide +kernel
theorem dX8_right_80 : decode cX8_right 80 = .ok (.lconst 1, 1) := by decide +kernel
theorem dX8_right_81 : decode cX8_right 81 = .ok (.goto 4, 3) := by decide +kernel
theorem dX8_right_84 : decode cX8_right 84 = .ok (.lconst 0, 1) := by decide +kernel
theorem dX8_right_85 : decode cX8_right 85 = .ok (.lreturn, 1) := by decide +kernel
theorem dX8_right_86 : decode cX8_right 86 = .ok (.aload_n 0, 1) := by decide +kernel
theorem dX8_right_87 : decode cX8_right 87 = .ok (.invokevirtual 256, 3) := by decide +kernel
theorem dX8_right_90 : decode cX8_right 90 = .ok (.i2l, 1) := by decide +kernel
theorem dX8_right_91 : decode cX8_right 91 = .ok (.lload_n 2, 1) := by decide +kernel
theorem dX8_right_92 : decode cX8_right 92 = .ok (.lmul, 1) := by decide +kernel
theorem dX8_right_93 : decode cX8_right 93 = .ok (.lstore 6, 2) := by decide +kernel
theorem dX8_right_95 : decode cX8_right 95 = .ok (.lload 6, 2) := by decide +kernel
theorem dX8_right_97 : decode cX8_right 97 = .ok (.lload 4, 2) := by decide +kernel
theorem dX8_right_99 : decode cX8_right 99 = .ok (.invokestatic 259, 3) := by decide +kernel
theorem dX8_right_102 : decode cX8_right 102 = .ok (.lstore 8, 2) := by decide +kernel
theorem dX8_right_104 : decode cX8_right 104 = .ok (.lload 8, 2) := by decide +kernel
theorem dX8_right_106 : decode cX8_right 106 = .ok (.lconst 0, 1) := by decide +kernel
theorem dX8_right_107 : decode cX8_right 107 = .ok (.lcmp, 1) := by decide +kernel
theorem dX8_right_108 : decode cX8_right 108 = .ok (.ifCond .ne 13, 3) := by decide +kernel
theorem dX8_right_111 : decode cX8_right 111 = .ok (.iload_n 1, 1) := by decide +kernel
theorem dX8_right_112 : decode cX8_right 112 = .ok (.ifCond .eq 7, 3) := by decide +kernel
theorem dX8_right_115 : decode cX8_right 115 = .ok (.lconst 1, 1) := by decide +kernel
theorem dX8_right_116 : decode cX8_right 116 = .ok (.goto 4, 3) := by decide +kernel
theorem dX8_right_119 : decode cX8_right 119 = .ok (.lconst 0, 1) := by decide +kernel
theorem dX8_right_120 : decode cX8_right 120 = .ok (.lreturn, 1) := by decide +kernel
theorem dX8_right_121 : decode cX8_right 121 = .ok (.iload_n 1, 1) := by decide +kernel
theorem dX8_right_122 : decode cX8_right 122 = .ok (.ifCond .eq 11, 3) := by decide +kernel
theorem dX8_right_125 : decode cX8_right 125 = .ok (.lload 4, 2) := by decide +kernel
theorem dX8_right_127 : decode cX8_right 127 = .ok (.lload 8, 2) := by decide +kernel
theorem dX8_right_129 : decode cX8_right 129 = .ok (.ldiv, 1) := by decide +kernel
theorem dX8_right_130 : decode cX8_right 130 = .ok (.goto 8, 3) := by decide +kernel
theorem dX8_right_133 : decode cX8_right 133 = .ok (.lload 6, 2) := by decide +kernel
theorem dX8_right_135 : decode cX8_right 135 = .ok (.lload 8, 2) := by decide +kernel
theorem dX8_right_137 : decode cX8_right 137 = .ok (.ldiv, 1) := by decide +kernel
theorem dX8_right_138 : decode cX8_right 138 = .ok (.lreturn, 1) := by decide +kernel
theorem dX8_heap_0 : decode cX8_heap 0 = .ok (.iconst 0, 1) := by decide +kernel
theorem dX8_heap_1 : decode cX8_heap 1 = .ok (.istore_n 1, 1) := by decide +kernel
theorem dX8_heap_2 : decode cX8_heap 2 = .ok (.iconst 0, 1) := by decide +kernel
theorem dX8_heap_3 : decode cX8_heap 3 = .ok (.istore_n 2, 1) := by decide +kernel
theorem dX8_heap_4 : decode cX8_heap 4 = .ok (.iconst 0, 1) := by decide +kernel
theorem dX8_heap_5 : decode cX8_heap 5 = .ok (.istore_n 3, 1) := by decide +kernel
theorem dX8_heap_6 : decode cX8_heap 6 = .ok (.iload_n 3, 1) := by decide +kernel
theorem dX8_heap_7 : decode cX8_heap 7 = .ok (.aload_n 0, 1) := by decide +kernel
theorem dX8_heap_8 : decode cX8_heap 8 = .ok (.getfield 69, 3) := by decide +kernel
theorem dX8_heap_11 : decode cX8_heap 11 = .ok (.if_icmp .ge 35, 3) := by decide +kernel
theorem dX8_heap_14 : decode cX8_heap 14 = .ok (.iload_n 1, 1) := by decide +kernel
theorem dX8_heap_15 : decode cX8_heap 15 = .ok (.aload_n 0, 1) := by decide +kernel
theorem dX8_heap_16 : decode cX8_heap 16 = .ok (.getfield 17, 3) := by decide +kernel
theorem dX8_heap_19 : decode cX8_heap 19 = .ok (.iload_n 3, 1) := by decide +kernel
theorem dX8_heap_20 : decode cX8_heap 20 = .ok (.aaload, 1) := by decide +kernel
theorem dX8_heap_21 : decode cX8_heap 21 = .ok (.iconst 1, 1) := by decide +kernel
theorem dX8_heap_22 : decode cX8_heap 22 = .ok (.invokevirtual 263, 3) := by decide +kernel
theorem dX8_heap_25 : decode cX8_heap 25 = .ok (.iadd, 1) := by decide +kernel
theorem dX8_heap_26 : decode cX8_heap 26 = .ok (.istore_n 1, 1) := by decide +kernel
theorem dX8_heap_27 : decode cX8_heap 27 = .ok (.iload_n 2, 1) := by decide +kernel
theorem dX8_heap_28 : decode cX8_heap 28 = .ok (.aload_n 0, 1) := by decide +kernel
theorem dX8_heap_29 : decode cX8_heap 29 = .ok (.getfield 17, 3) := by decide +kernel
theorem dX8_heap_32 : decode cX8_heap 32 = .ok (.iload_n 3, 1) := by decide +kernel
theorem dX8_heap_33 : decode cX8_heap 33 = .ok (.aaload, 1) := by decide +kernel
theorem dX8_heap_34 : decode cX8_heap 34 = .ok (.iconst 5, 1) := by decide +kernel
theorem dX8_heap_35 : decode cX8_heap 35 = .ok (.invokevirtual 263, 3) := by decide +kernel
theorem dX8_heap_38 : decode cX8_heap 38 = .ok (.iadd, 1) := by decide +kernel
theorem dX8_heap_39 : decode cX8_heap 39 = .ok (.istore_n 2, 1) := by decide +kernel
theorem dX8_heap_40 : decode cX8_heap 40 = .ok (.iinc 3 1, 3) := by decide +kernel
theorem dX8_heap_43 : decode cX8_heap 43 = .ok (.goto (-37), 3) := by decide +kernel
theorem dX8_heap_46 : decode cX8_heap 46 = .ok (.iload_n 1, 1) := by decide +kernel
theorem dX8_heap_47 : decode cX8_heap 47 = .ok (.ifCond .ne 8, 3) := by decide +kernel
theorem dX8_heap_50 : decode cX8_heap 50 = .ok (.bipush 100, 2) := by decide +kernel
theorem dX8_heap_52 : decode cX8_heap 52 = .ok (.goto 10, 3) := by decide +kernel
theorem dX8_heap_55 : decode cX8_heap 55 = .ok (.sipush 500, 3) := by decide +kernel
theorem dX8_heap_58 : decode cX8_heap 58 = .ok (.iload_n 2, 1) := by decide +kernel
theorem dX8_heap_59 : decode cX8_heap 59 = .ok (.imul, 1) := by decide +kernel
theorem dX8_heap_60 : decode cX8_heap 60 = .ok (.iload_n 1, 1) := by decide +kernel
theorem dX8_heap_61 : decode cX8_heap 61 = .ok (.idiv, 1) := by decide +kernel
theorem dX8_heap_62 : decode cX8_heap 62 = .ok (.ireturn, 1) := by decide +kernel
theorem dX8_table_0 : decode cX8_table 0 = .ok (.aload_n 0, 1) := by decide +kernel
theorem dX8_table_1 : decode cX8_table 1 = .ok (.getfield 65, 3) := by decide +kernel
theorem dX8_table_4 : decode cX8_table 4 = .ok (.ifCond .ne 10, 3) := by decide +kernel
theorem dX8_table_7 : decode cX8_table 7 = .ok (.aload_n 0, 1) := by decide +kernel
theorem dX8_table_8 : decode cX8_table 8 = .ok (.bipush (-6), 2) := by decide +kernel
theorem dX8_table_10 : decode cX8_table 10 = .ok (.invokevirtual 58, 3) := by decide +kernel
theorem dX8_table_13 : decode cX8_table 13 = .ok (.ireturn, 1) := by decide +kernel
theorem dX8_table_14 : decode cX8_table 14 = .ok (.iconst 0, 1) := by decide +kernel
theorem dX8_table_15 : decode cX8_table 15 = .ok (.istore_n 1, 1) := by decide +kernel
theorem dX8_table_16 : decode cX8_table 16 = .ok (.iload_n 1, 1) := by decide +kernel
theorem dX8_table_17 : decode cX8_table 17 = .ok (.bipush 6, 2) := by decide +kernel
theorem dX8_table_19 : decode cX8_table 19 = .ok (.if_icmp .ge 38, 3) := by decide +kernel
theorem dX8_table_22 : decode cX8_table 22 = .ok (.iconst 0, 1) := by decide +kernel
theorem dX8_table_23 : decode cX8_table 23 = .ok (.istore_n 2, 1) := by decide +kernel
theorem dX8_table_24 : decode cX8_table 24 = .ok (.iload_n 2, 1) := by decide +kernel
theorem dX8_table_25 : decode cX8_table 25 = .ok (.iconst 4, 1) := by decide +kernel
theorem dX8_table_26 : decode cX8_table 26 = .ok (.if_icmp .ge 25, 3) := by decide +kernel
theorem dX8_table_29 : decode cX8_table 29 = .ok (.aload_n 0, 1) := by decide +kernel
theorem dX8_table_30 : decode cX8_table 30 = .ok (.getfield 49, 3) := by decide +kernel
theorem dX8_table_33 : decode cX8_table 33 = .ok (.iload_n 1, 1) := by decide +kernel
theorem dX8_table_34 : decode cX8_table 34 = .ok (.iload_n 2, 1) := by decide +kernel
theorem dX8_table_35 : decode cX8_table 35 = .ok (.aload_n 0, 1) := by decide +kernel
theorem dX8_table_36 : decode cX8_table 36 = .ok (.iload_n 1, 1) := by decide +kernel
theorem dX8_table_37 : decode cX8_table 37 = .ok (.iload_n 2, 1) := by decide +kernel
theorem dX8_table_38 : decode cX8_table 38 = .ok (.iconst 1, 1) := by decide +kernel
theorem dX8_table_39 : decode cX8_table 39 = .ok (.invokevirtual 266, 3) := by decide +kernel
theorem dX8_table_42 : decode cX8_table 42 = .ok (.invokevirtual 270, 3) := by decide +kernel
theorem dX8_table_45 : decode cX8_table 45 = .ok (.iinc 2 1, 3) := by decide +kernel
theorem dX8_table_48 : decode cX8_table 48 = .ok (.goto (-24), 3) := by decide +kernel
theorem dX8_table_51 : decode cX8_table 51 = .ok (.iinc 1 1, 3) := by decide +kernel
theorem dX8_table_54 : decode cX8_table 54 = .ok (.goto (-38), 3) := by decide +kernel
theorem dX8_table_57 : decode cX8_table 57 = .ok (.aload_n 0, 1) := by decide +kernel
theorem dX8_table_58 : decode cX8_table 58 = .ok (.getfield 49, 3) := by decide +kernel
theorem dX8_table_61 : decode cX8_table 61 = .ok (.aload_n 0, 1) := by decide +kernel
theorem dX8_table_62 : decode cX8_table 62 = .ok (.getfield 28, 3) := by decide +kernel
theorem dX8_table_65 : decode cX8_table 65 = .ok (.getfield 273, 3) := by decide +kernel
theorem dX8_table_68 : decode cX8_table 68 = .ok (.invokevirtual 276, 3) := by decide +kernel
theorem dX8_table_71 : decode cX8_table 71 = .ok (.ifCond .eq 13, 3) := by decide +kernel
theorem dX8_table_74 : decode cX8_table 74 = .ok (.aload_n 0, 1) := by decide +kernel
theorem dX8_table_75 : decode cX8_table 75 = .ok (.getfield 49, 3) := by decide +kernel
theorem dX8_table_78 : decode cX8_table 78 = .ok (.invokevirtual 279, 3) := by decide +kernel
theorem dX8_table_81 : decode cX8_table 81 = .ok (.goto 9, 3) := by decide +kernel
theorem dX8_table_84 : decode cX8_table 84 = .ok (.aload_n 0, 1) := by decide +kernel
theorem dX8_table_85 : decode cX8_table 85 = .ok (.bipush (-6), 2) := by decide +kernel
theorem dX8_table_87 : decode cX8_table 87 = .ok (.invokevirtual 58, 3) := by decide +kernel
theorem dX8_table_90 : decode cX8_table 90 = .ok (.ireturn, 1) := by decide +kernel
theorem dX8_told_0 : decode cX8_told 0 = .ok (.aload_n 0, 1) := by decide +kernel
theorem dX8_told_1 : decode cX8_told 1 = .ok (.getfield 49, 3) := by decide +kernel
theorem dX8_told_4 : decode cX8_told 4 = .ok (.iload_n 1, 1) := by decide +kernel
theorem dX8_told_5 : decode cX8_told 5 = .ok (.iload_n 2, 1) := by decide +kernel
theorem dX8_told_6 : decode cX8_told 6 = .ok (.invokevirtual 282, 3) := by decide +kernel
theorem dX8_told_9 : decode cX8_told 9 = .ok (.ireturn, 1) := by decide +kernel
theorem dX8_could_0 : decode cX8_could 0 = .ok (.aload_n 0, 1) := by decide +kernel
theorem dX8_could_1 : decode cX8_could 1 = .ok (.getfield 49, 3) := by decide +kernel
theorem dX8_could_4 : decode cX8_could 4 = .ok (.iload_n 1, 1) := by decide +kernel
theorem dX8_could_5 : decode cX8_could 5 = .ok (.iload_n 2, 1) := by decide +kernel
theorem dX8_could_6 : decode cX8_could 6 = .ok (.iload_n 3, 1) := by decide +kernel
theorem dX8_could_7 : decode cX8_could 7 = .ok (.invokevirtual 284, 3) := by decide +kernel
theorem dX8_could_10 : decode cX8_could 10 = .ok (.ireturn, 1) := by decide +kernel
theorem dX8_status_0 : decode cX8_status 0 = .ok (.iload_n 1, 1) := by decide +kernel
theorem dX8_status_1 : decode cX8_status 1 = .ok (.tableswitch 197 0 20 #[99, 104, 115, 121, 126, 131, 139, 147, 160, 165, 197, 197, 197, 197, 197, 197, 197, 197, 173, 181, 189], 99) := by decide +kernel
theorem dX8_status_100 : decode cX8_status 100 = .ok (.aload_n 0, 1) := by decide +kernel
theorem dX8_status_101 : decode cX8_status 101 = .ok (.getfield 69, 3) := by decide +kernel
theorem dX8_status_104 : decode cX8_status 104 = .ok (.ireturn, 1) := by decide +kernel
theorem dX8_status_105 : decode cX8_status 105 = .ok (.aload_n 0, 1) := by decide +kernel
theorem dX8_status_106 : decode cX8_status 106 = .ok (.getfield 69, 3) := by decide +kernel
theorem dX8_status_109 : decode cX8_status 109 = .ok (.aload_n 0, 1) := by decide +kernel
theorem dX8_status_110 : decode cX8_status 110 = .ok (.iconst 0, 1) := by decide +kernel
theorem dX8_status_111 : decode cX8_status 111 = .ok (.invokevirtual 287, 3) := by decide +kernel
theorem dX8_status_114 : decode cX8_status 114 = .ok (.isub, 1) := by decide +kernel
theorem dX8_status_115 : decode cX8_status 115 = .ok (.ireturn, 1) := by decide +kernel
theorem dX8_status_116 : decode cX8_status 116 = .ok (.aload_n 0, 1) := by decide +kernel
theorem dX8_status_117 : decode cX8_status 117 = .ok (.iconst 4, 1) := by decide +kernel
theorem dX8_status_118 : decode cX8_status 118 = .ok (.invokevirtual 287, 3) := by decide +kernel
theorem dX8_status_121 : decode cX8_status 121 = .ok (.ireturn, 1) := by decide +kernel
theorem dX8_status_122 : decode cX8_status 122 = .ok (.aload_n 0, 1) := by decide +kernel
theorem dX8_status_123 : decode cX8_status 123 = .ok (.invokevirtual 256, 3) := by decide +kernel
theorem dX8_status_126 : decode cX8_status 126 = .ok (.ireturn, 1) := by decide +kernel
theorem dX8_status_127 : decode cX8_status 127 = .ok (.aload_n 0, 1) := by decide +kernel
theorem dX8_status_128 : decode cX8_status 128 = .ok (.invokevirtual 290, 3) := by decide +kernel
theorem dX8_status_131 : decode cX8_status 131 = .ok (.ireturn, 1) := by decide +kernel
theorem dX8_status_132 : decode cX8_status 132 = .ok (.aload_n 0, 1) := by decide +kernel
theorem dX8_status_133 : decode cX8_status 133 = .ok (.getfield 35, 3) := by decide +kernel
theorem dX8_status_136 : decode cX8_status 136 = .ok (.getfield 293, 3) := by decide +kernel
theorem dX8_status_139 : decode cX8_status 139 = .ok (.ireturn, 1) := by decide +kernel
theorem dX8_status_140 : decode cX8_status 140 = .ok (.aload_n 0, 1) := by decide +kernel
theorem dX8_status_141 : decode cX8_status 141 = .ok (.getfield 35, 3) := by decide +kernel
theorem dX8_status_144 : decode cX8_status 144 = .ok (.getfield 296, 3) := by decide +kernel
theorem dX8_status_147 : decode cX8_status 147 = .ok (.ireturn, 1) := by decide +kernel
theorem dX8_status_148 : decode cX8_status 148 = .ok (.aload_n 0, 1) := by decide +kernel
theorem dX8_status_149 : decode cX8_status 149 = .ok (.getfield 65, 3) := by decide +kernel
theorem dX8_status_152 : decode cX8_status 152 = .ok (.ifCond .eq 7, 3) := by decide +kernel
theorem dX8_status_155 : decode cX8_status 155 = .ok (.iconst 1, 1) := by decide +kernel
theorem dX8_status_156 : decode cX8_status 156 = .ok (.goto 4, 3) := by decide +kernel
theorem dX8_status_159 : decode cX8_status 159 = .ok (.iconst 0, 1) := by decide +kernel
theorem dX8_status_160 : decode cX8_status 160 = .ok (.ireturn, 1) := by decide +kernel
theorem dX8_status_161 : decode cX8_status 161 = .ok (.aload_n 0, 1) := by decide +kernel
theorem dX8_status_162 : decode cX8_status 162 = .ok (.invokevirtual 299, 3) := by decide +kernel
theorem dX8_status_165 : decode cX8_status 165 = .ok (.ireturn, 1) := by decide +kernel
theorem dX8_status_166 : decode cX8_status 166 = .ok (.aload_n 0, 1) := by decide +kernel
theorem dX8_status_167 : decode cX8_status 167 = .ok (.getfield 302, 3) := by decide +kernel
theorem dX8_status_170 : decode cX8_status 170 = .ok (.invokestatic 305, 3) := by decide +kernel
theorem dX8_status_173 : decode cX8_status 173 = .ok (.ireturn, 1) := by decide +kernel
theorem dX8_status_174 : decode cX8_status 174 = .ok (.aload_n 0, 1) := by decide +kernel
theorem dX8_status_175 : decode cX8_status 175 = .ok (.getfield 28, 3) := by decide +kernel
theorem dX8_status_178 : decode cX8_status 178 = .ok (.getfield 172, 3) := by decide +kernel
theorem dX8_status_181 : decode cX8_status 181 = .ok (.ireturn, 1) := by decide +kernel
theorem dX8_status_182 : decode cX8_status 182 = .ok (.aload_n 0, 1) := by decide +kernel
theorem dX8_status_183 : decode cX8_status 183 = .ok (.getfield 28, 3) := by decide +kernel
theorem dX8_status_186 : decode cX8_status 186 = .ok (.getfield 188, 3) := by decide +kernel
theorem dX8_status_189 : decode cX8_status 189 = .ok (.ireturn, 1) := by decide +kernel
theorem dX8_status_190 : decode cX8_status 190 = .ok (.aload_n 0, 1) := by decide +kernel
theorem dX8_status_191 : decode cX8_status 191 = .ok (.getfield 28, 3) := by decide +kernel
theorem dX8_status_194 : decode cX8_status 194 = .ok (.getfield 273, 3) := by decide +kernel
theorem dX8_status_197 : decode cX8_status 197 = .ok (.ireturn, 1) := by decide +kernel
theorem dX8_status_198 : decode cX8_status 198 = .ok (.iload_n 1, 1) := by decide +kernel
theorem dX8_status_199 : decode cX8_status 199 = .ok (.bipush 11, 2) := by decide +kernel
theorem dX8_status_201 : decode cX8_status 201 = .ok (.if_icmp .lt 21, 3) := by decide +kernel
theorem dX8_status_204 : decode cX8_status 204 = .ok (.iload_n 1, 1) := by decide +kernel
theorem dX8_status_205 : decode cX8_status 205 = .ok (.bipush 17, 2) := by decide +kernel
theorem dX8_status_207 : decode cX8_status 207 = .ok (.if_icmp .gt 15, 3) := by decide +kernel
theorem dX8_status_210 : decode cX8_status 210 = .ok (.aload_n 0, 1) := by decide +kernel
theorem dX8_status_211 : decode cX8_status 211 = .ok (.getfield 21, 3) := by decide +kernel
theorem dX8_status_214 : decode cX8_status 214 = .ok (.iload_n 1, 1) := by decide +kernel
theorem dX8_status_215 : decode cX8_status 215 = .ok (.bipush 10, 2) := by decide +kernel
theorem dX8_status_217 : decode cX8_status 217 = .ok (.isub, 1) := by decide +kernel
theorem dX8_status_218 : decode cX8_status 218 = .ok (.iaload, 1) := by decide +kernel
theorem dX8_status_219 : decode cX8_status 219 = .ok (.goto 4, 3) := by decide +kernel
theorem dX8_status_222 : decode cX8_status 222 = .ok (.iconst (-1), 1) := by decide +kernel
theorem dX8_status_223 : decode cX8_status 223 = .ok (.ireturn, 1) := by decide +kernel
theorem dX8_refuse_0 : decode cX8_refuse 0 = .ok (.iload_n 1, 1) := by decide +kernel
theorem dX8_refuse_1 : decode cX8_refuse 1 = .ok (.iconst (-1), 1) := by decide +kernel
theorem dX8_refuse_2 : decode cX8_refuse 2 = .ok (.if_icmp .gt 20, 3) := by decide +kernel
theorem dX8_refuse_5 : decode cX8_refuse 5 = .ok (.iload_n 1, 1) := by decide +kernel
theorem dX8_refuse_6 : decode cX8_refuse 6 = .ok (.bipush (-7), 2) := by decide +kernel
theorem dX8_refuse_8 : decode cX8_refuse 8 = .ok (.if_icmp .lt 14, 3) := by decide +kernel
theorem dX8_refuse_11 : decode cX8_refuse 11 = .ok (.aload_n 0, 1) := by decide +kernel
theorem dX8_refuse_12 : decode cX8_refuse 12 = .ok (.getfield 21, 3) := by decide +kernel
theorem dX8_refuse_15 : decode cX8_refuse 15 = .ok (.iload_n 1, 1) := by decide +kernel
theorem dX8_refuse_16 : decode cX8_refuse 16 = .ok (.ineg, 1) := by decide +kernel
theorem dX8_refuse_17 : decode cX8_refuse 17 = .ok (.dup2, 1) := by decide +kernel
theorem dX8_refuse_18 : decode cX8_refuse 18 = .ok (.iaload, 1) := by decide +kernel
theorem dX8_refuse_19 : decode cX8_refuse 19 = .ok (.iconst 1, 1) := by decide +kernel
theorem dX8_refuse_20 : decode cX8_refuse 20 = .ok (.iadd, 1) := by decide +kernel
theorem dX8_refuse_21 : decode cX8_refuse 21 = .ok (.iastore, 1) := by decide +kernel
theorem dX8_refuse_22 : decode cX8_refuse 22 = .ok (.iload_n 1, 1) := by decide +kernel
theorem dX8_refuse_23 : decode cX8_refuse 23 = .ok (.ireturn, 1) := by decide +kernel
theorem dX8_isBlock_0 : decode cX8_isBlock 0 = .ok (.iload_n 0, 1) := by decide +kernel
theorem dX8_isBlock_1 : decode cX8_isBlock 1 = .ok (.ifCond .lt 13, 3) := by decide +kernel
theorem dX8_isBlock_4 : decode cX8_isBlock 4 = .ok (.iload_n 0, 1) := by decide +kernel
theorem dX8_isBlock_5 : decode cX8_isBlock 5 = .ok (.bipush 6, 2) := by decide +kernel
theorem dX8_isBlock_7 : decode cX8_isBlock 7 = .ok (.if_icmp .ge 7, 3) := by decide +kernel
theorem dX8_isBlock_10 : decode cX8_isBlock 10 = .ok (.iconst 1, 1) := by decide +kernel
theorem dX8_isBlock_11 : decode cX8_isBlock 11 = .ok (.goto 4, 3) := by decide +kernel
theorem dX8_isBlock_14 : decode cX8_isBlock 14 = .ok (.iconst 0, 1) := by decide +kernel
theorem dX8_isBlock_15 : decode cX8_isBlock 15 = .ok (.ireturn, 1) := by decide +kernel
theorem dX8_isLike_0 : decode cX8_isLike 0 = .ok (.iload_n 0, 1) := by decide +kernel
theorem dX8_isLike_1 : decode cX8_isLike 1 = .ok (.ifCond .lt 12, 3) := by decide +kernel
theorem dX8_isLike_4 : decode cX8_isLike 4 = .ok (.iload_n 0, 1) := by decide +kernel
theorem dX8_isLike_5 : decode cX8_isLike 5 = .ok (.iconst 4, 1) := by decide +kernel
theorem dX8_isLike_6 : decode cX8_isLike 6 = .ok (.if_icmp .ge 7, 3) := by decide +kernel
theorem dX8_isLike_9 : decode cX8_isLike 9 = .ok (.iconst 1, 1) := by decide +kernel
theorem dX8_isLike_10 : decode cX8_isLike 10 = .ok (.goto 4, 3) := by decide +kernel
theorem dX8_isLike_13 : decode cX8_isLike 13 = .ok (.iconst 0, 1) := by decide +kernel
theorem dX8_isLike_14 : decode cX8_isLike 14 = .ok (.ireturn, 1) := by decide +kernel
theorem dX8_isShelf_0 : decode cX8_isShelf 0 = .ok (.iload_n 0, 1) := by decide +kernel
theorem dX8_isShelf_1 : decode cX8_isShelf 1 = .ok (.ifCond .lt 13, 3) := by decide +kernel
theorem dX8_isShelf_4 : decode cX8_isShelf 4 = .ok (.iload_n 0, 1) := by decide +kernel
theorem dX8_isShelf_5 : decode cX8_isShelf 5 = .ok (.bipush 8, 2) := by decide +kernel
theorem dX8_isShelf_7 : decode cX8_isShelf 7 = .ok (.if_icmp .ge 7, 3) := by decide +kernel
theorem dX8_isShelf_10 : decode cX8_isShelf 10 = .ok (.iconst 1, 1) := by decide +kernel
theorem dX8_isShelf_11 : decode cX8_isShelf 11 = .ok (.goto 4, 3) := by decide +kernel
theorem dX8_isShelf_14 : decode cX8_isShelf 14 = .ok (.iconst 0, 1) := by decide +kernel
theorem dX8_isShelf_15 : decode cX8_isShelf 15 = .ok (.ireturn, 1) := by decide +kernel
theorem dX8_isDoor_0 : decode cX8_isDoor 0 = .ok (.iload_n 1, 1) := by decide +kernel
theorem dX8_isDoor_1 : decode cX8_isDoor 1 = .ok (.ifCond .lt 15, 3) := by decide +kernel
theorem dX8_isDoor_4 : decode cX8_isDoor 4 = .ok (.iload_n 1, 1) := by decide +kernel
theorem dX8_isDoor_5 : decode cX8_isDoor 5 = .ok (.aload_n 0, 1) := by decide +kernel
theorem dX8_isDoor_6 : decode cX8_isDoor 6 = .ok (.getfield 69, 3) := by decide +kernel
theorem dX8_isDoor_9 : decode cX8_isDoor 9 = .ok (.if_icmp .ge 7, 3) := by decide +kernel
theorem dX8_isDoor_12 : decode cX8_isDoor 12 = .ok (.iconst 1, 1) := by decide +kernel
theorem dX8_isDoor_13 : decode cX8_isDoor 13 = .ok (.goto 4, 3) := by decide +kernel
theorem dX8_isDoor_16 : decode cX8_isDoor 16 = .ok (.iconst 0, 1) := by decide +kernel
theorem dX8_isDoor_17 : decode cX8_isDoor 17 = .ok (.ireturn, 1) := by decide +kernel
theorem dX8_doorAt_0 : decode cX8_doorAt 0 = .ok (.aload_n 0, 1) := by decide +kernel
theorem dX8_doorAt_1 : decode cX8_doorAt 1 = .ok (.iload_n 1, 1) := by decide +kernel
theorem dX8_doorAt_2 : decode cX8_doorAt 2 = .ok (.invokevirtual 121, 3) := by decide +kernel
theorem dX8_doorAt_5 : decode cX8_doorAt 5 = .ok (.ifCond .eq 12, 3) := by decide +kernel
theorem dX8_doorAt_8 : decode cX8_doorAt 8 = .ok (.aload_n 0, 1) := by decide +kernel
theorem dX8_doorAt_9 : decode cX8_doorAt 9 = .ok (.getfield 17, 3) := by decide +kernel
theorem dX8_doorAt_12 : decode cX8_doorAt 12 = .ok (.iload_n 1, 1) := by decide +kernel
theorem dX8_doorAt_13 : decode cX8_doorAt 13 = .ok (.aaload, 1) := by decide +kernel
theorem dX8_doorAt_14 : decode cX8_doorAt 14 = .ok (.goto 4, 3) := by decide +kernel
theorem dX8_doorAt_17 : decode cX8_doorAt 17 = .ok (.aconst_null, 1) := by decide +kernel
theorem dX8_doorAt_18 : decode cX8_doorAt 18 = .ok (.areturn, 1) := by decide +kernel
theorem dX8_fillDoor_0 : decode cX8_fillDoor 0 = .ok (.iconst (-1), 1) := by decide +kernel
theorem dX8_fillDoor_1 : decode cX8_fillDoor 1 = .ok (.istore_n 2, 1) := by decide +kernel
theorem dX8_fillDoor_2 : decode cX8_fillDoor 2 = .ok (.iconst 0, 1) := by decide +kernel
theorem dX8_fillDoor_3 : decode cX8_fillDoor 3 = .ok (.istore_n 3, 1) := by decide +kernel
theorem dX8_fillDoor_4 : decode cX8_fillDoor 4 = .ok (.iload_n 3, 1) := by decide +kernel
theorem dX8_fillDoor_5 : decode cX8_fillDoor 5 = .ok (.aload_n 0, 1) := by decide +kernel
theorem dX8_fillDoor_6 : decode cX8_fillDoor 6 = .ok (.getfield 69, 3) := by decide +kernel
theorem dX8_fillDoor_9 : decode cX8_fillDoor 9 = .ok (.if_icmp .ge 55, 3) := by decide +kernel
theorem dX8_fillDoor_12 : decode cX8_fillDoor 12 = .ok (.aload_n 0, 1) := by decide +kernel
theorem dX8_fillDoor_13 : decode cX8_fillDoor 13 = .ok (.getfield 17, 3) := by decide +kernel
theorem dX8_fillDoor_16 : decode cX8_fillDoor 16 = .ok (.iload_n 3, 1) := by decide +kernel
theorem dX8_fillDoor_17 : decode cX8_fillDoor 17 = .ok (.aaload, 1) := by decide +kernel
theorem dX8_fillDoor_18 : decode cX8_fillDoor 18 = .ok (.aload_n 0, 1) := by decide +kernel
theorem dX8_fillDoor_19 : decode cX8_fillDoor 19 = .ok (.getfield 17, 3) := by decide +kernel
theorem dX8_fillDoor_22 : decode cX8_fillDoor 22 = .ok (.iload_n 1, 1) := by decide +kernel
theorem dX8_fillDoor_23 : decode cX8_fillDoor 23 = .ok (.aaload, 1) := by decide +kernel
theorem dX8_fillDoor_24 : decode cX8_fillDoor 24 = .ok (.getfield 178, 3) := by decide +kernel
theorem dX8_fillDoor_27 : decode cX8_fillDoor 27 = .ok (.invokevirtual 310, 3) := by decide +kernel
theorem dX8_fillDoor_30 : decode cX8_fillDoor 30 = .ok (.ifCond .ne 6, 3) := by decide +kernel
theorem dX8_fillDoor_33 : decode cX8_fillDoor 33 = .ok (.goto 25, 3) := by decide +kernel
theorem dX8_fillDoor_36 : decode cX8_fillDoor 36 = .ok (.iload_n 2, 1) := by decide +kernel
theorem dX8_fillDoor_37 : decode cX8_fillDoor 37 = .ok (.iconst (-1), 1) := by decide +kernel
theorem dX8_fillDoor_38 : decode cX8_fillDoor 38 = .ok (.if_icmp .eq 18, 3) := by decide +kernel
theorem dX8_fillDoor_41 : decode cX8_fillDoor 41 = .ok (.iload_n 3, 1) := by decide +kernel
theorem dX8_fillDoor_42 : decode cX8_fillDoor 42 = .ok (.iload_n 1, 1) := by decide +kernel
theorem dX8_fillDoor_43 : decode cX8_fillDoor 43 = .ok (.isub, 1) := by decide +kernel
theorem dX8_fillDoor_44 : decode cX8_fillDoor 44 = .ok (.invokestatic 313, 3) := by decide +kernel
theorem dX8_fillDoor_47 : decode cX8_fillDoor 47 = .ok (.iload_n 2, 1) := by decide +kernel
theorem dX8_fillDoor_48 : decode cX8_fillDoor 48 = .ok (.iload_n 1, 1) := by decide +kernel
theorem dX8_fillDoor_49 : decode cX8_fillDoor 49 = .ok (.isub, 1) := by decide +kernel
theorem dX8_fillDoor_50 : decode cX8_fillDoor 50 = .ok (.invokestatic 313, 3) := by decide +kernel
theorem dX8_fillDoor_53 : decode cX8_fillDoor 53 = .ok (.if_icmp .ge 5, 3) := by decide +kernel
theorem dX8_fillDoor_56 : decode cX8_fillDoor 56 = .ok (.iload_n 3, 1) := by decide +kernel
theorem dX8_fillDoor_57 : decode cX8_fillDoor 57 = .ok (.istore_n 2, 1) := by decide +kernel
theorem dX8_fillDoor_58 : decode cX8_fillDoor 58 = .ok (.iinc 3 1, 3) := by decide +kernel
theorem dX8_fillDoor_61 : decode cX8_fillDoor 61 = .ok (.goto (-57), 3) := by decide +kernel
theorem dX8_fillDoor_64 : decode cX8_fillDoor 64 = .ok (.iload_n 2, 1) := by decide +kernel
theorem dX8_fillDoor_65 : decode cX8_fillDoor 65 = .ok (.iconst (-1), 1) := by decide +kernel
theorem dX8_fillDoor_66 : decode cX8_fillDoor 66 = .ok (.if_icmp .ne 5, 3) := by decide +kernel
theorem dX8_fillDoor_69 : decode cX8_fillDoor 69 = .ok (.iconst 0, 1) := by decide +kernel
theorem dX8_fillDoor_70 : decode cX8_fillDoor 70 = .ok (.ireturn, 1) := by decide +kernel
theorem dX8_fillDoor_71 : decode cX8_fillDoor 71 = .ok (.aload_n 0, 1) := by decide +kernel
theorem dX8_fillDoor_72 : decode cX8_fillDoor 72 = .ok (.getfield 17, 3) := by decide +kernel
theorem dX8_fillDoor_75 : decode cX8_fillDoor 75 = .ok (.iload_n 1, 1) := by decide +kernel
theorem dX8_fillDoor_76 : decode cX8_fillDoor 76 = .ok (.aaload, 1) := by decide +kernel
theorem dX8_fillDoor_77 : decode cX8_fillDoor 77 = .ok (.aload_n 0, 1) := by decide +kernel
theorem dX8_fillDoor_78 : decode cX8_fillDoor 78 = .ok (.getfield 17, 3) := by decide +kernel
theorem dX8_fillDoor_81 : decode cX8_fillDoor 81 = .ok (.iload_n 2, 1) := by decide +kernel
theorem dX8_fillDoor_82 : decode cX8_fillDoor 82 = .ok (.aaload, 1) := by decide +kernel
theorem dX8_fillDoor_83 : decode cX8_fillDoor 83 = .ok (.iload_n 2, 1) := by decide +kernel
theorem dX8_fillDoor_84 : decode cX8_fillDoor 84 = .ok (.invokevirtual 316, 3) := by decide +kernel
theorem dX8_fillDoor_87 : decode cX8_fillDoor 87 = .ok (.iconst 1, 1) := by decide +kernel
theorem dX8_fillDoor_88 : decode cX8_fillDoor 88 = .ok (.ireturn, 1) := by decide +kernel
theorem dX8_doorsOf_0 : decode cX8_doorsOf 0 = .ok (.iconst 0, 1) := by decide +kernel
theorem dX8_doorsOf_1 : decode cX8_doorsOf 1 = .ok (.istore_n 2, 1) := by decide +kernel
theorem dX8_doorsOf_2 : decode cX8_doorsOf 2 = .ok (.iconst 0, 1) := by decide +kernel
theorem dX8_doorsOf_3 : decode cX8_doorsOf 3 = .ok (.istore_n 3, 1) := by decide +kernel
theorem dX8_doorsOf_4 : decode cX8_doorsOf 4 = .ok (.iload_n 3, 1) := by decide +kernel
theorem dX8_doorsOf_5 : decode cX8_doorsOf 5 = .ok (.aload_n 0, 1) := by decide +kernel
theorem dX8_doorsOf_6 : decode cX8_doorsOf 6 = .ok (.getfield 69, 3) := by decide +kernel
theorem dX8_doorsOf_9 : decode cX8_doorsOf 9 = .ok (.if_icmp .ge 25, 3) := by decide +kernel
theorem dX8_doorsOf_12 : decode cX8_doorsOf 12 = .ok (.aload_n 0, 1) := by decide +kernel
theorem dX8_doorsOf_13 : decode cX8_doorsOf 13 = .ok (.getfield 17, 3) := by decide +kernel
theorem dX8_doorsOf_16 : decode cX8_doorsOf 16 = .ok (.iload_n 3, 1) := by decide +kernel
theorem dX8_doorsOf_17 : decode cX8_doorsOf 17 = .ok (.aaload, 1) := by decide +kernel
theorem dX8_doorsOf_18 : decode cX8_doorsOf 18 = .ok (.getfield 143, 3) := by decide +kernel
theorem dX8_doorsOf_21 : decode cX8_doorsOf 21 = .ok (.iload_n 1, 1) := by decide +kernel
theorem dX8_doorsOf_22 : decode cX8_doorsOf 22 = .ok (.if_icmp .ne 6, 3) := by decide +kernel
theorem dX8_doorsOf_25 : decode cX8_doorsOf 25 = .ok (.iinc 2 1, 3) := by decide +kernel
theorem dX8_doorsOf_28 : decode cX8_doorsOf 28 = .ok (.iinc 3 1, 3) := by decide +kernel
theorem dX8_doorsOf_31 : decode cX8_doorsOf 31 = .ok (.goto (-27), 3) := by decide +kernel
theorem dX8_doorsOf_34 : decode cX8_doorsOf 34 = .ok (.iload_n 2, 1) := by decide +kernel
theorem dX8_doorsOf_35 : decode cX8_doorsOf 35 = .ok (.ireturn, 1) := by decide +kernel
theorem dX8_keepSecond_0 : decode cX8_keepSecond 0 = .ok (.iconst 0, 1) := by decide +kernel
theorem dX8_keepSecond_1 : decode cX8_keepSecond 1 = .ok (.istore_n 3, 1) := by decide +kernel
theorem dX8_keepSecond_2 : decode cX8_keepSecond 2 = .ok (.iconst 0, 1) := by decide +kernel
theorem dX8_keepSecond_3 : decode cX8_keepSecond 3 = .ok (.istore 4, 2) := by decide +kernel
theorem dX8_keepSecond_5 : decode cX8_keepSecond 5 = .ok (.iconst 0, 1) := by decide +kernel
theorem dX8_keepSecond_6 : decode cX8_keepSecond 6 = .ok (.istore 5, 2) := by decide +kernel
theorem dX8_keepSecond_8 : decode cX8_keepSecond 8 = .ok (.iload 5, 2) := by decide +kernel
theorem dX8_keepSecond_10 : decode cX8_keepSecond 10 = .ok (.aload_n 0, 1) := by decide +kernel
theorem dX8_keepSecond_11 : decode cX8_keepSecond 11 = .ok (.getfield 69, 3) := by decide +kernel
theorem dX8_keepSecond_14 : decode cX8_keepSecond 14 = .ok (.if_icmp .ge 64, 3) := by decide +kernel
theorem dX8_keepSecond_17 : decode cX8_keepSecond 17 = .ok (.aload_n 0, 1) := by decide +kernel
theorem dX8_keepSecond_18 : decode cX8_keepSecond 18 = .ok (.getfield 17, 3) := by decide +kernel
theorem dX8_keepSecond_21 : decode cX8_keepSecond 21 = .ok (.iload 5, 2) := by decide +kernel
theorem dX8_keepSecond_23 : decode cX8_keepSecond 23 = .ok (.aaload, 1) := by decide +kernel
theorem dX8_keepSecond_24 : decode cX8_keepSecond 24 = .ok (.getfield 143, 3) := by decide +kernel
theorem dX8_keepSecond_27 : decode cX8_keepSecond 27 = .ok (.iload_n 1, 1) := by decide +kernel
theorem dX8_keepSecond_28 : decode cX8_keepSecond 28 = .ok (.if_icmp .ne 44, 3) := by decide +kernel
theorem dX8_keepSecond_31 : decode cX8_keepSecond 31 = .ok (.aload_n 2, 1) := by decide +kernel
theorem dX8_keepSecond_32 : decode cX8_keepSecond 32 = .ok (.iload 4, 2) := by decide +kernel
theorem dX8_keepSecond_34 : decode cX8_keepSecond 34 = .ok (.invokevirtual 91, 3) := by decide +kernel
theorem dX8_keepSecond_37 : decode cX8_keepSecond 37 = .ok (.ifCond .eq 35, 3) := by decide +kernel
theorem dX8_keepSecond_40 : decode cX8_keepSecond 40 = .ok (.aload_n 0, 1) := by decide +kernel
theorem dX8_keepSecond_41 : decode cX8_keepSecond 41 = .ok (.getfield 17, 3) := by decide +kernel
theorem dX8_keepSecond_44 : decode cX8_keepSecond 44 = .ok (.iload 5, 2) := by decide +kernel
theorem dX8_keepSecond_46 : decode cX8_keepSecond 46 = .ok (.aaload, 1) := by decide +kernel
theorem dX8_keepSecond_47 : decode cX8_keepSecond 47 = .ok (.aload_n 2, 1) := by decide +kernel
theorem dX8_keepSecond_48 : decode cX8_keepSecond 48 = .ok (.iload 4, 2) := by decide +kernel
theorem dX8_keepSecond_50 : decode cX8_keepSecond 50 = .ok (.invokevirtual 237, 3) := by decide +kernel
theorem dX8_keepSecond_53 : decode cX8_keepSecond 53 = .ok (.putfield 244, 3) := by decide +kernel
theorem dX8_keepSecond_56 : decode cX8_keepSecond 56 = .ok (.iload_n 3, 1) := by decide +kernel
theorem dX8_keepSecond_57 : decode cX8_keepSecond 57 = .ok (.aload_n 0, 1) := by decide +kernel
theorem dX8_keepSecond_58 : decode cX8_keepSecond 58 = .ok (.getfield 17, 3) := by decide +kernel
theorem dX8_keepSecond_61 : decode cX8_keepSecond 61 = .ok (.iload 5, 2) := by decide +kernel
theorem dX8_keepSecond_63 : decode cX8_keepSecond 63 = .ok (.aaload, 1) := by decide +kernel
theorem dX8_keepSecond_64 : decode cX8_keepSecond 64 = .ok (.getfield 244, 3) := by decide +kernel
theorem dX8_keepSecond_67 : decode cX8_keepSecond 67 = .ok (.iadd, 1) := by decide +kernel
theorem dX8_keepSecond_68 : decode cX8_keepSecond 68 = .ok (.istore_n 3, 1) := by decide +kernel
theorem dX8_keepSecond_69 : decode cX8_keepSecond 69 = .ok (.iinc 4 1, 3) := by decide +kernel
theorem dX8_keepSecond_72 : decode cX8_keepSecond 72 = .ok (.iinc 5 1, 3) := by decide +kernel
theorem dX8_keepSecond_75 : decode cX8_keepSecond 75 = .ok (.goto (-67), 3) := by decide +kernel
theorem dX8_keepSecond_78 : decode cX8_keepSecond 78 = .ok (.aload_n 0, 1) := by decide +kernel
theorem dX8_keepSecond_79 : decode cX8_keepSecond 79 = .ok (.dup, 1) := by decide +kernel
theorem dX8_keepSecond_80 : decode cX8_keepSecond 80 = .ok (.getfield 302, 3) := by decide +kernel
theorem dX8_keepSecond_83 : decode cX8_keepSecond 83 = .ok (.iconst 1, 1) := by decide +kernel
theorem dX8_keepSecond_84 : decode cX8_keepSecond 84 = .ok (.iload_n 1, 1) := by decide +kernel
theorem dX8_keepSecond_85 : decode cX8_keepSecond 85 = .ok (.ishl, 1) := by decide +kernel
theorem dX8_keepSecond_86 : decode cX8_keepSecond 86 = .ok (.ior, 1) := by decide +kernel
theorem dX8_keepSecond_87 : decode cX8_keepSecond 87 = .ok (.putfield 302, 3) := by decide +kernel
theorem dX8_keepSecond_90 : decode cX8_keepSecond 90 = .ok (.iload_n 3, 1) := by decide +kernel
theorem dX8_keepSecond_91 : decode cX8_keepSecond 91 = .ok (.ireturn, 1) := by decide +kernel
theorem dX8_doorsWith_0 : decode cX8_doorsWith 0 = .ok (.iconst 0, 1) := by decide +kernel
theorem dX8_doorsWith_1 : decode cX8_doorsWith 1 = .ok (.istore_n 2, 1) := by decide +kernel
theorem dX8_doorsWith_2 : decode cX8_doorsWith 2 = .ok (.iconst 0, 1) := by decide +kernel
theorem dX8_doorsWith_3 : decode cX8_doorsWith 3 = .ok (.istore_n 3, 1) := by decide +kernel
theorem dX8_doorsWith_4 : decode cX8_doorsWith 4 = .ok (.iload_n 3, 1) := by decide +kernel
theorem dX8_doorsWith_5 : decode cX8_doorsWith 5 = .ok (.aload_n 0, 1) := by decide +kernel
theorem dX8_doorsWith_6 : decode cX8_doorsWith 6 = .ok (.getfield 69, 3) := by decide +kernel
theorem dX8_doorsWith_9 : decode cX8_doorsWith 9 = .ok (.if_icmp .ge 25, 3) := by decide +kernel
theorem dX8_doorsWith_12 : decode cX8_doorsWith 12 = .ok (.aload_n 0, 1) := by decide +kernel
theorem dX8_doorsWith_13 : decode cX8_doorsWith 13 = .ok (.getfield 17, 3) := by decide +kernel
theorem dX8_doorsWith_16 : decode cX8_doorsWith 16 = .ok (.iload_n 3, 1) := by decide +kernel
theorem dX8_doorsWith_17 : decode cX8_doorsWith 17 = .ok (.aaload, 1) := by decide +kernel
theorem dX8_doorsWith_18 : decode cX8_doorsWith 18 = .ok (.getfield 185, 3) := by decide +kernel
theorem dX8_doorsWith_21 : decode cX8_doorsWith 21 = .ok (.iload_n 1, 1) := by decide +kernel
theorem dX8_doorsWith_22 : decode cX8_doorsWith 22 = .ok (.if_icmp .ne 6, 3) := by decide +kernel
theorem dX8_doorsWith_25 : decode cX8_doorsWith 25 = .ok (.iinc 2 1, 3) := by decide +kernel
theorem dX8_doorsWith_28 : decode cX8_doorsWith 28 = .ok (.iinc 3 1, 3) := by decide +kernel
theorem dX8_doorsWith_31 : decode cX8_doorsWith 31 = .ok (.goto (-27), 3) := by decide +kernel
theorem dX8_doorsWith_34 : decode cX8_doorsWith 34 = .ok (.iload_n 2, 1) := by decide +kernel
theorem dX8_doorsWith_35 : decode cX8_doorsWith 35 = .ok (.ireturn, 1) := by decide +kernel
theorem dX8_doorsToBeAsked_0 : decode cX8_doorsToBeAsked 0 = .ok (.iconst 0, 1) := by decide +kernel
theorem dX8_doorsToBeAsked_1 : decode cX8_doorsToBeAsked 1 = .ok (.istore_n 1, 1) := by decide +kernel
theorem dX8_doorsToBeAsked_2 : decode cX8_doorsToBeAsked 2 = .ok (.iconst 0, 1) := by decide +kernel
theorem dX8_doorsToBeAsked_3 : decode cX8_doorsToBeAsked 3 = .ok (.istore_n 2, 1) := by decide +kernel
theorem dX8_doorsToBeAsked_4 : decode cX8_doorsToBeAsked 4 = .ok (.iload_n 2, 1) := by decide +kernel
theorem dX8_doorsToBeAsked_5 : decode cX8_doorsToBeAsked 5 = .ok (.aload_n 0, 1) := by decide +kernel
theorem dX8_doorsToBeAsked_6 : decode cX8_doorsToBeAsked 6 = .ok (.getfield 69, 3) := by decide +kernel
theorem dX8_doorsToBeAsked_9 : decode cX8_doorsToBeAsked 9 = .ok (.if_icmp .ge 24, 3) := by decide +kernel
theorem dX8_doorsToBeAsked_12 : decode cX8_doorsToBeAsked 12 = .ok (.aload_n 0, 1) := by decide +kernel
theorem dX8_doorsToBeAsked_13 : decode cX8_doorsToBeAsked 13 = .ok (.getfield 17, 3) := by decide +kernel
theorem dX8_doorsToBeAsked_16 : decode cX8_doorsToBeAsked 16 = .ok (.iload_n 2, 1) := by decide +kernel
theorem dX8_doorsToBeAsked_17 : decode cX8_doorsToBeAsked 17 = .ok (.aaload, 1) := by decide +kernel
theorem dX8_doorsToBeAsked_18 : decode cX8_doorsToBeAsked 18 = .ok (.invokevirtual 160, 3) := by decide +kernel
theorem dX8_doorsToBeAsked_21 : decode cX8_doorsToBeAsked 21 = .ok (.ifCond .eq 6, 3) := by decide +kernel
theorem dX8_doorsToBeAsked_24 : decode cX8_doorsToBeAsked 24 = .ok (.iinc 1 1, 3) := by decide +kernel
theorem dX8_doorsToBeAsked_27 : decode cX8_doorsToBeAsked 27 = .ok (.iinc 2 1, 3) := by decide +kernel
theorem dX8_doorsToBeAsked_30 : decode cX8_doorsToBeAsked 30 = .ok (.goto (-26), 3) := by decide +kernel
theorem dX8_doorsToBeAsked_33 : decode cX8_doorsToBeAsked 33 = .ok (.iload_n 1, 1) := by decide +kernel
theorem dX8_doorsToBeAsked_34 : decode cX8_doorsToBeAsked 34 = .ok (.ireturn, 1) := by decide +kernel
theorem dX8_countedHeads_0 : decode cX8_countedHeads 0 = .ok (.iconst 0, 1) := by decide +kernel
theorem dX8_countedHeads_1 : decode cX8_countedHeads 1 = .ok (.istore_n 1, 1) := by decide +kernel
theorem dX8_countedHeads_2 : decode cX8_countedHeads 2 = .ok (.iconst 0, 1) := by decide +kernel
theorem dX8_countedHeads_3 : decode cX8_countedHeads 3 = .ok (.istore_n 2, 1) := by decide +kernel
theorem dX8_countedHeads_4 : decode cX8_countedHeads 4 = .ok (.iload_n 2, 1) := by decide +kernel
theorem dX8_countedHeads_5 : decode cX8_countedHeads 5 = .ok (.aload_n 0, 1) := by decide +kernel
theorem dX8_countedHeads_6 : decode cX8_countedHeads 6 = .ok (.getfield 69, 3) := by decide +kernel
theorem dX8_countedHeads_9 : decode cX8_countedHeads 9 = .ok (.if_icmp .ge 21, 3) := by decide +kernel
theorem dX8_countedHeads_12 : decode cX8_countedHeads 12 = .ok (.iload_n 1, 1) := by decide +kernel
theorem dX8_countedHeads_13 : decode cX8_countedHeads 13 = .ok (.aload_n 0, 1) := by decide +kernel
theorem dX8_countedHeads_14 : decode cX8_countedHeads 14 = .ok (.getfield 17, 3) := by decide +kernel
theorem dX8_countedHeads_17 : decode cX8_countedHeads 17 = .ok (.iload_n 2, 1) := by decide +kernel
theorem dX8_countedHeads_18 : decode cX8_countedHeads 18 = .ok (.aaload, 1) := by decide +kernel
theorem dX8_countedHeads_19 : decode cX8_countedHeads 19 = .ok (.invokevirtual 247, 3) := by decide +kernel
theorem dX8_countedHeads_22 : decode cX8_countedHeads 22 = .ok (.iadd, 1) := by decide +kernel
theorem dX8_countedHeads_23 : decode cX8_countedHeads 23 = .ok (.istore_n 1, 1) := by decide +kernel
theorem dX8_countedHeads_24 : decode cX8_countedHeads 24 = .ok (.iinc 2 1, 3) := by decide +kernel
theorem dX8_countedHeads_27 : decode cX8_countedHeads 27 = .ok (.goto (-23), 3) := by decide +kernel
theorem dX8_countedHeads_30 : decode cX8_countedHeads 30 = .ok (.iload_n 1, 1) := by decide +kernel
theorem dX8_countedHeads_31 : decode cX8_countedHeads 31 = .ok (.ireturn, 1) := by decide +kernel
theorem dX8_struckHeads_0 : decode cX8_struckHeads 0 = .ok (.iconst 0, 1) := by decide +kernel
theorem dX8_struckHeads_1 : decode cX8_struckHeads 1 = .ok (.istore_n 1, 1) := by decide +kernel
theorem dX8_struckHeads_2 : decode cX8_struckHeads 2 = .ok (.iconst 0, 1) := by decide +kernel
theorem dX8_struckHeads_3 : decode cX8_struckHeads 3 = .ok (.istore_n 2, 1) := by decide +kernel
theorem dX8_struckHeads_4 : decode cX8_struckHeads 4 = .ok (.iload_n 2, 1) := by decide +kernel
theorem dX8_struckHeads_5 : decode cX8_struckHeads 5 = .ok (.aload_n 0, 1) := by decide +kernel
theorem dX8_struckHeads_6 : decode cX8_struckHeads 6 = .ok (.getfield 69, 3) := by decide +kernel
theorem dX8_struckHeads_9 : decode cX8_struckHeads 9 = .ok (.if_icmp .ge 24, 3) := by decide +kernel
theorem dX8_struckHeads_12 : decode cX8_struckHeads 12 = .ok (.iload_n 1, 1) := by decide +kernel
theorem dX8_struckHeads_13 : decode cX8_struckHeads 13 = .ok (.aload_n 0, 1) := by decide +kernel
theorem dX8_struckHeads_14 : decode cX8_struckHeads 14 = .ok (.getfield 17, 3) := by decide +kernel
theorem dX8_struckHeads_17 : decode cX8_struckHeads 17 = .ok (.iload_n 2, 1) := by decide +kernel
theorem dX8_struckHeads_18 : decode cX8_struckHeads 18 = .ok (.aaload, 1) := by decide +kernel
theorem dX8_struckHeads_19 : decode cX8_struckHeads 19 = .ok (.getfield 320, 3) := by decide +kernel
theorem dX8_struckHeads_22 : decode cX8_struckHeads 22 = .ok (.invokestatic 305, 3) := by decide +kernel
theorem dX8_struckHeads_25 : decode cX8_struckHeads 25 = .ok (.iadd, 1) := by decide +kernel
theorem dX8_struckHeads_26 : decode cX8_struckHeads 26 = .ok (.istore_n 1, 1) := by decide +kernel
theorem dX8_struckHeads_27 : decode cX8_struckHeads 27 = .ok (.iinc 2 1, 3) := by decide +kernel
theorem dX8_struckHeads_30 : decode cX8_struckHeads 30 = .ok (.goto (-26), 3) := by decide +kernel
theorem dX8_struckHeads_33 : decode cX8_struckHeads 33 = .ok (.iload_n 1, 1) := by decide +kernel
theorem dX8_struckHeads_34 : decode cX8_struckHeads 34 = .ok (.ireturn, 1) := by decide +kernel
theorem dX8_commonDivisor_0 : decode cX8_commonDivisor 0 = .ok (.lload_n 0, 1) := by decide +kernel
theorem dX8_commonDivisor_1 : decode cX8_commonDivisor 1 = .ok (.lstore 4, 2) := by decide +kernel
theorem dX8_commonDivisor_3 : decode cX8_commonDivisor 3 = .ok (.lload_n 2, 1) := by decide +kernel
theorem dX8_commonDivisor_4 : decode cX8_commonDivisor 4 = .ok (.lstore 6, 2) := by decide +kernel
theorem dX8_commonDivisor_6 : decode cX8_commonDivisor 6 = .ok (.iconst 0, 1) := by decide +kernel
theorem dX8_commonDivisor_7 : decode cX8_commonDivisor 7 = .ok (.istore 8, 2) := by decide +kernel
theorem dX8_commonDivisor_9 : decode cX8_commonDivisor 9 = .ok (.iload 8, 2) := by decide +kernel
theorem dX8_commonDivisor_11 : decode cX8_commonDivisor 11 = .ok (.sipush 200, 3) := by decide +kernel
theorem dX8_commonDivisor_14 : decode cX8_commonDivisor 14 = .ok (.if_icmp .ge 31, 3) := by decide +kernel
theorem dX8_commonDivisor_17 : decode cX8_commonDivisor 17 = .ok (.lload 6, 2) := by decide +kernel
theorem dX8_commonDivisor_19 : decode cX8_commonDivisor 19 = .ok (.lconst 0, 1) := by decide +kernel
theorem dX8_commonDivisor_20 : decode cX8_commonDivisor 20 = .ok (.lcmp, 1) := by decide +kernel
theorem dX8_commonDivisor_21 : decode cX8_commonDivisor 21 = .ok (.ifCond .eq 24, 3) := by decide +kernel
theorem dX8_commonDivisor_24 : decode cX8_commonDivisor 24 = .ok (.lload 4, 2) := by decide +kernel
theorem dX8_commonDivisor_26 : decode cX8_commonDivisor 26 = .ok (.lload 6, 2) := by decide +kernel
theorem dX8_commonDivisor_28 : decode cX8_commonDivisor 28 = .ok (.lrem, 1) := by decide +kernel
theorem dX8_commonDivisor_29 : decode cX8_commonDivisor 29 = .ok (.lstore 9, 2) := by decide +kernel
theorem dX8_commonDivisor_31 : decode cX8_commonDivisor 31 = .ok (.lload 6, 2) := by decide +kernel
theorem dX8_commonDivisor_33 : decode cX8_commonDivisor 33 = .ok (.lstore 4, 2) := by decide +kernel
theorem dX8_commonDivisor_35 : decode cX8_commonDivisor 35 = .ok (.lload 9, 2) := by decide +kernel
theorem dX8_commonDivisor_37 : decode cX8_commonDivisor 37 = .ok (.lstore 6, 2) := by decide +kernel
theorem dX8_commonDivisor_39 : decode cX8_commonDivisor 39 = .ok (.iinc 8 1, 3) := by decide +kernel
theorem dX8_commonDivisor_42 : decode cX8_commonDivisor 42 = .ok (.goto (-33), 3) := by decide +kernel
theorem dX8_commonDivisor_45 : decode cX8_commonDivisor 45 = .ok (.lload 4, 2) := by decide +kernel
theorem dX8_commonDivisor_47 : decode cX8_commonDivisor 47 = .ok (.lreturn, 1) := by decide +kernel
