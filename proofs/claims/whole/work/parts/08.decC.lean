theorem dX8_init_0 : decode cX8_init 0 = .ok (.aload_n 0, 1) := by decide +kernel
theorem dX8_init_1 : decode cX8_init 1 = .ok (.invokespecial 1, 3) := by decide +kernel
theorem dX8_init_4 : decode cX8_init 4 = .ok (.aload_n 0, 1) := by decide +kernel
theorem dX8_init_5 : decode cX8_init 5 = .ok (.bipush 6, 2) := by decide +kernel
theorem dX8_init_7 : decode cX8_init 7 = .ok (.newarray .int, 2) := by decide +kernel
theorem dX8_init_9 : decode cX8_init 9 = .ok (.putfield 7, 3) := by decide +kernel
theorem dX8_init_12 : decode cX8_init 12 = .ok (.aload_n 0, 1) := by decide +kernel
theorem dX8_init_13 : decode cX8_init 13 = .ok (.bipush 6, 2) := by decide +kernel
theorem dX8_init_15 : decode cX8_init 15 = .ok (.newarray .int, 2) := by decide +kernel
theorem dX8_init_17 : decode cX8_init 17 = .ok (.putfield 13, 3) := by decide +kernel
theorem dX8_init_20 : decode cX8_init 20 = .ok (.aload_n 0, 1) := by decide +kernel
theorem dX8_init_21 : decode cX8_init 21 = .ok (.bipush 6, 2) := by decide +kernel
theorem dX8_init_23 : decode cX8_init 23 = .ok (.newarray .int, 2) := by decide +kernel
theorem dX8_init_25 : decode cX8_init 25 = .ok (.putfield 16, 3) := by decide +kernel
theorem dX8_init_28 : decode cX8_init 28 = .ok (.aload_n 0, 1) := by decide +kernel
theorem dX8_init_29 : decode cX8_init 29 = .ok (.bipush 60, 2) := by decide +kernel
theorem dX8_init_31 : decode cX8_init 31 = .ok (.newarray .int, 2) := by decide +kernel
theorem dX8_init_33 : decode cX8_init 33 = .ok (.putfield 19, 3) := by decide +kernel
theorem dX8_init_36 : decode cX8_init 36 = .ok (.aload_n 0, 1) := by decide +kernel
theorem dX8_init_37 : decode cX8_init 37 = .ok (.bipush 60, 2) := by decide +kernel
theorem dX8_init_39 : decode cX8_init 39 = .ok (.newarray .int, 2) := by decide +kernel
theorem dX8_init_41 : decode cX8_init 41 = .ok (.putfield 22, 3) := by decide +kernel
theorem dX8_init_44 : decode cX8_init 44 = .ok (.aload_n 0, 1) := by decide +kernel
theorem dX8_init_45 : decode cX8_init 45 = .ok (.bipush 30, 2) := by decide +kernel
theorem dX8_init_47 : decode cX8_init 47 = .ok (.newarray .int, 2) := by decide +kernel
theorem dX8_init_49 : decode cX8_init 49 = .ok (.putfield 25, 3) := by decide +kernel
theorem dX8_init_52 : decode cX8_init 52 = .ok (.aload_n 0, 1) := by decide +kernel
theorem dX8_init_53 : decode cX8_init 53 = .ok (.bipush 30, 2) := by decide +kernel
theorem dX8_init_55 : decode cX8_init 55 = .ok (.newarray .int, 2) := by decide +kernel
theorem dX8_init_57 : decode cX8_init 57 = .ok (.putfield 28, 3) := by decide +kernel
theorem dX8_init_60 : decode cX8_init 60 = .ok (.aload_n 0, 1) := by decide +kernel
theorem dX8_init_61 : decode cX8_init 61 = .ok (.sipush 1024, 3) := by decide +kernel
theorem dX8_init_64 : decode cX8_init 64 = .ok (.newarray .int, 2) := by decide +kernel
theorem dX8_init_66 : decode cX8_init 66 = .ok (.putfield 31, 3) := by decide +kernel
theorem dX8_init_69 : decode cX8_init 69 = .ok (.aload_n 0, 1) := by decide +kernel
theorem dX8_init_70 : decode cX8_init 70 = .ok (.bipush 62, 2) := by decide +kernel
theorem dX8_init_72 : decode cX8_init 72 = .ok (.newarray .int, 2) := by decide +kernel
theorem dX8_init_74 : decode cX8_init 74 = .ok (.putfield 34, 3) := by decide +kernel
theorem dX8_init_77 : decode cX8_init 77 = .ok (.aload_n 0, 1) := by decide +kernel
theorem dX8_init_78 : decode cX8_init 78 = .ok (.sipush 200, 3) := by decide +kernel
theorem dX8_init_81 : decode cX8_init 81 = .ok (.newarray .int, 2) := by decide +kernel
theorem dX8_init_83 : decode cX8_init 83 = .ok (.putfield 37, 3) := by decide +kernel
theorem dX8_init_86 : decode cX8_init 86 = .ok (.aload_n 0, 1) := by decide +kernel
theorem dX8_init_87 : decode cX8_init 87 = .ok (.iconst 2, 1) := by decide +kernel
theorem dX8_init_88 : decode cX8_init 88 = .ok (.newarray .boolean, 2) := by decide +kernel
theorem dX8_init_90 : decode cX8_init 90 = .ok (.putfield 40, 3) := by decide +kernel
theorem dX8_init_93 : decode cX8_init 93 = .ok (.aload_n 0, 1) := by decide +kernel
theorem dX8_init_94 : decode cX8_init 94 = .ok (.bipush 20, 2) := by decide +kernel
theorem dX8_init_96 : decode cX8_init 96 = .ok (.putfield 44, 3) := by decide +kernel
theorem dX8_init_99 : decode cX8_init 99 = .ok (.return_, 1) := by decide +kernel
theorem dX8_in_0 : decode cX8_in 0 = .ok (.lload_n 0, 1) := by decide +kernel
theorem dX8_in_1 : decode cX8_in 1 = .ok (.lload_n 2, 1) := by decide +kernel
theorem dX8_in_2 : decode cX8_in 2 = .ok (.lcmp, 1) := by decide +kernel
theorem dX8_in_3 : decode cX8_in 3 = .ok (.ifCond .lt 14, 3) := by decide +kernel
theorem dX8_in_6 : decode cX8_in 6 = .ok (.lload_n 0, 1) := by decide +kernel
theorem dX8_in_7 : decode cX8_in 7 = .ok (.lload 4, 2) := by decide +kernel
theorem dX8_in_9 : decode cX8_in 9 = .ok (.lcmp, 1) := by decide +kernel
theorem dX8_in_10 : decode cX8_in 10 = .ok (.ifCond .gt 7, 3) := by decide +kernel
theorem dX8_in_13 : decode cX8_in 13 = .ok (.iconst 1, 1) := by decide +kernel
theorem dX8_in_14 : decode cX8_in 14 = .ok (.goto 4, 3) := by decide +kernel
theorem dX8_in_17 : decode cX8_in 17 = .ok (.iconst 0, 1) := by decide +kernel
theorem dX8_in_18 : decode cX8_in 18 = .ok (.ireturn, 1) := by decide +kernel
theorem dX8_ones_0 : decode cX8_ones 0 = .ok (.iconst 0, 1) := by decide +kernel
theorem dX8_ones_1 : decode cX8_ones 1 = .ok (.istore_n 1, 1) := by decide +kernel
theorem dX8_ones_2 : decode cX8_ones 2 = .ok (.iload_n 0, 1) := by decide +kernel
theorem dX8_ones_3 : decode cX8_ones 3 = .ok (.istore_n 2, 1) := by decide +kernel
theorem dX8_ones_4 : decode cX8_ones 4 = .ok (.iload_n 2, 1) := by decide +kernel
theorem dX8_ones_5 : decode cX8_ones 5 = .ok (.ifCond .eq 15, 3) := by decide +kernel
theorem dX8_ones_8 : decode cX8_ones 8 = .ok (.iinc 1 1, 3) := by decide +kernel
theorem dX8_ones_11 : decode cX8_ones 11 = .ok (.iload_n 2, 1) := by decide +kernel
theorem dX8_ones_12 : decode cX8_ones 12 = .ok (.iload_n 2, 1) := by decide +kernel
theorem dX8_ones_13 : decode cX8_ones 13 = .ok (.iconst 1, 1) := by decide +kernel
theorem dX8_ones_14 : decode cX8_ones 14 = .ok (.isub, 1) := by decide +kernel
theorem dX8_ones_15 : decode cX8_ones 15 = .ok (.iand, 1) := by decide +kernel
theorem dX8_ones_16 : decode cX8_ones 16 = .ok (.istore_n 2, 1) := by decide +kernel
theorem dX8_ones_17 : decode cX8_ones 17 = .ok (.goto (-13), 3) := by decide +kernel
theorem dX8_ones_20 : decode cX8_ones 20 = .ok (.iload_n 1, 1) := by decide +kernel
theorem dX8_ones_21 : decode cX8_ones 21 = .ok (.ireturn, 1) := by decide +kernel
theorem dX8_isHundred_0 : decode cX8_isHundred 0 = .ok (.iload_n 0, 1) := by decide +kernel
theorem dX8_isHundred_1 : decode cX8_isHundred 1 = .ok (.i2l, 1) := by decide +kernel
theorem dX8_isHundred_2 : decode cX8_isHundred 2 = .ok (.lconst 0, 1) := by decide +kernel
theorem dX8_isHundred_3 : decode cX8_isHundred 3 = .ok (.ldc2_w 48, 3) := by decide +kernel
theorem dX8_isHundred_6 : decode cX8_isHundred 6 = .ok (.invokestatic 50, 3) := by decide +kernel
theorem dX8_isHundred_9 : decode cX8_isHundred 9 = .ok (.ireturn, 1) := by decide +kernel
theorem dX8_isThing_0 : decode cX8_isThing 0 = .ok (.iload_n 1, 1) := by decide +kernel
theorem dX8_isThing_1 : decode cX8_isThing 1 = .ok (.i2l, 1) := by decide +kernel
theorem dX8_isThing_2 : decode cX8_isThing 2 = .ok (.lconst 0, 1) := by decide +kernel
theorem dX8_isThing_3 : decode cX8_isThing 3 = .ok (.ldc2_w 54, 3) := by decide +kernel
theorem dX8_isThing_6 : decode cX8_isThing 6 = .ok (.invokestatic 50, 3) := by decide +kernel
theorem dX8_isThing_9 : decode cX8_isThing 9 = .ok (.ifCond .eq 19, 3) := by decide +kernel
theorem dX8_isThing_12 : decode cX8_isThing 12 = .ok (.aload_n 0, 1) := by decide +kernel
theorem dX8_isThing_13 : decode cX8_isThing 13 = .ok (.getfield 56, 3) := by decide +kernel
theorem dX8_isThing_16 : decode cX8_isThing 16 = .ok (.iload_n 1, 1) := by decide +kernel
theorem dX8_isThing_17 : decode cX8_isThing 17 = .ok (.ishr, 1) := by decide +kernel
theorem dX8_isThing_18 : decode cX8_isThing 18 = .ok (.iconst 1, 1) := by decide +kernel
theorem dX8_isThing_19 : decode cX8_isThing 19 = .ok (.iand, 1) := by decide +kernel
theorem dX8_isThing_20 : decode cX8_isThing 20 = .ok (.iconst 1, 1) := by decide +kernel
theorem dX8_isThing_21 : decode cX8_isThing 21 = .ok (.if_icmp .ne 7, 3) := by decide +kernel
theorem dX8_isThing_24 : decode cX8_isThing 24 = .ok (.iconst 1, 1) := by decide +kernel
theorem dX8_isThing_25 : decode cX8_isThing 25 = .ok (.goto 4, 3) := by decide +kernel
theorem dX8_isThing_28 : decode cX8_isThing 28 = .ok (.iconst 0, 1) := by decide +kernel
theorem dX8_isThing_29 : decode cX8_isThing 29 = .ok (.ireturn, 1) := by decide +kernel
theorem dX8_isPicture_0 : decode cX8_isPicture 0 = .ok (.iload_n 1, 1) := by decide +kernel
theorem dX8_isPicture_1 : decode cX8_isPicture 1 = .ok (.i2l, 1) := by decide +kernel
theorem dX8_isPicture_2 : decode cX8_isPicture 2 = .ok (.lconst 0, 1) := by decide +kernel
theorem dX8_isPicture_3 : decode cX8_isPicture 3 = .ok (.ldc2_w 59, 3) := by decide +kernel
theorem dX8_isPicture_6 : decode cX8_isPicture 6 = .ok (.invokestatic 50, 3) := by decide +kernel
theorem dX8_isPicture_9 : decode cX8_isPicture 9 = .ok (.ifCond .eq 19, 3) := by decide +kernel
theorem dX8_isPicture_12 : decode cX8_isPicture 12 = .ok (.aload_n 0, 1) := by decide +kernel
theorem dX8_isPicture_13 : decode cX8_isPicture 13 = .ok (.getfield 61, 3) := by decide +kernel
theorem dX8_isPicture_16 : decode cX8_isPicture 16 = .ok (.iload_n 1, 1) := by decide +kernel
theorem dX8_isPicture_17 : decode cX8_isPicture 17 = .ok (.ishr, 1) := by decide +kernel
theorem dX8_isPicture_18 : decode cX8_isPicture 18 = .ok (.iconst 1, 1) := by decide +kernel
theorem dX8_isPicture_19 : decode cX8_isPicture 19 = .ok (.iand, 1) := by decide +kernel
theorem dX8_isPicture_20 : decode cX8_isPicture 20 = .ok (.iconst 1, 1) := by decide +kernel
theorem dX8_isPicture_21 : decode cX8_isPicture 21 = .ok (.if_icmp .ne 7, 3) := by decide +kernel
theorem dX8_isPicture_24 : decode cX8_isPicture 24 = .ok (.iconst 1, 1) := by decide +kernel
theorem dX8_isPicture_25 : decode cX8_isPicture 25 = .ok (.goto 4, 3) := by decide +kernel
theorem dX8_isPicture_28 : decode cX8_isPicture 28 = .ok (.iconst 0, 1) := by decide +kernel
theorem dX8_isPicture_29 : decode cX8_isPicture 29 = .ok (.ireturn, 1) := by decide +kernel
theorem dX8_areTwo_0 : decode cX8_areTwo 0 = .ok (.aload_n 0, 1) := by decide +kernel
theorem dX8_areTwo_1 : decode cX8_areTwo 1 = .ok (.iload_n 1, 1) := by decide +kernel
theorem dX8_areTwo_2 : decode cX8_areTwo 2 = .ok (.invokevirtual 64, 3) := by decide +kernel
theorem dX8_areTwo_5 : decode cX8_areTwo 5 = .ok (.ifCond .eq 20, 3) := by decide +kernel
theorem dX8_areTwo_8 : decode cX8_areTwo 8 = .ok (.aload_n 0, 1) := by decide +kernel
theorem dX8_areTwo_9 : decode cX8_areTwo 9 = .ok (.iload_n 2, 1) := by decide +kernel
theorem dX8_areTwo_10 : decode cX8_areTwo 10 = .ok (.invokevirtual 64, 3) := by decide +kernel
theorem dX8_areTwo_13 : decode cX8_areTwo 13 = .ok (.ifCond .eq 12, 3) := by decide +kernel
theorem dX8_areTwo_16 : decode cX8_areTwo 16 = .ok (.iload_n 1, 1) := by decide +kernel
theorem dX8_areTwo_17 : decode cX8_areTwo 17 = .ok (.iload_n 2, 1) := by decide +kernel
theorem dX8_areTwo_18 : decode cX8_areTwo 18 = .ok (.if_icmp .eq 7, 3) := by decide +kernel
theorem dX8_areTwo_21 : decode cX8_areTwo 21 = .ok (.iconst 1, 1) := by decide +kernel
theorem dX8_areTwo_22 : decode cX8_areTwo 22 = .ok (.goto 4, 3) := by decide +kernel
theorem dX8_areTwo_25 : decode cX8_areTwo 25 = .ok (.iconst 0, 1) := by decide +kernel
theorem dX8_areTwo_26 : decode cX8_areTwo 26 = .ok (.ireturn, 1) := by decide +kernel
theorem dX8_thing_0 : decode cX8_thing 0 = .ok (.iload_n 1, 1) := by decide +kernel
theorem dX8_thing_1 : decode cX8_thing 1 = .ok (.i2l, 1) := by decide +kernel
theorem dX8_thing_2 : decode cX8_thing 2 = .ok (.lconst 0, 1) := by decide +kernel
theorem dX8_thing_3 : decode cX8_thing 3 = .ok (.ldc2_w 54, 3) := by decide +kernel
theorem dX8_thing_6 : decode cX8_thing 6 = .ok (.invokestatic 50, 3) := by decide +kernel
theorem dX8_thing_9 : decode cX8_thing 9 = .ok (.ifCond .ne 5, 3) := by decide +kernel
theorem dX8_thing_12 : decode cX8_thing 12 = .ok (.iconst (-1), 1) := by decide +kernel
theorem dX8_thing_13 : decode cX8_thing 13 = .ok (.ireturn, 1) := by decide +kernel
theorem dX8_thing_14 : decode cX8_thing 14 = .ok (.iload_n 2, 1) := by decide +kernel
theorem dX8_thing_15 : decode cX8_thing 15 = .ok (.invokestatic 68, 3) := by decide +kernel
theorem dX8_thing_18 : decode cX8_thing 18 = .ok (.ifCond .eq 30, 3) := by decide +kernel
theorem dX8_thing_21 : decode cX8_thing 21 = .ok (.iload_n 3, 1) := by decide +kernel
theorem dX8_thing_22 : decode cX8_thing 22 = .ok (.i2l, 1) := by decide +kernel
theorem dX8_thing_23 : decode cX8_thing 23 = .ok (.ldc2_w 71, 3) := by decide +kernel
theorem dX8_thing_26 : decode cX8_thing 26 = .ok (.ldc2_w 59, 3) := by decide +kernel
theorem dX8_thing_29 : decode cX8_thing 29 = .ok (.invokestatic 50, 3) := by decide +kernel
theorem dX8_thing_32 : decode cX8_thing 32 = .ok (.ifCond .eq 16, 3) := by decide +kernel
theorem dX8_thing_35 : decode cX8_thing 35 = .ok (.iload 4, 2) := by decide +kernel
theorem dX8_thing_37 : decode cX8_thing 37 = .ok (.i2l, 1) := by decide +kernel
theorem dX8_thing_38 : decode cX8_thing 38 = .ok (.lconst 1, 1) := by decide +kernel
theorem dX8_thing_39 : decode cX8_thing 39 = .ok (.ldc2_w 73, 3) := by decide +kernel
theorem dX8_thing_42 : decode cX8_thing 42 = .ok (.invokestatic 50, 3) := by decide +kernel
theorem dX8_thing_45 : decode cX8_thing 45 = .ok (.ifCond .ne 6, 3) := by decide +kernel
theorem dX8_thing_48 : decode cX8_thing 48 = .ok (.bipush (-2), 2) := by decide +kernel
theorem dX8_thing_50 : decode cX8_thing 50 = .ok (.ireturn, 1) := by decide +kernel
theorem dX8_thing_51 : decode cX8_thing 51 = .ok (.aload_n 0, 1) := by decide +kernel
theorem dX8_thing_52 : decode cX8_thing 52 = .ok (.getfield 7, 3) := by decide +kernel
theorem dX8_thing_55 : decode cX8_thing 55 = .ok (.iload_n 1, 1) := by decide +kernel
theorem dX8_thing_56 : decode cX8_thing 56 = .ok (.iload_n 2, 1) := by decide +kernel
theorem dX8_thing_57 : decode cX8_thing 57 = .ok (.iastore, 1) := by decide +kernel
theorem dX8_thing_58 : decode cX8_thing 58 = .ok (.aload_n 0, 1) := by decide +kernel
theorem dX8_thing_59 : decode cX8_thing 59 = .ok (.getfield 13, 3) := by decide +kernel
theorem dX8_thing_62 : decode cX8_thing 62 = .ok (.iload_n 1, 1) := by decide +kernel
theorem dX8_thing_63 : decode cX8_thing 63 = .ok (.iload_n 3, 1) := by decide +kernel
theorem dX8_thing_64 : decode cX8_thing 64 = .ok (.iastore, 1) := by decide +kernel
theorem dX8_thing_65 : decode cX8_thing 65 = .ok (.aload_n 0, 1) := by decide +kernel
theorem dX8_thing_66 : decode cX8_thing 66 = .ok (.getfield 16, 3) := by decide +kernel
theorem dX8_thing_69 : decode cX8_thing 69 = .ok (.iload_n 1, 1) := by decide +kernel
theorem dX8_thing_70 : decode cX8_thing 70 = .ok (.iload 4, 2) := by decide +kernel
theorem dX8_thing_72 : decode cX8_thing 72 = .ok (.iastore, 1) := by decide +kernel
theorem dX8_thing_73 : decode cX8_thing 73 = .ok (.aload_n 0, 1) := by decide +kernel
theorem dX8_thing_74 : decode cX8_thing 74 = .ok (.dup, 1) := by decide +kernel
theorem dX8_thing_75 : decode cX8_thing 75 = .ok (.getfield 56, 3) := by decide +kernel
theorem dX8_thing_78 : decode cX8_thing 78 = .ok (.iconst 1, 1) := by decide +kernel
theorem dX8_thing_79 : decode cX8_thing 79 = .ok (.iload_n 1, 1) := by decide +kernel
theorem dX8_thing_80 : decode cX8_thing 80 = .ok (.ishl, 1) := by decide +kernel
theorem dX8_thing_81 : decode cX8_thing 81 = .ok (.ior, 1) := by decide +kernel
theorem dX8_thing_82 : decode cX8_thing 82 = .ok (.putfield 56, 3) := by decide +kernel
theorem dX8_thing_85 : decode cX8_thing 85 = .ok (.aload_n 0, 1) := by decide +kernel
theorem dX8_thing_86 : decode cX8_thing 86 = .ok (.getfield 56, 3) := by decide +kernel
theorem dX8_thing_89 : decode cX8_thing 89 = .ok (.invokestatic 75, 3) := by decide +kernel
theorem dX8_thing_92 : decode cX8_thing 92 = .ok (.ireturn, 1) := by decide +kernel
theorem dX8_leave_0 : decode cX8_leave 0 = .ok (.aload_n 0, 1) := by decide +kernel
theorem dX8_leave_1 : decode cX8_leave 1 = .ok (.iload_n 1, 1) := by decide +kernel
theorem dX8_leave_2 : decode cX8_leave 2 = .ok (.invokevirtual 79, 3) := by decide +kernel
theorem dX8_leave_5 : decode cX8_leave 5 = .ok (.ifCond .ne 5, 3) := by decide +kernel
theorem dX8_leave_8 : decode cX8_leave 8 = .ok (.iconst (-1), 1) := by decide +kernel
theorem dX8_leave_9 : decode cX8_leave 9 = .ok (.ireturn, 1) := by decide +kernel
theorem dX8_leave_10 : decode cX8_leave 10 = .ok (.aload_n 0, 1) := by decide +kernel
theorem dX8_leave_11 : decode cX8_leave 11 = .ok (.dup, 1) := by decide +kernel
theorem dX8_leave_12 : decode cX8_leave 12 = .ok (.getfield 56, 3) := by decide +kernel
theorem dX8_leave_15 : decode cX8_leave 15 = .ok (.iconst 1, 1) := by decide +kernel
theorem dX8_leave_16 : decode cX8_leave 16 = .ok (.iload_n 1, 1) := by decide +kernel
theorem dX8_leave_17 : decode cX8_leave 17 = .ok (.ishl, 1) := by decide +kernel
theorem dX8_leave_18 : decode cX8_leave 18 = .ok (.iconst (-1), 1) := by decide +kernel
theorem dX8_leave_19 : decode cX8_leave 19 = .ok (.ixor, 1) := by decide +kernel
theorem dX8_leave_20 : decode cX8_leave 20 = .ok (.iand, 1) := by decide +kernel
theorem dX8_leave_21 : decode cX8_leave 21 = .ok (.putfield 56, 3) := by decide +kernel
theorem dX8_leave_24 : decode cX8_leave 24 = .ok (.aload_n 0, 1) := by decide +kernel
theorem dX8_leave_25 : decode cX8_leave 25 = .ok (.getfield 56, 3) := by decide +kernel
theorem dX8_leave_28 : decode cX8_leave 28 = .ok (.invokestatic 75, 3) := by decide +kernel
theorem dX8_leave_31 : decode cX8_leave 31 = .ok (.ireturn, 1) := by decide +kernel
theorem dX8_focus_0 : decode cX8_focus 0 = .ok (.iload_n 1, 1) := by decide +kernel
theorem dX8_focus_1 : decode cX8_focus 1 = .ok (.i2l, 1) := by decide +kernel
theorem dX8_focus_2 : decode cX8_focus 2 = .ok (.lconst 1, 1) := by decide +kernel
theorem dX8_focus_3 : decode cX8_focus 3 = .ok (.ldc2_w 82, 3) := by decide +kernel
theorem dX8_focus_6 : decode cX8_focus 6 = .ok (.invokestatic 50, 3) := by decide +kernel
theorem dX8_focus_9 : decode cX8_focus 9 = .ok (.ifCond .ne 6, 3) := by decide +kernel
theorem dX8_focus_12 : decode cX8_focus 12 = .ok (.bipush (-2), 2) := by decide +kernel
theorem dX8_focus_14 : decode cX8_focus 14 = .ok (.ireturn, 1) := by decide +kernel
theorem dX8_focus_15 : decode cX8_focus 15 = .ok (.aload_n 0, 1) := by decide +kernel
theorem dX8_focus_16 : decode cX8_focus 16 = .ok (.getfield 44, 3) := by decide +kernel
theorem dX8_focus_19 : decode cX8_focus 19 = .ok (.istore_n 2, 1) := by decide +kernel
theorem dX8_focus_20 : decode cX8_focus 20 = .ok (.aload_n 0, 1) := by decide +kernel
theorem dX8_focus_21 : decode cX8_focus 21 = .ok (.iload_n 1, 1) := by decide +kernel
theorem dX8_focus_22 : decode cX8_focus 22 = .ok (.putfield 44, 3) := by decide +kernel
theorem dX8_focus_25 : decode cX8_focus 25 = .ok (.iload_n 2, 1) := by decide +kernel
theorem dX8_focus_26 : decode cX8_focus 26 = .ok (.ireturn, 1) := by decide +kernel
theorem dX8_columnOf_0 : decode cX8_columnOf 0 = .ok (.aload_n 0, 1) := by decide +kernel
theorem dX8_columnOf_1 : decode cX8_columnOf 1 = .ok (.iload_n 1, 1) := by decide +kernel
theorem dX8_columnOf_2 : decode cX8_columnOf 2 = .ok (.invokevirtual 79, 3) := by decide +kernel
theorem dX8_columnOf_5 : decode cX8_columnOf 5 = .ok (.ifCond .ne 6, 3) := by decide +kernel
theorem dX8_columnOf_8 : decode cX8_columnOf 8 = .ok (.bipush (-6), 2) := by decide +kernel
theorem dX8_columnOf_10 : decode cX8_columnOf 10 = .ok (.ireturn, 1) := by decide +kernel
theorem dX8_columnOf_11 : decode cX8_columnOf 11 = .ok (.bipush 30, 2) := by decide +kernel
theorem dX8_columnOf_13 : decode cX8_columnOf 13 = .ok (.aload_n 0, 1) := by decide +kernel
theorem dX8_columnOf_14 : decode cX8_columnOf 14 = .ok (.getfield 44, 3) := by decide +kernel
theorem dX8_columnOf_17 : decode cX8_columnOf 17 = .ok (.aload_n 0, 1) := by decide +kernel
theorem dX8_columnOf_18 : decode cX8_columnOf 18 = .ok (.getfield 7, 3) := by decide +kernel
theorem dX8_columnOf_21 : decode cX8_columnOf 21 = .ok (.iload_n 1, 1) := by decide +kernel
theorem dX8_columnOf_22 : decode cX8_columnOf 22 = .ok (.iaload, 1) := by decide +kernel
theorem dX8_columnOf_23 : decode cX8_columnOf 23 = .ok (.aload_n 0, 1) := by decide +kernel
theorem dX8_columnOf_24 : decode cX8_columnOf 24 = .ok (.getfield 13, 3) := by decide +kernel
theorem dX8_columnOf_27 : decode cX8_columnOf 27 = .ok (.iload_n 1, 1) := by decide +kernel
theorem dX8_columnOf_28 : decode cX8_columnOf 28 = .ok (.iaload, 1) := by decide +kernel
theorem dX8_columnOf_29 : decode cX8_columnOf 29 = .ok (.iload_n 3, 1) := by decide +kernel
theorem dX8_columnOf_30 : decode cX8_columnOf 30 = .ok (.imul, 1) := by decide +kernel
theorem dX8_columnOf_31 : decode cX8_columnOf 31 = .ok (.iadd, 1) := by decide +kernel
theorem dX8_columnOf_32 : decode cX8_columnOf 32 = .ok (.iload_n 2, 1) := by decide +kernel
theorem dX8_columnOf_33 : decode cX8_columnOf 33 = .ok (.isub, 1) := by decide +kernel
theorem dX8_columnOf_34 : decode cX8_columnOf 34 = .ok (.imul, 1) := by decide +kernel
theorem dX8_columnOf_35 : decode cX8_columnOf 35 = .ok (.aload_n 0, 1) := by decide +kernel
theorem dX8_columnOf_36 : decode cX8_columnOf 36 = .ok (.getfield 16, 3) := by decide +kernel
theorem dX8_columnOf_39 : decode cX8_columnOf 39 = .ok (.iload_n 1, 1) := by decide +kernel
theorem dX8_columnOf_40 : decode cX8_columnOf 40 = .ok (.iaload, 1) := by decide +kernel
theorem dX8_columnOf_41 : decode cX8_columnOf 41 = .ok (.idiv, 1) := by decide +kernel
theorem dX8_columnOf_42 : decode cX8_columnOf 42 = .ok (.iadd, 1) := by decide +kernel
theorem dX8_columnOf_43 : decode cX8_columnOf 43 = .ok (.istore 4, 2) := by decide +kernel
theorem dX8_columnOf_45 : decode cX8_columnOf 45 = .ok (.iload 4, 2) := by decide +kernel
theorem dX8_columnOf_47 : decode cX8_columnOf 47 = .ok (.i2l, 1) := by decide +kernel
theorem dX8_columnOf_48 : decode cX8_columnOf 48 = .ok (.lconst 0, 1) := by decide +kernel
theorem dX8_columnOf_49 : decode cX8_columnOf 49 = .ok (.ldc2_w 84, 3) := by decide +kernel
theorem dX8_columnOf_52 : decode cX8_columnOf 52 = .ok (.invokestatic 50, 3) := by decide +kernel
theorem dX8_columnOf_55 : decode cX8_columnOf 55 = .ok (.ifCond .eq 8, 3) := by decide +kernel
theorem dX8_columnOf_58 : decode cX8_columnOf 58 = .ok (.iload 4, 2) := by decide +kernel
theorem dX8_columnOf_60 : decode cX8_columnOf 60 = .ok (.goto 5, 3) := by decide +kernel
theorem dX8_columnOf_63 : decode cX8_columnOf 63 = .ok (.bipush (-6), 2) := by decide +kernel
theorem dX8_columnOf_65 : decode cX8_columnOf 65 = .ok (.ireturn, 1) := by decide +kernel
theorem dX8_take_0 : decode cX8_take 0 = .ok (.iload_n 1, 1) := by decide +kernel
theorem dX8_take_1 : decode cX8_take 1 = .ok (.i2l, 1) := by decide +kernel
theorem dX8_take_2 : decode cX8_take 2 = .ok (.lconst 0, 1) := by decide +kernel
theorem dX8_take_3 : decode cX8_take 3 = .ok (.ldc2_w 59, 3) := by decide +kernel
theorem dX8_take_6 : decode cX8_take 6 = .ok (.invokestatic 50, 3) := by decide +kernel
theorem dX8_take_9 : decode cX8_take 9 = .ok (.ifCond .ne 5, 3) := by decide +kernel
theorem dX8_take_12 : decode cX8_take 12 = .ok (.iconst (-1), 1) := by decide +kernel
theorem dX8_take_13 : decode cX8_take 13 = .ok (.ireturn, 1) := by decide +kernel
theorem dX8_take_14 : decode cX8_take 14 = .ok (.iload_n 2, 1) := by decide +kernel
theorem dX8_take_15 : decode cX8_take 15 = .ok (.invokestatic 68, 3) := by decide +kernel
theorem dX8_take_18 : decode cX8_take 18 = .ok (.ifCond .eq 10, 3) := by decide +kernel
theorem dX8_take_21 : decode cX8_take 21 = .ok (.iload_n 3, 1) := by decide +kernel
theorem dX8_take_22 : decode cX8_take 22 = .ok (.invokestatic 68, 3) := by decide +kernel
theorem dX8_take_25 : decode cX8_take 25 = .ok (.ifCond .ne 6, 3) := by decide +kernel
theorem dX8_take_28 : decode cX8_take 28 = .ok (.bipush (-2), 2) := by decide +kernel
theorem dX8_take_30 : decode cX8_take 30 = .ok (.ireturn, 1) := by decide +kernel
theorem dX8_take_31 : decode cX8_take 31 = .ok (.iconst 0, 1) := by decide +kernel
theorem dX8_take_32 : decode cX8_take 32 = .ok (.istore 4, 2) := by decide +kernel
theorem dX8_take_34 : decode cX8_take 34 = .ok (.iconst 0, 1) := by decide +kernel
theorem dX8_take_35 : decode cX8_take 35 = .ok (.istore 5, 2) := by decide +kernel
theorem dX8_take_37 : decode cX8_take 37 = .ok (.iload 5, 2) := by decide +kernel
theorem dX8_take_39 : decode cX8_take 39 = .ok (.bipush 6, 2) := by decide +kernel
theorem dX8_take_41 : decode cX8_take 41 = .ok (.if_icmp .ge 51, 3) := by decide +kernel
theorem dX8_take_44 : decode cX8_take 44 = .ok (.aload_n 0, 1) := by decide +kernel
theorem dX8_take_45 : decode cX8_take 45 = .ok (.iload 5, 2) := by decide +kernel
theorem dX8_take_47 : decode cX8_take 47 = .ok (.iload_n 2, 1) := by decide +kernel
theorem dX8_take_48 : decode cX8_take 48 = .ok (.iload_n 3, 1) := by decide +kernel
theorem dX8_take_49 : decode cX8_take 49 = .ok (.invokevirtual 86, 3) := by decide +kernel
theorem dX8_take_52 : decode cX8_take 52 = .ok (.istore 6, 2) := by decide +kernel
theorem dX8_take_54 : decode cX8_take 54 = .ok (.aload_n 0, 1) := by decide +kernel
theorem dX8_take_55 : decode cX8_take 55 = .ok (.getfield 19, 3) := by decide +kernel
theorem dX8_take_58 : decode cX8_take 58 = .ok (.bipush 6, 2) := by decide +kernel
theorem dX8_take_60 : decode cX8_take 60 = .ok (.iload_n 1, 1) := by decide +kernel
theorem dX8_take_61 : decode cX8_take 61 = .ok (.imul, 1) := by decide +kernel
theorem dX8_take_62 : decode cX8_take 62 = .ok (.iload 5, 2) := by decide +kernel
theorem dX8_take_64 : decode cX8_take 64 = .ok (.iadd, 1) := by decide +kernel
theorem dX8_take_65 : decode cX8_take 65 = .ok (.iload 6, 2) := by decide +kernel
theorem dX8_take_67 : decode cX8_take 67 = .ok (.iastore, 1) := by decide +kernel
theorem dX8_take_68 : decode cX8_take 68 = .ok (.iload 4, 2) := by decide +kernel
theorem dX8_take_70 : decode cX8_take 70 = .ok (.iload 6, 2) := by decide +kernel
theorem dX8_take_72 : decode cX8_take 72 = .ok (.ifCond .lt 10, 3) := by decide +kernel
theorem dX8_take_75 : decode cX8_take 75 = .ok (.iconst 1, 1) := by decide +kernel
theorem dX8_take_76 : decode cX8_take 76 = .ok (.iload 5, 2) := by decide +kernel
theorem dX8_take_78 : decode cX8_take 78 = .ok (.ishl, 1) := by decide +kernel
theorem dX8_take_79 : decode cX8_take 79 = .ok (.goto 4, 3) := by decide +kernel
theorem dX8_take_82 : decode cX8_take 82 = .ok (.iconst 0, 1) := by decide +kernel
theorem dX8_take_83 : decode cX8_take 83 = .ok (.ior, 1) := by decide +kernel
theorem dX8_take_84 : decode cX8_take 84 = .ok (.istore 4, 2) := by decide +kernel
theorem dX8_take_86 : decode cX8_take 86 = .ok (.iinc 5 1, 3) := by decide +kernel
theorem dX8_take_89 : decode cX8_take 89 = .ok (.goto (-52), 3) := by decide +kernel
theorem dX8_take_92 : decode cX8_take 92 = .ok (.aload_n 0, 1) := by decide +kernel
theorem dX8_take_93 : decode cX8_take 93 = .ok (.dup, 1) := by decide +kernel
theorem dX8_take_94 : decode cX8_take 94 = .ok (.getfield 61, 3) := by decide +kernel
theorem dX8_take_97 : decode cX8_take 97 = .ok (.iconst 1, 1) := by decide +kernel
theorem dX8_take_98 : decode cX8_take 98 = .ok (.iload_n 1, 1) := by decide +kernel
theorem dX8_take_99 : decode cX8_take 99 = .ok (.ishl, 1) := by decide +kernel
theorem dX8_take_100 : decode cX8_take 100 = .ok (.ior, 1) := by decide +kernel
theorem dX8_take_101 : decode cX8_take 101 = .ok (.putfield 61, 3) := by decide +kernel
theorem dX8_take_104 : decode cX8_take 104 = .ok (.iload 4, 2) := by decide +kernel
theorem dX8_take_106 : decode cX8_take 106 = .ok (.ireturn, 1) := by decide +kernel
theorem dX8_retouch_0 : decode cX8_retouch 0 = .ok (.aload_n 0, 1) := by decide +kernel
theorem dX8_retouch_1 : decode cX8_retouch 1 = .ok (.iload_n 1, 1) := by decide +kernel
theorem dX8_retouch_2 : decode cX8_retouch 2 = .ok (.invokevirtual 64, 3) := by decide +kernel
theorem dX8_retouch_5 : decode cX8_retouch 5 = .ok (.ifCond .eq 15, 3) := by decide +kernel
theorem dX8_retouch_8 : decode cX8_retouch 8 = .ok (.iload_n 2, 1) := by decide +kernel
theorem dX8_retouch_9 : decode cX8_retouch 9 = .ok (.i2l, 1) := by decide +kernel
theorem dX8_retouch_10 : decode cX8_retouch 10 = .ok (.lconst 0, 1) := by decide +kernel
theorem dX8_retouch_11 : decode cX8_retouch 11 = .ok (.ldc2_w 54, 3) := by decide +kernel
theorem dX8_retouch_14 : decode cX8_retouch 14 = .ok (.invokestatic 50, 3) := by decide +kernel
theorem dX8_retouch_17 : decode cX8_retouch 17 = .ok (.ifCond .ne 5, 3) := by decide +kernel
theorem dX8_retouch_20 : decode cX8_retouch 20 = .ok (.iconst (-1), 1) := by decide +kernel
theorem dX8_retouch_21 : decode cX8_retouch 21 = .ok (.ireturn, 1) := by decide +kernel
theorem dX8_retouch_22 : decode cX8_retouch 22 = .ok (.iload_n 3, 1) := by decide +kernel
theorem dX8_retouch_23 : decode cX8_retouch 23 = .ok (.i2l, 1) := by decide +kernel
theorem dX8_retouch_24 : decode cX8_retouch 24 = .ok (.lconst 0, 1) := by decide +kernel
theorem dX8_retouch_25 : decode cX8_retouch 25 = .ok (.ldc2_w 84, 3) := by decide +kernel
theorem dX8_retouch_28 : decode cX8_retouch 28 = .ok (.invokestatic 50, 3) := by decide +kernel
theorem dX8_retouch_31 : decode cX8_retouch 31 = .ok (.ifCond .ne 12, 3) := by decide +kernel
theorem dX8_retouch_34 : decode cX8_retouch 34 = .ok (.iload_n 3, 1) := by decide +kernel
theorem dX8_retouch_35 : decode cX8_retouch 35 = .ok (.bipush (-6), 2) := by decide +kernel
theorem dX8_retouch_37 : decode cX8_retouch 37 = .ok (.if_icmp .eq 6, 3) := by decide +kernel
theorem dX8_retouch_40 : decode cX8_retouch 40 = .ok (.bipush (-2), 2) := by decide +kernel
theorem dX8_retouch_42 : decode cX8_retouch 42 = .ok (.ireturn, 1) := by decide +kernel
theorem dX8_retouch_43 : decode cX8_retouch 43 = .ok (.aload_n 0, 1) := by decide +kernel
theorem dX8_retouch_44 : decode cX8_retouch 44 = .ok (.getfield 19, 3) := by decide +kernel
theorem dX8_retouch_47 : decode cX8_retouch 47 = .ok (.bipush 6, 2) := by decide +kernel
theorem dX8_retouch_49 : decode cX8_retouch 49 = .ok (.iload_n 1, 1) := by decide +kernel
theorem dX8_retouch_50 : decode cX8_retouch 50 = .ok (.imul, 1) := by decide +kernel
theorem dX8_retouch_51 : decode cX8_retouch 51 = .ok (.iload_n 2, 1) := by decide +kernel
theorem dX8_retouch_52 : decode cX8_retouch 52 = .ok (.iadd, 1) := by decide +kernel
theorem dX8_retouch_53 : decode cX8_retouch 53 = .ok (.iaload, 1) := by decide +kernel
theorem dX8_retouch_54 : decode cX8_retouch 54 = .ok (.istore 4, 2) := by decide +kernel
theorem dX8_retouch_56 : decode cX8_retouch 56 = .ok (.aload_n 0, 1) := by decide +kernel
theorem dX8_retouch_57 : decode cX8_retouch 57 = .ok (.getfield 19, 3) := by decide +kernel
theorem dX8_retouch_60 : decode cX8_retouch 60 = .ok (.bipush 6, 2) := by decide +kernel
theorem dX8_retouch_62 : decode cX8_retouch 62 = .ok (.iload_n 1, 1) := by decide +kernel
theorem dX8_retouch_63 : decode cX8_retouch 63 = .ok (.imul, 1) := by decide +kernel
theorem dX8_retouch_64 : decode cX8_retouch 64 = .ok (.iload_n 2, 1) := by decide +kernel
theorem dX8_retouch_65 : decode cX8_retouch 65 = .ok (.iadd, 1) := by decide +kernel
theorem dX8_retouch_66 : decode cX8_retouch 66 = .ok (.iload_n 3, 1) := by decide +kernel
theorem dX8_retouch_67 : decode cX8_retouch 67 = .ok (.iastore, 1) := by decide +kernel
theorem dX8_retouch_68 : decode cX8_retouch 68 = .ok (.iload 4, 2) := by decide +kernel
theorem dX8_retouch_70 : decode cX8_retouch 70 = .ok (.ireturn, 1) := by decide +kernel
theorem dX8_burn_0 : decode cX8_burn 0 = .ok (.aload_n 0, 1) := by decide +kernel
theorem dX8_burn_1 : decode cX8_burn 1 = .ok (.iload_n 1, 1) := by decide +kernel
theorem dX8_burn_2 : decode cX8_burn 2 = .ok (.invokevirtual 64, 3) := by decide +kernel
theorem dX8_burn_5 : decode cX8_burn 5 = .ok (.ifCond .ne 5, 3) := by decide +kernel
theorem dX8_burn_8 : decode cX8_burn 8 = .ok (.iconst (-1), 1) := by decide +kernel
theorem dX8_burn_9 : decode cX8_burn 9 = .ok (.ireturn, 1) := by decide +kernel
theorem dX8_burn_10 : decode cX8_burn 10 = .ok (.aload_n 0, 1) := by decide +kernel
theorem dX8_burn_11 : decode cX8_burn 11 = .ok (.dup, 1) := by decide +kernel
theorem dX8_burn_12 : decode cX8_burn 12 = .ok (.getfield 61, 3) := by decide +kernel
theorem dX8_burn_15 : decode cX8_burn 15 = .ok (.iconst 1, 1) := by decide +kernel
theorem dX8_burn_16 : decode cX8_burn 16 = .ok (.iload_n 1, 1) := by decide +kernel
theorem dX8_burn_17 : decode cX8_burn 17 = .ok (.ishl, 1) := by decide +kernel
theorem dX8_burn_18 : decode cX8_burn 18 = .ok (.iconst (-1), 1) := by decide +kernel
theorem dX8_burn_19 : decode cX8_burn 19 = .ok (.ixor, 1) := by decide +kernel
theorem dX8_burn_20 : decode cX8_burn 20 = .ok (.iand, 1) := by decide +kernel
theorem dX8_burn_21 : decode cX8_burn 21 = .ok (.putfield 61, 3) := by decide +kernel
theorem dX8_burn_24 : decode cX8_burn 24 = .ok (.aload_n 0, 1) := by decide +kernel
theorem dX8_burn_25 : decode cX8_burn 25 = .ok (.getfield 61, 3) := by decide +kernel
theorem dX8_burn_28 : decode cX8_burn 28 = .ok (.invokestatic 75, 3) := by decide +kernel
theorem dX8_burn_31 : decode cX8_burn 31 = .ok (.ireturn, 1) := by decide +kernel
theorem dX8_say_0 : decode cX8_say 0 = .ok (.iload_n 1, 1) := by decide +kernel
theorem dX8_say_1 : decode cX8_say 1 = .ok (.i2l, 1) := by decide +kernel
theorem dX8_say_2 : decode cX8_say 2 = .ok (.ldc2_w 90, 3) := by decide +kernel
theorem dX8_say_5 : decode cX8_say 5 = .ok (.ldc2_w 92, 3) := by decide +kernel
theorem dX8_say_8 : decode cX8_say 8 = .ok (.invokestatic 50, 3) := by decide +kernel
theorem dX8_say_11 : decode cX8_say 11 = .ok (.ifCond .ne 6, 3) := by decide +kernel
theorem dX8_say_14 : decode cX8_say 14 = .ok (.bipush (-2), 2) := by decide +kernel
theorem dX8_say_16 : decode cX8_say 16 = .ok (.ireturn, 1) := by decide +kernel
theorem dX8_say_17 : decode cX8_say 17 = .ok (.aload_n 0, 1) := by decide +kernel
theorem dX8_say_18 : decode cX8_say 18 = .ok (.getfield 94, 3) := by decide +kernel
theorem dX8_say_21 : decode cX8_say 21 = .ok (.bipush 60, 2) := by decide +kernel
theorem dX8_say_23 : decode cX8_say 23 = .ok (.if_icmp .ne 6, 3) := by decide +kernel
theorem dX8_say_26 : decode cX8_say 26 = .ok (.bipush (-4), 2) := by decide +kernel
theorem dX8_say_28 : decode cX8_say 28 = .ok (.ireturn, 1) := by decide +kernel
theorem dX8_say_29 : decode cX8_say 29 = .ok (.aload_n 0, 1) := by decide +kernel
theorem dX8_say_30 : decode cX8_say 30 = .ok (.getfield 22, 3) := by decide +kernel
theorem dX8_say_33 : decode cX8_say 33 = .ok (.aload_n 0, 1) := by decide +kernel
theorem dX8_say_34 : decode cX8_say 34 = .ok (.getfield 94, 3) := by decide +kernel
theorem dX8_say_37 : decode cX8_say 37 = .ok (.iload_n 1, 1) := by decide +kernel
theorem dX8_say_38 : decode cX8_say 38 = .ok (.iastore, 1) := by decide +kernel
theorem dX8_say_39 : decode cX8_say 39 = .ok (.aload_n 0, 1) := by decide +kernel
theorem dX8_say_40 : decode cX8_say 40 = .ok (.dup, 1) := by decide +kernel
theorem dX8_say_41 : decode cX8_say 41 = .ok (.getfield 94, 3) := by decide +kernel
theorem dX8_say_44 : decode cX8_say 44 = .ok (.iconst 1, 1) := by decide +kernel
theorem dX8_say_45 : decode cX8_say 45 = .ok (.iadd, 1) := by decide +kernel
theorem dX8_say_46 : decode cX8_say 46 = .ok (.putfield 94, 3) := by decide +kernel
theorem dX8_say_49 : decode cX8_say 49 = .ok (.aload_n 0, 1) := by decide +kernel
theorem dX8_say_50 : decode cX8_say 50 = .ok (.getfield 94, 3) := by decide +kernel
theorem dX8_say_53 : decode cX8_say 53 = .ok (.ireturn, 1) := by decide +kernel
theorem dX8_wipe_0 : decode cX8_wipe 0 = .ok (.aload_n 0, 1) := by decide +kernel
theorem dX8_wipe_1 : decode cX8_wipe 1 = .ok (.getfield 94, 3) := by decide +kernel
theorem dX8_wipe_4 : decode cX8_wipe 4 = .ok (.istore_n 1, 1) := by decide +kernel
theorem dX8_wipe_5 : decode cX8_wipe 5 = .ok (.aload_n 0, 1) := by decide +kernel
theorem dX8_wipe_6 : decode cX8_wipe 6 = .ok (.iconst 0, 1) := by decide +kernel
theorem dX8_wipe_7 : decode cX8_wipe 7 = .ok (.putfield 94, 3) := by decide +kernel
theorem dX8_wipe_10 : decode cX8_wipe 10 = .ok (.iload_n 1, 1) := by decide +kernel
theorem dX8_wipe_11 : decode cX8_wipe 11 = .ok (.ireturn, 1) := by decide +kernel
theorem dX8_fault_0 : decode cX8_fault 0 = .ok (.aload_n 0, 1) := by decide +kernel
theorem dX8_fault_1 : decode cX8_fault 1 = .ok (.iconst 0, 1) := by decide +kernel
theorem dX8_fault_2 : decode cX8_fault 2 = .ok (.putfield 97, 3) := by decide +kernel
theorem dX8_fault_5 : decode cX8_fault 5 = .ok (.aload_n 0, 1) := by decide +kernel
theorem dX8_fault_6 : decode cX8_fault 6 = .ok (.iconst 0, 1) := by decide +kernel
theorem dX8_fault_7 : decode cX8_fault 7 = .ok (.putfield 100, 3) := by decide +kernel
theorem dX8_fault_10 : decode cX8_fault 10 = .ok (.iconst 0, 1) := by decide +kernel
theorem dX8_fault_11 : decode cX8_fault 11 = .ok (.istore_n 1, 1) := by decide +kernel
theorem dX8_fault_12 : decode cX8_fault 12 = .ok (.iconst 0, 1) := by decide +kernel
theorem dX8_fault_13 : decode cX8_fault 13 = .ok (.istore_n 2, 1) := by decide +kernel
theorem dX8_fault_14 : decode cX8_fault 14 = .ok (.iload_n 2, 1) := by decide +kernel
theorem dX8_fault_15 : decode cX8_fault 15 = .ok (.aload_n 0, 1) := by decide +kernel
theorem dX8_fault_16 : decode cX8_fault 16 = .ok (.getfield 94, 3) := by decide +kernel
theorem dX8_fault_19 : decode cX8_fault 19 = .ok (.if_icmp .ge 122, 3) := by decide +kernel
theorem dX8_fault_22 : decode cX8_fault 22 = .ok (.aload_n 0, 1) := by decide +kernel
theorem dX8_fault_23 : decode cX8_fault 23 = .ok (.getfield 22, 3) := by decide +kernel
theorem dX8_fault_26 : decode cX8_fault 26 = .ok (.iload_n 2, 1) := by decide +kernel
theorem dX8_fault_27 : decode cX8_fault 27 = .ok (.iaload, 1) := by decide +kernel
theorem dX8_fault_28 : decode cX8_fault 28 = .ok (.bipush 97, 2) := by decide +kernel
theorem dX8_fault_30 : decode cX8_fault 30 = .ok (.isub, 1) := by decide +kernel
theorem dX8_fault_31 : decode cX8_fault 31 = .ok (.istore_n 3, 1) := by decide +kernel
theorem dX8_fault_32 : decode cX8_fault 32 = .ok (.iload_n 3, 1) := by decide +kernel
theorem dX8_fault_33 : decode cX8_fault 33 = .ok (.i2l, 1) := by decide +kernel
theorem dX8_fault_34 : decode cX8_fault 34 = .ok (.lconst 0, 1) := by decide +kernel
theorem dX8_fault_35 : decode cX8_fault 35 = .ok (.ldc2_w 59, 3) := by decide +kernel
theorem dX8_fault_38 : decode cX8_fault 38 = .ok (.invokestatic 50, 3) := by decide +kernel
theorem dX8_fault_41 : decode cX8_fault 41 = .ok (.istore 4, 2) := by decide +kernel
theorem dX8_fault_43 : decode cX8_fault 43 = .ok (.iload 4, 2) := by decide +kernel
theorem dX8_fault_45 : decode cX8_fault 45 = .ok (.ifCond .ne 20, 3) := by decide +kernel
theorem dX8_fault_48 : decode cX8_fault 48 = .ok (.iload_n 1, 1) := by decide +kernel
theorem dX8_fault_49 : decode cX8_fault 49 = .ok (.ifCond .ne 14, 3) := by decide +kernel
theorem dX8_fault_52 : decode cX8_fault 52 = .ok (.aload_n 0, 1) := by decide +kernel
theorem dX8_fault_53 : decode cX8_fault 53 = .ok (.getfield 22, 3) := by decide +kernel
theorem dX8_fault_56 : decode cX8_fault 56 = .ok (.iload_n 2, 1) := by decide +kernel
theorem dX8_fault_57 : decode cX8_fault 57 = .ok (.iaload, 1) := by decide +kernel
theorem dX8_fault_58 : decode cX8_fault 58 = .ok (.bipush 47, 2) := by decide +kernel
theorem dX8_fault_60 : decode cX8_fault 60 = .ok (.if_icmp .eq 5, 3) := by decide +kernel
theorem dX8_fault_63 : decode cX8_fault 63 = .ok (.iload_n 2, 1) := by decide +kernel
theorem dX8_fault_64 : decode cX8_fault 64 = .ok (.ireturn, 1) := by decide +kernel
theorem dX8_fault_65 : decode cX8_fault 65 = .ok (.iload_n 1, 1) := by decide +kernel
theorem dX8_fault_66 : decode cX8_fault 66 = .ok (.ifCond .eq 26, 3) := by decide +kernel
theorem dX8_fault_69 : decode cX8_fault 69 = .ok (.aload_n 0, 1) := by decide +kernel
theorem dX8_fault_70 : decode cX8_fault 70 = .ok (.getfield 28, 3) := by decide +kernel
theorem dX8_fault_73 : decode cX8_fault 73 = .ok (.aload_n 0, 1) := by decide +kernel
theorem dX8_fault_74 : decode cX8_fault 74 = .ok (.getfield 97, 3) := by decide +kernel
theorem dX8_fault_77 : decode cX8_fault 77 = .ok (.iload_n 3, 1) := by decide +kernel
theorem dX8_fault_78 : decode cX8_fault 78 = .ok (.iastore, 1) := by decide +kernel
theorem dX8_fault_79 : decode cX8_fault 79 = .ok (.aload_n 0, 1) := by decide +kernel
theorem dX8_fault_80 : decode cX8_fault 80 = .ok (.dup, 1) := by decide +kernel
theorem dX8_fault_81 : decode cX8_fault 81 = .ok (.getfield 97, 3) := by decide +kernel
theorem dX8_fault_84 : decode cX8_fault 84 = .ok (.iconst 1, 1) := by decide +kernel
theorem dX8_fault_85 : decode cX8_fault 85 = .ok (.iadd, 1) := by decide +kernel
theorem dX8_fault_86 : decode cX8_fault 86 = .ok (.putfield 97, 3) := by decide +kernel
theorem dX8_fault_89 : decode cX8_fault 89 = .ok (.goto 26, 3) := by decide +kernel
theorem dX8_fault_92 : decode cX8_fault 92 = .ok (.iload 4, 2) := by decide +kernel
theorem dX8_fault_94 : decode cX8_fault 94 = .ok (.ifCond .eq 11, 3) := by decide +kernel
theorem dX8_fault_97 : decode cX8_fault 97 = .ok (.aload_n 0, 1) := by decide +kernel
theorem dX8_fault_98 : decode cX8_fault 98 = .ok (.iload_n 3, 1) := by decide +kernel
theorem dX8_fault_99 : decode cX8_fault 99 = .ok (.putfield 103, 3) := by decide +kernel
theorem dX8_fault_102 : decode cX8_fault 102 = .ok (.goto 13, 3) := by decide +kernel
theorem dX8_fault_105 : decode cX8_fault 105 = .ok (.aload_n 0, 1) := by decide +kernel
theorem dX8_fault_106 : decode cX8_fault 106 = .ok (.dup, 1) := by decide +kernel
theorem dX8_fault_107 : decode cX8_fault 107 = .ok (.getfield 100, 3) := by decide +kernel
theorem dX8_fault_110 : decode cX8_fault 110 = .ok (.iconst 1, 1) := by decide +kernel
theorem dX8_fault_111 : decode cX8_fault 111 = .ok (.iadd, 1) := by decide +kernel
theorem dX8_fault_112 : decode cX8_fault 112 = .ok (.putfield 100, 3) := by decide +kernel
theorem dX8_fault_115 : decode cX8_fault 115 = .ok (.iload_n 1, 1) := by decide +kernel
theorem dX8_fault_116 : decode cX8_fault 116 = .ok (.ifCond .ne 12, 3) := by decide +kernel
theorem dX8_fault_119 : decode cX8_fault 119 = .ok (.iload 4, 2) := by decide +kernel
theorem dX8_fault_121 : decode cX8_fault 121 = .ok (.ifCond .eq 7, 3) := by decide +kernel
theorem dX8_fault_124 : decode cX8_fault 124 = .ok (.iconst 1, 1) := by decide +kernel
theorem dX8_fault_125 : decode cX8_fault 125 = .ok (.goto 4, 3) := by decide +kernel
theorem dX8_fault_128 : decode cX8_fault 128 = .ok (.iconst 0, 1) := by decide +kernel
theorem dX8_fault_129 : decode cX8_fault 129 = .ok (.istore_n 1, 1) := by decide +kernel
theorem dX8_fault_130 : decode cX8_fault 130 = .ok (.aload_n 0, 1) := by decide +kernel
theorem dX8_fault_131 : decode cX8_fault 131 = .ok (.iload_n 1, 1) := by decide +kernel
theorem dX8_fault_132 : decode cX8_fault 132 = .ok (.invokevirtual 106, 3) := by decide +kernel
theorem dX8_fault_135 : decode cX8_fault 135 = .ok (.iinc 2 1, 3) := by decide +kernel
theorem dX8_fault_138 : decode cX8_fault 138 = .ok (.goto (-124), 3) := by decide +kernel
theorem dX8_fault_141 : decode cX8_fault 141 = .ok (.iload_n 1, 1) := by decide +kernel
theorem dX8_fault_142 : decode cX8_fault 142 = .ok (.ifCond .eq 10, 3) := by decide +kernel
theorem dX8_fault_145 : decode cX8_fault 145 = .ok (.aload_n 0, 1) := by decide +kernel
theorem dX8_fault_146 : decode cX8_fault 146 = .ok (.getfield 94, 3) := by decide +kernel
theorem dX8_fault_149 : decode cX8_fault 149 = .ok (.goto 5, 3) := by decide +kernel
theorem dX8_fault_152 : decode cX8_fault 152 = .ok (.bipush (-6), 2) := by decide +kernel
theorem dX8_fault_154 : decode cX8_fault 154 = .ok (.ireturn, 1) := by decide +kernel
theorem dX8_keepLeft_0 : decode cX8_keepLeft 0 = .ok (.iload_n 1, 1) := by decide +kernel
theorem dX8_keepLeft_1 : decode cX8_keepLeft 1 = .ok (.ifCond .eq 25, 3) := by decide +kernel
theorem dX8_keepLeft_4 : decode cX8_keepLeft 4 = .ok (.aload_n 0, 1) := by decide +kernel
theorem dX8_keepLeft_5 : decode cX8_keepLeft 5 = .ok (.getfield 97, 3) := by decide +kernel
theorem dX8_keepLeft_8 : decode cX8_keepLeft 8 = .ok (.bipush 30, 2) := by decide +kernel
theorem dX8_keepLeft_10 : decode cX8_keepLeft 10 = .ok (.if_icmp .ge 16, 3) := by decide +kernel
theorem dX8_keepLeft_13 : decode cX8_keepLeft 13 = .ok (.aload_n 0, 1) := by decide +kernel
theorem dX8_keepLeft_14 : decode cX8_keepLeft 14 = .ok (.getfield 25, 3) := by decide +kernel
theorem dX8_keepLeft_17 : decode cX8_keepLeft 17 = .ok (.aload_n 0, 1) := by decide +kernel
theorem dX8_keepLeft_18 : decode cX8_keepLeft 18 = .ok (.getfield 97, 3) := by decide +kernel
theorem dX8_keepLeft_21 : decode cX8_keepLeft 21 = .ok (.aload_n 0, 1) := by decide +kernel
theorem dX8_keepLeft_22 : decode cX8_keepLeft 22 = .ok (.getfield 103, 3) := by decide +kernel
theorem dX8_keepLeft_25 : decode cX8_keepLeft 25 = .ok (.iastore, 1) := by decide +kernel
theorem dX8_keepLeft_26 : decode cX8_keepLeft 26 = .ok (.return_, 1) := by decide +kernel
theorem dX8_shiftOf_0 : decode cX8_shiftOf 0 = .ok (.aload_n 0, 1) := by decide +kernel
theorem dX8_shiftOf_1 : decode cX8_shiftOf 1 = .ok (.getfield 19, 3) := by decide +kernel
theorem dX8_shiftOf_4 : decode cX8_shiftOf 4 = .ok (.bipush 6, 2) := by decide +kernel
theorem dX8_shiftOf_6 : decode cX8_shiftOf 6 = .ok (.iload_n 1, 1) := by decide +kernel
theorem dX8_shiftOf_7 : decode cX8_shiftOf 7 = .ok (.imul, 1) := by decide +kernel
theorem dX8_shiftOf_8 : decode cX8_shiftOf 8 = .ok (.iload_n 3, 1) := by decide +kernel
theorem dX8_shiftOf_9 : decode cX8_shiftOf 9 = .ok (.iadd, 1) := by decide +kernel
theorem dX8_shiftOf_10 : decode cX8_shiftOf 10 = .ok (.iaload, 1) := by decide +kernel
theorem dX8_shiftOf_11 : decode cX8_shiftOf 11 = .ok (.aload_n 0, 1) := by decide +kernel
theorem dX8_shiftOf_12 : decode cX8_shiftOf 12 = .ok (.getfield 19, 3) := by decide +kernel
theorem dX8_shiftOf_15 : decode cX8_shiftOf 15 = .ok (.bipush 6, 2) := by decide +kernel
theorem dX8_shiftOf_17 : decode cX8_shiftOf 17 = .ok (.iload_n 2, 1) := by decide +kernel
theorem dX8_shiftOf_18 : decode cX8_shiftOf 18 = .ok (.imul, 1) := by decide +kernel
theorem dX8_shiftOf_19 : decode cX8_shiftOf 19 = .ok (.iload_n 3, 1) := by decide +kernel
theorem dX8_shiftOf_20 : decode cX8_shiftOf 20 = .ok (.iadd, 1) := by decide +kernel
theorem dX8_shiftOf_21 : decode cX8_shiftOf 21 = .ok (.iaload, 1) := by decide +kernel
theorem dX8_shiftOf_22 : decode cX8_shiftOf 22 = .ok (.isub, 1) := by decide +kernel
theorem dX8_shiftOf_23 : decode cX8_shiftOf 23 = .ok (.ireturn, 1) := by decide +kernel
theorem dX8_areBoth_0 : decode cX8_areBoth 0 = .ok (.aload_n 0, 1) := by decide +kernel
theorem dX8_areBoth_1 : decode cX8_areBoth 1 = .ok (.getfield 19, 3) := by decide +kernel
theorem dX8_areBoth_4 : decode cX8_areBoth 4 = .ok (.bipush 6, 2) := by decide +kernel
theorem dX8_areBoth_6 : decode cX8_areBoth 6 = .ok (.iload_n 1, 1) := by decide +kernel
theorem dX8_areBoth_7 : decode cX8_areBoth 7 = .ok (.imul, 1) := by decide +kernel
theorem dX8_areBoth_8 : decode cX8_areBoth 8 = .ok (.iload_n 3, 1) := by decide +kernel
theorem dX8_areBoth_9 : decode cX8_areBoth 9 = .ok (.iadd, 1) := by decide +kernel
theorem dX8_areBoth_10 : decode cX8_areBoth 10 = .ok (.iaload, 1) := by decide +kernel
theorem dX8_areBoth_11 : decode cX8_areBoth 11 = .ok (.ifCond .lt 21, 3) := by decide +kernel
theorem dX8_areBoth_14 : decode cX8_areBoth 14 = .ok (.aload_n 0, 1) := by decide +kernel
theorem dX8_areBoth_15 : decode cX8_areBoth 15 = .ok (.getfield 19, 3) := by decide +kernel
theorem dX8_areBoth_18 : decode cX8_areBoth 18 = .ok (.bipush 6, 2) := by decide +kernel
theorem dX8_areBoth_20 : decode cX8_areBoth 20 = .ok (.iload_n 2, 1) := by decide +kernel
theorem dX8_areBoth_21 : decode cX8_areBoth 21 = .ok (.imul, 1) := by decide +kernel
theorem dX8_areBoth_22 : decode cX8_areBoth 22 = .ok (.iload_n 3, 1) := by decide +kernel
theorem dX8_areBoth_23 : decode cX8_areBoth 23 = .ok (.iadd, 1) := by decide +kernel
theorem dX8_areBoth_24 : decode cX8_areBoth 24 = .ok (.iaload, 1) := by decide +kernel
theorem dX8_areBoth_25 : decode cX8_areBoth 25 = .ok (.ifCond .lt 7, 3) := by decide +kernel
theorem dX8_areBoth_28 : decode cX8_areBoth 28 = .ok (.iconst 1, 1) := by decide +kernel
theorem dX8_areBoth_29 : decode cX8_areBoth 29 = .ok (.goto 4, 3) := by decide +kernel
theorem dX8_areBoth_32 : decode cX8_areBoth 32 = .ok (.iconst 0, 1) := by decide +kernel
theorem dX8_areBoth_33 : decode cX8_areBoth 33 = .ok (.ireturn, 1) := by decide +kernel
theorem dX8_kindBy_0 : decode cX8_kindBy 0 = .ok (.iload_n 0, 1) := by decide +kernel
theorem dX8_kindBy_1 : decode cX8_kindBy 1 = .ok (.ifCond .ne 11, 3) := by decide +kernel
theorem dX8_kindBy_4 : decode cX8_kindBy 4 = .ok (.iload_n 1, 1) := by decide +kernel
theorem dX8_kindBy_5 : decode cX8_kindBy 5 = .ok (.ifCond .ne 7, 3) := by decide +kernel
theorem dX8_kindBy_8 : decode cX8_kindBy 8 = .ok (.iconst 1, 1) := by decide +kernel
theorem dX8_kindBy_9 : decode cX8_kindBy 9 = .ok (.goto 20, 3) := by decide +kernel
theorem dX8_kindBy_12 : decode cX8_kindBy 12 = .ok (.iload_n 0, 1) := by decide +kernel
theorem dX8_kindBy_13 : decode cX8_kindBy 13 = .ok (.ifCond .ne 7, 3) := by decide +kernel
theorem dX8_kindBy_16 : decode cX8_kindBy 16 = .ok (.iconst 0, 1) := by decide +kernel
theorem dX8_kindBy_17 : decode cX8_kindBy 17 = .ok (.goto 12, 3) := by decide +kernel
theorem dX8_kindBy_20 : decode cX8_kindBy 20 = .ok (.iload_n 1, 1) := by decide +kernel
theorem dX8_kindBy_21 : decode cX8_kindBy 21 = .ok (.ifCond .ne 7, 3) := by decide +kernel
theorem dX8_kindBy_24 : decode cX8_kindBy 24 = .ok (.iconst 2, 1) := by decide +kernel
theorem dX8_kindBy_25 : decode cX8_kindBy 25 = .ok (.goto 4, 3) := by decide +kernel
theorem dX8_kindBy_28 : decode cX8_kindBy 28 = .ok (.iconst 3, 1) := by decide +kernel
theorem dX8_kindBy_29 : decode cX8_kindBy 29 = .ok (.ireturn, 1) := by decide +kernel
theorem dX8_kindOf_0 : decode cX8_kindOf 0 = .ok (.iconst 0, 1) := by decide +kernel
theorem dX8_kindOf_1 : decode cX8_kindOf 1 = .ok (.istore_n 3, 1) := by decide +kernel
theorem dX8_kindOf_2 : decode cX8_kindOf 2 = .ok (.iconst 0, 1) := by decide +kernel
theorem dX8_kindOf_3 : decode cX8_kindOf 3 = .ok (.istore 4, 2) := by decide +kernel
theorem dX8_kindOf_5 : decode cX8_kindOf 5 = .ok (.iconst 0, 1) := by decide +kernel
theorem dX8_kindOf_6 : decode cX8_kindOf 6 = .ok (.istore 5, 2) := by decide +kernel
theorem dX8_kindOf_8 : decode cX8_kindOf 8 = .ok (.iload 5, 2) := by decide +kernel
theorem dX8_kindOf_10 : decode cX8_kindOf 10 = .ok (.bipush 6, 2) := by decide +kernel
theorem dX8_kindOf_12 : decode cX8_kindOf 12 = .ok (.if_icmp .ge 73, 3) := by decide +kernel
theorem dX8_kindOf_15 : decode cX8_kindOf 15 = .ok (.aload_n 0, 1) := by decide +kernel
theorem dX8_kindOf_16 : decode cX8_kindOf 16 = .ok (.iload_n 1, 1) := by decide +kernel
theorem dX8_kindOf_17 : decode cX8_kindOf 17 = .ok (.iload_n 2, 1) := by decide +kernel
theorem dX8_kindOf_18 : decode cX8_kindOf 18 = .ok (.iload 5, 2) := by decide +kernel
theorem dX8_kindOf_20 : decode cX8_kindOf 20 = .ok (.invokevirtual 110, 3) := by decide +kernel
theorem dX8_kindOf_23 : decode cX8_kindOf 23 = .ok (.istore 6, 2) := by decide +kernel
theorem dX8_kindOf_25 : decode cX8_kindOf 25 = .ok (.iload_n 3, 1) := by decide +kernel
theorem dX8_kindOf_26 : decode cX8_kindOf 26 = .ok (.ifCond .ne 19, 3) := by decide +kernel
theorem dX8_kindOf_29 : decode cX8_kindOf 29 = .ok (.iload 6, 2) := by decide +kernel
theorem dX8_kindOf_31 : decode cX8_kindOf 31 = .ok (.ifCond .eq 18, 3) := by decide +kernel
theorem dX8_kindOf_34 : decode cX8_kindOf 34 = .ok (.aload_n 0, 1) := by decide +kernel
theorem dX8_kindOf_35 : decode cX8_kindOf 35 = .ok (.iload_n 1, 1) := by decide +kernel
theorem dX8_kindOf_36 : decode cX8_kindOf 36 = .ok (.iload_n 2, 1) := by decide +kernel
theorem dX8_kindOf_37 : decode cX8_kindOf 37 = .ok (.iload 5, 2) := by decide +kernel
theorem dX8_kindOf_39 : decode cX8_kindOf 39 = .ok (.invokevirtual 114, 3) := by decide +kernel
theorem dX8_kindOf_42 : decode cX8_kindOf 42 = .ok (.ifCond .ge 7, 3) := by decide +kernel
theorem dX8_kindOf_45 : decode cX8_kindOf 45 = .ok (.iconst 1, 1) := by decide +kernel
theorem dX8_kindOf_46 : decode cX8_kindOf 46 = .ok (.goto 4, 3) := by decide +kernel
theorem dX8_kindOf_49 : decode cX8_kindOf 49 = .ok (.iconst 0, 1) := by decide +kernel
theorem dX8_kindOf_50 : decode cX8_kindOf 50 = .ok (.istore_n 3, 1) := by decide +kernel
theorem dX8_kindOf_51 : decode cX8_kindOf 51 = .ok (.iload 4, 2) := by decide +kernel
theorem dX8_kindOf_53 : decode cX8_kindOf 53 = .ok (.ifCond .ne 19, 3) := by decide +kernel
theorem dX8_kindOf_56 : decode cX8_kindOf 56 = .ok (.iload 6, 2) := by decide +kernel
theorem dX8_kindOf_58 : decode cX8_kindOf 58 = .ok (.ifCond .eq 18, 3) := by decide +kernel
theorem dX8_kindOf_61 : decode cX8_kindOf 61 = .ok (.aload_n 0, 1) := by decide +kernel
theorem dX8_kindOf_62 : decode cX8_kindOf 62 = .ok (.iload_n 1, 1) := by decide +kernel
theorem dX8_kindOf_63 : decode cX8_kindOf 63 = .ok (.iload_n 2, 1) := by decide +kernel
theorem dX8_kindOf_64 : decode cX8_kindOf 64 = .ok (.iload 5, 2) := by decide +kernel
theorem dX8_kindOf_66 : decode cX8_kindOf 66 = .ok (.invokevirtual 114, 3) := by decide +kernel
theorem dX8_kindOf_69 : decode cX8_kindOf 69 = .ok (.ifCond .le 7, 3) := by decide +kernel
theorem dX8_kindOf_72 : decode cX8_kindOf 72 = .ok (.iconst 1, 1) := by decide +kernel
theorem dX8_kindOf_73 : decode cX8_kindOf 73 = .ok (.goto 4, 3) := by decide +kernel
theorem dX8_kindOf_76 : decode cX8_kindOf 76 = .ok (.iconst 0, 1) := by decide +kernel
theorem dX8_kindOf_77 : decode cX8_kindOf 77 = .ok (.istore 4, 2) := by decide +kernel
theorem dX8_kindOf_79 : decode cX8_kindOf 79 = .ok (.iinc 5 1, 3) := by decide +kernel
theorem dX8_kindOf_82 : decode cX8_kindOf 82 = .ok (.goto (-74), 3) := by decide +kernel
theorem dX8_kindOf_85 : decode cX8_kindOf 85 = .ok (.iload_n 3, 1) := by decide +kernel
theorem dX8_kindOf_86 : decode cX8_kindOf 86 = .ok (.iload 4, 2) := by decide +kernel
theorem dX8_kindOf_88 : decode cX8_kindOf 88 = .ok (.invokestatic 117, 3) := by decide +kernel
theorem dX8_kindOf_91 : decode cX8_kindOf 91 = .ok (.ireturn, 1) := by decide +kernel
theorem dX8_whyNot_0 : decode cX8_whyNot 0 = .ok (.aload_n 0, 1) := by decide +kernel
theorem dX8_whyNot_1 : decode cX8_whyNot 1 = .ok (.aload_n 0, 1) := by decide +kernel
theorem dX8_whyNot_2 : decode cX8_whyNot 2 = .ok (.getfield 25, 3) := by decide +kernel
theorem dX8_whyNot_5 : decode cX8_whyNot 5 = .ok (.iload_n 1, 1) := by decide +kernel
theorem dX8_whyNot_6 : decode cX8_whyNot 6 = .ok (.iaload, 1) := by decide +kernel
theorem dX8_whyNot_7 : decode cX8_whyNot 7 = .ok (.invokevirtual 64, 3) := by decide +kernel
theorem dX8_whyNot_10 : decode cX8_whyNot 10 = .ok (.ifCond .eq 16, 3) := by decide +kernel
theorem dX8_whyNot_13 : decode cX8_whyNot 13 = .ok (.aload_n 0, 1) := by decide +kernel
theorem dX8_whyNot_14 : decode cX8_whyNot 14 = .ok (.aload_n 0, 1) := by decide +kernel
theorem dX8_whyNot_15 : decode cX8_whyNot 15 = .ok (.getfield 28, 3) := by decide +kernel
theorem dX8_whyNot_18 : decode cX8_whyNot 18 = .ok (.iload_n 1, 1) := by decide +kernel
theorem dX8_whyNot_19 : decode cX8_whyNot 19 = .ok (.iaload, 1) := by decide +kernel
theorem dX8_whyNot_20 : decode cX8_whyNot 20 = .ok (.invokevirtual 64, 3) := by decide +kernel
theorem dX8_whyNot_23 : decode cX8_whyNot 23 = .ok (.ifCond .ne 5, 3) := by decide +kernel
theorem dX8_whyNot_26 : decode cX8_whyNot 26 = .ok (.iconst 1, 1) := by decide +kernel
theorem dX8_whyNot_27 : decode cX8_whyNot 27 = .ok (.ireturn, 1) := by decide +kernel
theorem dX8_whyNot_28 : decode cX8_whyNot 28 = .ok (.aload_n 0, 1) := by decide +kernel
theorem dX8_whyNot_29 : decode cX8_whyNot 29 = .ok (.getfield 25, 3) := by decide +kernel
theorem dX8_whyNot_32 : decode cX8_whyNot 32 = .ok (.iload_n 1, 1) := by decide +kernel
theorem dX8_whyNot_33 : decode cX8_whyNot 33 = .ok (.iaload, 1) := by decide +kernel
theorem dX8_whyNot_34 : decode cX8_whyNot 34 = .ok (.aload_n 0, 1) := by decide +kernel
theorem dX8_whyNot_35 : decode cX8_whyNot 35 = .ok (.getfield 28, 3) := by decide +kernel
theorem dX8_whyNot_38 : decode cX8_whyNot 38 = .ok (.iload_n 1, 1) := by decide +kernel
theorem dX8_whyNot_39 : decode cX8_whyNot 39 = .ok (.iaload, 1) := by decide +kernel
theorem dX8_whyNot_40 : decode cX8_whyNot 40 = .ok (.if_icmp .ne 5, 3) := by decide +kernel
theorem dX8_whyNot_43 : decode cX8_whyNot 43 = .ok (.iconst 2, 1) := by decide +kernel
theorem dX8_whyNot_44 : decode cX8_whyNot 44 = .ok (.ireturn, 1) := by decide +kernel
theorem dX8_whyNot_45 : decode cX8_whyNot 45 = .ok (.iconst 0, 1) := by decide +kernel
theorem dX8_whyNot_46 : decode cX8_whyNot 46 = .ok (.istore_n 2, 1) := by decide +kernel
theorem dX8_whyNot_47 : decode cX8_whyNot 47 = .ok (.iconst 0, 1) := by decide +kernel
theorem dX8_whyNot_48 : decode cX8_whyNot 48 = .ok (.istore_n 3, 1) := by decide +kernel
theorem dX8_whyNot_49 : decode cX8_whyNot 49 = .ok (.iload_n 3, 1) := by decide +kernel
theorem dX8_whyNot_50 : decode cX8_whyNot 50 = .ok (.iload_n 1, 1) := by decide +kernel
theorem dX8_whyNot_51 : decode cX8_whyNot 51 = .ok (.if_icmp .ge 79, 3) := by decide +kernel
theorem dX8_whyNot_54 : decode cX8_whyNot 54 = .ok (.iload_n 2, 1) := by decide +kernel
theorem dX8_whyNot_55 : decode cX8_whyNot 55 = .ok (.ifCond .ne 63, 3) := by decide +kernel
theorem dX8_whyNot_58 : decode cX8_whyNot 58 = .ok (.aload_n 0, 1) := by decide +kernel
theorem dX8_whyNot_59 : decode cX8_whyNot 59 = .ok (.getfield 25, 3) := by decide +kernel
theorem dX8_whyNot_62 : decode cX8_whyNot 62 = .ok (.iload_n 3, 1) := by decide +kernel
theorem dX8_whyNot_63 : decode cX8_whyNot 63 = .ok (.iaload, 1) := by decide +kernel
theorem dX8_whyNot_64 : decode cX8_whyNot 64 = .ok (.aload_n 0, 1) := by decide +kernel
theorem dX8_whyNot_65 : decode cX8_whyNot 65 = .ok (.getfield 25, 3) := by decide +kernel
theorem dX8_whyNot_68 : decode cX8_whyNot 68 = .ok (.iload_n 1, 1) := by decide +kernel
theorem dX8_whyNot_69 : decode cX8_whyNot 69 = .ok (.iaload, 1) := by decide +kernel
theorem dX8_whyNot_70 : decode cX8_whyNot 70 = .ok (.if_icmp .eq 48, 3) := by decide +kernel
theorem dX8_whyNot_73 : decode cX8_whyNot 73 = .ok (.aload_n 0, 1) := by decide +kernel
theorem dX8_whyNot_74 : decode cX8_whyNot 74 = .ok (.getfield 25, 3) := by decide +kernel
theorem dX8_whyNot_77 : decode cX8_whyNot 77 = .ok (.iload_n 3, 1) := by decide +kernel
theorem dX8_whyNot_78 : decode cX8_whyNot 78 = .ok (.iaload, 1) := by decide +kernel
theorem dX8_whyNot_79 : decode cX8_whyNot 79 = .ok (.aload_n 0, 1) := by decide +kernel
theorem dX8_whyNot_80 : decode cX8_whyNot 80 = .ok (.getfield 28, 3) := by decide +kernel
theorem dX8_whyNot_83 : decode cX8_whyNot 83 = .ok (.iload_n 1, 1) := by decide +kernel
theorem dX8_whyNot_84 : decode cX8_whyNot 84 = .ok (.iaload, 1) := by decide +kernel
theorem dX8_whyNot_85 : decode cX8_whyNot 85 = .ok (.if_icmp .eq 33, 3) := by decide +kernel
theorem dX8_whyNot_88 : decode cX8_whyNot 88 = .ok (.aload_n 0, 1) := by decide +kernel
theorem dX8_whyNot_89 : decode cX8_whyNot 89 = .ok (.getfield 28, 3) := by decide +kernel
theorem dX8_whyNot_92 : decode cX8_whyNot 92 = .ok (.iload_n 3, 1) := by decide +kernel
theorem dX8_whyNot_93 : decode cX8_whyNot 93 = .ok (.iaload, 1) := by decide +kernel
theorem dX8_whyNot_94 : decode cX8_whyNot 94 = .ok (.aload_n 0, 1) := by decide +kernel
theorem dX8_whyNot_95 : decode cX8_whyNot 95 = .ok (.getfield 25, 3) := by decide +kernel
theorem dX8_whyNot_98 : decode cX8_whyNot 98 = .ok (.iload_n 1, 1) := by decide +kernel
theorem dX8_whyNot_99 : decode cX8_whyNot 99 = .ok (.iaload, 1) := by decide +kernel
theorem dX8_whyNot_100 : decode cX8_whyNot 100 = .ok (.if_icmp .eq 18, 3) := by decide +kernel
theorem dX8_whyNot_103 : decode cX8_whyNot 103 = .ok (.aload_n 0, 1) := by decide +kernel
theorem dX8_whyNot_104 : decode cX8_whyNot 104 = .ok (.getfield 28, 3) := by decide +kernel
theorem dX8_whyNot_107 : decode cX8_whyNot 107 = .ok (.iload_n 3, 1) := by decide +kernel
theorem dX8_whyNot_108 : decode cX8_whyNot 108 = .ok (.iaload, 1) := by decide +kernel
theorem dX8_whyNot_109 : decode cX8_whyNot 109 = .ok (.aload_n 0, 1) := by decide +kernel
theorem dX8_whyNot_110 : decode cX8_whyNot 110 = .ok (.getfield 28, 3) := by decide +kernel
theorem dX8_whyNot_113 : decode cX8_whyNot 113 = .ok (.iload_n 1, 1) := by decide +kernel
theorem dX8_whyNot_114 : decode cX8_whyNot 114 = .ok (.iaload, 1) := by decide +kernel
theorem dX8_whyNot_115 : decode cX8_whyNot 115 = .ok (.if_icmp .ne 7, 3) := by decide +kernel
theorem dX8_whyNot_118 : decode cX8_whyNot 118 = .ok (.iconst 1, 1) := by decide +kernel
theorem dX8_whyNot_119 : decode cX8_whyNot 119 = .ok (.goto 4, 3) := by decide +kernel
theorem dX8_whyNot_122 : decode cX8_whyNot 122 = .ok (.iconst 0, 1) := by decide +kernel
theorem dX8_whyNot_123 : decode cX8_whyNot 123 = .ok (.istore_n 2, 1) := by decide +kernel
theorem dX8_whyNot_124 : decode cX8_whyNot 124 = .ok (.iinc 3 1, 3) := by decide +kernel
theorem dX8_whyNot_127 : decode cX8_whyNot 127 = .ok (.goto (-78), 3) := by decide +kernel
theorem dX8_whyNot_130 : decode cX8_whyNot 130 = .ok (.iload_n 2, 1) := by decide +kernel
theorem dX8_whyNot_131 : decode cX8_whyNot 131 = .ok (.ifCond .eq 7, 3) := by decide +kernel
theorem dX8_whyNot_134 : decode cX8_whyNot 134 = .ok (.iconst 3, 1) := by decide +kernel
theorem dX8_whyNot_135 : decode cX8_whyNot 135 = .ok (.goto 4, 3) := by decide +kernel
theorem dX8_whyNot_138 : decode cX8_whyNot 138 = .ok (.iconst 0, 1) := by decide +kernel
theorem dX8_whyNot_139 : decode cX8_whyNot 139 = .ok (.ireturn, 1) := by decide +kernel
theorem dX8_refusal_0 : decode cX8_refusal 0 = .ok (.aload_n 0, 1) := by decide +kernel
theorem dX8_refusal_1 : decode cX8_refusal 1 = .ok (.invokevirtual 121, 3) := by decide +kernel
theorem dX8_refusal_4 : decode cX8_refusal 4 = .ok (.ifCond .lt 6, 3) := by decide +kernel
theorem dX8_refusal_7 : decode cX8_refusal 7 = .ok (.bipush (-5), 2) := by decide +kernel
theorem dX8_refusal_9 : decode cX8_refusal 9 = .ok (.ireturn, 1) := by decide +kernel
theorem dX8_refusal_10 : decode cX8_refusal 10 = .ok (.aload_n 0, 1) := by decide +kernel
theorem dX8_refusal_11 : decode cX8_refusal 11 = .ok (.bipush (-6), 2) := by decide +kernel
theorem dX8_refusal_13 : decode cX8_refusal 13 = .ok (.putfield 125, 3) := by decide +kernel
theorem dX8_refusal_16 : decode cX8_refusal 16 = .ok (.aload_n 0, 1) := by decide +kernel
theorem dX8_refusal_17 : decode cX8_refusal 17 = .ok (.bipush (-6), 2) := by decide +kernel
theorem dX8_refusal_19 : decode cX8_refusal 19 = .ok (.putfield 128, 3) := by decide +kernel
theorem dX8_refusal_22 : decode cX8_refusal 22 = .ok (.iconst 0, 1) := by decide +kernel
theorem dX8_refusal_23 : decode cX8_refusal 23 = .ok (.istore_n 1, 1) := by decide +kernel
theorem dX8_refusal_24 : decode cX8_refusal 24 = .ok (.iload_n 1, 1) := by decide +kernel
theorem dX8_refusal_25 : decode cX8_refusal 25 = .ok (.aload_n 0, 1) := by decide +kernel
theorem dX8_refusal_26 : decode cX8_refusal 26 = .ok (.getfield 97, 3) := by decide +kernel
theorem dX8_refusal_29 : decode cX8_refusal 29 = .ok (.if_icmp .ge 50, 3) := by decide +kernel
theorem dX8_refusal_32 : decode cX8_refusal 32 = .ok (.aload_n 0, 1) := by decide +kernel
theorem dX8_refusal_33 : decode cX8_refusal 33 = .ok (.getfield 125, 3) := by decide +kernel
theorem dX8_refusal_36 : decode cX8_refusal 36 = .ok (.ifCond .ge 43, 3) := by decide +kernel
theorem dX8_refusal_39 : decode cX8_refusal 39 = .ok (.aload_n 0, 1) := by decide +kernel
theorem dX8_refusal_40 : decode cX8_refusal 40 = .ok (.iload_n 1, 1) := by decide +kernel
theorem dX8_refusal_41 : decode cX8_refusal 41 = .ok (.invokevirtual 131, 3) := by decide +kernel
theorem dX8_refusal_44 : decode cX8_refusal 44 = .ok (.istore_n 2, 1) := by decide +kernel
theorem dX8_refusal_45 : decode cX8_refusal 45 = .ok (.aload_n 0, 1) := by decide +kernel
theorem dX8_refusal_46 : decode cX8_refusal 46 = .ok (.iload_n 2, 1) := by decide +kernel
theorem dX8_refusal_47 : decode cX8_refusal 47 = .ok (.ifCond .le 7, 3) := by decide +kernel
theorem dX8_refusal_50 : decode cX8_refusal 50 = .ok (.iload_n 1, 1) := by decide +kernel
theorem dX8_refusal_51 : decode cX8_refusal 51 = .ok (.goto 5, 3) := by decide +kernel
theorem dX8_refusal_54 : decode cX8_refusal 54 = .ok (.bipush (-6), 2) := by decide +kernel
theorem dX8_refusal_56 : decode cX8_refusal 56 = .ok (.putfield 125, 3) := by decide +kernel
theorem dX8_refusal_59 : decode cX8_refusal 59 = .ok (.aload_n 0, 1) := by decide +kernel
theorem dX8_refusal_60 : decode cX8_refusal 60 = .ok (.iload_n 2, 1) := by decide +kernel
theorem dX8_refusal_61 : decode cX8_refusal 61 = .ok (.ifCond .le 7, 3) := by decide +kernel
theorem dX8_refusal_64 : decode cX8_refusal 64 = .ok (.iload_n 2, 1) := by decide +kernel
theorem dX8_refusal_65 : decode cX8_refusal 65 = .ok (.goto 5, 3) := by decide +kernel
theorem dX8_refusal_68 : decode cX8_refusal 68 = .ok (.bipush (-6), 2) := by decide +kernel
theorem dX8_refusal_70 : decode cX8_refusal 70 = .ok (.putfield 128, 3) := by decide +kernel
theorem dX8_refusal_73 : decode cX8_refusal 73 = .ok (.iinc 1 1, 3) := by decide +kernel
theorem dX8_refusal_76 : decode cX8_refusal 76 = .ok (.goto (-52), 3) := by decide +kernel
theorem dX8_refusal_79 : decode cX8_refusal 79 = .ok (.aload_n 0, 1) := by decide +kernel
theorem dX8_refusal_80 : decode cX8_refusal 80 = .ok (.getfield 125, 3) := by decide +kernel
theorem dX8_refusal_83 : decode cX8_refusal 83 = .ok (.ifCond .lt 8, 3) := by decide +kernel
theorem dX8_refusal_86 : decode cX8_refusal 86 = .ok (.bipush (-3), 2) := by decide +kernel
theorem dX8_refusal_88 : decode cX8_refusal 88 = .ok (.goto 5, 3) := by decide +kernel
theorem dX8_refusal_91 : decode cX8_refusal 91 = .ok (.bipush (-6), 2) := by decide +kernel
theorem dX8_refusal_93 : decode cX8_refusal 93 = .ok (.ireturn, 1) := by decide +kernel
theorem dX8_judge_0 : decode cX8_judge 0 = .ok (.iload_n 1, 1) := by decide +kernel
theorem dX8_judge_1 : decode cX8_judge 1 = .ok (.i2l, 1) := by decide +kernel
theorem dX8_judge_2 : decode cX8_judge 2 = .ok (.lconst 0, 1) := by decide +kernel
theorem dX8_judge_3 : decode cX8_judge 3 = .ok (.ldc2_w 134, 3) := by decide +kernel
theorem dX8_judge_6 : decode cX8_judge 6 = .ok (.invokestatic 50, 3) := by decide +kernel
theorem dX8_judge_9 : decode cX8_judge 9 = .ok (.ifCond .ne 6, 3) := by decide +kernel
theorem dX8_judge_12 : decode cX8_judge 12 = .ok (.bipush (-2), 2) := by decide +kernel
theorem dX8_judge_14 : decode cX8_judge 14 = .ok (.ireturn, 1) := by decide +kernel
theorem dX8_judge_15 : decode cX8_judge 15 = .ok (.aload_n 0, 1) := by decide +kernel
theorem dX8_judge_16 : decode cX8_judge 16 = .ok (.invokevirtual 136, 3) := by decide +kernel
theorem dX8_judge_19 : decode cX8_judge 19 = .ok (.istore_n 2, 1) := by decide +kernel
theorem dX8_judge_20 : decode cX8_judge 20 = .ok (.iload_n 2, 1) := by decide +kernel
theorem dX8_judge_21 : decode cX8_judge 21 = .ok (.bipush (-5), 2) := by decide +kernel
theorem dX8_judge_23 : decode cX8_judge 23 = .ok (.if_icmp .eq 14, 3) := by decide +kernel
theorem dX8_judge_26 : decode cX8_judge 26 = .ok (.iload_n 1, 1) := by decide +kernel
theorem dX8_judge_27 : decode cX8_judge 27 = .ok (.iconst 1, 1) := by decide +kernel
theorem dX8_judge_28 : decode cX8_judge 28 = .ok (.if_icmp .le 11, 3) := by decide +kernel
theorem dX8_judge_31 : decode cX8_judge 31 = .ok (.iload_n 2, 1) := by decide +kernel
theorem dX8_judge_32 : decode cX8_judge 32 = .ok (.bipush (-3), 2) := by decide +kernel
theorem dX8_judge_34 : decode cX8_judge 34 = .ok (.if_icmp .ne 5, 3) := by decide +kernel
theorem dX8_judge_37 : decode cX8_judge 37 = .ok (.iload_n 2, 1) := by decide +kernel
theorem dX8_judge_38 : decode cX8_judge 38 = .ok (.ireturn, 1) := by decide +kernel
theorem dX8_judge_39 : decode cX8_judge 39 = .ok (.iload_n 1, 1) := by decide +kernel
theorem dX8_judge_40 : decode cX8_judge 40 = .ok (.ifCond .ne 10, 3) := by decide +kernel
theorem dX8_judge_43 : decode cX8_judge 43 = .ok (.aload_n 0, 1) := by decide +kernel
theorem dX8_judge_44 : decode cX8_judge 44 = .ok (.getfield 125, 3) := by decide +kernel
theorem dX8_judge_47 : decode cX8_judge 47 = .ok (.goto 33, 3) := by decide +kernel
theorem dX8_judge_50 : decode cX8_judge 50 = .ok (.iload_n 1, 1) := by decide +kernel
theorem dX8_judge_51 : decode cX8_judge 51 = .ok (.iconst 1, 1) := by decide +kernel
theorem dX8_judge_52 : decode cX8_judge 52 = .ok (.if_icmp .ne 10, 3) := by decide +kernel
theorem dX8_judge_55 : decode cX8_judge 55 = .ok (.aload_n 0, 1) := by decide +kernel
theorem dX8_judge_56 : decode cX8_judge 56 = .ok (.getfield 128, 3) := by decide +kernel
theorem dX8_judge_59 : decode cX8_judge 59 = .ok (.goto 21, 3) := by decide +kernel
theorem dX8_judge_62 : decode cX8_judge 62 = .ok (.iload_n 1, 1) := by decide +kernel
theorem dX8_judge_63 : decode cX8_judge 63 = .ok (.iconst 2, 1) := by decide +kernel
theorem dX8_judge_64 : decode cX8_judge 64 = .ok (.if_icmp .ne 10, 3) := by decide +kernel
theorem dX8_judge_67 : decode cX8_judge 67 = .ok (.aload_n 0, 1) := by decide +kernel
theorem dX8_judge_68 : decode cX8_judge 68 = .ok (.getfield 97, 3) := by decide +kernel
theorem dX8_judge_71 : decode cX8_judge 71 = .ok (.goto 9, 3) := by decide +kernel
theorem dX8_judge_74 : decode cX8_judge 74 = .ok (.aload_n 0, 1) := by decide +kernel
theorem dX8_judge_75 : decode cX8_judge 75 = .ok (.getfield 100, 3) := by decide +kernel
theorem dX8_judge_78 : decode cX8_judge 78 = .ok (.iconst 1, 1) := by decide +kernel
theorem dX8_judge_79 : decode cX8_judge 79 = .ok (.iadd, 1) := by decide +kernel
theorem dX8_judge_80 : decode cX8_judge 80 = .ok (.ireturn, 1) := by decide +kernel
theorem dX8_kinds_0 : decode cX8_kinds 0 = .ok (.iload_n 1, 1) := by decide +kernel
theorem dX8_kinds_1 : decode cX8_kinds 1 = .ok (.i2l, 1) := by decide +kernel
theorem dX8_kinds_2 : decode cX8_kinds 2 = .ok (.lconst 0, 1) := by decide +kernel
theorem dX8_kinds_3 : decode cX8_kinds 3 = .ok (.ldc2_w 54, 3) := by decide +kernel
theorem dX8_kinds_6 : decode cX8_kinds 6 = .ok (.invokestatic 50, 3) := by decide +kernel
theorem dX8_kinds_9 : decode cX8_kinds 9 = .ok (.ifCond .ne 6, 3) := by decide +kernel
theorem dX8_kinds_12 : decode cX8_kinds 12 = .ok (.bipush (-2), 2) := by decide +kernel
theorem dX8_kinds_14 : decode cX8_kinds 14 = .ok (.ireturn, 1) := by decide +kernel
theorem dX8_kinds_15 : decode cX8_kinds 15 = .ok (.aload_n 0, 1) := by decide +kernel
theorem dX8_kinds_16 : decode cX8_kinds 16 = .ok (.invokevirtual 136, 3) := by decide +kernel
theorem dX8_kinds_19 : decode cX8_kinds 19 = .ok (.istore_n 2, 1) := by decide +kernel
theorem dX8_kinds_20 : decode cX8_kinds 20 = .ok (.iload_n 2, 1) := by decide +kernel
theorem dX8_kinds_21 : decode cX8_kinds 21 = .ok (.bipush (-6), 2) := by decide +kernel
theorem dX8_kinds_23 : decode cX8_kinds 23 = .ok (.if_icmp .eq 5, 3) := by decide +kernel
theorem dX8_kinds_26 : decode cX8_kinds 26 = .ok (.iload_n 2, 1) := by decide +kernel
theorem dX8_kinds_27 : decode cX8_kinds 27 = .ok (.ireturn, 1) := by decide +kernel
theorem dX8_kinds_28 : decode cX8_kinds 28 = .ok (.iconst 0, 1) := by decide +kernel
theorem dX8_kinds_29 : decode cX8_kinds 29 = .ok (.istore_n 3, 1) := by decide +kernel
theorem dX8_kinds_30 : decode cX8_kinds 30 = .ok (.bipush (-6), 2) := by decide +kernel
theorem dX8_kinds_32 : decode cX8_kinds 32 = .ok (.istore 4, 2) := by decide +kernel
theorem dX8_kinds_34 : decode cX8_kinds 34 = .ok (.iconst 0, 1) := by decide +kernel
theorem dX8_kinds_35 : decode cX8_kinds 35 = .ok (.istore 5, 2) := by decide +kernel
theorem dX8_kinds_37 : decode cX8_kinds 37 = .ok (.iconst 0, 1) := by decide +kernel
theorem dX8_kinds_38 : decode cX8_kinds 38 = .ok (.istore 6, 2) := by decide +kernel
theorem dX8_kinds_40 : decode cX8_kinds 40 = .ok (.iload 6, 2) := by decide +kernel
theorem dX8_kinds_42 : decode cX8_kinds 42 = .ok (.aload_n 0, 1) := by decide +kernel
theorem dX8_kinds_43 : decode cX8_kinds 43 = .ok (.getfield 97, 3) := by decide +kernel
theorem dX8_kinds_46 : decode cX8_kinds 46 = .ok (.if_icmp .ge 83, 3) := by decide +kernel
theorem dX8_kinds_49 : decode cX8_kinds 49 = .ok (.aload_n 0, 1) := by decide +kernel
theorem dX8_kinds_50 : decode cX8_kinds 50 = .ok (.aload_n 0, 1) := by decide +kernel
theorem dX8_kinds_51 : decode cX8_kinds 51 = .ok (.getfield 25, 3) := by decide +kernel
theorem dX8_kinds_54 : decode cX8_kinds 54 = .ok (.iload 6, 2) := by decide +kernel
theorem dX8_kinds_56 : decode cX8_kinds 56 = .ok (.iaload, 1) := by decide +kernel
theorem dX8_kinds_57 : decode cX8_kinds 57 = .ok (.aload_n 0, 1) := by decide +kernel
theorem dX8_kinds_58 : decode cX8_kinds 58 = .ok (.getfield 28, 3) := by decide +kernel
theorem dX8_kinds_61 : decode cX8_kinds 61 = .ok (.iload 6, 2) := by decide +kernel
theorem dX8_kinds_63 : decode cX8_kinds 63 = .ok (.iaload, 1) := by decide +kernel
theorem dX8_kinds_64 : decode cX8_kinds 64 = .ok (.invokevirtual 139, 3) := by decide +kernel
theorem dX8_kinds_67 : decode cX8_kinds 67 = .ok (.istore 7, 2) := by decide +kernel
theorem dX8_kinds_69 : decode cX8_kinds 69 = .ok (.iload_n 3, 1) := by decide +kernel
theorem dX8_kinds_70 : decode cX8_kinds 70 = .ok (.iload 7, 2) := by decide +kernel
theorem dX8_kinds_72 : decode cX8_kinds 72 = .ok (.iload_n 1, 1) := by decide +kernel
theorem dX8_kinds_73 : decode cX8_kinds 73 = .ok (.if_icmp .ne 7, 3) := by decide +kernel
theorem dX8_kinds_76 : decode cX8_kinds 76 = .ok (.iconst 1, 1) := by decide +kernel
theorem dX8_kinds_77 : decode cX8_kinds 77 = .ok (.goto 4, 3) := by decide +kernel
theorem dX8_kinds_80 : decode cX8_kinds 80 = .ok (.iconst 0, 1) := by decide +kernel
theorem dX8_kinds_81 : decode cX8_kinds 81 = .ok (.iadd, 1) := by decide +kernel
theorem dX8_kinds_82 : decode cX8_kinds 82 = .ok (.istore_n 3, 1) := by decide +kernel
theorem dX8_kinds_83 : decode cX8_kinds 83 = .ok (.iload 4, 2) := by decide +kernel
theorem dX8_kinds_85 : decode cX8_kinds 85 = .ok (.ifCond .ge 13, 3) := by decide +kernel
theorem dX8_kinds_88 : decode cX8_kinds 88 = .ok (.iload 7, 2) := by decide +kernel
theorem dX8_kinds_90 : decode cX8_kinds 90 = .ok (.ifCond .eq 8, 3) := by decide +kernel
theorem dX8_kinds_93 : decode cX8_kinds 93 = .ok (.iload 6, 2) := by decide +kernel
theorem dX8_kinds_95 : decode cX8_kinds 95 = .ok (.goto 5, 3) := by decide +kernel
theorem dX8_kinds_98 : decode cX8_kinds 98 = .ok (.iload 4, 2) := by decide +kernel
theorem dX8_kinds_100 : decode cX8_kinds 100 = .ok (.istore 4, 2) := by decide +kernel
theorem dX8_kinds_102 : decode cX8_kinds 102 = .ok (.iload 5, 2) := by decide +kernel
theorem dX8_kinds_104 : decode cX8_kinds 104 = .ok (.iload 7, 2) := by decide +kernel
theorem dX8_kinds_106 : decode cX8_kinds 106 = .ok (.ifCond .eq 9, 3) := by decide +kernel
theorem dX8_kinds_109 : decode cX8_kinds 109 = .ok (.iload 7, 2) := by decide +kernel
theorem dX8_kinds_111 : decode cX8_kinds 111 = .ok (.iconst 2, 1) := by decide +kernel
theorem dX8_kinds_112 : decode cX8_kinds 112 = .ok (.if_icmp .ne 7, 3) := by decide +kernel
theorem dX8_kinds_115 : decode cX8_kinds 115 = .ok (.iconst 1, 1) := by decide +kernel
theorem dX8_kinds_116 : decode cX8_kinds 116 = .ok (.goto 4, 3) := by decide +kernel
theorem dX8_kinds_119 : decode cX8_kinds 119 = .ok (.iconst 0, 1) := by decide +kernel
theorem dX8_kinds_120 : decode cX8_kinds 120 = .ok (.iadd, 1) := by decide +kernel
theorem dX8_kinds_121 : decode cX8_kinds 121 = .ok (.istore 5, 2) := by decide +kernel
theorem dX8_kinds_123 : decode cX8_kinds 123 = .ok (.iinc 6 1, 3) := by decide +kernel
theorem dX8_kinds_126 : decode cX8_kinds 126 = .ok (.goto (-86), 3) := by decide +kernel
theorem dX8_kinds_129 : decode cX8_kinds 129 = .ok (.iload_n 1, 1) := by decide +kernel
theorem dX8_kinds_130 : decode cX8_kinds 130 = .ok (.iconst 4, 1) := by decide +kernel
theorem dX8_kinds_131 : decode cX8_kinds 131 = .ok (.if_icmp .ne 8, 3) := by decide +kernel
theorem dX8_kinds_134 : decode cX8_kinds 134 = .ok (.iload 4, 2) := by decide +kernel
theorem dX8_kinds_136 : decode cX8_kinds 136 = .ok (.goto 14, 3) := by decide +kernel
theorem dX8_kinds_139 : decode cX8_kinds 139 = .ok (.iload_n 1, 1) := by decide +kernel
theorem dX8_kinds_140 : decode cX8_kinds 140 = .ok (.iconst 5, 1) := by decide +kernel
theorem dX8_kinds_141 : decode cX8_kinds 141 = .ok (.if_icmp .ne 8, 3) := by decide +kernel
theorem dX8_kinds_144 : decode cX8_kinds 144 = .ok (.iload 5, 2) := by decide +kernel
theorem dX8_kinds_146 : decode cX8_kinds 146 = .ok (.goto 4, 3) := by decide +kernel
theorem dX8_kinds_149 : decode cX8_kinds 149 = .ok (.iload_n 3, 1) := by decide +kernel
theorem dX8_kinds_150 : decode cX8_kinds 150 = .ok (.ireturn, 1) := by decide +kernel
theorem dX8_kind_0 : decode cX8_kind 0 = .ok (.aload_n 0, 1) := by decide +kernel
theorem dX8_kind_1 : decode cX8_kind 1 = .ok (.iload_n 1, 1) := by decide +kernel
theorem dX8_kind_2 : decode cX8_kind 2 = .ok (.iload_n 2, 1) := by decide +kernel
theorem dX8_kind_3 : decode cX8_kind 3 = .ok (.invokevirtual 143, 3) := by decide +kernel
theorem dX8_kind_6 : decode cX8_kind 6 = .ok (.ifCond .eq 12, 3) := by decide +kernel
theorem dX8_kind_9 : decode cX8_kind 9 = .ok (.aload_n 0, 1) := by decide +kernel
theorem dX8_kind_10 : decode cX8_kind 10 = .ok (.iload_n 1, 1) := by decide +kernel
theorem dX8_kind_11 : decode cX8_kind 11 = .ok (.iload_n 2, 1) := by decide +kernel
theorem dX8_kind_12 : decode cX8_kind 12 = .ok (.invokevirtual 139, 3) := by decide +kernel
theorem dX8_kind_15 : decode cX8_kind 15 = .ok (.goto 4, 3) := by decide +kernel
theorem dX8_kind_18 : decode cX8_kind 18 = .ok (.iconst (-1), 1) := by decide +kernel
theorem dX8_kind_19 : decode cX8_kind 19 = .ok (.ireturn, 1) := by decide +kernel
theorem dX8_shift_0 : decode cX8_shift 0 = .ok (.aload_n 0, 1) := by decide +kernel
theorem dX8_shift_1 : decode cX8_shift 1 = .ok (.iload_n 1, 1) := by decide +kernel
theorem dX8_shift_2 : decode cX8_shift 2 = .ok (.iload_n 2, 1) := by decide +kernel
theorem dX8_shift_3 : decode cX8_shift 3 = .ok (.invokevirtual 143, 3) := by decide +kernel
theorem dX8_shift_6 : decode cX8_shift 6 = .ok (.ifCond .eq 15, 3) := by decide +kernel
theorem dX8_shift_9 : decode cX8_shift 9 = .ok (.iload_n 3, 1) := by decide +kernel
theorem dX8_shift_10 : decode cX8_shift 10 = .ok (.i2l, 1) := by decide +kernel
theorem dX8_shift_11 : decode cX8_shift 11 = .ok (.lconst 0, 1) := by decide +kernel
theorem dX8_shift_12 : decode cX8_shift 12 = .ok (.ldc2_w 54, 3) := by decide +kernel
theorem dX8_shift_15 : decode cX8_shift 15 = .ok (.invokestatic 50, 3) := by decide +kernel
theorem dX8_shift_18 : decode cX8_shift 18 = .ok (.ifCond .ne 5, 3) := by decide +kernel
theorem dX8_shift_21 : decode cX8_shift 21 = .ok (.iconst (-1), 1) := by decide +kernel
theorem dX8_shift_22 : decode cX8_shift 22 = .ok (.ireturn, 1) := by decide +kernel
theorem dX8_shift_23 : decode cX8_shift 23 = .ok (.aload_n 0, 1) := by decide +kernel
theorem dX8_shift_24 : decode cX8_shift 24 = .ok (.iload_n 1, 1) := by decide +kernel
theorem dX8_shift_25 : decode cX8_shift 25 = .ok (.iload_n 2, 1) := by decide +kernel
theorem dX8_shift_26 : decode cX8_shift 26 = .ok (.iload_n 3, 1) := by decide +kernel
theorem dX8_shift_27 : decode cX8_shift 27 = .ok (.invokevirtual 110, 3) := by decide +kernel
theorem dX8_shift_30 : decode cX8_shift 30 = .ok (.ifCond .eq 16, 3) := by decide +kernel
theorem dX8_shift_33 : decode cX8_shift 33 = .ok (.aload_n 0, 1) := by decide +kernel
theorem dX8_shift_34 : decode cX8_shift 34 = .ok (.iload_n 1, 1) := by decide +kernel
theorem dX8_shift_35 : decode cX8_shift 35 = .ok (.iload_n 2, 1) := by decide +kernel
theorem dX8_shift_36 : decode cX8_shift 36 = .ok (.iload_n 3, 1) := by decide +kernel
theorem dX8_shift_37 : decode cX8_shift 37 = .ok (.invokevirtual 114, 3) := by decide +kernel
theorem dX8_shift_40 : decode cX8_shift 40 = .ok (.bipush 100, 2) := by decide +kernel
theorem dX8_shift_42 : decode cX8_shift 42 = .ok (.iadd, 1) := by decide +kernel
theorem dX8_shift_43 : decode cX8_shift 43 = .ok (.goto 5, 3) := by decide +kernel
theorem dX8_shift_46 : decode cX8_shift 46 = .ok (.bipush (-3), 2) := by decide +kernel
theorem dX8_shift_48 : decode cX8_shift 48 = .ok (.ireturn, 1) := by decide +kernel
theorem dX8_near_0 : decode cX8_near 0 = .ok (.aload_n 0, 1) := by decide +kernel
theorem dX8_near_1 : decode cX8_near 1 = .ok (.iload_n 1, 1) := by decide +kernel
theorem dX8_near_2 : decode cX8_near 2 = .ok (.iload_n 2, 1) := by decide +kernel
theorem dX8_near_3 : decode cX8_near 3 = .ok (.invokevirtual 143, 3) := by decide +kernel
theorem dX8_near_6 : decode cX8_near 6 = .ok (.ifCond .ne 5, 3) := by decide +kernel
theorem dX8_near_9 : decode cX8_near 9 = .ok (.iconst (-1), 1) := by decide +kernel
theorem dX8_near_10 : decode cX8_near 10 = .ok (.ireturn, 1) := by decide +kernel
theorem dX8_near_11 : decode cX8_near 11 = .ok (.iconst 0, 1) := by decide +kernel
theorem dX8_near_12 : decode cX8_near 12 = .ok (.istore 4, 2) := by decide +kernel
theorem dX8_near_14 : decode cX8_near 14 = .ok (.bipush 60, 2) := by decide +kernel
theorem dX8_near_16 : decode cX8_near 16 = .ok (.istore 5, 2) := by decide +kernel
theorem dX8_near_18 : decode cX8_near 18 = .ok (.iload 5, 2) := by decide +kernel
theorem dX8_near_20 : decode cX8_near 20 = .ok (.bipush (-61), 2) := by decide +kernel
theorem dX8_near_22 : decode cX8_near 22 = .ok (.if_icmp .le 61, 3) := by decide +kernel
theorem dX8_near_25 : decode cX8_near 25 = .ok (.iconst 0, 1) := by decide +kernel
theorem dX8_near_26 : decode cX8_near 26 = .ok (.istore 6, 2) := by decide +kernel
theorem dX8_near_28 : decode cX8_near 28 = .ok (.iload 6, 2) := by decide +kernel
theorem dX8_near_30 : decode cX8_near 30 = .ok (.bipush 6, 2) := by decide +kernel
theorem dX8_near_32 : decode cX8_near 32 = .ok (.if_icmp .ge 45, 3) := by decide +kernel
theorem dX8_near_35 : decode cX8_near 35 = .ok (.aload_n 0, 1) := by decide +kernel
theorem dX8_near_36 : decode cX8_near 36 = .ok (.iload_n 1, 1) := by decide +kernel
theorem dX8_near_37 : decode cX8_near 37 = .ok (.iload_n 2, 1) := by decide +kernel
theorem dX8_near_38 : decode cX8_near 38 = .ok (.iload 6, 2) := by decide +kernel
theorem dX8_near_40 : decode cX8_near 40 = .ok (.invokevirtual 110, 3) := by decide +kernel
theorem dX8_near_43 : decode cX8_near 43 = .ok (.ifCond .eq 28, 3) := by decide +kernel
theorem dX8_near_46 : decode cX8_near 46 = .ok (.aload_n 0, 1) := by decide +kernel
theorem dX8_near_47 : decode cX8_near 47 = .ok (.iload_n 1, 1) := by decide +kernel
theorem dX8_near_48 : decode cX8_near 48 = .ok (.iload_n 2, 1) := by decide +kernel
theorem dX8_near_49 : decode cX8_near 49 = .ok (.iload 6, 2) := by decide +kernel
theorem dX8_near_51 : decode cX8_near 51 = .ok (.invokevirtual 114, 3) := by decide +kernel
theorem dX8_near_54 : decode cX8_near 54 = .ok (.iload 5, 2) := by decide +kernel
theorem dX8_near_56 : decode cX8_near 56 = .ok (.if_icmp .ne 15, 3) := by decide +kernel
theorem dX8_near_59 : decode cX8_near 59 = .ok (.iload 4, 2) := by decide +kernel
theorem dX8_near_61 : decode cX8_near 61 = .ok (.iload_n 3, 1) := by decide +kernel
theorem dX8_near_62 : decode cX8_near 62 = .ok (.if_icmp .ne 6, 3) := by decide +kernel
theorem dX8_near_65 : decode cX8_near 65 = .ok (.iload 6, 2) := by decide +kernel
theorem dX8_near_67 : decode cX8_near 67 = .ok (.ireturn, 1) := by decide +kernel
theorem dX8_near_68 : decode cX8_near 68 = .ok (.iinc 4 1, 3) := by decide +kernel
theorem dX8_near_71 : decode cX8_near 71 = .ok (.iinc 6 1, 3) := by decide +kernel
theorem dX8_near_74 : decode cX8_near 74 = .ok (.goto (-46), 3) := by decide +kernel
theorem dX8_near_77 : decode cX8_near 77 = .ok (.iinc 5 (-1), 3) := by decide +kernel
theorem dX8_near_80 : decode cX8_near 80 = .ok (.goto (-62), 3) := by decide +kernel
theorem dX8_near_83 : decode cX8_near 83 = .ok (.iload_n 3, 1) := by decide +kernel
theorem dX8_near_84 : decode cX8_near 84 = .ok (.iconst (-1), 1) := by decide +kernel
theorem dX8_near_85 : decode cX8_near 85 = .ok (.if_icmp .ne 8, 3) := by decide +kernel
theorem dX8_near_88 : decode cX8_near 88 = .ok (.iload 4, 2) := by decide +kernel
theorem dX8_near_90 : decode cX8_near 90 = .ok (.goto 5, 3) := by decide +kernel
theorem dX8_near_93 : decode cX8_near 93 = .ok (.bipush (-6), 2) := by decide +kernel
theorem dX8_near_95 : decode cX8_near 95 = .ok (.ireturn, 1) := by decide +kernel
theorem dX8_canPair_0 : decode cX8_canPair 0 = .ok (.aload_n 0, 1) := by decide +kernel
theorem dX8_canPair_1 : decode cX8_canPair 1 = .ok (.iload_n 1, 1) := by decide +kernel
theorem dX8_canPair_2 : decode cX8_canPair 2 = .ok (.iload_n 2, 1) := by decide +kernel
theorem dX8_canPair_3 : decode cX8_canPair 3 = .ok (.invokevirtual 139, 3) := by decide +kernel
theorem dX8_canPair_6 : decode cX8_canPair 6 = .ok (.istore_n 3, 1) := by decide +kernel
theorem dX8_canPair_7 : decode cX8_canPair 7 = .ok (.iload_n 3, 1) := by decide +kernel
theorem dX8_canPair_8 : decode cX8_canPair 8 = .ok (.ifCond .eq 8, 3) := by decide +kernel
theorem dX8_canPair_11 : decode cX8_canPair 11 = .ok (.iload_n 3, 1) := by decide +kernel
theorem dX8_canPair_12 : decode cX8_canPair 12 = .ok (.iconst 2, 1) := by decide +kernel
theorem dX8_canPair_13 : decode cX8_canPair 13 = .ok (.if_icmp .ne 7, 3) := by decide +kernel
theorem dX8_canPair_16 : decode cX8_canPair 16 = .ok (.iconst 1, 1) := by decide +kernel
theorem dX8_canPair_17 : decode cX8_canPair 17 = .ok (.goto 4, 3) := by decide +kernel
theorem dX8_canPair_20 : decode cX8_canPair 20 = .ok (.iconst 0, 1) := by decide +kernel
theorem dX8_canPair_21 : decode cX8_canPair 21 = .ok (.ireturn, 1) := by decide +kernel
theorem dX8_leastIn_0 : decode cX8_leastIn 0 = .ok (.iconst 0, 1) := by decide +kernel
theorem dX8_leastIn_1 : decode cX8_leastIn 1 = .ok (.istore_n 1, 1) := by decide +kernel
theorem dX8_leastIn_2 : decode cX8_leastIn 2 = .ok (.iload_n 0, 1) := by decide +kernel
theorem dX8_leastIn_3 : decode cX8_leastIn 3 = .ok (.iload_n 1, 1) := by decide +kernel
theorem dX8_leastIn_4 : decode cX8_leastIn 4 = .ok (.ishr, 1) := by decide +kernel
theorem dX8_leastIn_5 : decode cX8_leastIn 5 = .ok (.iconst 1, 1) := by decide +kernel
theorem dX8_leastIn_6 : decode cX8_leastIn 6 = .ok (.iand, 1) := by decide +kernel
theorem dX8_leastIn_7 : decode cX8_leastIn 7 = .ok (.ifCond .ne 9, 3) := by decide +kernel
theorem dX8_leastIn_10 : decode cX8_leastIn 10 = .ok (.iinc 1 1, 3) := by decide +kernel
theorem dX8_leastIn_13 : decode cX8_leastIn 13 = .ok (.goto (-11), 3) := by decide +kernel
theorem dX8_leastIn_16 : decode cX8_leastIn 16 = .ok (.iload_n 1, 1) := by decide +kernel
theorem dX8_leastIn_17 : decode cX8_leastIn 17 = .ok (.ireturn, 1) := by decide +kernel
theorem dX8_findMost_0 : decode cX8_findMost 0 = .ok (.aload_n 0, 1) := by decide +kernel
theorem dX8_findMost_1 : decode cX8_findMost 1 = .ok (.getfield 31, 3) := by decide +kernel
theorem dX8_findMost_4 : decode cX8_findMost 4 = .ok (.iconst 0, 1) := by decide +kernel
theorem dX8_findMost_5 : decode cX8_findMost 5 = .ok (.iconst 0, 1) := by decide +kernel
theorem dX8_findMost_6 : decode cX8_findMost 6 = .ok (.iastore, 1) := by decide +kernel
theorem dX8_findMost_7 : decode cX8_findMost 7 = .ok (.iconst 1, 1) := by decide +kernel
theorem dX8_findMost_8 : decode cX8_findMost 8 = .ok (.istore_n 2, 1) := by decide +kernel
theorem dX8_findMost_9 : decode cX8_findMost 9 = .ok (.iload_n 2, 1) := by decide +kernel
theorem dX8_findMost_10 : decode cX8_findMost 10 = .ok (.iload_n 1, 1) := by decide +kernel
theorem dX8_findMost_11 : decode cX8_findMost 11 = .ok (.if_icmp .gt 137, 3) := by decide +kernel
theorem dX8_findMost_14 : decode cX8_findMost 14 = .ok (.iload_n 2, 1) := by decide +kernel
theorem dX8_findMost_15 : decode cX8_findMost 15 = .ok (.iload_n 1, 1) := by decide +kernel
theorem dX8_findMost_16 : decode cX8_findMost 16 = .ok (.iconst (-1), 1) := by decide +kernel
theorem dX8_findMost_17 : decode cX8_findMost 17 = .ok (.ixor, 1) := by decide +kernel
theorem dX8_findMost_18 : decode cX8_findMost 18 = .ok (.iand, 1) := by decide +kernel
theorem dX8_findMost_19 : decode cX8_findMost 19 = .ok (.ifCond .ne 123, 3) := by decide +kernel
theorem dX8_findMost_22 : decode cX8_findMost 22 = .ok (.iload_n 2, 1) := by decide +kernel
theorem dX8_findMost_23 : decode cX8_findMost 23 = .ok (.invokestatic 147, 3) := by decide +kernel
theorem dX8_findMost_26 : decode cX8_findMost 26 = .ok (.istore_n 3, 1) := by decide +kernel
theorem dX8_findMost_27 : decode cX8_findMost 27 = .ok (.iload_n 2, 1) := by decide +kernel
theorem dX8_findMost_28 : decode cX8_findMost 28 = .ok (.iconst 1, 1) := by decide +kernel
theorem dX8_findMost_29 : decode cX8_findMost 29 = .ok (.iload_n 3, 1) := by decide +kernel
theorem dX8_findMost_30 : decode cX8_findMost 30 = .ok (.ishl, 1) := by decide +kernel
theorem dX8_findMost_31 : decode cX8_findMost 31 = .ok (.iconst (-1), 1) := by decide +kernel
theorem dX8_findMost_32 : decode cX8_findMost 32 = .ok (.ixor, 1) := by decide +kernel
theorem dX8_findMost_33 : decode cX8_findMost 33 = .ok (.iand, 1) := by decide +kernel
theorem dX8_findMost_34 : decode cX8_findMost 34 = .ok (.istore 4, 2) := by decide +kernel
theorem dX8_findMost_36 : decode cX8_findMost 36 = .ok (.aload_n 0, 1) := by decide +kernel
theorem dX8_findMost_37 : decode cX8_findMost 37 = .ok (.getfield 31, 3) := by decide +kernel
theorem dX8_findMost_40 : decode cX8_findMost 40 = .ok (.iload 4, 2) := by decide +kernel
theorem dX8_findMost_42 : decode cX8_findMost 42 = .ok (.iaload, 1) := by decide +kernel
theorem dX8_findMost_43 : decode cX8_findMost 43 = .ok (.istore 5, 2) := by decide +kernel
theorem dX8_findMost_45 : decode cX8_findMost 45 = .ok (.iload_n 3, 1) := by decide +kernel
theorem dX8_findMost_46 : decode cX8_findMost 46 = .ok (.iconst 1, 1) := by decide +kernel
theorem dX8_findMost_47 : decode cX8_findMost 47 = .ok (.iadd, 1) := by decide +kernel
theorem dX8_findMost_48 : decode cX8_findMost 48 = .ok (.istore 6, 2) := by decide +kernel
theorem dX8_findMost_50 : decode cX8_findMost 50 = .ok (.iload 6, 2) := by decide +kernel
theorem dX8_findMost_52 : decode cX8_findMost 52 = .ok (.bipush 10, 2) := by decide +kernel
theorem dX8_findMost_54 : decode cX8_findMost 54 = .ok (.if_icmp .ge 80, 3) := by decide +kernel
theorem dX8_findMost_57 : decode cX8_findMost 57 = .ok (.iload 4, 2) := by decide +kernel
theorem dX8_findMost_59 : decode cX8_findMost 59 = .ok (.iload 6, 2) := by decide +kernel
theorem dX8_findMost_61 : decode cX8_findMost 61 = .ok (.ishr, 1) := by decide +kernel
theorem dX8_findMost_62 : decode cX8_findMost 62 = .ok (.iconst 1, 1) := by decide +kernel
theorem dX8_findMost_63 : decode cX8_findMost 63 = .ok (.iand, 1) := by decide +kernel
theorem dX8_findMost_64 : decode cX8_findMost 64 = .ok (.iconst 1, 1) := by decide +kernel
theorem dX8_findMost_65 : decode cX8_findMost 65 = .ok (.if_icmp .ne 17, 3) := by decide +kernel
theorem dX8_findMost_68 : decode cX8_findMost 68 = .ok (.aload_n 0, 1) := by decide +kernel
theorem dX8_findMost_69 : decode cX8_findMost 69 = .ok (.iload_n 3, 1) := by decide +kernel
theorem dX8_findMost_70 : decode cX8_findMost 70 = .ok (.iload 6, 2) := by decide +kernel
theorem dX8_findMost_72 : decode cX8_findMost 72 = .ok (.invokevirtual 150, 3) := by decide +kernel
theorem dX8_findMost_75 : decode cX8_findMost 75 = .ok (.ifCond .eq 7, 3) := by decide +kernel
theorem dX8_findMost_78 : decode cX8_findMost 78 = .ok (.iconst 1, 1) := by decide +kernel
theorem dX8_findMost_79 : decode cX8_findMost 79 = .ok (.goto 4, 3) := by decide +kernel
theorem dX8_findMost_82 : decode cX8_findMost 82 = .ok (.iconst 0, 1) := by decide +kernel
theorem dX8_findMost_83 : decode cX8_findMost 83 = .ok (.istore 7, 2) := by decide +kernel
theorem dX8_findMost_85 : decode cX8_findMost 85 = .ok (.iload 7, 2) := by decide +kernel
theorem dX8_findMost_87 : decode cX8_findMost 87 = .ok (.ifCond .eq 22, 3) := by decide +kernel
theorem dX8_findMost_90 : decode cX8_findMost 90 = .ok (.iconst 1, 1) := by decide +kernel
theorem dX8_findMost_91 : decode cX8_findMost 91 = .ok (.aload_n 0, 1) := by decide +kernel
theorem dX8_findMost_92 : decode cX8_findMost 92 = .ok (.getfield 31, 3) := by decide +kernel
theorem dX8_findMost_95 : decode cX8_findMost 95 = .ok (.iload 4, 2) := by decide +kernel
theorem dX8_findMost_97 : decode cX8_findMost 97 = .ok (.iconst 1, 1) := by decide +kernel
theorem dX8_findMost_98 : decode cX8_findMost 98 = .ok (.iload 6, 2) := by decide +kernel
theorem dX8_findMost_100 : decode cX8_findMost 100 = .ok (.ishl, 1) := by decide +kernel
theorem dX8_findMost_101 : decode cX8_findMost 101 = .ok (.iconst (-1), 1) := by decide +kernel
theorem dX8_findMost_102 : decode cX8_findMost 102 = .ok (.ixor, 1) := by decide +kernel
theorem dX8_findMost_103 : decode cX8_findMost 103 = .ok (.iand, 1) := by decide +kernel
theorem dX8_findMost_104 : decode cX8_findMost 104 = .ok (.iaload, 1) := by decide +kernel
theorem dX8_findMost_105 : decode cX8_findMost 105 = .ok (.iadd, 1) := by decide +kernel
theorem dX8_findMost_106 : decode cX8_findMost 106 = .ok (.goto 4, 3) := by decide +kernel
theorem dX8_findMost_109 : decode cX8_findMost 109 = .ok (.iconst 0, 1) := by decide +kernel
theorem dX8_findMost_110 : decode cX8_findMost 110 = .ok (.istore 8, 2) := by decide +kernel
theorem dX8_findMost_112 : decode cX8_findMost 112 = .ok (.iload 8, 2) := by decide +kernel
theorem dX8_findMost_114 : decode cX8_findMost 114 = .ok (.iload 5, 2) := by decide +kernel
theorem dX8_findMost_116 : decode cX8_findMost 116 = .ok (.if_icmp .le 8, 3) := by decide +kernel
theorem dX8_findMost_119 : decode cX8_findMost 119 = .ok (.iload 8, 2) := by decide +kernel
theorem dX8_findMost_121 : decode cX8_findMost 121 = .ok (.goto 5, 3) := by decide +kernel
theorem dX8_findMost_124 : decode cX8_findMost 124 = .ok (.iload 5, 2) := by decide +kernel
theorem dX8_findMost_126 : decode cX8_findMost 126 = .ok (.istore 5, 2) := by decide +kernel
theorem dX8_findMost_128 : decode cX8_findMost 128 = .ok (.iinc 6 1, 3) := by decide +kernel
theorem dX8_findMost_131 : decode cX8_findMost 131 = .ok (.goto (-81), 3) := by decide +kernel
theorem dX8_findMost_134 : decode cX8_findMost 134 = .ok (.aload_n 0, 1) := by decide +kernel
theorem dX8_findMost_135 : decode cX8_findMost 135 = .ok (.getfield 31, 3) := by decide +kernel
theorem dX8_findMost_138 : decode cX8_findMost 138 = .ok (.iload_n 2, 1) := by decide +kernel
theorem dX8_findMost_139 : decode cX8_findMost 139 = .ok (.iload 5, 2) := by decide +kernel
theorem dX8_findMost_141 : decode cX8_findMost 141 = .ok (.iastore, 1) := by decide +kernel
theorem dX8_findMost_142 : decode cX8_findMost 142 = .ok (.iinc 2 1, 3) := by decide +kernel
theorem dX8_findMost_145 : decode cX8_findMost 145 = .ok (.goto (-136), 3) := by decide +kernel
theorem dX8_findMost_148 : decode cX8_findMost 148 = .ok (.return_, 1) := by decide +kernel
theorem dX8_mateOf_0 : decode cX8_mateOf 0 = .ok (.iload_n 1, 1) := by decide +kernel
theorem dX8_mateOf_1 : decode cX8_mateOf 1 = .ok (.invokestatic 147, 3) := by decide +kernel
theorem dX8_mateOf_4 : decode cX8_mateOf 4 = .ok (.istore_n 2, 1) := by decide +kernel
theorem dX8_mateOf_5 : decode cX8_mateOf 5 = .ok (.iload_n 1, 1) := by decide +kernel
theorem dX8_mateOf_6 : decode cX8_mateOf 6 = .ok (.iconst 1, 1) := by decide +kernel
theorem dX8_mateOf_7 : decode cX8_mateOf 7 = .ok (.iload_n 2, 1) := by decide +kernel
theorem dX8_mateOf_8 : decode cX8_mateOf 8 = .ok (.ishl, 1) := by decide +kernel
theorem dX8_mateOf_9 : decode cX8_mateOf 9 = .ok (.iconst (-1), 1) := by decide +kernel
theorem dX8_mateOf_10 : decode cX8_mateOf 10 = .ok (.ixor, 1) := by decide +kernel
theorem dX8_mateOf_11 : decode cX8_mateOf 11 = .ok (.iand, 1) := by decide +kernel
theorem dX8_mateOf_12 : decode cX8_mateOf 12 = .ok (.istore_n 3, 1) := by decide +kernel
theorem dX8_mateOf_13 : decode cX8_mateOf 13 = .ok (.iload_n 2, 1) := by decide +kernel
theorem dX8_mateOf_14 : decode cX8_mateOf 14 = .ok (.iconst 1, 1) := by decide +kernel
theorem dX8_mateOf_15 : decode cX8_mateOf 15 = .ok (.iadd, 1) := by decide +kernel
theorem dX8_mateOf_16 : decode cX8_mateOf 16 = .ok (.istore 4, 2) := by decide +kernel
theorem dX8_mateOf_18 : decode cX8_mateOf 18 = .ok (.iload 4, 2) := by decide +kernel
theorem dX8_mateOf_20 : decode cX8_mateOf 20 = .ok (.bipush 10, 2) := by decide +kernel
theorem dX8_mateOf_22 : decode cX8_mateOf 22 = .ok (.if_icmp .ge 68, 3) := by decide +kernel
theorem dX8_mateOf_25 : decode cX8_mateOf 25 = .ok (.iload_n 3, 1) := by decide +kernel
theorem dX8_mateOf_26 : decode cX8_mateOf 26 = .ok (.iload 4, 2) := by decide +kernel
theorem dX8_mateOf_28 : decode cX8_mateOf 28 = .ok (.ishr, 1) := by decide +kernel
theorem dX8_mateOf_29 : decode cX8_mateOf 29 = .ok (.iconst 1, 1) := by decide +kernel
theorem dX8_mateOf_30 : decode cX8_mateOf 30 = .ok (.iand, 1) := by decide +kernel
theorem dX8_mateOf_31 : decode cX8_mateOf 31 = .ok (.iconst 1, 1) := by decide +kernel
theorem dX8_mateOf_32 : decode cX8_mateOf 32 = .ok (.if_icmp .ne 17, 3) := by decide +kernel
theorem dX8_mateOf_35 : decode cX8_mateOf 35 = .ok (.aload_n 0, 1) := by decide +kernel
theorem dX8_mateOf_36 : decode cX8_mateOf 36 = .ok (.iload_n 2, 1) := by decide +kernel
theorem dX8_mateOf_37 : decode cX8_mateOf 37 = .ok (.iload 4, 2) := by decide +kernel
theorem dX8_mateOf_39 : decode cX8_mateOf 39 = .ok (.invokevirtual 150, 3) := by decide +kernel
theorem dX8_mateOf_42 : decode cX8_mateOf 42 = .ok (.ifCond .eq 7, 3) := by decide +kernel
theorem dX8_mateOf_45 : decode cX8_mateOf 45 = .ok (.iconst 1, 1) := by decide +kernel
theorem dX8_mateOf_46 : decode cX8_mateOf 46 = .ok (.goto 4, 3) := by decide +kernel
theorem dX8_mateOf_49 : decode cX8_mateOf 49 = .ok (.iconst 0, 1) := by decide +kernel
theorem dX8_mateOf_50 : decode cX8_mateOf 50 = .ok (.istore 5, 2) := by decide +kernel
theorem dX8_mateOf_52 : decode cX8_mateOf 52 = .ok (.iload 5, 2) := by decide +kernel
theorem dX8_mateOf_54 : decode cX8_mateOf 54 = .ok (.ifCond .eq 30, 3) := by decide +kernel
theorem dX8_mateOf_57 : decode cX8_mateOf 57 = .ok (.iconst 1, 1) := by decide +kernel
theorem dX8_mateOf_58 : decode cX8_mateOf 58 = .ok (.aload_n 0, 1) := by decide +kernel
theorem dX8_mateOf_59 : decode cX8_mateOf 59 = .ok (.getfield 31, 3) := by decide +kernel
theorem dX8_mateOf_62 : decode cX8_mateOf 62 = .ok (.iload_n 3, 1) := by decide +kernel
theorem dX8_mateOf_63 : decode cX8_mateOf 63 = .ok (.iconst 1, 1) := by decide +kernel
theorem dX8_mateOf_64 : decode cX8_mateOf 64 = .ok (.iload 4, 2) := by decide +kernel
theorem dX8_mateOf_66 : decode cX8_mateOf 66 = .ok (.ishl, 1) := by decide +kernel
theorem dX8_mateOf_67 : decode cX8_mateOf 67 = .ok (.iconst (-1), 1) := by decide +kernel
theorem dX8_mateOf_68 : decode cX8_mateOf 68 = .ok (.ixor, 1) := by decide +kernel
theorem dX8_mateOf_69 : decode cX8_mateOf 69 = .ok (.iand, 1) := by decide +kernel
theorem dX8_mateOf_70 : decode cX8_mateOf 70 = .ok (.iaload, 1) := by decide +kernel
theorem dX8_mateOf_71 : decode cX8_mateOf 71 = .ok (.iadd, 1) := by decide +kernel
theorem dX8_mateOf_72 : decode cX8_mateOf 72 = .ok (.aload_n 0, 1) := by decide +kernel
theorem dX8_mateOf_73 : decode cX8_mateOf 73 = .ok (.getfield 31, 3) := by decide +kernel
theorem dX8_mateOf_76 : decode cX8_mateOf 76 = .ok (.iload_n 1, 1) := by decide +kernel
theorem dX8_mateOf_77 : decode cX8_mateOf 77 = .ok (.iaload, 1) := by decide +kernel
theorem dX8_mateOf_78 : decode cX8_mateOf 78 = .ok (.if_icmp .ne 6, 3) := by decide +kernel
theorem dX8_mateOf_81 : decode cX8_mateOf 81 = .ok (.iload 4, 2) := by decide +kernel
theorem dX8_mateOf_83 : decode cX8_mateOf 83 = .ok (.ireturn, 1) := by decide +kernel
theorem dX8_mateOf_84 : decode cX8_mateOf 84 = .ok (.iinc 4 1, 3) := by decide +kernel
theorem dX8_mateOf_87 : decode cX8_mateOf 87 = .ok (.goto (-69), 3) := by decide +kernel
theorem dX8_mateOf_90 : decode cX8_mateOf 90 = .ok (.bipush (-6), 2) := by decide +kernel
theorem dX8_mateOf_92 : decode cX8_mateOf 92 = .ok (.ireturn, 1) := by decide +kernel
theorem dX8_match_0 : decode cX8_match 0 = .ok (.iload_n 2, 1) := by decide +kernel
theorem dX8_match_1 : decode cX8_match 1 = .ok (.iconst (-1), 1) := by decide +kernel
theorem dX8_match_2 : decode cX8_match 2 = .ok (.if_icmp .eq 24, 3) := by decide +kernel
theorem dX8_match_5 : decode cX8_match 5 = .ok (.iload_n 2, 1) := by decide +kernel
theorem dX8_match_6 : decode cX8_match 6 = .ok (.i2l, 1) := by decide +kernel
theorem dX8_match_7 : decode cX8_match 7 = .ok (.lconst 0, 1) := by decide +kernel
theorem dX8_match_8 : decode cX8_match 8 = .ok (.ldc2_w 59, 3) := by decide +kernel
theorem dX8_match_11 : decode cX8_match 11 = .ok (.invokestatic 50, 3) := by decide +kernel
theorem dX8_match_14 : decode cX8_match 14 = .ok (.ifCond .eq 16, 3) := by decide +kernel
theorem dX8_match_17 : decode cX8_match 17 = .ok (.iload_n 1, 1) := by decide +kernel
theorem dX8_match_18 : decode cX8_match 18 = .ok (.iload_n 2, 1) := by decide +kernel
theorem dX8_match_19 : decode cX8_match 19 = .ok (.ishr, 1) := by decide +kernel
theorem dX8_match_20 : decode cX8_match 20 = .ok (.iconst 1, 1) := by decide +kernel
theorem dX8_match_21 : decode cX8_match 21 = .ok (.iand, 1) := by decide +kernel
theorem dX8_match_22 : decode cX8_match 22 = .ok (.iconst 1, 1) := by decide +kernel
theorem dX8_match_23 : decode cX8_match 23 = .ok (.if_icmp .ne 7, 3) := by decide +kernel
theorem dX8_match_26 : decode cX8_match 26 = .ok (.iconst 1, 1) := by decide +kernel
theorem dX8_match_27 : decode cX8_match 27 = .ok (.goto 4, 3) := by decide +kernel
theorem dX8_match_30 : decode cX8_match 30 = .ok (.iconst 0, 1) := by decide +kernel
theorem dX8_match_31 : decode cX8_match 31 = .ok (.istore_n 3, 1) := by decide +kernel
theorem dX8_match_32 : decode cX8_match 32 = .ok (.iload_n 1, 1) := by decide +kernel
theorem dX8_match_33 : decode cX8_match 33 = .ok (.i2l, 1) := by decide +kernel
theorem dX8_match_34 : decode cX8_match 34 = .ok (.lconst 0, 1) := by decide +kernel
theorem dX8_match_35 : decode cX8_match 35 = .ok (.ldc2_w 153, 3) := by decide +kernel
theorem dX8_match_38 : decode cX8_match 38 = .ok (.invokestatic 50, 3) := by decide +kernel
theorem dX8_match_41 : decode cX8_match 41 = .ok (.ifCond .eq 18, 3) := by decide +kernel
theorem dX8_match_44 : decode cX8_match 44 = .ok (.iload_n 1, 1) := by decide +kernel
theorem dX8_match_45 : decode cX8_match 45 = .ok (.aload_n 0, 1) := by decide +kernel
theorem dX8_match_46 : decode cX8_match 46 = .ok (.getfield 61, 3) := by decide +kernel
theorem dX8_match_49 : decode cX8_match 49 = .ok (.iconst (-1), 1) := by decide +kernel
theorem dX8_match_50 : decode cX8_match 50 = .ok (.ixor, 1) := by decide +kernel
theorem dX8_match_51 : decode cX8_match 51 = .ok (.iand, 1) := by decide +kernel
theorem dX8_match_52 : decode cX8_match 52 = .ok (.ifCond .ne 7, 3) := by decide +kernel
theorem dX8_match_55 : decode cX8_match 55 = .ok (.iload_n 3, 1) := by decide +kernel
theorem dX8_match_56 : decode cX8_match 56 = .ok (.ifCond .ne 5, 3) := by decide +kernel
theorem dX8_match_59 : decode cX8_match 59 = .ok (.iconst (-1), 1) := by decide +kernel
theorem dX8_match_60 : decode cX8_match 60 = .ok (.ireturn, 1) := by decide +kernel
theorem dX8_match_61 : decode cX8_match 61 = .ok (.aload_n 0, 1) := by decide +kernel
theorem dX8_match_62 : decode cX8_match 62 = .ok (.iload_n 1, 1) := by decide +kernel
theorem dX8_match_63 : decode cX8_match 63 = .ok (.invokevirtual 155, 3) := by decide +kernel
theorem dX8_match_66 : decode cX8_match 66 = .ok (.iload_n 2, 1) := by decide +kernel
theorem dX8_match_67 : decode cX8_match 67 = .ok (.iconst (-1), 1) := by decide +kernel
theorem dX8_match_68 : decode cX8_match 68 = .ok (.if_icmp .ne 10, 3) := by decide +kernel
theorem dX8_match_71 : decode cX8_match 71 = .ok (.aload_n 0, 1) := by decide +kernel
theorem dX8_match_72 : decode cX8_match 72 = .ok (.getfield 31, 3) := by decide +kernel
theorem dX8_match_75 : decode cX8_match 75 = .ok (.iload_n 1, 1) := by decide +kernel
theorem dX8_match_76 : decode cX8_match 76 = .ok (.iaload, 1) := by decide +kernel
theorem dX8_match_77 : decode cX8_match 77 = .ok (.ireturn, 1) := by decide +kernel
theorem dX8_match_78 : decode cX8_match 78 = .ok (.iload_n 1, 1) := by decide +kernel
theorem dX8_match_79 : decode cX8_match 79 = .ok (.istore 4, 2) := by decide +kernel
theorem dX8_match_81 : decode cX8_match 81 = .ok (.iload 4, 2) := by decide +kernel
theorem dX8_match_83 : decode cX8_match 83 = .ok (.ifCond .eq 79, 3) := by decide +kernel
theorem dX8_match_86 : decode cX8_match 86 = .ok (.iload 4, 2) := by decide +kernel
theorem dX8_match_88 : decode cX8_match 88 = .ok (.invokestatic 147, 3) := by decide +kernel
theorem dX8_match_91 : decode cX8_match 91 = .ok (.istore 5, 2) := by decide +kernel
theorem dX8_match_93 : decode cX8_match 93 = .ok (.aload_n 0, 1) := by decide +kernel
theorem dX8_match_94 : decode cX8_match 94 = .ok (.iload 4, 2) := by decide +kernel
theorem dX8_match_96 : decode cX8_match 96 = .ok (.invokevirtual 159, 3) := by decide +kernel
theorem dX8_match_99 : decode cX8_match 99 = .ok (.istore 6, 2) := by decide +kernel
theorem dX8_match_101 : decode cX8_match 101 = .ok (.iload 5, 2) := by decide +kernel
theorem dX8_match_103 : decode cX8_match 103 = .ok (.iload_n 2, 1) := by decide +kernel
theorem dX8_match_104 : decode cX8_match 104 = .ok (.if_icmp .eq 9, 3) := by decide +kernel
theorem dX8_match_107 : decode cX8_match 107 = .ok (.iload 6, 2) := by decide +kernel
theorem dX8_match_109 : decode cX8_match 109 = .ok (.iload_n 2, 1) := by decide +kernel
theorem dX8_match_110 : decode cX8_match 110 = .ok (.if_icmp .ne 17, 3) := by decide +kernel
theorem dX8_match_113 : decode cX8_match 113 = .ok (.iload 5, 2) := by decide +kernel
theorem dX8_match_115 : decode cX8_match 115 = .ok (.iload_n 2, 1) := by decide +kernel
theorem dX8_match_116 : decode cX8_match 116 = .ok (.if_icmp .ne 8, 3) := by decide +kernel
theorem dX8_match_119 : decode cX8_match 119 = .ok (.iload 6, 2) := by decide +kernel
theorem dX8_match_121 : decode cX8_match 121 = .ok (.goto 5, 3) := by decide +kernel
theorem dX8_match_124 : decode cX8_match 124 = .ok (.iload 5, 2) := by decide +kernel
theorem dX8_match_126 : decode cX8_match 126 = .ok (.ireturn, 1) := by decide +kernel
theorem dX8_match_127 : decode cX8_match 127 = .ok (.iload 4, 2) := by decide +kernel
theorem dX8_match_129 : decode cX8_match 129 = .ok (.iconst 1, 1) := by decide +kernel
theorem dX8_match_130 : decode cX8_match 130 = .ok (.iload 5, 2) := by decide +kernel
theorem dX8_match_132 : decode cX8_match 132 = .ok (.ishl, 1) := by decide +kernel
theorem dX8_match_133 : decode cX8_match 133 = .ok (.iconst (-1), 1) := by decide +kernel
theorem dX8_match_134 : decode cX8_match 134 = .ok (.ixor, 1) := by decide +kernel
theorem dX8_match_135 : decode cX8_match 135 = .ok (.iand, 1) := by decide +kernel
theorem dX8_match_136 : decode cX8_match 136 = .ok (.istore 4, 2) := by decide +kernel
theorem dX8_match_138 : decode cX8_match 138 = .ok (.iload 6, 2) := by decide +kernel
theorem dX8_match_140 : decode cX8_match 140 = .ok (.ifCond .ge 8, 3) := by decide +kernel
theorem dX8_match_143 : decode cX8_match 143 = .ok (.iload 4, 2) := by decide +kernel
theorem dX8_match_145 : decode cX8_match 145 = .ok (.goto 12, 3) := by decide +kernel
theorem dX8_match_148 : decode cX8_match 148 = .ok (.iload 4, 2) := by decide +kernel
theorem dX8_match_150 : decode cX8_match 150 = .ok (.iconst 1, 1) := by decide +kernel
theorem dX8_match_151 : decode cX8_match 151 = .ok (.iload 6, 2) := by decide +kernel
theorem dX8_match_153 : decode cX8_match 153 = .ok (.ishl, 1) := by decide +kernel
theorem dX8_match_154 : decode cX8_match 154 = .ok (.iconst (-1), 1) := by decide +kernel
theorem dX8_match_155 : decode cX8_match 155 = .ok (.ixor, 1) := by decide +kernel
theorem dX8_match_156 : decode cX8_match 156 = .ok (.iand, 1) := by decide +kernel
theorem dX8_match_157 : decode cX8_match 157 = .ok (.istore 4, 2) := by decide +kernel
theorem dX8_match_159 : decode cX8_match 159 = .ok (.goto (-78), 3) := by decide +kernel
theorem dX8_match_162 : decode cX8_match 162 = .ok (.bipush (-6), 2) := by decide +kernel
theorem dX8_match_164 : decode cX8_match 164 = .ok (.ireturn, 1) := by decide +kernel
theorem dX8_unlike_0 : decode cX8_unlike 0 = .ok (.iconst 0, 1) := by decide +kernel
theorem dX8_unlike_1 : decode cX8_unlike 1 = .ok (.istore 4, 2) := by decide +kernel
theorem dX8_unlike_3 : decode cX8_unlike 3 = .ok (.iconst 0, 1) := by decide +kernel
theorem dX8_unlike_4 : decode cX8_unlike 4 = .ok (.istore 5, 2) := by decide +kernel
theorem dX8_unlike_6 : decode cX8_unlike 6 = .ok (.iload 5, 2) := by decide +kernel
theorem dX8_unlike_8 : decode cX8_unlike 8 = .ok (.bipush 6, 2) := by decide +kernel
theorem dX8_unlike_10 : decode cX8_unlike 10 = .ok (.if_icmp .ge 45, 3) := by decide +kernel
theorem dX8_unlike_13 : decode cX8_unlike 13 = .ok (.iload 4, 2) := by decide +kernel
theorem dX8_unlike_15 : decode cX8_unlike 15 = .ok (.aload_n 0, 1) := by decide +kernel
theorem dX8_unlike_16 : decode cX8_unlike 16 = .ok (.iload 5, 2) := by decide +kernel
theorem dX8_unlike_18 : decode cX8_unlike 18 = .ok (.iload_n 2, 1) := by decide +kernel
theorem dX8_unlike_19 : decode cX8_unlike 19 = .ok (.iload_n 3, 1) := by decide +kernel
theorem dX8_unlike_20 : decode cX8_unlike 20 = .ok (.invokevirtual 86, 3) := by decide +kernel
theorem dX8_unlike_23 : decode cX8_unlike 23 = .ok (.aload_n 0, 1) := by decide +kernel
theorem dX8_unlike_24 : decode cX8_unlike 24 = .ok (.getfield 19, 3) := by decide +kernel
theorem dX8_unlike_27 : decode cX8_unlike 27 = .ok (.bipush 6, 2) := by decide +kernel
theorem dX8_unlike_29 : decode cX8_unlike 29 = .ok (.iload_n 1, 1) := by decide +kernel
theorem dX8_unlike_30 : decode cX8_unlike 30 = .ok (.imul, 1) := by decide +kernel
theorem dX8_unlike_31 : decode cX8_unlike 31 = .ok (.iload 5, 2) := by decide +kernel
theorem dX8_unlike_33 : decode cX8_unlike 33 = .ok (.iadd, 1) := by decide +kernel
theorem dX8_unlike_34 : decode cX8_unlike 34 = .ok (.iaload, 1) := by decide +kernel
theorem dX8_unlike_35 : decode cX8_unlike 35 = .ok (.if_icmp .eq 10, 3) := by decide +kernel
theorem dX8_unlike_38 : decode cX8_unlike 38 = .ok (.iconst 1, 1) := by decide +kernel
theorem dX8_unlike_39 : decode cX8_unlike 39 = .ok (.iload 5, 2) := by decide +kernel
theorem dX8_unlike_41 : decode cX8_unlike 41 = .ok (.ishl, 1) := by decide +kernel
theorem dX8_unlike_42 : decode cX8_unlike 42 = .ok (.goto 4, 3) := by decide +kernel
theorem dX8_unlike_45 : decode cX8_unlike 45 = .ok (.iconst 0, 1) := by decide +kernel
theorem dX8_unlike_46 : decode cX8_unlike 46 = .ok (.ior, 1) := by decide +kernel
theorem dX8_unlike_47 : decode cX8_unlike 47 = .ok (.istore 4, 2) := by decide +kernel
theorem dX8_unlike_49 : decode cX8_unlike 49 = .ok (.iinc 5 1, 3) := by decide +kernel
theorem dX8_unlike_52 : decode cX8_unlike 52 = .ok (.goto (-46), 3) := by decide +kernel
theorem dX8_unlike_55 : decode cX8_unlike 55 = .ok (.iload 4, 2) := by decide +kernel
theorem dX8_unlike_57 : decode cX8_unlike 57 = .ok (.ireturn, 1) := by decide +kernel
theorem dX8_stood_0 : decode cX8_stood 0 = .ok (.aload_n 0, 1) := by decide +kernel
theorem dX8_stood_1 : decode cX8_stood 1 = .ok (.iload_n 1, 1) := by decide +kernel
theorem dX8_stood_2 : decode cX8_stood 2 = .ok (.invokevirtual 64, 3) := by decide +kernel
theorem dX8_stood_5 : decode cX8_stood 5 = .ok (.ifCond .ne 5, 3) := by decide +kernel
theorem dX8_stood_8 : decode cX8_stood 8 = .ok (.iconst (-1), 1) := by decide +kernel
theorem dX8_stood_9 : decode cX8_stood 9 = .ok (.ireturn, 1) := by decide +kernel
theorem dX8_stood_10 : decode cX8_stood 10 = .ok (.iconst 0, 1) := by decide +kernel
theorem dX8_stood_11 : decode cX8_stood 11 = .ok (.istore_n 3, 1) := by decide +kernel
theorem dX8_stood_12 : decode cX8_stood 12 = .ok (.iconst 0, 1) := by decide +kernel
theorem dX8_stood_13 : decode cX8_stood 13 = .ok (.istore 4, 2) := by decide +kernel
theorem dX8_stood_15 : decode cX8_stood 15 = .ok (.iload 4, 2) := by decide +kernel
theorem dX8_stood_17 : decode cX8_stood 17 = .ok (.sipush 10000, 3) := by decide +kernel
theorem dX8_stood_20 : decode cX8_stood 20 = .ok (.if_icmp .ge 38, 3) := by decide +kernel
theorem dX8_stood_23 : decode cX8_stood 23 = .ok (.aload_n 0, 1) := by decide +kernel
theorem dX8_stood_24 : decode cX8_stood 24 = .ok (.iload_n 1, 1) := by decide +kernel
theorem dX8_stood_25 : decode cX8_stood 25 = .ok (.iload 4, 2) := by decide +kernel
theorem dX8_stood_27 : decode cX8_stood 27 = .ok (.bipush 100, 2) := by decide +kernel
theorem dX8_stood_29 : decode cX8_stood 29 = .ok (.irem, 1) := by decide +kernel
theorem dX8_stood_30 : decode cX8_stood 30 = .ok (.iload 4, 2) := by decide +kernel
theorem dX8_stood_32 : decode cX8_stood 32 = .ok (.bipush 100, 2) := by decide +kernel
theorem dX8_stood_34 : decode cX8_stood 34 = .ok (.idiv, 1) := by decide +kernel
theorem dX8_stood_35 : decode cX8_stood 35 = .ok (.invokevirtual 162, 3) := by decide +kernel
theorem dX8_stood_38 : decode cX8_stood 38 = .ok (.ifCond .ne 14, 3) := by decide +kernel
theorem dX8_stood_41 : decode cX8_stood 41 = .ok (.iload_n 3, 1) := by decide +kernel
theorem dX8_stood_42 : decode cX8_stood 42 = .ok (.iload_n 2, 1) := by decide +kernel
theorem dX8_stood_43 : decode cX8_stood 43 = .ok (.if_icmp .ne 6, 3) := by decide +kernel
theorem dX8_stood_46 : decode cX8_stood 46 = .ok (.iload 4, 2) := by decide +kernel
theorem dX8_stood_48 : decode cX8_stood 48 = .ok (.ireturn, 1) := by decide +kernel
theorem dX8_stood_49 : decode cX8_stood 49 = .ok (.iinc 3 1, 3) := by decide +kernel
theorem dX8_stood_52 : decode cX8_stood 52 = .ok (.iinc 4 1, 3) := by decide +kernel
theorem dX8_stood_55 : decode cX8_stood 55 = .ok (.goto (-40), 3) := by decide +kernel
theorem dX8_stood_58 : decode cX8_stood 58 = .ok (.iload_n 2, 1) := by decide +kernel
theorem dX8_stood_59 : decode cX8_stood 59 = .ok (.iconst (-1), 1) := by decide +kernel
theorem dX8_stood_60 : decode cX8_stood 60 = .ok (.if_icmp .ne 7, 3) := by decide +kernel
theorem dX8_stood_63 : decode cX8_stood 63 = .ok (.iload_n 3, 1) := by decide +kernel
theorem dX8_stood_64 : decode cX8_stood 64 = .ok (.goto 5, 3) := by decide +kernel
theorem dX8_stood_67 : decode cX8_stood 67 = .ok (.bipush (-6), 2) := by decide +kernel
theorem dX8_stood_69 : decode cX8_stood 69 = .ok (.ireturn, 1) := by decide +kernel
theorem dX8_forged_0 : decode cX8_forged 0 = .ok (.aload_n 0, 1) := by decide +kernel
theorem dX8_forged_1 : decode cX8_forged 1 = .ok (.iload_n 1, 1) := by decide +kernel
theorem dX8_forged_2 : decode cX8_forged 2 = .ok (.invokevirtual 64, 3) := by decide +kernel
theorem dX8_forged_5 : decode cX8_forged 5 = .ok (.ifCond .ne 5, 3) := by decide +kernel
theorem dX8_forged_8 : decode cX8_forged 8 = .ok (.iconst (-1), 1) := by decide +kernel
theorem dX8_forged_9 : decode cX8_forged 9 = .ok (.ireturn, 1) := by decide +kernel
theorem dX8_forged_10 : decode cX8_forged 10 = .ok (.iload_n 2, 1) := by decide +kernel
theorem dX8_forged_11 : decode cX8_forged 11 = .ok (.i2l, 1) := by decide +kernel
theorem dX8_forged_12 : decode cX8_forged 12 = .ok (.lconst 0, 1) := by decide +kernel
theorem dX8_forged_13 : decode cX8_forged 13 = .ok (.lconst 1, 1) := by decide +kernel
theorem dX8_forged_14 : decode cX8_forged 14 = .ok (.invokestatic 50, 3) := by decide +kernel
theorem dX8_forged_17 : decode cX8_forged 17 = .ok (.ifCond .ne 6, 3) := by decide +kernel
theorem dX8_forged_20 : decode cX8_forged 20 = .ok (.bipush (-2), 2) := by decide +kernel
theorem dX8_forged_22 : decode cX8_forged 22 = .ok (.ireturn, 1) := by decide +kernel
theorem dX8_forged_23 : decode cX8_forged 23 = .ok (.bipush 63, 2) := by decide +kernel
theorem dX8_forged_25 : decode cX8_forged 25 = .ok (.istore_n 3, 1) := by decide +kernel
theorem dX8_forged_26 : decode cX8_forged 26 = .ok (.iconst 0, 1) := by decide +kernel
theorem dX8_forged_27 : decode cX8_forged 27 = .ok (.istore 4, 2) := by decide +kernel
theorem dX8_forged_29 : decode cX8_forged 29 = .ok (.iload 4, 2) := by decide +kernel
theorem dX8_forged_31 : decode cX8_forged 31 = .ok (.sipush 10000, 3) := by decide +kernel
theorem dX8_forged_34 : decode cX8_forged 34 = .ok (.if_icmp .ge 75, 3) := by decide +kernel
theorem dX8_forged_37 : decode cX8_forged 37 = .ok (.aload_n 0, 1) := by decide +kernel
theorem dX8_forged_38 : decode cX8_forged 38 = .ok (.iload_n 1, 1) := by decide +kernel
theorem dX8_forged_39 : decode cX8_forged 39 = .ok (.iload 4, 2) := by decide +kernel
theorem dX8_forged_41 : decode cX8_forged 41 = .ok (.bipush 100, 2) := by decide +kernel
theorem dX8_forged_43 : decode cX8_forged 43 = .ok (.irem, 1) := by decide +kernel
theorem dX8_forged_44 : decode cX8_forged 44 = .ok (.iload 4, 2) := by decide +kernel
theorem dX8_forged_46 : decode cX8_forged 46 = .ok (.bipush 100, 2) := by decide +kernel
theorem dX8_forged_48 : decode cX8_forged 48 = .ok (.idiv, 1) := by decide +kernel
theorem dX8_forged_49 : decode cX8_forged 49 = .ok (.invokevirtual 162, 3) := by decide +kernel
theorem dX8_forged_52 : decode cX8_forged 52 = .ok (.istore 5, 2) := by decide +kernel
theorem dX8_forged_54 : decode cX8_forged 54 = .ok (.iload 5, 2) := by decide +kernel
theorem dX8_forged_56 : decode cX8_forged 56 = .ok (.invokestatic 75, 3) := by decide +kernel
theorem dX8_forged_59 : decode cX8_forged 59 = .ok (.iload_n 3, 1) := by decide +kernel
theorem dX8_forged_60 : decode cX8_forged 60 = .ok (.invokestatic 75, 3) := by decide +kernel
theorem dX8_forged_63 : decode cX8_forged 63 = .ok (.if_icmp .lt 21, 3) := by decide +kernel
theorem dX8_forged_66 : decode cX8_forged 66 = .ok (.iload 5, 2) := by decide +kernel
theorem dX8_forged_68 : decode cX8_forged 68 = .ok (.invokestatic 75, 3) := by decide +kernel
theorem dX8_forged_71 : decode cX8_forged 71 = .ok (.iload_n 3, 1) := by decide +kernel
theorem dX8_forged_72 : decode cX8_forged 72 = .ok (.invokestatic 75, 3) := by decide +kernel
theorem dX8_forged_75 : decode cX8_forged 75 = .ok (.if_icmp .ne 13, 3) := by decide +kernel
theorem dX8_forged_78 : decode cX8_forged 78 = .ok (.iload 5, 2) := by decide +kernel
theorem dX8_forged_80 : decode cX8_forged 80 = .ok (.iload_n 3, 1) := by decide +kernel
theorem dX8_forged_81 : decode cX8_forged 81 = .ok (.if_icmp .ge 7, 3) := by decide +kernel
theorem dX8_forged_84 : decode cX8_forged 84 = .ok (.iconst 1, 1) := by decide +kernel
theorem dX8_forged_85 : decode cX8_forged 85 = .ok (.goto 4, 3) := by decide +kernel
theorem dX8_forged_88 : decode cX8_forged 88 = .ok (.iconst 0, 1) := by decide +kernel
theorem dX8_forged_89 : decode cX8_forged 89 = .ok (.istore 6, 2) := by decide +kernel
theorem dX8_forged_91 : decode cX8_forged 91 = .ok (.iload 6, 2) := by decide +kernel
theorem dX8_forged_93 : decode cX8_forged 93 = .ok (.ifCond .eq 8, 3) := by decide +kernel
theorem dX8_forged_96 : decode cX8_forged 96 = .ok (.iload 5, 2) := by decide +kernel
theorem dX8_forged_98 : decode cX8_forged 98 = .ok (.goto 4, 3) := by decide +kernel
theorem dX8_forged_101 : decode cX8_forged 101 = .ok (.iload_n 3, 1) := by decide +kernel
theorem dX8_forged_102 : decode cX8_forged 102 = .ok (.istore_n 3, 1) := by decide +kernel
theorem dX8_forged_103 : decode cX8_forged 103 = .ok (.iinc 4 1, 3) := by decide +kernel
theorem dX8_forged_106 : decode cX8_forged 106 = .ok (.goto (-77), 3) := by decide +kernel
theorem dX8_forged_109 : decode cX8_forged 109 = .ok (.iload_n 2, 1) := by decide +kernel
theorem dX8_forged_110 : decode cX8_forged 110 = .ok (.ifCond .ne 10, 3) := by decide +kernel
theorem dX8_forged_113 : decode cX8_forged 113 = .ok (.iload_n 3, 1) := by decide +kernel
theorem dX8_forged_114 : decode cX8_forged 114 = .ok (.invokestatic 75, 3) := by decide +kernel
theorem dX8_forged_117 : decode cX8_forged 117 = .ok (.goto 4, 3) := by decide +kernel
theorem dX8_forged_120 : decode cX8_forged 120 = .ok (.iload_n 3, 1) := by decide +kernel
theorem dX8_forged_121 : decode cX8_forged 121 = .ok (.ireturn, 1) := by decide +kernel
theorem dX8_findMinutes_0 : decode cX8_findMinutes 0 = .ok (.aload_n 0, 1) := by decide +kernel
theorem dX8_findMinutes_1 : decode cX8_findMinutes 1 = .ok (.bipush (-6), 2) := by decide +kernel
theorem dX8_findMinutes_3 : decode cX8_findMinutes 3 = .ok (.putfield 165, 3) := by decide +kernel
theorem dX8_findMinutes_6 : decode cX8_findMinutes 6 = .ok (.aload_n 0, 1) := by decide +kernel
theorem dX8_findMinutes_7 : decode cX8_findMinutes 7 = .ok (.bipush (-6), 2) := by decide +kernel
theorem dX8_findMinutes_9 : decode cX8_findMinutes 9 = .ok (.putfield 168, 3) := by decide +kernel
theorem dX8_findMinutes_12 : decode cX8_findMinutes 12 = .ok (.iconst 0, 1) := by decide +kernel
theorem dX8_findMinutes_13 : decode cX8_findMinutes 13 = .ok (.istore_n 2, 1) := by decide +kernel
theorem dX8_findMinutes_14 : decode cX8_findMinutes 14 = .ok (.iload_n 2, 1) := by decide +kernel
theorem dX8_findMinutes_15 : decode cX8_findMinutes 15 = .ok (.sipush 10000, 3) := by decide +kernel
theorem dX8_findMinutes_18 : decode cX8_findMinutes 18 = .ok (.if_icmp .ge 55, 3) := by decide +kernel
theorem dX8_findMinutes_21 : decode cX8_findMinutes 21 = .ok (.aload_n 0, 1) := by decide +kernel
theorem dX8_findMinutes_22 : decode cX8_findMinutes 22 = .ok (.iload_n 1, 1) := by decide +kernel
theorem dX8_findMinutes_23 : decode cX8_findMinutes 23 = .ok (.iload_n 2, 1) := by decide +kernel
theorem dX8_findMinutes_24 : decode cX8_findMinutes 24 = .ok (.bipush 100, 2) := by decide +kernel
theorem dX8_findMinutes_26 : decode cX8_findMinutes 26 = .ok (.irem, 1) := by decide +kernel
theorem dX8_findMinutes_27 : decode cX8_findMinutes 27 = .ok (.iload_n 2, 1) := by decide +kernel
theorem dX8_findMinutes_28 : decode cX8_findMinutes 28 = .ok (.bipush 100, 2) := by decide +kernel
theorem dX8_findMinutes_30 : decode cX8_findMinutes 30 = .ok (.idiv, 1) := by decide +kernel
theorem dX8_findMinutes_31 : decode cX8_findMinutes 31 = .ok (.invokevirtual 162, 3) := by decide +kernel
theorem dX8_findMinutes_34 : decode cX8_findMinutes 34 = .ok (.ifCond .ne 33, 3) := by decide +kernel
theorem dX8_findMinutes_37 : decode cX8_findMinutes 37 = .ok (.aload_n 0, 1) := by decide +kernel
theorem dX8_findMinutes_38 : decode cX8_findMinutes 38 = .ok (.aload_n 0, 1) := by decide +kernel
theorem dX8_findMinutes_39 : decode cX8_findMinutes 39 = .ok (.getfield 165, 3) := by decide +kernel
theorem dX8_findMinutes_42 : decode cX8_findMinutes 42 = .ok (.ifCond .ge 10, 3) := by decide +kernel
theorem dX8_findMinutes_45 : decode cX8_findMinutes 45 = .ok (.iload_n 2, 1) := by decide +kernel
theorem dX8_findMinutes_46 : decode cX8_findMinutes 46 = .ok (.bipush 100, 2) := by decide +kernel
theorem dX8_findMinutes_48 : decode cX8_findMinutes 48 = .ok (.idiv, 1) := by decide +kernel
theorem dX8_findMinutes_49 : decode cX8_findMinutes 49 = .ok (.goto 7, 3) := by decide +kernel
theorem dX8_findMinutes_52 : decode cX8_findMinutes 52 = .ok (.aload_n 0, 1) := by decide +kernel
theorem dX8_findMinutes_53 : decode cX8_findMinutes 53 = .ok (.getfield 165, 3) := by decide +kernel
theorem dX8_findMinutes_56 : decode cX8_findMinutes 56 = .ok (.putfield 165, 3) := by decide +kernel
theorem dX8_findMinutes_59 : decode cX8_findMinutes 59 = .ok (.aload_n 0, 1) := by decide +kernel
theorem dX8_findMinutes_60 : decode cX8_findMinutes 60 = .ok (.iload_n 2, 1) := by decide +kernel
theorem dX8_findMinutes_61 : decode cX8_findMinutes 61 = .ok (.bipush 100, 2) := by decide +kernel
theorem dX8_findMinutes_63 : decode cX8_findMinutes 63 = .ok (.idiv, 1) := by decide +kernel
theorem dX8_findMinutes_64 : decode cX8_findMinutes 64 = .ok (.putfield 168, 3) := by decide +kernel
theorem dX8_findMinutes_67 : decode cX8_findMinutes 67 = .ok (.iinc 2 1, 3) := by decide +kernel
theorem dX8_findMinutes_70 : decode cX8_findMinutes 70 = .ok (.goto (-56), 3) := by decide +kernel
theorem dX8_findMinutes_73 : decode cX8_findMinutes 73 = .ok (.return_, 1) := by decide +kernel
theorem dX8_ahead_0 : decode cX8_ahead 0 = .ok (.aload_n 0, 1) := by decide +kernel
theorem dX8_ahead_1 : decode cX8_ahead 1 = .ok (.iload_n 1, 1) := by decide +kernel
theorem dX8_ahead_2 : decode cX8_ahead 2 = .ok (.iload_n 2, 1) := by decide +kernel
theorem dX8_ahead_3 : decode cX8_ahead 3 = .ok (.invokevirtual 143, 3) := by decide +kernel
theorem dX8_ahead_6 : decode cX8_ahead 6 = .ok (.ifCond .ne 5, 3) := by decide +kernel
theorem dX8_ahead_9 : decode cX8_ahead 9 = .ok (.iconst (-1), 1) := by decide +kernel
theorem dX8_ahead_10 : decode cX8_ahead 10 = .ok (.ireturn, 1) := by decide +kernel
theorem dX8_ahead_11 : decode cX8_ahead 11 = .ok (.aload_n 0, 1) := by decide +kernel
theorem dX8_ahead_12 : decode cX8_ahead 12 = .ok (.iload_n 1, 1) := by decide +kernel
theorem dX8_ahead_13 : decode cX8_ahead 13 = .ok (.invokevirtual 171, 3) := by decide +kernel
theorem dX8_ahead_16 : decode cX8_ahead 16 = .ok (.aload_n 0, 1) := by decide +kernel
theorem dX8_ahead_17 : decode cX8_ahead 17 = .ok (.getfield 165, 3) := by decide +kernel
theorem dX8_ahead_20 : decode cX8_ahead 20 = .ok (.istore_n 3, 1) := by decide +kernel
theorem dX8_ahead_21 : decode cX8_ahead 21 = .ok (.aload_n 0, 1) := by decide +kernel
theorem dX8_ahead_22 : decode cX8_ahead 22 = .ok (.getfield 168, 3) := by decide +kernel
theorem dX8_ahead_25 : decode cX8_ahead 25 = .ok (.istore 4, 2) := by decide +kernel
theorem dX8_ahead_27 : decode cX8_ahead 27 = .ok (.aload_n 0, 1) := by decide +kernel
theorem dX8_ahead_28 : decode cX8_ahead 28 = .ok (.iload_n 2, 1) := by decide +kernel
theorem dX8_ahead_29 : decode cX8_ahead 29 = .ok (.invokevirtual 171, 3) := by decide +kernel
theorem dX8_ahead_32 : decode cX8_ahead 32 = .ok (.iload_n 3, 1) := by decide +kernel
theorem dX8_ahead_33 : decode cX8_ahead 33 = .ok (.ifCond .lt 10, 3) := by decide +kernel
theorem dX8_ahead_36 : decode cX8_ahead 36 = .ok (.aload_n 0, 1) := by decide +kernel
theorem dX8_ahead_37 : decode cX8_ahead 37 = .ok (.getfield 165, 3) := by decide +kernel
theorem dX8_ahead_40 : decode cX8_ahead 40 = .ok (.ifCond .ge 6, 3) := by decide +kernel
theorem dX8_ahead_43 : decode cX8_ahead 43 = .ok (.bipush (-6), 2) := by decide +kernel
theorem dX8_ahead_45 : decode cX8_ahead 45 = .ok (.ireturn, 1) := by decide +kernel
theorem dX8_ahead_46 : decode cX8_ahead 46 = .ok (.iload 4, 2) := by decide +kernel
theorem dX8_ahead_48 : decode cX8_ahead 48 = .ok (.aload_n 0, 1) := by decide +kernel
theorem dX8_ahead_49 : decode cX8_ahead 49 = .ok (.getfield 165, 3) := by decide +kernel
theorem dX8_ahead_52 : decode cX8_ahead 52 = .ok (.if_icmp .ge 7, 3) := by decide +kernel
theorem dX8_ahead_55 : decode cX8_ahead 55 = .ok (.iconst 1, 1) := by decide +kernel
theorem dX8_ahead_56 : decode cX8_ahead 56 = .ok (.goto 16, 3) := by decide +kernel
theorem dX8_ahead_59 : decode cX8_ahead 59 = .ok (.iload_n 3, 1) := by decide +kernel
theorem dX8_ahead_60 : decode cX8_ahead 60 = .ok (.aload_n 0, 1) := by decide +kernel
theorem dX8_ahead_61 : decode cX8_ahead 61 = .ok (.getfield 168, 3) := by decide +kernel
theorem dX8_ahead_64 : decode cX8_ahead 64 = .ok (.if_icmp .le 7, 3) := by decide +kernel
theorem dX8_ahead_67 : decode cX8_ahead 67 = .ok (.iconst 2, 1) := by decide +kernel
theorem dX8_ahead_68 : decode cX8_ahead 68 = .ok (.goto 4, 3) := by decide +kernel
theorem dX8_ahead_71 : decode cX8_ahead 71 = .ok (.iconst 0, 1) := by decide +kernel
theorem dX8_ahead_72 : decode cX8_ahead 72 = .ok (.ireturn, 1) := by decide +kernel
theorem dX8_missing_0 : decode cX8_missing 0 = .ok (.aload_n 0, 1) := by decide +kernel
theorem dX8_missing_1 : decode cX8_missing 1 = .ok (.iload_n 1, 1) := by decide +kernel
theorem dX8_missing_2 : decode cX8_missing 2 = .ok (.invokevirtual 64, 3) := by decide +kernel
theorem dX8_missing_5 : decode cX8_missing 5 = .ok (.ifCond .eq 11, 3) := by decide +kernel
theorem dX8_missing_8 : decode cX8_missing 8 = .ok (.aload_n 0, 1) := by decide +kernel
theorem dX8_missing_9 : decode cX8_missing 9 = .ok (.iload_n 2, 1) := by decide +kernel
theorem dX8_missing_10 : decode cX8_missing 10 = .ok (.invokevirtual 79, 3) := by decide +kernel
theorem dX8_missing_13 : decode cX8_missing 13 = .ok (.ifCond .ne 5, 3) := by decide +kernel
theorem dX8_missing_16 : decode cX8_missing 16 = .ok (.iconst (-1), 1) := by decide +kernel
theorem dX8_missing_17 : decode cX8_missing 17 = .ok (.ireturn, 1) := by decide +kernel
theorem dX8_missing_18 : decode cX8_missing 18 = .ok (.iload_n 3, 1) := by decide +kernel
theorem dX8_missing_19 : decode cX8_missing 19 = .ok (.i2l, 1) := by decide +kernel
theorem dX8_missing_20 : decode cX8_missing 20 = .ok (.lconst 0, 1) := by decide +kernel
theorem dX8_missing_21 : decode cX8_missing 21 = .ok (.ldc2_w 174, 3) := by decide +kernel
theorem dX8_missing_24 : decode cX8_missing 24 = .ok (.invokestatic 50, 3) := by decide +kernel
theorem dX8_missing_27 : decode cX8_missing 27 = .ok (.ifCond .ne 6, 3) := by decide +kernel
theorem dX8_missing_30 : decode cX8_missing 30 = .ok (.bipush (-2), 2) := by decide +kernel
theorem dX8_missing_32 : decode cX8_missing 32 = .ok (.ireturn, 1) := by decide +kernel
theorem dX8_missing_33 : decode cX8_missing 33 = .ok (.iconst 0, 1) := by decide +kernel
theorem dX8_missing_34 : decode cX8_missing 34 = .ok (.istore 4, 2) := by decide +kernel
theorem dX8_missing_36 : decode cX8_missing 36 = .ok (.iload 4, 2) := by decide +kernel
theorem dX8_missing_38 : decode cX8_missing 38 = .ok (.bipush 61, 2) := by decide +kernel
theorem dX8_missing_40 : decode cX8_missing 40 = .ok (.if_icmp .gt 17, 3) := by decide +kernel
theorem dX8_missing_43 : decode cX8_missing 43 = .ok (.aload_n 0, 1) := by decide +kernel
theorem dX8_missing_44 : decode cX8_missing 44 = .ok (.getfield 34, 3) := by decide +kernel
theorem dX8_missing_47 : decode cX8_missing 47 = .ok (.iload 4, 2) := by decide +kernel
theorem dX8_missing_49 : decode cX8_missing 49 = .ok (.iconst 0, 1) := by decide +kernel
theorem dX8_missing_50 : decode cX8_missing 50 = .ok (.iastore, 1) := by decide +kernel
theorem dX8_missing_51 : decode cX8_missing 51 = .ok (.iinc 4 1, 3) := by decide +kernel
theorem dX8_missing_54 : decode cX8_missing 54 = .ok (.goto (-18), 3) := by decide +kernel
theorem dX8_missing_57 : decode cX8_missing 57 = .ok (.iconst 0, 1) := by decide +kernel
theorem dX8_missing_58 : decode cX8_missing 58 = .ok (.istore 4, 2) := by decide +kernel
theorem dX8_missing_60 : decode cX8_missing 60 = .ok (.iload 4, 2) := by decide +kernel
theorem dX8_missing_62 : decode cX8_missing 62 = .ok (.sipush 10000, 3) := by decide +kernel
theorem dX8_missing_65 : decode cX8_missing 65 = .ok (.if_icmp .ge 68, 3) := by decide +kernel
theorem dX8_missing_68 : decode cX8_missing 68 = .ok (.aload_n 0, 1) := by decide +kernel
theorem dX8_missing_69 : decode cX8_missing 69 = .ok (.iload_n 1, 1) := by decide +kernel
theorem dX8_missing_70 : decode cX8_missing 70 = .ok (.iload 4, 2) := by decide +kernel
theorem dX8_missing_72 : decode cX8_missing 72 = .ok (.bipush 100, 2) := by decide +kernel
theorem dX8_missing_74 : decode cX8_missing 74 = .ok (.irem, 1) := by decide +kernel
theorem dX8_missing_75 : decode cX8_missing 75 = .ok (.iload 4, 2) := by decide +kernel
theorem dX8_missing_77 : decode cX8_missing 77 = .ok (.bipush 100, 2) := by decide +kernel
theorem dX8_missing_79 : decode cX8_missing 79 = .ok (.idiv, 1) := by decide +kernel
theorem dX8_missing_80 : decode cX8_missing 80 = .ok (.invokevirtual 162, 3) := by decide +kernel
theorem dX8_missing_83 : decode cX8_missing 83 = .ok (.iconst 1, 1) := by decide +kernel
theorem dX8_missing_84 : decode cX8_missing 84 = .ok (.iload_n 2, 1) := by decide +kernel
theorem dX8_missing_85 : decode cX8_missing 85 = .ok (.ishl, 1) := by decide +kernel
theorem dX8_missing_86 : decode cX8_missing 86 = .ok (.iconst (-1), 1) := by decide +kernel
theorem dX8_missing_87 : decode cX8_missing 87 = .ok (.ixor, 1) := by decide +kernel
theorem dX8_missing_88 : decode cX8_missing 88 = .ok (.iand, 1) := by decide +kernel
theorem dX8_missing_89 : decode cX8_missing 89 = .ok (.ifCond .ne 38, 3) := by decide +kernel
theorem dX8_missing_92 : decode cX8_missing 92 = .ok (.aload_n 0, 1) := by decide +kernel
theorem dX8_missing_93 : decode cX8_missing 93 = .ok (.iload_n 2, 1) := by decide +kernel
theorem dX8_missing_94 : decode cX8_missing 94 = .ok (.iload 4, 2) := by decide +kernel
theorem dX8_missing_96 : decode cX8_missing 96 = .ok (.bipush 100, 2) := by decide +kernel
theorem dX8_missing_98 : decode cX8_missing 98 = .ok (.irem, 1) := by decide +kernel
theorem dX8_missing_99 : decode cX8_missing 99 = .ok (.iload 4, 2) := by decide +kernel
theorem dX8_missing_101 : decode cX8_missing 101 = .ok (.bipush 100, 2) := by decide +kernel
theorem dX8_missing_103 : decode cX8_missing 103 = .ok (.idiv, 1) := by decide +kernel
theorem dX8_missing_104 : decode cX8_missing 104 = .ok (.invokevirtual 86, 3) := by decide +kernel
theorem dX8_missing_107 : decode cX8_missing 107 = .ok (.istore 5, 2) := by decide +kernel
theorem dX8_missing_109 : decode cX8_missing 109 = .ok (.aload_n 0, 1) := by decide +kernel
theorem dX8_missing_110 : decode cX8_missing 110 = .ok (.getfield 34, 3) := by decide +kernel
theorem dX8_missing_113 : decode cX8_missing 113 = .ok (.iload 5, 2) := by decide +kernel
theorem dX8_missing_115 : decode cX8_missing 115 = .ok (.ifCond .ge 8, 3) := by decide +kernel
theorem dX8_missing_118 : decode cX8_missing 118 = .ok (.bipush 61, 2) := by decide +kernel
theorem dX8_missing_120 : decode cX8_missing 120 = .ok (.goto 5, 3) := by decide +kernel
theorem dX8_missing_123 : decode cX8_missing 123 = .ok (.iload 5, 2) := by decide +kernel
theorem dX8_missing_125 : decode cX8_missing 125 = .ok (.iconst 1, 1) := by decide +kernel
theorem dX8_missing_126 : decode cX8_missing 126 = .ok (.iastore, 1) := by decide +kernel
theorem dX8_missing_127 : decode cX8_missing 127 = .ok (.iinc 4 1, 3) := by decide +kernel
theorem dX8_missing_130 : decode cX8_missing 130 = .ok (.goto (-70), 3) := by decide +kernel
theorem dX8_missing_133 : decode cX8_missing 133 = .ok (.aload_n 0, 1) := by decide +kernel
theorem dX8_missing_134 : decode cX8_missing 134 = .ok (.getfield 34, 3) := by decide +kernel
theorem dX8_missing_137 : decode cX8_missing 137 = .ok (.bipush 61, 2) := by decide +kernel
theorem dX8_missing_139 : decode cX8_missing 139 = .ok (.iaload, 1) := by decide +kernel
theorem dX8_missing_140 : decode cX8_missing 140 = .ok (.istore 4, 2) := by decide +kernel
theorem dX8_missing_142 : decode cX8_missing 142 = .ok (.bipush (-6), 2) := by decide +kernel
theorem dX8_missing_144 : decode cX8_missing 144 = .ok (.istore 5, 2) := by decide +kernel
theorem dX8_missing_146 : decode cX8_missing 146 = .ok (.bipush (-6), 2) := by decide +kernel
theorem dX8_missing_148 : decode cX8_missing 148 = .ok (.istore 6, 2) := by decide +kernel
theorem dX8_missing_150 : decode cX8_missing 150 = .ok (.iconst 0, 1) := by decide +kernel
theorem dX8_missing_151 : decode cX8_missing 151 = .ok (.istore 7, 2) := by decide +kernel
theorem dX8_missing_153 : decode cX8_missing 153 = .ok (.iload 7, 2) := by decide +kernel
theorem dX8_missing_155 : decode cX8_missing 155 = .ok (.bipush 61, 2) := by decide +kernel
theorem dX8_missing_157 : decode cX8_missing 157 = .ok (.if_icmp .ge 66, 3) := by decide +kernel
theorem dX8_missing_160 : decode cX8_missing 160 = .ok (.iload 4, 2) := by decide +kernel
theorem dX8_missing_162 : decode cX8_missing 162 = .ok (.aload_n 0, 1) := by decide +kernel
theorem dX8_missing_163 : decode cX8_missing 163 = .ok (.getfield 34, 3) := by decide +kernel
theorem dX8_missing_166 : decode cX8_missing 166 = .ok (.iload 7, 2) := by decide +kernel
theorem dX8_missing_168 : decode cX8_missing 168 = .ok (.iaload, 1) := by decide +kernel
theorem dX8_missing_169 : decode cX8_missing 169 = .ok (.iadd, 1) := by decide +kernel
theorem dX8_missing_170 : decode cX8_missing 170 = .ok (.istore 4, 2) := by decide +kernel
theorem dX8_missing_172 : decode cX8_missing 172 = .ok (.aload_n 0, 1) := by decide +kernel
theorem dX8_missing_173 : decode cX8_missing 173 = .ok (.getfield 34, 3) := by decide +kernel
theorem dX8_missing_176 : decode cX8_missing 176 = .ok (.iload 7, 2) := by decide +kernel
theorem dX8_missing_178 : decode cX8_missing 178 = .ok (.iaload, 1) := by decide +kernel
theorem dX8_missing_179 : decode cX8_missing 179 = .ok (.iconst 1, 1) := by decide +kernel
theorem dX8_missing_180 : decode cX8_missing 180 = .ok (.if_icmp .ne 13, 3) := by decide +kernel
theorem dX8_missing_183 : decode cX8_missing 183 = .ok (.iload 5, 2) := by decide +kernel
theorem dX8_missing_185 : decode cX8_missing 185 = .ok (.ifCond .ge 8, 3) := by decide +kernel
theorem dX8_missing_188 : decode cX8_missing 188 = .ok (.iload 7, 2) := by decide +kernel
theorem dX8_missing_190 : decode cX8_missing 190 = .ok (.goto 5, 3) := by decide +kernel
theorem dX8_missing_193 : decode cX8_missing 193 = .ok (.iload 5, 2) := by decide +kernel
theorem dX8_missing_195 : decode cX8_missing 195 = .ok (.istore 5, 2) := by decide +kernel
theorem dX8_missing_197 : decode cX8_missing 197 = .ok (.aload_n 0, 1) := by decide +kernel
theorem dX8_missing_198 : decode cX8_missing 198 = .ok (.getfield 34, 3) := by decide +kernel
theorem dX8_missing_201 : decode cX8_missing 201 = .ok (.iload 7, 2) := by decide +kernel
theorem dX8_missing_203 : decode cX8_missing 203 = .ok (.iaload, 1) := by decide +kernel
theorem dX8_missing_204 : decode cX8_missing 204 = .ok (.iconst 1, 1) := by decide +kernel
theorem dX8_missing_205 : decode cX8_missing 205 = .ok (.if_icmp .ne 8, 3) := by decide +kernel
theorem dX8_missing_208 : decode cX8_missing 208 = .ok (.iload 7, 2) := by decide +kernel
theorem dX8_missing_210 : decode cX8_missing 210 = .ok (.goto 5, 3) := by decide +kernel
theorem dX8_missing_213 : decode cX8_missing 213 = .ok (.iload 6, 2) := by decide +kernel
theorem dX8_missing_215 : decode cX8_missing 215 = .ok (.istore 6, 2) := by decide +kernel
theorem dX8_missing_217 : decode cX8_missing 217 = .ok (.iinc 7 1, 3) := by decide +kernel
theorem dX8_missing_220 : decode cX8_missing 220 = .ok (.goto (-67), 3) := by decide +kernel
theorem dX8_missing_223 : decode cX8_missing 223 = .ok (.iload_n 3, 1) := by decide +kernel
theorem dX8_missing_224 : decode cX8_missing 224 = .ok (.ifCond .ne 8, 3) := by decide +kernel
theorem dX8_missing_227 : decode cX8_missing 227 = .ok (.iload 4, 2) := by decide +kernel
theorem dX8_missing_229 : decode cX8_missing 229 = .ok (.goto 15, 3) := by decide +kernel
theorem dX8_missing_232 : decode cX8_missing 232 = .ok (.iload_n 3, 1) := by decide +kernel
theorem dX8_missing_233 : decode cX8_missing 233 = .ok (.iconst 1, 1) := by decide +kernel
theorem dX8_missing_234 : decode cX8_missing 234 = .ok (.if_icmp .ne 8, 3) := by decide +kernel
theorem dX8_missing_237 : decode cX8_missing 237 = .ok (.iload 5, 2) := by decide +kernel
theorem dX8_missing_239 : decode cX8_missing 239 = .ok (.goto 5, 3) := by decide +kernel
theorem dX8_missing_242 : decode cX8_missing 242 = .ok (.iload 6, 2) := by decide +kernel
theorem dX8_missing_244 : decode cX8_missing 244 = .ok (.ireturn, 1) := by decide +kernel
theorem dX8_eyes_0 : decode cX8_eyes 0 = .ok (.iconst 0, 1) := by decide +kernel
theorem dX8_eyes_1 : decode cX8_eyes 1 = .ok (.istore_n 1, 1) := by decide +kernel
theorem dX8_eyes_2 : decode cX8_eyes 2 = .ok (.iconst 0, 1) := by decide +kernel
theorem dX8_eyes_3 : decode cX8_eyes 3 = .ok (.istore_n 2, 1) := by decide +kernel
theorem dX8_eyes_4 : decode cX8_eyes 4 = .ok (.iload_n 2, 1) := by decide +kernel
theorem dX8_eyes_5 : decode cX8_eyes 5 = .ok (.sipush 1000, 3) := by decide +kernel
theorem dX8_eyes_8 : decode cX8_eyes 8 = .ok (.if_icmp .ge 97, 3) := by decide +kernel
theorem dX8_eyes_11 : decode cX8_eyes 11 = .ok (.iload_n 2, 1) := by decide +kernel
theorem dX8_eyes_12 : decode cX8_eyes 12 = .ok (.bipush 100, 2) := by decide +kernel
theorem dX8_eyes_14 : decode cX8_eyes 14 = .ok (.idiv, 1) := by decide +kernel
theorem dX8_eyes_15 : decode cX8_eyes 15 = .ok (.istore_n 3, 1) := by decide +kernel
theorem dX8_eyes_16 : decode cX8_eyes 16 = .ok (.iload_n 2, 1) := by decide +kernel
theorem dX8_eyes_17 : decode cX8_eyes 17 = .ok (.bipush 10, 2) := by decide +kernel
theorem dX8_eyes_19 : decode cX8_eyes 19 = .ok (.idiv, 1) := by decide +kernel
theorem dX8_eyes_20 : decode cX8_eyes 20 = .ok (.bipush 10, 2) := by decide +kernel
theorem dX8_eyes_22 : decode cX8_eyes 22 = .ok (.irem, 1) := by decide +kernel
theorem dX8_eyes_23 : decode cX8_eyes 23 = .ok (.istore 4, 2) := by decide +kernel
theorem dX8_eyes_25 : decode cX8_eyes 25 = .ok (.iload_n 2, 1) := by decide +kernel
theorem dX8_eyes_26 : decode cX8_eyes 26 = .ok (.bipush 10, 2) := by decide +kernel
theorem dX8_eyes_28 : decode cX8_eyes 28 = .ok (.irem, 1) := by decide +kernel
theorem dX8_eyes_29 : decode cX8_eyes 29 = .ok (.istore 5, 2) := by decide +kernel
theorem dX8_eyes_31 : decode cX8_eyes 31 = .ok (.aload_n 0, 1) := by decide +kernel
theorem dX8_eyes_32 : decode cX8_eyes 32 = .ok (.iload_n 3, 1) := by decide +kernel
theorem dX8_eyes_33 : decode cX8_eyes 33 = .ok (.iload 4, 2) := by decide +kernel
theorem dX8_eyes_35 : decode cX8_eyes 35 = .ok (.invokevirtual 143, 3) := by decide +kernel
theorem dX8_eyes_38 : decode cX8_eyes 38 = .ok (.ifCond .eq 24, 3) := by decide +kernel
theorem dX8_eyes_41 : decode cX8_eyes 41 = .ok (.aload_n 0, 1) := by decide +kernel
theorem dX8_eyes_42 : decode cX8_eyes 42 = .ok (.iload 4, 2) := by decide +kernel
theorem dX8_eyes_44 : decode cX8_eyes 44 = .ok (.iload 5, 2) := by decide +kernel
theorem dX8_eyes_46 : decode cX8_eyes 46 = .ok (.invokevirtual 143, 3) := by decide +kernel
theorem dX8_eyes_49 : decode cX8_eyes 49 = .ok (.ifCond .eq 13, 3) := by decide +kernel
theorem dX8_eyes_52 : decode cX8_eyes 52 = .ok (.iload_n 3, 1) := by decide +kernel
theorem dX8_eyes_53 : decode cX8_eyes 53 = .ok (.iload 5, 2) := by decide +kernel
theorem dX8_eyes_55 : decode cX8_eyes 55 = .ok (.if_icmp .eq 7, 3) := by decide +kernel
theorem dX8_eyes_58 : decode cX8_eyes 58 = .ok (.iconst 1, 1) := by decide +kernel
theorem dX8_eyes_59 : decode cX8_eyes 59 = .ok (.goto 4, 3) := by decide +kernel
theorem dX8_eyes_62 : decode cX8_eyes 62 = .ok (.iconst 0, 1) := by decide +kernel
theorem dX8_eyes_63 : decode cX8_eyes 63 = .ok (.istore 6, 2) := by decide +kernel
theorem dX8_eyes_65 : decode cX8_eyes 65 = .ok (.iload_n 1, 1) := by decide +kernel
theorem dX8_eyes_66 : decode cX8_eyes 66 = .ok (.iload 6, 2) := by decide +kernel
theorem dX8_eyes_68 : decode cX8_eyes 68 = .ok (.ifCond .eq 28, 3) := by decide +kernel
theorem dX8_eyes_71 : decode cX8_eyes 71 = .ok (.aload_n 0, 1) := by decide +kernel
theorem dX8_eyes_72 : decode cX8_eyes 72 = .ok (.iload_n 3, 1) := by decide +kernel
theorem dX8_eyes_73 : decode cX8_eyes 73 = .ok (.iload 4, 2) := by decide +kernel
theorem dX8_eyes_75 : decode cX8_eyes 75 = .ok (.invokevirtual 139, 3) := by decide +kernel
theorem dX8_eyes_78 : decode cX8_eyes 78 = .ok (.ifCond .ne 18, 3) := by decide +kernel
theorem dX8_eyes_81 : decode cX8_eyes 81 = .ok (.aload_n 0, 1) := by decide +kernel
theorem dX8_eyes_82 : decode cX8_eyes 82 = .ok (.iload 4, 2) := by decide +kernel
theorem dX8_eyes_84 : decode cX8_eyes 84 = .ok (.iload 5, 2) := by decide +kernel
theorem dX8_eyes_86 : decode cX8_eyes 86 = .ok (.invokevirtual 139, 3) := by decide +kernel
theorem dX8_eyes_89 : decode cX8_eyes 89 = .ok (.ifCond .ne 7, 3) := by decide +kernel
theorem dX8_eyes_92 : decode cX8_eyes 92 = .ok (.iconst 1, 1) := by decide +kernel
theorem dX8_eyes_93 : decode cX8_eyes 93 = .ok (.goto 4, 3) := by decide +kernel
theorem dX8_eyes_96 : decode cX8_eyes 96 = .ok (.iconst 0, 1) := by decide +kernel
theorem dX8_eyes_97 : decode cX8_eyes 97 = .ok (.iadd, 1) := by decide +kernel
theorem dX8_eyes_98 : decode cX8_eyes 98 = .ok (.istore_n 1, 1) := by decide +kernel
theorem dX8_eyes_99 : decode cX8_eyes 99 = .ok (.iinc 2 1, 3) := by decide +kernel
theorem dX8_eyes_102 : decode cX8_eyes 102 = .ok (.goto (-98), 3) := by decide +kernel
theorem dX8_eyes_105 : decode cX8_eyes 105 = .ok (.iload_n 1, 1) := by decide +kernel
theorem dX8_eyes_106 : decode cX8_eyes 106 = .ok (.ireturn, 1) := by decide +kernel
theorem dX8_lowest_0 : decode cX8_lowest 0 = .ok (.lload_n 2, 1) := by decide +kernel
theorem dX8_lowest_1 : decode cX8_lowest 1 = .ok (.lstore 5, 2) := by decide +kernel
theorem dX8_lowest_3 : decode cX8_lowest 3 = .ok (.lload_n 0, 1) := by decide +kernel
theorem dX8_lowest_4 : decode cX8_lowest 4 = .ok (.lstore 7, 2) := by decide +kernel
theorem dX8_lowest_6 : decode cX8_lowest 6 = .ok (.lload 7, 2) := by decide +kernel
theorem dX8_lowest_8 : decode cX8_lowest 8 = .ok (.lconst 0, 1) := by decide +kernel
theorem dX8_lowest_9 : decode cX8_lowest 9 = .ok (.lcmp, 1) := by decide +kernel
theorem dX8_lowest_10 : decode cX8_lowest 10 = .ok (.ifCond .eq 21, 3) := by decide +kernel
theorem dX8_lowest_13 : decode cX8_lowest 13 = .ok (.lload 5, 2) := by decide +kernel
theorem dX8_lowest_15 : decode cX8_lowest 15 = .ok (.lload 7, 2) := by decide +kernel
theorem dX8_lowest_17 : decode cX8_lowest 17 = .ok (.lrem, 1) := by decide +kernel
theorem dX8_lowest_18 : decode cX8_lowest 18 = .ok (.lstore 9, 2) := by decide +kernel
theorem dX8_lowest_20 : decode cX8_lowest 20 = .ok (.lload 7, 2) := by decide +kernel
theorem dX8_lowest_22 : decode cX8_lowest 22 = .ok (.lstore 5, 2) := by decide +kernel
theorem dX8_lowest_24 : decode cX8_lowest 24 = .ok (.lload 9, 2) := by decide +kernel
theorem dX8_lowest_26 : decode cX8_lowest 26 = .ok (.lstore 7, 2) := by decide +kernel
theorem dX8_lowest_28 : decode cX8_lowest 28 = .ok (.goto (-22), 3) := by decide +kernel
theorem dX8_lowest_31 : decode cX8_lowest 31 = .ok (.iload 4, 2) := by decide +kernel
theorem dX8_lowest_33 : decode cX8_lowest 33 = .ok (.ifCond .ne 10, 3) := by decide +kernel
theorem dX8_lowest_36 : decode cX8_lowest 36 = .ok (.lload_n 0, 1) := by decide +kernel
theorem dX8_lowest_37 : decode cX8_lowest 37 = .ok (.lload 5, 2) := by decide +kernel
theorem dX8_lowest_39 : decode cX8_lowest 39 = .ok (.ldiv, 1) := by decide +kernel
theorem dX8_lowest_40 : decode cX8_lowest 40 = .ok (.goto 7, 3) := by decide +kernel
theorem dX8_lowest_43 : decode cX8_lowest 43 = .ok (.lload_n 2, 1) := by decide +kernel
theorem dX8_lowest_44 : decode cX8_lowest 44 = .ok (.lload 5, 2) := by decide +kernel
theorem dX8_lowest_46 : decode cX8_lowest 46 = .ok (.ldiv, 1) := by decide +kernel
theorem dX8_lowest_47 : decode cX8_lowest 47 = .ok (.lreturn, 1) := by decide +kernel
theorem dX8_lateKind_0 : decode cX8_lateKind 0 = .ok (.iconst 0, 1) := by decide +kernel
theorem dX8_lateKind_1 : decode cX8_lateKind 1 = .ok (.istore 5, 2) := by decide +kernel
theorem dX8_lateKind_3 : decode cX8_lateKind 3 = .ok (.iconst 0, 1) := by decide +kernel
theorem dX8_lateKind_4 : decode cX8_lateKind 4 = .ok (.istore 6, 2) := by decide +kernel
theorem dX8_lateKind_6 : decode cX8_lateKind 6 = .ok (.iconst 0, 1) := by decide +kernel
theorem dX8_lateKind_7 : decode cX8_lateKind 7 = .ok (.istore 7, 2) := by decide +kernel
theorem dX8_lateKind_9 : decode cX8_lateKind 9 = .ok (.iload 7, 2) := by decide +kernel
theorem dX8_lateKind_11 : decode cX8_lateKind 11 = .ok (.bipush 6, 2) := by decide +kernel
theorem dX8_lateKind_13 : decode cX8_lateKind 13 = .ok (.if_icmp .ge 99, 3) := by decide +kernel
theorem dX8_lateKind_16 : decode cX8_lateKind 16 = .ok (.aload_n 0, 1) := by decide +kernel
theorem dX8_lateKind_17 : decode cX8_lateKind 17 = .ok (.iload 7, 2) := by decide +kernel
theorem dX8_lateKind_19 : decode cX8_lateKind 19 = .ok (.iload_n 1, 1) := by decide +kernel
theorem dX8_lateKind_20 : decode cX8_lateKind 20 = .ok (.iload_n 2, 1) := by decide +kernel
theorem dX8_lateKind_21 : decode cX8_lateKind 21 = .ok (.invokevirtual 86, 3) := by decide +kernel
theorem dX8_lateKind_24 : decode cX8_lateKind 24 = .ok (.istore 8, 2) := by decide +kernel
theorem dX8_lateKind_26 : decode cX8_lateKind 26 = .ok (.aload_n 0, 1) := by decide +kernel
theorem dX8_lateKind_27 : decode cX8_lateKind 27 = .ok (.iload 7, 2) := by decide +kernel
theorem dX8_lateKind_29 : decode cX8_lateKind 29 = .ok (.iload_n 1, 1) := by decide +kernel
theorem dX8_lateKind_30 : decode cX8_lateKind 30 = .ok (.iload_n 3, 1) := by decide +kernel
theorem dX8_lateKind_31 : decode cX8_lateKind 31 = .ok (.iadd, 1) := by decide +kernel
theorem dX8_lateKind_32 : decode cX8_lateKind 32 = .ok (.iload_n 2, 1) := by decide +kernel
theorem dX8_lateKind_33 : decode cX8_lateKind 33 = .ok (.iload 4, 2) := by decide +kernel
theorem dX8_lateKind_35 : decode cX8_lateKind 35 = .ok (.iadd, 1) := by decide +kernel
theorem dX8_lateKind_36 : decode cX8_lateKind 36 = .ok (.invokevirtual 86, 3) := by decide +kernel
theorem dX8_lateKind_39 : decode cX8_lateKind 39 = .ok (.istore 9, 2) := by decide +kernel
theorem dX8_lateKind_41 : decode cX8_lateKind 41 = .ok (.iload 8, 2) := by decide +kernel
theorem dX8_lateKind_43 : decode cX8_lateKind 43 = .ok (.ifCond .lt 12, 3) := by decide +kernel
theorem dX8_lateKind_46 : decode cX8_lateKind 46 = .ok (.iload 9, 2) := by decide +kernel
theorem dX8_lateKind_48 : decode cX8_lateKind 48 = .ok (.ifCond .lt 7, 3) := by decide +kernel
theorem dX8_lateKind_51 : decode cX8_lateKind 51 = .ok (.iconst 1, 1) := by decide +kernel
theorem dX8_lateKind_52 : decode cX8_lateKind 52 = .ok (.goto 4, 3) := by decide +kernel
theorem dX8_lateKind_55 : decode cX8_lateKind 55 = .ok (.iconst 0, 1) := by decide +kernel
theorem dX8_lateKind_56 : decode cX8_lateKind 56 = .ok (.istore 10, 2) := by decide +kernel
theorem dX8_lateKind_58 : decode cX8_lateKind 58 = .ok (.iload 5, 2) := by decide +kernel
theorem dX8_lateKind_60 : decode cX8_lateKind 60 = .ok (.ifCond .ne 15, 3) := by decide +kernel
theorem dX8_lateKind_63 : decode cX8_lateKind 63 = .ok (.iload 10, 2) := by decide +kernel
theorem dX8_lateKind_65 : decode cX8_lateKind 65 = .ok (.ifCond .eq 14, 3) := by decide +kernel
theorem dX8_lateKind_68 : decode cX8_lateKind 68 = .ok (.iload 8, 2) := by decide +kernel
theorem dX8_lateKind_70 : decode cX8_lateKind 70 = .ok (.iload 9, 2) := by decide +kernel
theorem dX8_lateKind_72 : decode cX8_lateKind 72 = .ok (.if_icmp .ge 7, 3) := by decide +kernel
theorem dX8_lateKind_75 : decode cX8_lateKind 75 = .ok (.iconst 1, 1) := by decide +kernel
theorem dX8_lateKind_76 : decode cX8_lateKind 76 = .ok (.goto 4, 3) := by decide +kernel
theorem dX8_lateKind_79 : decode cX8_lateKind 79 = .ok (.iconst 0, 1) := by decide +kernel
theorem dX8_lateKind_80 : decode cX8_lateKind 80 = .ok (.istore 5, 2) := by decide +kernel
theorem dX8_lateKind_82 : decode cX8_lateKind 82 = .ok (.iload 6, 2) := by decide +kernel
theorem dX8_lateKind_84 : decode cX8_lateKind 84 = .ok (.ifCond .ne 15, 3) := by decide +kernel
theorem dX8_lateKind_87 : decode cX8_lateKind 87 = .ok (.iload 10, 2) := by decide +kernel
theorem dX8_lateKind_89 : decode cX8_lateKind 89 = .ok (.ifCond .eq 14, 3) := by decide +kernel
theorem dX8_lateKind_92 : decode cX8_lateKind 92 = .ok (.iload 8, 2) := by decide +kernel
theorem dX8_lateKind_94 : decode cX8_lateKind 94 = .ok (.iload 9, 2) := by decide +kernel
theorem dX8_lateKind_96 : decode cX8_lateKind 96 = .ok (.if_icmp .le 7, 3) := by decide +kernel
theorem dX8_lateKind_99 : decode cX8_lateKind 99 = .ok (.iconst 1, 1) := by decide +kernel
theorem dX8_lateKind_100 : decode cX8_lateKind 100 = .ok (.goto 4, 3) := by decide +kernel
theorem dX8_lateKind_103 : decode cX8_lateKind 103 = .ok (.iconst 0, 1) := by decide +kernel
theorem dX8_lateKind_104 : decode cX8_lateKind 104 = .ok (.istore 6, 2) := by decide +kernel
theorem dX8_lateKind_106 : decode cX8_lateKind 106 = .ok (.iinc 7 1, 3) := by decide +kernel
theorem dX8_lateKind_109 : decode cX8_lateKind 109 = .ok (.goto (-100), 3) := by decide +kernel
theorem dX8_lateKind_112 : decode cX8_lateKind 112 = .ok (.iload 5, 2) := by decide +kernel
theorem dX8_lateKind_114 : decode cX8_lateKind 114 = .ok (.iload 6, 2) := by decide +kernel
theorem dX8_lateKind_116 : decode cX8_lateKind 116 = .ok (.invokestatic 117, 3) := by decide +kernel
theorem dX8_lateKind_119 : decode cX8_lateKind 119 = .ok (.ireturn, 1) := by decide +kernel
theorem dX8_late_0 : decode cX8_late 0 = .ok (.iload_n 1, 1) := by decide +kernel
theorem dX8_late_1 : decode cX8_late 1 = .ok (.invokestatic 68, 3) := by decide +kernel
theorem dX8_late_4 : decode cX8_late 4 = .ok (.ifCond .eq 72, 3) := by decide +kernel
theorem dX8_late_7 : decode cX8_late 7 = .ok (.iload_n 2, 1) := by decide +kernel
theorem dX8_late_8 : decode cX8_late 8 = .ok (.invokestatic 68, 3) := by decide +kernel
theorem dX8_late_11 : decode cX8_late 11 = .ok (.ifCond .eq 65, 3) := by decide +kernel
theorem dX8_late_14 : decode cX8_late 14 = .ok (.iload_n 3, 1) := by decide +kernel
theorem dX8_late_15 : decode cX8_late 15 = .ok (.i2l, 1) := by decide +kernel
theorem dX8_late_16 : decode cX8_late 16 = .ok (.lconst 1, 1) := by decide +kernel
theorem dX8_late_17 : decode cX8_late 17 = .ok (.ldc2_w 82, 3) := by decide +kernel
theorem dX8_late_20 : decode cX8_late 20 = .ok (.invokestatic 50, 3) := by decide +kernel
theorem dX8_late_23 : decode cX8_late 23 = .ok (.ifCond .eq 53, 3) := by decide +kernel
theorem dX8_late_26 : decode cX8_late 26 = .ok (.iload 4, 2) := by decide +kernel
theorem dX8_late_28 : decode cX8_late 28 = .ok (.i2l, 1) := by decide +kernel
theorem dX8_late_29 : decode cX8_late 29 = .ok (.lconst 0, 1) := by decide +kernel
theorem dX8_late_30 : decode cX8_late 30 = .ok (.ldc2_w 176, 3) := by decide +kernel
theorem dX8_late_33 : decode cX8_late 33 = .ok (.invokestatic 50, 3) := by decide +kernel
theorem dX8_late_36 : decode cX8_late 36 = .ok (.ifCond .eq 40, 3) := by decide +kernel
theorem dX8_late_39 : decode cX8_late 39 = .ok (.iload 5, 2) := by decide +kernel
theorem dX8_late_41 : decode cX8_late 41 = .ok (.i2l, 1) := by decide +kernel
theorem dX8_late_42 : decode cX8_late 42 = .ok (.lconst 0, 1) := by decide +kernel
theorem dX8_late_43 : decode cX8_late 43 = .ok (.ldc2_w 178, 3) := by decide +kernel
theorem dX8_late_46 : decode cX8_late 46 = .ok (.invokestatic 50, 3) := by decide +kernel
theorem dX8_late_49 : decode cX8_late 49 = .ok (.ifCond .eq 27, 3) := by decide +kernel
theorem dX8_late_52 : decode cX8_late 52 = .ok (.iload 6, 2) := by decide +kernel
theorem dX8_late_54 : decode cX8_late 54 = .ok (.i2l, 1) := by decide +kernel
theorem dX8_late_55 : decode cX8_late 55 = .ok (.lconst 0, 1) := by decide +kernel
theorem dX8_late_56 : decode cX8_late 56 = .ok (.ldc2_w 134, 3) := by decide +kernel
theorem dX8_late_59 : decode cX8_late 59 = .ok (.invokestatic 50, 3) := by decide +kernel
theorem dX8_late_62 : decode cX8_late 62 = .ok (.ifCond .eq 14, 3) := by decide +kernel
theorem dX8_late_65 : decode cX8_late 65 = .ok (.iload 7, 2) := by decide +kernel
theorem dX8_late_67 : decode cX8_late 67 = .ok (.i2l, 1) := by decide +kernel
theorem dX8_late_68 : decode cX8_late 68 = .ok (.lconst 0, 1) := by decide +kernel
theorem dX8_late_69 : decode cX8_late 69 = .ok (.lconst 1, 1) := by decide +kernel
theorem dX8_late_70 : decode cX8_late 70 = .ok (.invokestatic 50, 3) := by decide +kernel
theorem dX8_late_73 : decode cX8_late 73 = .ok (.ifCond .ne 7, 3) := by decide +kernel
theorem dX8_late_76 : decode cX8_late 76 = .ok (.ldc2_w 180, 3) := by decide +kernel
theorem dX8_late_79 : decode cX8_late 79 = .ok (.lreturn, 1) := by decide +kernel
theorem dX8_late_80 : decode cX8_late 80 = .ok (.lconst 0, 1) := by decide +kernel
theorem dX8_late_81 : decode cX8_late 81 = .ok (.lstore 8, 2) := by decide +kernel
theorem dX8_late_83 : decode cX8_late 83 = .ok (.lconst 0, 1) := by decide +kernel
theorem dX8_late_84 : decode cX8_late 84 = .ok (.lstore 10, 2) := by decide +kernel
theorem dX8_late_86 : decode cX8_late 86 = .ok (.iconst 0, 1) := by decide +kernel
theorem dX8_late_87 : decode cX8_late 87 = .ok (.istore 12, 2) := by decide +kernel
theorem dX8_late_89 : decode cX8_late 89 = .ok (.iload 12, 2) := by decide +kernel
theorem dX8_late_91 : decode cX8_late 91 = .ok (.iconst 1, 1) := by decide +kernel
theorem dX8_late_92 : decode cX8_late 92 = .ok (.iload 4, 2) := by decide +kernel
theorem dX8_late_94 : decode cX8_late 94 = .ok (.ishl, 1) := by decide +kernel
theorem dX8_late_95 : decode cX8_late 95 = .ok (.if_icmp .ge 91, 3) := by decide +kernel
theorem dX8_late_98 : decode cX8_late 98 = .ok (.lconst 1, 1) := by decide +kernel
theorem dX8_late_99 : decode cX8_late 99 = .ok (.lstore 13, 2) := by decide +kernel
theorem dX8_late_101 : decode cX8_late 101 = .ok (.iconst 0, 1) := by decide +kernel
theorem dX8_late_102 : decode cX8_late 102 = .ok (.istore 15, 2) := by decide +kernel
theorem dX8_late_104 : decode cX8_late 104 = .ok (.iload 15, 2) := by decide +kernel
theorem dX8_late_106 : decode cX8_late 106 = .ok (.iload 4, 2) := by decide +kernel
theorem dX8_late_108 : decode cX8_late 108 = .ok (.if_icmp .ge 37, 3) := by decide +kernel
theorem dX8_late_111 : decode cX8_late 111 = .ok (.lload 13, 2) := by decide +kernel
theorem dX8_late_113 : decode cX8_late 113 = .ok (.iload 12, 2) := by decide +kernel
theorem dX8_late_115 : decode cX8_late 115 = .ok (.iload 15, 2) := by decide +kernel
theorem dX8_late_117 : decode cX8_late 117 = .ok (.ishr, 1) := by decide +kernel
theorem dX8_late_118 : decode cX8_late 118 = .ok (.iconst 1, 1) := by decide +kernel
theorem dX8_late_119 : decode cX8_late 119 = .ok (.iand, 1) := by decide +kernel
theorem dX8_late_120 : decode cX8_late 120 = .ok (.iconst 1, 1) := by decide +kernel
theorem dX8_late_121 : decode cX8_late 121 = .ok (.if_icmp .ne 9, 3) := by decide +kernel
theorem dX8_late_124 : decode cX8_late 124 = .ok (.iload 5, 2) := by decide +kernel
theorem dX8_late_126 : decode cX8_late 126 = .ok (.i2l, 1) := by decide +kernel
theorem dX8_late_127 : decode cX8_late 127 = .ok (.goto 9, 3) := by decide +kernel
theorem dX8_late_130 : decode cX8_late 130 = .ok (.bipush 10, 2) := by decide +kernel
theorem dX8_late_132 : decode cX8_late 132 = .ok (.iload 5, 2) := by decide +kernel
theorem dX8_late_134 : decode cX8_late 134 = .ok (.isub, 1) := by decide +kernel
theorem dX8_late_135 : decode cX8_late 135 = .ok (.i2l, 1) := by decide +kernel
theorem dX8_late_136 : decode cX8_late 136 = .ok (.lmul, 1) := by decide +kernel
theorem dX8_late_137 : decode cX8_late 137 = .ok (.lstore 13, 2) := by decide +kernel
theorem dX8_late_139 : decode cX8_late 139 = .ok (.iinc 15 1, 3) := by decide +kernel
theorem dX8_late_142 : decode cX8_late 142 = .ok (.goto (-38), 3) := by decide +kernel
theorem dX8_late_145 : decode cX8_late 145 = .ok (.lload 10, 2) := by decide +kernel
theorem dX8_late_147 : decode cX8_late 147 = .ok (.lload 13, 2) := by decide +kernel
theorem dX8_late_149 : decode cX8_late 149 = .ok (.ladd, 1) := by decide +kernel
theorem dX8_late_150 : decode cX8_late 150 = .ok (.lstore 10, 2) := by decide +kernel
theorem dX8_late_152 : decode cX8_late 152 = .ok (.lload 8, 2) := by decide +kernel
theorem dX8_late_154 : decode cX8_late 154 = .ok (.aload_n 0, 1) := by decide +kernel
theorem dX8_late_155 : decode cX8_late 155 = .ok (.iload_n 1, 1) := by decide +kernel
theorem dX8_late_156 : decode cX8_late 156 = .ok (.iload_n 2, 1) := by decide +kernel
theorem dX8_late_157 : decode cX8_late 157 = .ok (.iload_n 3, 1) := by decide +kernel
theorem dX8_late_158 : decode cX8_late 158 = .ok (.iload 12, 2) := by decide +kernel
theorem dX8_late_160 : decode cX8_late 160 = .ok (.invokestatic 75, 3) := by decide +kernel
theorem dX8_late_163 : decode cX8_late 163 = .ok (.invokevirtual 182, 3) := by decide +kernel
theorem dX8_late_166 : decode cX8_late 166 = .ok (.iload 6, 2) := by decide +kernel
theorem dX8_late_168 : decode cX8_late 168 = .ok (.if_icmp .ne 8, 3) := by decide +kernel
theorem dX8_late_171 : decode cX8_late 171 = .ok (.lload 13, 2) := by decide +kernel
theorem dX8_late_173 : decode cX8_late 173 = .ok (.goto 4, 3) := by decide +kernel
theorem dX8_late_176 : decode cX8_late 176 = .ok (.lconst 0, 1) := by decide +kernel
theorem dX8_late_177 : decode cX8_late 177 = .ok (.ladd, 1) := by decide +kernel
theorem dX8_late_178 : decode cX8_late 178 = .ok (.lstore 8, 2) := by decide +kernel
theorem dX8_late_180 : decode cX8_late 180 = .ok (.iinc 12 1, 3) := by decide +kernel
theorem dX8_late_183 : decode cX8_late 183 = .ok (.goto (-94), 3) := by decide +kernel
theorem dX8_late_186 : decode cX8_late 186 = .ok (.lload 8, 2) := by decide +kernel
theorem dX8_late_188 : decode cX8_late 188 = .ok (.lload 10, 2) := by decide +kernel
theorem dX8_late_190 : decode cX8_late 190 = .ok (.iload 7, 2) := by decide +kernel
theorem dX8_late_192 : decode cX8_late 192 = .ok (.invokestatic 186, 3) := by decide +kernel
theorem dX8_late_195 : decode cX8_late 195 = .ok (.lreturn, 1) := by decide +kernel
theorem dX8_past_0 : decode cX8_past 0 = .ok (.aload_n 0, 1) := by decide +kernel
theorem dX8_past_1 : decode cX8_past 1 = .ok (.iload_n 1, 1) := by decide +kernel
theorem dX8_past_2 : decode cX8_past 2 = .ok (.invokevirtual 79, 3) := by decide +kernel
theorem dX8_past_5 : decode cX8_past 5 = .ok (.ifCond .ne 5, 3) := by decide +kernel
theorem dX8_past_8 : decode cX8_past 8 = .ok (.iconst (-1), 1) := by decide +kernel
theorem dX8_past_9 : decode cX8_past 9 = .ok (.ireturn, 1) := by decide +kernel
theorem dX8_past_10 : decode cX8_past 10 = .ok (.iload_n 2, 1) := by decide +kernel
theorem dX8_past_11 : decode cX8_past 11 = .ok (.invokestatic 68, 3) := by decide +kernel
theorem dX8_past_14 : decode cX8_past 14 = .ok (.ifCond .eq 13, 3) := by decide +kernel
theorem dX8_past_17 : decode cX8_past 17 = .ok (.iload_n 3, 1) := by decide +kernel
theorem dX8_past_18 : decode cX8_past 18 = .ok (.i2l, 1) := by decide +kernel
theorem dX8_past_19 : decode cX8_past 19 = .ok (.lconst 0, 1) := by decide +kernel
theorem dX8_past_20 : decode cX8_past 20 = .ok (.lconst 1, 1) := by decide +kernel
theorem dX8_past_21 : decode cX8_past 21 = .ok (.invokestatic 50, 3) := by decide +kernel
theorem dX8_past_24 : decode cX8_past 24 = .ok (.ifCond .ne 6, 3) := by decide +kernel
theorem dX8_past_27 : decode cX8_past 27 = .ok (.bipush (-2), 2) := by decide +kernel
theorem dX8_past_29 : decode cX8_past 29 = .ok (.ireturn, 1) := by decide +kernel
theorem dX8_past_30 : decode cX8_past 30 = .ok (.iconst 0, 1) := by decide +kernel
theorem dX8_past_31 : decode cX8_past 31 = .ok (.istore 4, 2) := by decide +kernel
theorem dX8_past_33 : decode cX8_past 33 = .ok (.bipush (-6), 2) := by decide +kernel
theorem dX8_past_35 : decode cX8_past 35 = .ok (.istore 5, 2) := by decide +kernel
theorem dX8_past_37 : decode cX8_past 37 = .ok (.iconst 0, 1) := by decide +kernel
theorem dX8_past_38 : decode cX8_past 38 = .ok (.istore 6, 2) := by decide +kernel
theorem dX8_past_40 : decode cX8_past 40 = .ok (.iload 6, 2) := by decide +kernel
theorem dX8_past_42 : decode cX8_past 42 = .ok (.bipush 100, 2) := by decide +kernel
theorem dX8_past_44 : decode cX8_past 44 = .ok (.if_icmp .ge 61, 3) := by decide +kernel
theorem dX8_past_47 : decode cX8_past 47 = .ok (.aload_n 0, 1) := by decide +kernel
theorem dX8_past_48 : decode cX8_past 48 = .ok (.iload_n 1, 1) := by decide +kernel
theorem dX8_past_49 : decode cX8_past 49 = .ok (.iload_n 2, 1) := by decide +kernel
theorem dX8_past_50 : decode cX8_past 50 = .ok (.iload 6, 2) := by decide +kernel
theorem dX8_past_52 : decode cX8_past 52 = .ok (.invokevirtual 86, 3) := by decide +kernel
theorem dX8_past_55 : decode cX8_past 55 = .ok (.ifCond .lt 7, 3) := by decide +kernel
theorem dX8_past_58 : decode cX8_past 58 = .ok (.iconst 1, 1) := by decide +kernel
theorem dX8_past_59 : decode cX8_past 59 = .ok (.goto 4, 3) := by decide +kernel
theorem dX8_past_62 : decode cX8_past 62 = .ok (.iconst 0, 1) := by decide +kernel
theorem dX8_past_63 : decode cX8_past 63 = .ok (.istore 7, 2) := by decide +kernel
theorem dX8_past_65 : decode cX8_past 65 = .ok (.iload 4, 2) := by decide +kernel
theorem dX8_past_67 : decode cX8_past 67 = .ok (.iload 7, 2) := by decide +kernel
theorem dX8_past_69 : decode cX8_past 69 = .ok (.ifCond .eq 7, 3) := by decide +kernel
theorem dX8_past_72 : decode cX8_past 72 = .ok (.iconst 1, 1) := by decide +kernel
theorem dX8_past_73 : decode cX8_past 73 = .ok (.goto 4, 3) := by decide +kernel
theorem dX8_past_76 : decode cX8_past 76 = .ok (.iconst 0, 1) := by decide +kernel
theorem dX8_past_77 : decode cX8_past 77 = .ok (.iadd, 1) := by decide +kernel
theorem dX8_past_78 : decode cX8_past 78 = .ok (.istore 4, 2) := by decide +kernel
theorem dX8_past_80 : decode cX8_past 80 = .ok (.iload 7, 2) := by decide +kernel
theorem dX8_past_82 : decode cX8_past 82 = .ok (.ifCond .eq 13, 3) := by decide +kernel
theorem dX8_past_85 : decode cX8_past 85 = .ok (.iload 5, 2) := by decide +kernel
theorem dX8_past_87 : decode cX8_past 87 = .ok (.ifCond .ge 8, 3) := by decide +kernel
theorem dX8_past_90 : decode cX8_past 90 = .ok (.iload 6, 2) := by decide +kernel
theorem dX8_past_92 : decode cX8_past 92 = .ok (.goto 5, 3) := by decide +kernel
theorem dX8_past_95 : decode cX8_past 95 = .ok (.iload 5, 2) := by decide +kernel
theorem dX8_past_97 : decode cX8_past 97 = .ok (.istore 5, 2) := by decide +kernel
theorem dX8_past_99 : decode cX8_past 99 = .ok (.iinc 6 1, 3) := by decide +kernel
theorem dX8_past_102 : decode cX8_past 102 = .ok (.goto (-62), 3) := by decide +kernel
theorem dX8_past_105 : decode cX8_past 105 = .ok (.iload_n 3, 1) := by decide +kernel
theorem dX8_past_106 : decode cX8_past 106 = .ok (.ifCond .ne 8, 3) := by decide +kernel
theorem dX8_past_109 : decode cX8_past 109 = .ok (.iload 4, 2) := by decide +kernel
theorem dX8_past_111 : decode cX8_past 111 = .ok (.goto 5, 3) := by decide +kernel
theorem dX8_past_114 : decode cX8_past 114 = .ok (.iload 5, 2) := by decide +kernel
theorem dX8_past_116 : decode cX8_past 116 = .ok (.ireturn, 1) := by decide +kernel
theorem dX8_shownFrom_0 : decode cX8_shownFrom 0 = .ok (.iconst 0, 1) := by decide +kernel
theorem dX8_shownFrom_1 : decode cX8_shownFrom 1 = .ok (.istore_n 3, 1) := by decide +kernel
theorem dX8_shownFrom_2 : decode cX8_shownFrom 2 = .ok (.iconst 0, 1) := by decide +kernel
theorem dX8_shownFrom_3 : decode cX8_shownFrom 3 = .ok (.istore 4, 2) := by decide +kernel
theorem dX8_shownFrom_5 : decode cX8_shownFrom 5 = .ok (.iload 4, 2) := by decide +kernel
theorem dX8_shownFrom_7 : decode cX8_shownFrom 7 = .ok (.bipush 6, 2) := by decide +kernel
theorem dX8_shownFrom_9 : decode cX8_shownFrom 9 = .ok (.if_icmp .ge 28, 3) := by decide +kernel
theorem dX8_shownFrom_12 : decode cX8_shownFrom 12 = .ok (.iload_n 3, 1) := by decide +kernel
theorem dX8_shownFrom_13 : decode cX8_shownFrom 13 = .ok (.aload_n 0, 1) := by decide +kernel
theorem dX8_shownFrom_14 : decode cX8_shownFrom 14 = .ok (.iload 4, 2) := by decide +kernel
theorem dX8_shownFrom_16 : decode cX8_shownFrom 16 = .ok (.iload_n 1, 1) := by decide +kernel
theorem dX8_shownFrom_17 : decode cX8_shownFrom 17 = .ok (.iload_n 2, 1) := by decide +kernel
theorem dX8_shownFrom_18 : decode cX8_shownFrom 18 = .ok (.invokevirtual 86, 3) := by decide +kernel
theorem dX8_shownFrom_21 : decode cX8_shownFrom 21 = .ok (.ifCond .lt 7, 3) := by decide +kernel
theorem dX8_shownFrom_24 : decode cX8_shownFrom 24 = .ok (.iconst 1, 1) := by decide +kernel
theorem dX8_shownFrom_25 : decode cX8_shownFrom 25 = .ok (.goto 4, 3) := by decide +kernel
theorem dX8_shownFrom_28 : decode cX8_shownFrom 28 = .ok (.iconst 0, 1) := by decide +kernel
theorem dX8_shownFrom_29 : decode cX8_shownFrom 29 = .ok (.iadd, 1) := by decide +kernel
theorem dX8_shownFrom_30 : decode cX8_shownFrom 30 = .ok (.istore_n 3, 1) := by decide +kernel
theorem dX8_shownFrom_31 : decode cX8_shownFrom 31 = .ok (.iinc 4 1, 3) := by decide +kernel
theorem dX8_shownFrom_34 : decode cX8_shownFrom 34 = .ok (.goto (-29), 3) := by decide +kernel
theorem dX8_shownFrom_37 : decode cX8_shownFrom 37 = .ok (.iload_n 3, 1) := by decide +kernel
theorem dX8_shownFrom_38 : decode cX8_shownFrom 38 = .ok (.ireturn, 1) := by decide +kernel
theorem dX8_best_0 : decode cX8_best 0 = .ok (.iload_n 1, 1) := by decide +kernel
theorem dX8_best_1 : decode cX8_best 1 = .ok (.invokestatic 68, 3) := by decide +kernel
theorem dX8_best_4 : decode cX8_best 4 = .ok (.ifCond .eq 13, 3) := by decide +kernel
theorem dX8_best_7 : decode cX8_best 7 = .ok (.iload_n 2, 1) := by decide +kernel
theorem dX8_best_8 : decode cX8_best 8 = .ok (.i2l, 1) := by decide +kernel
theorem dX8_best_9 : decode cX8_best 9 = .ok (.lconst 0, 1) := by decide +kernel
theorem dX8_best_10 : decode cX8_best 10 = .ok (.lconst 1, 1) := by decide +kernel
theorem dX8_best_11 : decode cX8_best 11 = .ok (.invokestatic 50, 3) := by decide +kernel
theorem dX8_best_14 : decode cX8_best 14 = .ok (.ifCond .ne 6, 3) := by decide +kernel
theorem dX8_best_17 : decode cX8_best 17 = .ok (.bipush (-2), 2) := by decide +kernel
theorem dX8_best_19 : decode cX8_best 19 = .ok (.ireturn, 1) := by decide +kernel
theorem dX8_best_20 : decode cX8_best 20 = .ok (.iconst 0, 1) := by decide +kernel
theorem dX8_best_21 : decode cX8_best 21 = .ok (.istore_n 3, 1) := by decide +kernel
theorem dX8_best_22 : decode cX8_best 22 = .ok (.iconst 1, 1) := by decide +kernel
theorem dX8_best_23 : decode cX8_best 23 = .ok (.istore 4, 2) := by decide +kernel
theorem dX8_best_25 : decode cX8_best 25 = .ok (.iload 4, 2) := by decide +kernel
theorem dX8_best_27 : decode cX8_best 27 = .ok (.bipush 100, 2) := by decide +kernel
theorem dX8_best_29 : decode cX8_best 29 = .ok (.if_icmp .ge 32, 3) := by decide +kernel
theorem dX8_best_32 : decode cX8_best 32 = .ok (.aload_n 0, 1) := by decide +kernel
theorem dX8_best_33 : decode cX8_best 33 = .ok (.iload 4, 2) := by decide +kernel
theorem dX8_best_35 : decode cX8_best 35 = .ok (.iload_n 1, 1) := by decide +kernel
theorem dX8_best_36 : decode cX8_best 36 = .ok (.invokevirtual 190, 3) := by decide +kernel
theorem dX8_best_39 : decode cX8_best 39 = .ok (.aload_n 0, 1) := by decide +kernel
theorem dX8_best_40 : decode cX8_best 40 = .ok (.iload_n 3, 1) := by decide +kernel
theorem dX8_best_41 : decode cX8_best 41 = .ok (.iload_n 1, 1) := by decide +kernel
theorem dX8_best_42 : decode cX8_best 42 = .ok (.invokevirtual 190, 3) := by decide +kernel
theorem dX8_best_45 : decode cX8_best 45 = .ok (.if_icmp .le 8, 3) := by decide +kernel
theorem dX8_best_48 : decode cX8_best 48 = .ok (.iload 4, 2) := by decide +kernel
theorem dX8_best_50 : decode cX8_best 50 = .ok (.goto 4, 3) := by decide +kernel
theorem dX8_best_53 : decode cX8_best 53 = .ok (.iload_n 3, 1) := by decide +kernel
theorem dX8_best_54 : decode cX8_best 54 = .ok (.istore_n 3, 1) := by decide +kernel
theorem dX8_best_55 : decode cX8_best 55 = .ok (.iinc 4 1, 3) := by decide +kernel
theorem dX8_best_58 : decode cX8_best 58 = .ok (.goto (-33), 3) := by decide +kernel
theorem dX8_best_61 : decode cX8_best 61 = .ok (.iload_n 2, 1) := by decide +kernel
theorem dX8_best_62 : decode cX8_best 62 = .ok (.ifCond .ne 7, 3) := by decide +kernel
theorem dX8_best_65 : decode cX8_best 65 = .ok (.iload_n 3, 1) := by decide +kernel
theorem dX8_best_66 : decode cX8_best 66 = .ok (.goto 9, 3) := by decide +kernel
theorem dX8_best_69 : decode cX8_best 69 = .ok (.aload_n 0, 1) := by decide +kernel
theorem dX8_best_70 : decode cX8_best 70 = .ok (.iload_n 3, 1) := by decide +kernel
theorem dX8_best_71 : decode cX8_best 71 = .ok (.iload_n 1, 1) := by decide +kernel
theorem dX8_best_72 : decode cX8_best 72 = .ok (.invokevirtual 190, 3) := by decide +kernel
theorem dX8_best_75 : decode cX8_best 75 = .ok (.ireturn, 1) := by decide +kernel
theorem dX8_year_0 : decode cX8_year 0 = .ok (.iload_n 1, 1) := by decide +kernel
theorem dX8_year_1 : decode cX8_year 1 = .ok (.i2l, 1) := by decide +kernel
theorem dX8_year_2 : decode cX8_year 2 = .ok (.lconst 0, 1) := by decide +kernel
theorem dX8_year_3 : decode cX8_year 3 = .ok (.ldc2_w 193, 3) := by decide +kernel
theorem dX8_year_6 : decode cX8_year 6 = .ok (.invokestatic 50, 3) := by decide +kernel
theorem dX8_year_9 : decode cX8_year 9 = .ok (.ifCond .eq 27, 3) := by decide +kernel
theorem dX8_year_12 : decode cX8_year 12 = .ok (.iload_n 2, 1) := by decide +kernel
theorem dX8_year_13 : decode cX8_year 13 = .ok (.i2l, 1) := by decide +kernel
theorem dX8_year_14 : decode cX8_year 14 = .ok (.lconst 1, 1) := by decide +kernel
theorem dX8_year_15 : decode cX8_year 15 = .ok (.ldc2_w 48, 3) := by decide +kernel
theorem dX8_year_18 : decode cX8_year 18 = .ok (.invokestatic 50, 3) := by decide +kernel
theorem dX8_year_21 : decode cX8_year 21 = .ok (.ifCond .eq 15, 3) := by decide +kernel
theorem dX8_year_24 : decode cX8_year 24 = .ok (.iload_n 3, 1) := by decide +kernel
theorem dX8_year_25 : decode cX8_year 25 = .ok (.i2l, 1) := by decide +kernel
theorem dX8_year_26 : decode cX8_year 26 = .ok (.lconst 0, 1) := by decide +kernel
theorem dX8_year_27 : decode cX8_year 27 = .ok (.ldc2_w 134, 3) := by decide +kernel
theorem dX8_year_30 : decode cX8_year 30 = .ok (.invokestatic 50, 3) := by decide +kernel
theorem dX8_year_33 : decode cX8_year 33 = .ok (.ifCond .ne 6, 3) := by decide +kernel
theorem dX8_year_36 : decode cX8_year 36 = .ok (.bipush (-2), 2) := by decide +kernel
theorem dX8_year_38 : decode cX8_year 38 = .ok (.ireturn, 1) := by decide +kernel
theorem dX8_year_39 : decode cX8_year 39 = .ok (.iload_n 1, 1) := by decide +kernel
theorem dX8_year_40 : decode cX8_year 40 = .ok (.istore 4, 2) := by decide +kernel
theorem dX8_year_42 : decode cX8_year 42 = .ok (.iconst 0, 1) := by decide +kernel
theorem dX8_year_43 : decode cX8_year 43 = .ok (.istore 5, 2) := by decide +kernel
theorem dX8_year_45 : decode cX8_year 45 = .ok (.iconst 0, 1) := by decide +kernel
theorem dX8_year_46 : decode cX8_year 46 = .ok (.istore 6, 2) := by decide +kernel
theorem dX8_year_48 : decode cX8_year 48 = .ok (.iload 6, 2) := by decide +kernel
theorem dX8_year_50 : decode cX8_year 50 = .ok (.iload_n 2, 1) := by decide +kernel
theorem dX8_year_51 : decode cX8_year 51 = .ok (.if_icmp .ge 77, 3) := by decide +kernel
theorem dX8_year_54 : decode cX8_year 54 = .ok (.ldc2_w 195, 3) := by decide +kernel
theorem dX8_year_57 : decode cX8_year 57 = .ok (.iload 4, 2) := by decide +kernel
theorem dX8_year_59 : decode cX8_year 59 = .ok (.i2l, 1) := by decide +kernel
theorem dX8_year_60 : decode cX8_year 60 = .ok (.lmul, 1) := by decide +kernel
theorem dX8_year_61 : decode cX8_year 61 = .ok (.ldc2_w 197, 3) := by decide +kernel
theorem dX8_year_64 : decode cX8_year 64 = .ok (.ladd, 1) := by decide +kernel
theorem dX8_year_65 : decode cX8_year 65 = .ok (.ldc2_w 199, 3) := by decide +kernel
theorem dX8_year_68 : decode cX8_year 68 = .ok (.lrem, 1) := by decide +kernel
theorem dX8_year_69 : decode cX8_year 69 = .ok (.l2i, 1) := by decide +kernel
theorem dX8_year_70 : decode cX8_year 70 = .ok (.istore 4, 2) := by decide +kernel
theorem dX8_year_72 : decode cX8_year 72 = .ok (.iload 4, 2) := by decide +kernel
theorem dX8_year_74 : decode cX8_year 74 = .ok (.bipush 10, 2) := by decide +kernel
theorem dX8_year_76 : decode cX8_year 76 = .ok (.irem, 1) := by decide +kernel
theorem dX8_year_77 : decode cX8_year 77 = .ok (.istore 7, 2) := by decide +kernel
theorem dX8_year_79 : decode cX8_year 79 = .ok (.iload 4, 2) := by decide +kernel
theorem dX8_year_81 : decode cX8_year 81 = .ok (.bipush 10, 2) := by decide +kernel
theorem dX8_year_83 : decode cX8_year 83 = .ok (.idiv, 1) := by decide +kernel
theorem dX8_year_84 : decode cX8_year 84 = .ok (.bipush 10, 2) := by decide +kernel
theorem dX8_year_86 : decode cX8_year 86 = .ok (.irem, 1) := by decide +kernel
theorem dX8_year_87 : decode cX8_year 87 = .ok (.istore 8, 2) := by decide +kernel
theorem dX8_year_89 : decode cX8_year 89 = .ok (.iload 5, 2) := by decide +kernel
theorem dX8_year_91 : decode cX8_year 91 = .ok (.aload_n 0, 1) := by decide +kernel
theorem dX8_year_92 : decode cX8_year 92 = .ok (.iload 7, 2) := by decide +kernel
theorem dX8_year_94 : decode cX8_year 94 = .ok (.iload 8, 2) := by decide +kernel
theorem dX8_year_96 : decode cX8_year 96 = .ok (.invokevirtual 143, 3) := by decide +kernel
theorem dX8_year_99 : decode cX8_year 99 = .ok (.ifCond .eq 19, 3) := by decide +kernel
theorem dX8_year_102 : decode cX8_year 102 = .ok (.aload_n 0, 1) := by decide +kernel
theorem dX8_year_103 : decode cX8_year 103 = .ok (.iload 7, 2) := by decide +kernel
theorem dX8_year_105 : decode cX8_year 105 = .ok (.iload 8, 2) := by decide +kernel
theorem dX8_year_107 : decode cX8_year 107 = .ok (.invokevirtual 139, 3) := by decide +kernel
theorem dX8_year_110 : decode cX8_year 110 = .ok (.iload_n 3, 1) := by decide +kernel
theorem dX8_year_111 : decode cX8_year 111 = .ok (.if_icmp .ne 7, 3) := by decide +kernel
theorem dX8_year_114 : decode cX8_year 114 = .ok (.iconst 1, 1) := by decide +kernel
theorem dX8_year_115 : decode cX8_year 115 = .ok (.goto 4, 3) := by decide +kernel
theorem dX8_year_118 : decode cX8_year 118 = .ok (.iconst 0, 1) := by decide +kernel
theorem dX8_year_119 : decode cX8_year 119 = .ok (.iadd, 1) := by decide +kernel
theorem dX8_year_120 : decode cX8_year 120 = .ok (.istore 5, 2) := by decide +kernel
theorem dX8_year_122 : decode cX8_year 122 = .ok (.iinc 6 1, 3) := by decide +kernel
theorem dX8_year_125 : decode cX8_year 125 = .ok (.goto (-77), 3) := by decide +kernel
theorem dX8_year_128 : decode cX8_year 128 = .ok (.iload 5, 2) := by decide +kernel
theorem dX8_year_130 : decode cX8_year 130 = .ok (.ireturn, 1) := by decide +kernel
theorem dX8_pass_0 : decode cX8_pass 0 = .ok (.aload_n 0, 1) := by decide +kernel
theorem dX8_pass_1 : decode cX8_pass 1 = .ok (.getfield 201, 3) := by decide +kernel
theorem dX8_pass_4 : decode cX8_pass 4 = .ok (.ifCond .eq 7, 3) := by decide +kernel
theorem dX8_pass_7 : decode cX8_pass 7 = .ok (.iload_n 1, 1) := by decide +kernel
theorem dX8_pass_8 : decode cX8_pass 8 = .ok (.goto 12, 3) := by decide +kernel
theorem dX8_pass_11 : decode cX8_pass 11 = .ok (.aload_n 0, 1) := by decide +kernel
theorem dX8_pass_12 : decode cX8_pass 12 = .ok (.getfield 37, 3) := by decide +kernel
theorem dX8_pass_15 : decode cX8_pass 15 = .ok (.aload_n 0, 1) := by decide +kernel
theorem dX8_pass_16 : decode cX8_pass 16 = .ok (.getfield 205, 3) := by decide +kernel
theorem dX8_pass_19 : decode cX8_pass 19 = .ok (.iaload, 1) := by decide +kernel
theorem dX8_pass_20 : decode cX8_pass 20 = .ok (.istore_n 2, 1) := by decide +kernel
theorem dX8_pass_21 : decode cX8_pass 21 = .ok (.aload_n 0, 1) := by decide +kernel
theorem dX8_pass_22 : decode cX8_pass 22 = .ok (.getfield 37, 3) := by decide +kernel
theorem dX8_pass_25 : decode cX8_pass 25 = .ok (.aload_n 0, 1) := by decide +kernel
theorem dX8_pass_26 : decode cX8_pass 26 = .ok (.getfield 205, 3) := by decide +kernel
theorem dX8_pass_29 : decode cX8_pass 29 = .ok (.iload_n 2, 1) := by decide +kernel
theorem dX8_pass_30 : decode cX8_pass 30 = .ok (.iastore, 1) := by decide +kernel
theorem dX8_pass_31 : decode cX8_pass 31 = .ok (.aload_n 0, 1) := by decide +kernel
theorem dX8_pass_32 : decode cX8_pass 32 = .ok (.dup, 1) := by decide +kernel
theorem dX8_pass_33 : decode cX8_pass 33 = .ok (.getfield 205, 3) := by decide +kernel
theorem dX8_pass_36 : decode cX8_pass 36 = .ok (.iconst 1, 1) := by decide +kernel
theorem dX8_pass_37 : decode cX8_pass 37 = .ok (.iadd, 1) := by decide +kernel
theorem dX8_pass_38 : decode cX8_pass 38 = .ok (.putfield 205, 3) := by decide +kernel
theorem dX8_pass_41 : decode cX8_pass 41 = .ok (.iload_n 2, 1) := by decide +kernel
theorem dX8_pass_42 : decode cX8_pass 42 = .ok (.ireturn, 1) := by decide +kernel
theorem dX8_passAll_0 : decode cX8_passAll 0 = .ok (.aload_n 0, 1) := by decide +kernel
theorem dX8_passAll_1 : decode cX8_passAll 1 = .ok (.aload_n 0, 1) := by decide +kernel
theorem dX8_passAll_2 : decode cX8_passAll 2 = .ok (.aload_n 0, 1) := by decide +kernel
theorem dX8_passAll_3 : decode cX8_passAll 3 = .ok (.getfield 56, 3) := by decide +kernel
theorem dX8_passAll_6 : decode cX8_passAll 6 = .ok (.invokevirtual 208, 3) := by decide +kernel
theorem dX8_passAll_9 : decode cX8_passAll 9 = .ok (.putfield 56, 3) := by decide +kernel
theorem dX8_passAll_12 : decode cX8_passAll 12 = .ok (.aload_n 0, 1) := by decide +kernel
theorem dX8_passAll_13 : decode cX8_passAll 13 = .ok (.aload_n 0, 1) := by decide +kernel
theorem dX8_passAll_14 : decode cX8_passAll 14 = .ok (.aload_n 0, 1) := by decide +kernel
theorem dX8_passAll_15 : decode cX8_passAll 15 = .ok (.getfield 44, 3) := by decide +kernel
theorem dX8_passAll_18 : decode cX8_passAll 18 = .ok (.invokevirtual 208, 3) := by decide +kernel
theorem dX8_passAll_21 : decode cX8_passAll 21 = .ok (.putfield 44, 3) := by decide +kernel
theorem dX8_passAll_24 : decode cX8_passAll 24 = .ok (.aload_n 0, 1) := by decide +kernel
theorem dX8_passAll_25 : decode cX8_passAll 25 = .ok (.aload_n 0, 1) := by decide +kernel
theorem dX8_passAll_26 : decode cX8_passAll 26 = .ok (.aload_n 0, 1) := by decide +kernel
theorem dX8_passAll_27 : decode cX8_passAll 27 = .ok (.getfield 61, 3) := by decide +kernel
theorem dX8_passAll_30 : decode cX8_passAll 30 = .ok (.invokevirtual 208, 3) := by decide +kernel
theorem dX8_passAll_33 : decode cX8_passAll 33 = .ok (.putfield 61, 3) := by decide +kernel
theorem dX8_passAll_36 : decode cX8_passAll 36 = .ok (.iconst 0, 1) := by decide +kernel
theorem dX8_passAll_37 : decode cX8_passAll 37 = .ok (.istore_n 1, 1) := by decide +kernel
theorem dX8_passAll_38 : decode cX8_passAll 38 = .ok (.iload_n 1, 1) := by decide +kernel
theorem dX8_passAll_39 : decode cX8_passAll 39 = .ok (.bipush 6, 2) := by decide +kernel
theorem dX8_passAll_41 : decode cX8_passAll 41 = .ok (.if_icmp .ge 57, 3) := by decide +kernel
theorem dX8_passAll_44 : decode cX8_passAll 44 = .ok (.aload_n 0, 1) := by decide +kernel
theorem dX8_passAll_45 : decode cX8_passAll 45 = .ok (.getfield 7, 3) := by decide +kernel
theorem dX8_passAll_48 : decode cX8_passAll 48 = .ok (.iload_n 1, 1) := by decide +kernel
theorem dX8_passAll_49 : decode cX8_passAll 49 = .ok (.aload_n 0, 1) := by decide +kernel
theorem dX8_passAll_50 : decode cX8_passAll 50 = .ok (.aload_n 0, 1) := by decide +kernel
theorem dX8_passAll_51 : decode cX8_passAll 51 = .ok (.getfield 7, 3) := by decide +kernel
theorem dX8_passAll_54 : decode cX8_passAll 54 = .ok (.iload_n 1, 1) := by decide +kernel
theorem dX8_passAll_55 : decode cX8_passAll 55 = .ok (.iaload, 1) := by decide +kernel
theorem dX8_passAll_56 : decode cX8_passAll 56 = .ok (.invokevirtual 208, 3) := by decide +kernel
theorem dX8_passAll_59 : decode cX8_passAll 59 = .ok (.iastore, 1) := by decide +kernel
theorem dX8_passAll_60 : decode cX8_passAll 60 = .ok (.aload_n 0, 1) := by decide +kernel
theorem dX8_passAll_61 : decode cX8_passAll 61 = .ok (.getfield 13, 3) := by decide +kernel
theorem dX8_passAll_64 : decode cX8_passAll 64 = .ok (.iload_n 1, 1) := by decide +kernel
theorem dX8_passAll_65 : decode cX8_passAll 65 = .ok (.aload_n 0, 1) := by decide +kernel
theorem dX8_passAll_66 : decode cX8_passAll 66 = .ok (.aload_n 0, 1) := by decide +kernel
theorem dX8_passAll_67 : decode cX8_passAll 67 = .ok (.getfield 13, 3) := by decide +kernel
theorem dX8_passAll_70 : decode cX8_passAll 70 = .ok (.iload_n 1, 1) := by decide +kernel
theorem dX8_passAll_71 : decode cX8_passAll 71 = .ok (.iaload, 1) := by decide +kernel
theorem dX8_passAll_72 : decode cX8_passAll 72 = .ok (.invokevirtual 208, 3) := by decide +kernel
theorem dX8_passAll_75 : decode cX8_passAll 75 = .ok (.iastore, 1) := by decide +kernel
theorem dX8_passAll_76 : decode cX8_passAll 76 = .ok (.aload_n 0, 1) := by decide +kernel
theorem dX8_passAll_77 : decode cX8_passAll 77 = .ok (.getfield 16, 3) := by decide +kernel
theorem dX8_passAll_80 : decode cX8_passAll 80 = .ok (.iload_n 1, 1) := by decide +kernel
theorem dX8_passAll_81 : decode cX8_passAll 81 = .ok (.aload_n 0, 1) := by decide +kernel
theorem dX8_passAll_82 : decode cX8_passAll 82 = .ok (.aload_n 0, 1) := by decide +kernel
theorem dX8_passAll_83 : decode cX8_passAll 83 = .ok (.getfield 16, 3) := by decide +kernel
theorem dX8_passAll_86 : decode cX8_passAll 86 = .ok (.iload_n 1, 1) := by decide +kernel
theorem dX8_passAll_87 : decode cX8_passAll 87 = .ok (.iaload, 1) := by decide +kernel
theorem dX8_passAll_88 : decode cX8_passAll 88 = .ok (.invokevirtual 208, 3) := by decide +kernel
theorem dX8_passAll_91 : decode cX8_passAll 91 = .ok (.iastore, 1) := by decide +kernel
theorem dX8_passAll_92 : decode cX8_passAll 92 = .ok (.iinc 1 1, 3) := by decide +kernel
theorem dX8_passAll_95 : decode cX8_passAll 95 = .ok (.goto (-57), 3) := by decide +kernel
theorem dX8_passAll_98 : decode cX8_passAll 98 = .ok (.iconst 0, 1) := by decide +kernel
theorem dX8_passAll_99 : decode cX8_passAll 99 = .ok (.istore_n 1, 1) := by decide +kernel
theorem dX8_passAll_100 : decode cX8_passAll 100 = .ok (.iload_n 1, 1) := by decide +kernel
theorem dX8_passAll_101 : decode cX8_passAll 101 = .ok (.bipush 60, 2) := by decide +kernel
theorem dX8_passAll_103 : decode cX8_passAll 103 = .ok (.if_icmp .ge 25, 3) := by decide +kernel
theorem dX8_passAll_106 : decode cX8_passAll 106 = .ok (.aload_n 0, 1) := by decide +kernel
theorem dX8_passAll_107 : decode cX8_passAll 107 = .ok (.getfield 19, 3) := by decide +kernel
theorem dX8_passAll_110 : decode cX8_passAll 110 = .ok (.iload_n 1, 1) := by decide +kernel
theorem dX8_passAll_111 : decode cX8_passAll 111 = .ok (.aload_n 0, 1) := by decide +kernel
theorem dX8_passAll_112 : decode cX8_passAll 112 = .ok (.aload_n 0, 1) := by decide +kernel
theorem dX8_passAll_113 : decode cX8_passAll 113 = .ok (.getfield 19, 3) := by decide +kernel
theorem dX8_passAll_116 : decode cX8_passAll 116 = .ok (.iload_n 1, 1) := by decide +kernel
theorem dX8_passAll_117 : decode cX8_passAll 117 = .ok (.iaload, 1) := by decide +kernel
theorem dX8_passAll_118 : decode cX8_passAll 118 = .ok (.invokevirtual 208, 3) := by decide +kernel
theorem dX8_passAll_121 : decode cX8_passAll 121 = .ok (.iastore, 1) := by decide +kernel
theorem dX8_passAll_122 : decode cX8_passAll 122 = .ok (.iinc 1 1, 3) := by decide +kernel
theorem dX8_passAll_125 : decode cX8_passAll 125 = .ok (.goto (-25), 3) := by decide +kernel
theorem dX8_passAll_128 : decode cX8_passAll 128 = .ok (.return_, 1) := by decide +kernel
theorem dX8_image_0 : decode cX8_image 0 = .ok (.iload_n 1, 1) := by decide +kernel
theorem dX8_image_1 : decode cX8_image 1 = .ok (.i2l, 1) := by decide +kernel
theorem dX8_image_2 : decode cX8_image 2 = .ok (.lconst 0, 1) := by decide +kernel
theorem dX8_image_3 : decode cX8_image 3 = .ok (.lconst 1, 1) := by decide +kernel
theorem dX8_image_4 : decode cX8_image 4 = .ok (.invokestatic 50, 3) := by decide +kernel
theorem dX8_image_7 : decode cX8_image 7 = .ok (.ifCond .ne 6, 3) := by decide +kernel
theorem dX8_image_10 : decode cX8_image 10 = .ok (.bipush (-2), 2) := by decide +kernel
theorem dX8_image_12 : decode cX8_image 12 = .ok (.ireturn, 1) := by decide +kernel
theorem dX8_image_13 : decode cX8_image 13 = .ok (.aload_n 0, 1) := by decide +kernel
theorem dX8_image_14 : decode cX8_image 14 = .ok (.bipush 100, 2) := by decide +kernel
theorem dX8_image_16 : decode cX8_image 16 = .ok (.iload_n 1, 1) := by decide +kernel
theorem dX8_image_17 : decode cX8_image 17 = .ok (.imul, 1) := by decide +kernel
theorem dX8_image_18 : decode cX8_image 18 = .ok (.putfield 205, 3) := by decide +kernel
theorem dX8_image_21 : decode cX8_image 21 = .ok (.aload_n 0, 1) := by decide +kernel
theorem dX8_image_22 : decode cX8_image 22 = .ok (.iconst 1, 1) := by decide +kernel
theorem dX8_image_23 : decode cX8_image 23 = .ok (.putfield 201, 3) := by decide +kernel
theorem dX8_image_26 : decode cX8_image 26 = .ok (.aload_n 0, 1) := by decide +kernel
theorem dX8_image_27 : decode cX8_image 27 = .ok (.invokevirtual 211, 3) := by decide +kernel
theorem dX8_image_30 : decode cX8_image 30 = .ok (.aload_n 0, 1) := by decide +kernel
theorem dX8_image_31 : decode cX8_image 31 = .ok (.getfield 40, 3) := by decide +kernel
theorem dX8_image_34 : decode cX8_image 34 = .ok (.iload_n 1, 1) := by decide +kernel
theorem dX8_image_35 : decode cX8_image 35 = .ok (.iconst 1, 1) := by decide +kernel
theorem dX8_image_36 : decode cX8_image 36 = .ok (.bastore, 1) := by decide +kernel
theorem dX8_image_37 : decode cX8_image 37 = .ok (.iconst 1, 1) := by decide +kernel
theorem dX8_image_38 : decode cX8_image 38 = .ok (.ireturn, 1) := by decide +kernel
theorem dX8_restore_0 : decode cX8_restore 0 = .ok (.iload_n 1, 1) := by decide +kernel
theorem dX8_restore_1 : decode cX8_restore 1 = .ok (.i2l, 1) := by decide +kernel
theorem dX8_restore_2 : decode cX8_restore 2 = .ok (.lconst 0, 1) := by decide +kernel
theorem dX8_restore_3 : decode cX8_restore 3 = .ok (.lconst 1, 1) := by decide +kernel
theorem dX8_restore_4 : decode cX8_restore 4 = .ok (.invokestatic 50, 3) := by decide +kernel
theorem dX8_restore_7 : decode cX8_restore 7 = .ok (.ifCond .ne 6, 3) := by decide +kernel
theorem dX8_restore_10 : decode cX8_restore 10 = .ok (.bipush (-2), 2) := by decide +kernel
theorem dX8_restore_12 : decode cX8_restore 12 = .ok (.ireturn, 1) := by decide +kernel
theorem dX8_restore_13 : decode cX8_restore 13 = .ok (.aload_n 0, 1) := by decide +kernel
theorem dX8_restore_14 : decode cX8_restore 14 = .ok (.getfield 40, 3) := by decide +kernel
theorem dX8_restore_17 : decode cX8_restore 17 = .ok (.iload_n 1, 1) := by decide +kernel
theorem dX8_restore_18 : decode cX8_restore 18 = .ok (.baload, 1) := by decide +kernel
theorem dX8_restore_19 : decode cX8_restore 19 = .ok (.ifCond .ne 6, 3) := by decide +kernel
theorem dX8_restore_22 : decode cX8_restore 22 = .ok (.bipush (-3), 2) := by decide +kernel
theorem dX8_restore_24 : decode cX8_restore 24 = .ok (.ireturn, 1) := by decide +kernel
theorem dX8_restore_25 : decode cX8_restore 25 = .ok (.aload_n 0, 1) := by decide +kernel
theorem dX8_restore_26 : decode cX8_restore 26 = .ok (.bipush 100, 2) := by decide +kernel
theorem dX8_restore_28 : decode cX8_restore 28 = .ok (.iload_n 1, 1) := by decide +kernel
theorem dX8_restore_29 : decode cX8_restore 29 = .ok (.imul, 1) := by decide +kernel
theorem dX8_restore_30 : decode cX8_restore 30 = .ok (.putfield 205, 3) := by decide +kernel
theorem dX8_restore_33 : decode cX8_restore 33 = .ok (.aload_n 0, 1) := by decide +kernel
theorem dX8_restore_34 : decode cX8_restore 34 = .ok (.iconst 0, 1) := by decide +kernel
theorem dX8_restore_35 : decode cX8_restore 35 = .ok (.putfield 201, 3) := by decide +kernel
theorem dX8_restore_38 : decode cX8_restore 38 = .ok (.aload_n 0, 1) := by decide +kernel
theorem dX8_restore_39 : decode cX8_restore 39 = .ok (.invokevirtual 211, 3) := by decide +kernel
theorem dX8_restore_42 : decode cX8_restore 42 = .ok (.iconst 1, 1) := by decide +kernel
theorem dX8_restore_43 : decode cX8_restore 43 = .ok (.ireturn, 1) := by decide +kernel
theorem dX8_toldOfThing_0 : decode cX8_toldOfThing 0 = .ok (.aload_n 0, 1) := by decide +kernel
theorem dX8_toldOfThing_1 : decode cX8_toldOfThing 1 = .ok (.iload_n 1, 1) := by decide +kernel
theorem dX8_toldOfThing_2 : decode cX8_toldOfThing 2 = .ok (.invokevirtual 79, 3) := by decide +kernel
theorem dX8_toldOfThing_5 : decode cX8_toldOfThing 5 = .ok (.ifCond .ne 6, 3) := by decide +kernel
theorem dX8_toldOfThing_8 : decode cX8_toldOfThing 8 = .ok (.bipush (-2), 2) := by decide +kernel
theorem dX8_toldOfThing_10 : decode cX8_toldOfThing 10 = .ok (.ireturn, 1) := by decide +kernel
theorem dX8_toldOfThing_11 : decode cX8_toldOfThing 11 = .ok (.iload_n 2, 1) := by decide +kernel
theorem dX8_toldOfThing_12 : decode cX8_toldOfThing 12 = .ok (.ifCond .ne 12, 3) := by decide +kernel
theorem dX8_toldOfThing_15 : decode cX8_toldOfThing 15 = .ok (.aload_n 0, 1) := by decide +kernel
theorem dX8_toldOfThing_16 : decode cX8_toldOfThing 16 = .ok (.getfield 7, 3) := by decide +kernel
theorem dX8_toldOfThing_19 : decode cX8_toldOfThing 19 = .ok (.iload_n 1, 1) := by decide +kernel
theorem dX8_toldOfThing_20 : decode cX8_toldOfThing 20 = .ok (.iaload, 1) := by decide +kernel
theorem dX8_toldOfThing_21 : decode cX8_toldOfThing 21 = .ok (.goto 36, 3) := by decide +kernel
theorem dX8_toldOfThing_24 : decode cX8_toldOfThing 24 = .ok (.iload_n 2, 1) := by decide +kernel
theorem dX8_toldOfThing_25 : decode cX8_toldOfThing 25 = .ok (.iconst 1, 1) := by decide +kernel
theorem dX8_toldOfThing_26 : decode cX8_toldOfThing 26 = .ok (.if_icmp .ne 15, 3) := by decide +kernel
theorem dX8_toldOfThing_29 : decode cX8_toldOfThing 29 = .ok (.aload_n 0, 1) := by decide +kernel
theorem dX8_toldOfThing_30 : decode cX8_toldOfThing 30 = .ok (.getfield 13, 3) := by decide +kernel
theorem dX8_toldOfThing_33 : decode cX8_toldOfThing 33 = .ok (.iload_n 1, 1) := by decide +kernel
theorem dX8_toldOfThing_34 : decode cX8_toldOfThing 34 = .ok (.iaload, 1) := by decide +kernel
theorem dX8_toldOfThing_35 : decode cX8_toldOfThing 35 = .ok (.bipush 9, 2) := by decide +kernel
theorem dX8_toldOfThing_37 : decode cX8_toldOfThing 37 = .ok (.iadd, 1) := by decide +kernel
theorem dX8_toldOfThing_38 : decode cX8_toldOfThing 38 = .ok (.goto 19, 3) := by decide +kernel
theorem dX8_toldOfThing_41 : decode cX8_toldOfThing 41 = .ok (.iload_n 2, 1) := by decide +kernel
theorem dX8_toldOfThing_42 : decode cX8_toldOfThing 42 = .ok (.iconst 2, 1) := by decide +kernel
theorem dX8_toldOfThing_43 : decode cX8_toldOfThing 43 = .ok (.if_icmp .ne 12, 3) := by decide +kernel
theorem dX8_toldOfThing_46 : decode cX8_toldOfThing 46 = .ok (.aload_n 0, 1) := by decide +kernel
theorem dX8_toldOfThing_47 : decode cX8_toldOfThing 47 = .ok (.getfield 16, 3) := by decide +kernel
theorem dX8_toldOfThing_50 : decode cX8_toldOfThing 50 = .ok (.iload_n 1, 1) := by decide +kernel
theorem dX8_toldOfThing_51 : decode cX8_toldOfThing 51 = .ok (.iaload, 1) := by decide +kernel
theorem dX8_toldOfThing_52 : decode cX8_toldOfThing 52 = .ok (.goto 5, 3) := by decide +kernel
theorem dX8_toldOfThing_55 : decode cX8_toldOfThing 55 = .ok (.bipush (-2), 2) := by decide +kernel
theorem dX8_toldOfThing_57 : decode cX8_toldOfThing 57 = .ok (.ireturn, 1) := by decide +kernel
theorem dX8_told_0 : decode cX8_told 0 = .ok (.iload_n 1, 1) := by decide +kernel
theorem dX8_told_1 : decode cX8_told 1 = .ok (.i2l, 1) := by decide +kernel
theorem dX8_told_2 : decode cX8_told 2 = .ok (.ldc2_w 214, 3) := by decide +kernel
theorem dX8_told_5 : decode cX8_told 5 = .ok (.ldc2_w 216, 3) := by decide +kernel
theorem dX8_told_8 : decode cX8_told 8 = .ok (.invokestatic 50, 3) := by decide +kernel
theorem dX8_told_11 : decode cX8_told 11 = .ok (.ifCond .eq 46, 3) := by decide +kernel
theorem dX8_told_14 : decode cX8_told 14 = .ok (.iload_n 1, 1) := by decide +kernel
theorem dX8_told_15 : decode cX8_told 15 = .ok (.bipush 100, 2) := by decide +kernel
theorem dX8_told_17 : decode cX8_told 17 = .ok (.idiv, 1) := by decide +kernel
theorem dX8_told_18 : decode cX8_told 18 = .ok (.iconst 1, 1) := by decide +kernel
theorem dX8_told_19 : decode cX8_told 19 = .ok (.isub, 1) := by decide +kernel
theorem dX8_told_20 : decode cX8_told 20 = .ok (.istore_n 2, 1) := by decide +kernel
theorem dX8_told_21 : decode cX8_told 21 = .ok (.iload_n 1, 1) := by decide +kernel
theorem dX8_told_22 : decode cX8_told 22 = .ok (.bipush 100, 2) := by decide +kernel
theorem dX8_told_24 : decode cX8_told 24 = .ok (.irem, 1) := by decide +kernel
theorem dX8_told_25 : decode cX8_told 25 = .ok (.istore_n 3, 1) := by decide +kernel
theorem dX8_told_26 : decode cX8_told 26 = .ok (.aload_n 0, 1) := by decide +kernel
theorem dX8_told_27 : decode cX8_told 27 = .ok (.iload_n 2, 1) := by decide +kernel
theorem dX8_told_28 : decode cX8_told 28 = .ok (.invokevirtual 64, 3) := by decide +kernel
theorem dX8_told_31 : decode cX8_told 31 = .ok (.ifCond .eq 23, 3) := by decide +kernel
theorem dX8_told_34 : decode cX8_told 34 = .ok (.iload_n 3, 1) := by decide +kernel
theorem dX8_told_35 : decode cX8_told 35 = .ok (.bipush 6, 2) := by decide +kernel
theorem dX8_told_37 : decode cX8_told 37 = .ok (.if_icmp .ge 17, 3) := by decide +kernel
theorem dX8_told_40 : decode cX8_told 40 = .ok (.aload_n 0, 1) := by decide +kernel
theorem dX8_told_41 : decode cX8_told 41 = .ok (.getfield 19, 3) := by decide +kernel
theorem dX8_told_44 : decode cX8_told 44 = .ok (.bipush 6, 2) := by decide +kernel
theorem dX8_told_46 : decode cX8_told 46 = .ok (.iload_n 2, 1) := by decide +kernel
theorem dX8_told_47 : decode cX8_told 47 = .ok (.imul, 1) := by decide +kernel
theorem dX8_told_48 : decode cX8_told 48 = .ok (.iload_n 3, 1) := by decide +kernel
theorem dX8_told_49 : decode cX8_told 49 = .ok (.iadd, 1) := by decide +kernel
theorem dX8_told_50 : decode cX8_told 50 = .ok (.iaload, 1) := by decide +kernel
theorem dX8_told_51 : decode cX8_told 51 = .ok (.goto 5, 3) := by decide +kernel
theorem dX8_told_54 : decode cX8_told 54 = .ok (.bipush (-2), 2) := by decide +kernel
theorem dX8_told_56 : decode cX8_told 56 = .ok (.ireturn, 1) := by decide +kernel
theorem dX8_told_57 : decode cX8_told 57 = .ok (.iload_n 1, 1) := by decide +kernel
theorem dX8_told_58 : decode cX8_told 58 = .ok (.i2l, 1) := by decide +kernel
theorem dX8_told_59 : decode cX8_told 59 = .ok (.ldc2_w 178, 3) := by decide +kernel
theorem dX8_told_62 : decode cX8_told 62 = .ok (.ldc2_w 218, 3) := by decide +kernel
theorem dX8_told_65 : decode cX8_told 65 = .ok (.invokestatic 50, 3) := by decide +kernel
theorem dX8_told_68 : decode cX8_told 68 = .ok (.ifCond .eq 18, 3) := by decide +kernel
theorem dX8_told_71 : decode cX8_told 71 = .ok (.aload_n 0, 1) := by decide +kernel
theorem dX8_told_72 : decode cX8_told 72 = .ok (.iload_n 1, 1) := by decide +kernel
theorem dX8_told_73 : decode cX8_told 73 = .ok (.bipush 10, 2) := by decide +kernel
theorem dX8_told_75 : decode cX8_told 75 = .ok (.idiv, 1) := by decide +kernel
theorem dX8_told_76 : decode cX8_told 76 = .ok (.iconst 1, 1) := by decide +kernel
theorem dX8_told_77 : decode cX8_told 77 = .ok (.isub, 1) := by decide +kernel
theorem dX8_told_78 : decode cX8_told 78 = .ok (.iload_n 1, 1) := by decide +kernel
theorem dX8_told_79 : decode cX8_told 79 = .ok (.bipush 10, 2) := by decide +kernel
theorem dX8_told_81 : decode cX8_told 81 = .ok (.irem, 1) := by decide +kernel
theorem dX8_told_82 : decode cX8_told 82 = .ok (.invokevirtual 220, 3) := by decide +kernel
theorem dX8_told_85 : decode cX8_told 85 = .ok (.ireturn, 1) := by decide +kernel
theorem dX8_told_86 : decode cX8_told 86 = .ok (.iload_n 1, 1) := by decide +kernel
theorem dX8_told_87 : decode cX8_told 87 = .ok (.ifCond .ne 10, 3) := by decide +kernel
theorem dX8_told_90 : decode cX8_told 90 = .ok (.aload_n 0, 1) := by decide +kernel
theorem dX8_told_91 : decode cX8_told 91 = .ok (.getfield 94, 3) := by decide +kernel
theorem dX8_told_94 : decode cX8_told 94 = .ok (.goto 41, 3) := by decide +kernel
theorem dX8_told_97 : decode cX8_told 97 = .ok (.iload_n 1, 1) := by decide +kernel
theorem dX8_told_98 : decode cX8_told 98 = .ok (.iconst 1, 1) := by decide +kernel
theorem dX8_told_99 : decode cX8_told 99 = .ok (.if_icmp .ne 10, 3) := by decide +kernel
theorem dX8_told_102 : decode cX8_told 102 = .ok (.aload_n 0, 1) := by decide +kernel
theorem dX8_told_103 : decode cX8_told 103 = .ok (.getfield 56, 3) := by decide +kernel
theorem dX8_told_106 : decode cX8_told 106 = .ok (.goto 29, 3) := by decide +kernel
theorem dX8_told_109 : decode cX8_told 109 = .ok (.iload_n 1, 1) := by decide +kernel
theorem dX8_told_110 : decode cX8_told 110 = .ok (.iconst 2, 1) := by decide +kernel
theorem dX8_told_111 : decode cX8_told 111 = .ok (.if_icmp .ne 10, 3) := by decide +kernel
theorem dX8_told_114 : decode cX8_told 114 = .ok (.aload_n 0, 1) := by decide +kernel
theorem dX8_told_115 : decode cX8_told 115 = .ok (.getfield 61, 3) := by decide +kernel
theorem dX8_told_118 : decode cX8_told 118 = .ok (.goto 17, 3) := by decide +kernel
theorem dX8_told_121 : decode cX8_told 121 = .ok (.iload_n 1, 1) := by decide +kernel
theorem dX8_told_122 : decode cX8_told 122 = .ok (.iconst 3, 1) := by decide +kernel
theorem dX8_told_123 : decode cX8_told 123 = .ok (.if_icmp .ne 10, 3) := by decide +kernel
theorem dX8_told_126 : decode cX8_told 126 = .ok (.aload_n 0, 1) := by decide +kernel
theorem dX8_told_127 : decode cX8_told 127 = .ok (.getfield 44, 3) := by decide +kernel
theorem dX8_told_130 : decode cX8_told 130 = .ok (.goto 5, 3) := by decide +kernel
theorem dX8_told_133 : decode cX8_told 133 = .ok (.bipush (-2), 2) := by decide +kernel
theorem dX8_told_135 : decode cX8_told 135 = .ok (.ireturn, 1) := by decide +kernel
