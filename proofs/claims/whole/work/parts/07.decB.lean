theorem dX7_init_0 : decode cX7_init 0 = .ok (.aload_n 0, 1) := by decide +kernel
theorem dX7_init_1 : decode cX7_init 1 = .ok (.invokespecial 1, 3) := by decide +kernel
theorem dX7_init_4 : decode cX7_init 4 = .ok (.aload_n 0, 1) := by decide +kernel
theorem dX7_init_5 : decode cX7_init 5 = .ok (.new 7, 3) := by decide +kernel
theorem dX7_init_8 : decode cX7_init 8 = .ok (.dup, 1) := by decide +kernel
theorem dX7_init_9 : decode cX7_init 9 = .ok (.invokespecial 9, 3) := by decide +kernel
theorem dX7_init_12 : decode cX7_init 12 = .ok (.putfield 10, 3) := by decide +kernel
theorem dX7_init_15 : decode cX7_init 15 = .ok (.aload_n 0, 1) := by decide +kernel
theorem dX7_init_16 : decode cX7_init 16 = .ok (.iconst 2, 1) := by decide +kernel
theorem dX7_init_17 : decode cX7_init 17 = .ok (.anewarray 7, 3) := by decide +kernel
theorem dX7_init_20 : decode cX7_init 20 = .ok (.putfield 16, 3) := by decide +kernel
theorem dX7_init_23 : decode cX7_init 23 = .ok (.aload_n 0, 1) := by decide +kernel
theorem dX7_init_24 : decode cX7_init 24 = .ok (.iconst 2, 1) := by decide +kernel
theorem dX7_init_25 : decode cX7_init 25 = .ok (.newarray .boolean, 2) := by decide +kernel
theorem dX7_init_27 : decode cX7_init 27 = .ok (.putfield 20, 3) := by decide +kernel
theorem dX7_init_30 : decode cX7_init 30 = .ok (.aload_n 0, 1) := by decide +kernel
theorem dX7_init_31 : decode cX7_init 31 = .ok (.new 24, 3) := by decide +kernel
theorem dX7_init_34 : decode cX7_init 34 = .ok (.dup, 1) := by decide +kernel
theorem dX7_init_35 : decode cX7_init 35 = .ok (.invokespecial 26, 3) := by decide +kernel
theorem dX7_init_38 : decode cX7_init 38 = .ok (.putfield 27, 3) := by decide +kernel
theorem dX7_init_41 : decode cX7_init 41 = .ok (.aload_n 0, 1) := by decide +kernel
theorem dX7_init_42 : decode cX7_init 42 = .ok (.new 31, 3) := by decide +kernel
theorem dX7_init_45 : decode cX7_init 45 = .ok (.dup, 1) := by decide +kernel
theorem dX7_init_46 : decode cX7_init 46 = .ok (.invokespecial 33, 3) := by decide +kernel
theorem dX7_init_49 : decode cX7_init 49 = .ok (.putfield 34, 3) := by decide +kernel
theorem dX7_init_52 : decode cX7_init 52 = .ok (.aload_n 0, 1) := by decide +kernel
theorem dX7_init_53 : decode cX7_init 53 = .ok (.new 38, 3) := by decide +kernel
theorem dX7_init_56 : decode cX7_init 56 = .ok (.dup, 1) := by decide +kernel
theorem dX7_init_57 : decode cX7_init 57 = .ok (.invokespecial 40, 3) := by decide +kernel
theorem dX7_init_60 : decode cX7_init 60 = .ok (.putfield 41, 3) := by decide +kernel
theorem dX7_init_63 : decode cX7_init 63 = .ok (.aload_n 0, 1) := by decide +kernel
theorem dX7_init_64 : decode cX7_init 64 = .ok (.new 45, 3) := by decide +kernel
theorem dX7_init_67 : decode cX7_init 67 = .ok (.dup, 1) := by decide +kernel
theorem dX7_init_68 : decode cX7_init 68 = .ok (.invokespecial 47, 3) := by decide +kernel
theorem dX7_init_71 : decode cX7_init 71 = .ok (.putfield 48, 3) := by decide +kernel
theorem dX7_init_74 : decode cX7_init 74 = .ok (.aload_n 0, 1) := by decide +kernel
theorem dX7_init_75 : decode cX7_init 75 = .ok (.new 45, 3) := by decide +kernel
theorem dX7_init_78 : decode cX7_init 78 = .ok (.dup, 1) := by decide +kernel
theorem dX7_init_79 : decode cX7_init 79 = .ok (.invokespecial 47, 3) := by decide +kernel
theorem dX7_init_82 : decode cX7_init 82 = .ok (.putfield 52, 3) := by decide +kernel
theorem dX7_init_85 : decode cX7_init 85 = .ok (.iconst 0, 1) := by decide +kernel
theorem dX7_init_86 : decode cX7_init 86 = .ok (.istore_n 1, 1) := by decide +kernel
theorem dX7_init_87 : decode cX7_init 87 = .ok (.iload_n 1, 1) := by decide +kernel
theorem dX7_init_88 : decode cX7_init 88 = .ok (.aload_n 0, 1) := by decide +kernel
theorem dX7_init_89 : decode cX7_init 89 = .ok (.getfield 16, 3) := by decide +kernel
theorem dX7_init_92 : decode cX7_init 92 = .ok (.arraylength, 1) := by decide +kernel
theorem dX7_init_93 : decode cX7_init 93 = .ok (.if_icmp .ge 22, 3) := by decide +kernel
theorem dX7_init_96 : decode cX7_init 96 = .ok (.aload_n 0, 1) := by decide +kernel
theorem dX7_init_97 : decode cX7_init 97 = .ok (.getfield 16, 3) := by decide +kernel
theorem dX7_init_100 : decode cX7_init 100 = .ok (.iload_n 1, 1) := by decide +kernel
theorem dX7_init_101 : decode cX7_init 101 = .ok (.new 7, 3) := by decide +kernel
theorem dX7_init_104 : decode cX7_init 104 = .ok (.dup, 1) := by decide +kernel
theorem dX7_init_105 : decode cX7_init 105 = .ok (.invokespecial 9, 3) := by decide +kernel
theorem dX7_init_108 : decode cX7_init 108 = .ok (.aastore, 1) := by decide +kernel
theorem dX7_init_109 : decode cX7_init 109 = .ok (.iinc 1 1, 3) := by decide +kernel
theorem dX7_init_112 : decode cX7_init 112 = .ok (.goto (-25), 3) := by decide +kernel
theorem dX7_init_115 : decode cX7_init 115 = .ok (.return_, 1) := by decide +kernel
theorem dX7_thing_0 : decode cX7_thing 0 = .ok (.iload_n 1, 1) := by decide +kernel
theorem dX7_thing_1 : decode cX7_thing 1 = .ok (.iconst 0, 1) := by decide +kernel
theorem dX7_thing_2 : decode cX7_thing 2 = .ok (.iconst 5, 1) := by decide +kernel
theorem dX7_thing_3 : decode cX7_thing 3 = .ok (.invokestatic 55, 3) := by decide +kernel
theorem dX7_thing_6 : decode cX7_thing 6 = .ok (.ifCond .ne 5, 3) := by decide +kernel
theorem dX7_thing_9 : decode cX7_thing 9 = .ok (.iconst (-1), 1) := by decide +kernel
theorem dX7_thing_10 : decode cX7_thing 10 = .ok (.ireturn, 1) := by decide +kernel
theorem dX7_thing_11 : decode cX7_thing 11 = .ok (.iload_n 2, 1) := by decide +kernel
theorem dX7_thing_12 : decode cX7_thing 12 = .ok (.iconst 0, 1) := by decide +kernel
theorem dX7_thing_13 : decode cX7_thing 13 = .ok (.bipush 99, 2) := by decide +kernel
theorem dX7_thing_15 : decode cX7_thing 15 = .ok (.invokestatic 55, 3) := by decide +kernel
theorem dX7_thing_18 : decode cX7_thing 18 = .ok (.ifCond .eq 25, 3) := by decide +kernel
theorem dX7_thing_21 : decode cX7_thing 21 = .ok (.iload_n 3, 1) := by decide +kernel
theorem dX7_thing_22 : decode cX7_thing 22 = .ok (.bipush (-9), 2) := by decide +kernel
theorem dX7_thing_24 : decode cX7_thing 24 = .ok (.bipush 9, 2) := by decide +kernel
theorem dX7_thing_26 : decode cX7_thing 26 = .ok (.invokestatic 55, 3) := by decide +kernel
theorem dX7_thing_29 : decode cX7_thing 29 = .ok (.ifCond .eq 14, 3) := by decide +kernel
theorem dX7_thing_32 : decode cX7_thing 32 = .ok (.iload 4, 2) := by decide +kernel
theorem dX7_thing_34 : decode cX7_thing 34 = .ok (.iconst 1, 1) := by decide +kernel
theorem dX7_thing_35 : decode cX7_thing 35 = .ok (.bipush 20, 2) := by decide +kernel
theorem dX7_thing_37 : decode cX7_thing 37 = .ok (.invokestatic 55, 3) := by decide +kernel
theorem dX7_thing_40 : decode cX7_thing 40 = .ok (.ifCond .ne 6, 3) := by decide +kernel
theorem dX7_thing_43 : decode cX7_thing 43 = .ok (.bipush (-2), 2) := by decide +kernel
theorem dX7_thing_45 : decode cX7_thing 45 = .ok (.ireturn, 1) := by decide +kernel
theorem dX7_thing_46 : decode cX7_thing 46 = .ok (.aload_n 0, 1) := by decide +kernel
theorem dX7_thing_47 : decode cX7_thing 47 = .ok (.getfield 10, 3) := by decide +kernel
theorem dX7_thing_50 : decode cX7_thing 50 = .ok (.iload_n 1, 1) := by decide +kernel
theorem dX7_thing_51 : decode cX7_thing 51 = .ok (.iload_n 2, 1) := by decide +kernel
theorem dX7_thing_52 : decode cX7_thing 52 = .ok (.iload_n 3, 1) := by decide +kernel
theorem dX7_thing_53 : decode cX7_thing 53 = .ok (.iload 4, 2) := by decide +kernel
theorem dX7_thing_55 : decode cX7_thing 55 = .ok (.invokevirtual 59, 3) := by decide +kernel
theorem dX7_thing_58 : decode cX7_thing 58 = .ok (.aload_n 0, 1) := by decide +kernel
theorem dX7_thing_59 : decode cX7_thing 59 = .ok (.getfield 10, 3) := by decide +kernel
theorem dX7_thing_62 : decode cX7_thing 62 = .ok (.invokevirtual 63, 3) := by decide +kernel
theorem dX7_thing_65 : decode cX7_thing 65 = .ok (.invokestatic 67, 3) := by decide +kernel
theorem dX7_thing_68 : decode cX7_thing 68 = .ok (.ireturn, 1) := by decide +kernel
theorem dX7_leave_0 : decode cX7_leave 0 = .ok (.aload_n 0, 1) := by decide +kernel
theorem dX7_leave_1 : decode cX7_leave 1 = .ok (.getfield 10, 3) := by decide +kernel
theorem dX7_leave_4 : decode cX7_leave 4 = .ok (.iload_n 1, 1) := by decide +kernel
theorem dX7_leave_5 : decode cX7_leave 5 = .ok (.invokevirtual 73, 3) := by decide +kernel
theorem dX7_leave_8 : decode cX7_leave 8 = .ok (.astore_n 2, 1) := by decide +kernel
theorem dX7_leave_9 : decode cX7_leave 9 = .ok (.aload_n 2, 1) := by decide +kernel
theorem dX7_leave_10 : decode cX7_leave 10 = .ok (.ifnonnull 5, 3) := by decide +kernel
theorem dX7_leave_13 : decode cX7_leave 13 = .ok (.iconst (-1), 1) := by decide +kernel
theorem dX7_leave_14 : decode cX7_leave 14 = .ok (.ireturn, 1) := by decide +kernel
theorem dX7_leave_15 : decode cX7_leave 15 = .ok (.aload_n 2, 1) := by decide +kernel
theorem dX7_leave_16 : decode cX7_leave 16 = .ok (.iconst 0, 1) := by decide +kernel
theorem dX7_leave_17 : decode cX7_leave 17 = .ok (.putfield 77, 3) := by decide +kernel
theorem dX7_leave_20 : decode cX7_leave 20 = .ok (.aload_n 0, 1) := by decide +kernel
theorem dX7_leave_21 : decode cX7_leave 21 = .ok (.getfield 10, 3) := by decide +kernel
theorem dX7_leave_24 : decode cX7_leave 24 = .ok (.invokevirtual 63, 3) := by decide +kernel
theorem dX7_leave_27 : decode cX7_leave 27 = .ok (.invokestatic 67, 3) := by decide +kernel
theorem dX7_leave_30 : decode cX7_leave 30 = .ok (.ireturn, 1) := by decide +kernel
theorem dX7_focus_0 : decode cX7_focus 0 = .ok (.iload_n 1, 1) := by decide +kernel
theorem dX7_focus_1 : decode cX7_focus 1 = .ok (.iconst 1, 1) := by decide +kernel
theorem dX7_focus_2 : decode cX7_focus 2 = .ok (.bipush 40, 2) := by decide +kernel
theorem dX7_focus_4 : decode cX7_focus 4 = .ok (.invokestatic 55, 3) := by decide +kernel
theorem dX7_focus_7 : decode cX7_focus 7 = .ok (.ifCond .ne 6, 3) := by decide +kernel
theorem dX7_focus_10 : decode cX7_focus 10 = .ok (.bipush (-2), 2) := by decide +kernel
theorem dX7_focus_12 : decode cX7_focus 12 = .ok (.ireturn, 1) := by decide +kernel
theorem dX7_focus_13 : decode cX7_focus 13 = .ok (.aload_n 0, 1) := by decide +kernel
theorem dX7_focus_14 : decode cX7_focus 14 = .ok (.getfield 10, 3) := by decide +kernel
theorem dX7_focus_17 : decode cX7_focus 17 = .ok (.getfield 83, 3) := by decide +kernel
theorem dX7_focus_20 : decode cX7_focus 20 = .ok (.istore_n 2, 1) := by decide +kernel
theorem dX7_focus_21 : decode cX7_focus 21 = .ok (.aload_n 0, 1) := by decide +kernel
theorem dX7_focus_22 : decode cX7_focus 22 = .ok (.getfield 10, 3) := by decide +kernel
theorem dX7_focus_25 : decode cX7_focus 25 = .ok (.iload_n 1, 1) := by decide +kernel
theorem dX7_focus_26 : decode cX7_focus 26 = .ok (.putfield 83, 3) := by decide +kernel
theorem dX7_focus_29 : decode cX7_focus 29 = .ok (.iload_n 2, 1) := by decide +kernel
theorem dX7_focus_30 : decode cX7_focus 30 = .ok (.ireturn, 1) := by decide +kernel
theorem dX7_take_0 : decode cX7_take 0 = .ok (.iload_n 1, 1) := by decide +kernel
theorem dX7_take_1 : decode cX7_take 1 = .ok (.iconst 0, 1) := by decide +kernel
theorem dX7_take_2 : decode cX7_take 2 = .ok (.bipush 9, 2) := by decide +kernel
theorem dX7_take_4 : decode cX7_take 4 = .ok (.invokestatic 55, 3) := by decide +kernel
theorem dX7_take_7 : decode cX7_take 7 = .ok (.ifCond .ne 5, 3) := by decide +kernel
theorem dX7_take_10 : decode cX7_take 10 = .ok (.iconst (-1), 1) := by decide +kernel
theorem dX7_take_11 : decode cX7_take 11 = .ok (.ireturn, 1) := by decide +kernel
theorem dX7_take_12 : decode cX7_take 12 = .ok (.iload_n 2, 1) := by decide +kernel
theorem dX7_take_13 : decode cX7_take 13 = .ok (.invokestatic 87, 3) := by decide +kernel
theorem dX7_take_16 : decode cX7_take 16 = .ok (.ifCond .eq 10, 3) := by decide +kernel
theorem dX7_take_19 : decode cX7_take 19 = .ok (.iload_n 3, 1) := by decide +kernel
theorem dX7_take_20 : decode cX7_take 20 = .ok (.invokestatic 91, 3) := by decide +kernel
theorem dX7_take_23 : decode cX7_take 23 = .ok (.ifCond .ne 6, 3) := by decide +kernel
theorem dX7_take_26 : decode cX7_take 26 = .ok (.bipush (-2), 2) := by decide +kernel
theorem dX7_take_28 : decode cX7_take 28 = .ok (.ireturn, 1) := by decide +kernel
theorem dX7_take_29 : decode cX7_take 29 = .ok (.aload_n 0, 1) := by decide +kernel
theorem dX7_take_30 : decode cX7_take 30 = .ok (.getfield 10, 3) := by decide +kernel
theorem dX7_take_33 : decode cX7_take 33 = .ok (.iload_n 1, 1) := by decide +kernel
theorem dX7_take_34 : decode cX7_take 34 = .ok (.iload_n 2, 1) := by decide +kernel
theorem dX7_take_35 : decode cX7_take 35 = .ok (.iload_n 3, 1) := by decide +kernel
theorem dX7_take_36 : decode cX7_take 36 = .ok (.invokevirtual 94, 3) := by decide +kernel
theorem dX7_take_39 : decode cX7_take 39 = .ok (.ireturn, 1) := by decide +kernel
theorem dX7_retouch_0 : decode cX7_retouch 0 = .ok (.aload_n 0, 1) := by decide +kernel
theorem dX7_retouch_1 : decode cX7_retouch 1 = .ok (.getfield 10, 3) := by decide +kernel
theorem dX7_retouch_4 : decode cX7_retouch 4 = .ok (.iload_n 1, 1) := by decide +kernel
theorem dX7_retouch_5 : decode cX7_retouch 5 = .ok (.invokevirtual 98, 3) := by decide +kernel
theorem dX7_retouch_8 : decode cX7_retouch 8 = .ok (.astore 4, 2) := by decide +kernel
theorem dX7_retouch_10 : decode cX7_retouch 10 = .ok (.aload 4, 2) := by decide +kernel
theorem dX7_retouch_12 : decode cX7_retouch 12 = .ok (.ifnull 12, 3) := by decide +kernel
theorem dX7_retouch_15 : decode cX7_retouch 15 = .ok (.iload_n 2, 1) := by decide +kernel
theorem dX7_retouch_16 : decode cX7_retouch 16 = .ok (.iconst 0, 1) := by decide +kernel
theorem dX7_retouch_17 : decode cX7_retouch 17 = .ok (.iconst 5, 1) := by decide +kernel
theorem dX7_retouch_18 : decode cX7_retouch 18 = .ok (.invokestatic 55, 3) := by decide +kernel
theorem dX7_retouch_21 : decode cX7_retouch 21 = .ok (.ifCond .ne 5, 3) := by decide +kernel
theorem dX7_retouch_24 : decode cX7_retouch 24 = .ok (.iconst (-1), 1) := by decide +kernel
theorem dX7_retouch_25 : decode cX7_retouch 25 = .ok (.ireturn, 1) := by decide +kernel
theorem dX7_retouch_26 : decode cX7_retouch 26 = .ok (.iload_n 3, 1) := by decide +kernel
theorem dX7_retouch_27 : decode cX7_retouch 27 = .ok (.bipush (-6), 2) := by decide +kernel
theorem dX7_retouch_29 : decode cX7_retouch 29 = .ok (.if_icmp .eq 16, 3) := by decide +kernel
theorem dX7_retouch_32 : decode cX7_retouch 32 = .ok (.iload_n 3, 1) := by decide +kernel
theorem dX7_retouch_33 : decode cX7_retouch 33 = .ok (.iconst 0, 1) := by decide +kernel
theorem dX7_retouch_34 : decode cX7_retouch 34 = .ok (.bipush 60, 2) := by decide +kernel
theorem dX7_retouch_36 : decode cX7_retouch 36 = .ok (.invokestatic 55, 3) := by decide +kernel
theorem dX7_retouch_39 : decode cX7_retouch 39 = .ok (.ifCond .ne 6, 3) := by decide +kernel
theorem dX7_retouch_42 : decode cX7_retouch 42 = .ok (.bipush (-2), 2) := by decide +kernel
theorem dX7_retouch_44 : decode cX7_retouch 44 = .ok (.ireturn, 1) := by decide +kernel
theorem dX7_retouch_45 : decode cX7_retouch 45 = .ok (.aload 4, 2) := by decide +kernel
theorem dX7_retouch_47 : decode cX7_retouch 47 = .ok (.iload_n 2, 1) := by decide +kernel
theorem dX7_retouch_48 : decode cX7_retouch 48 = .ok (.invokevirtual 102, 3) := by decide +kernel
theorem dX7_retouch_51 : decode cX7_retouch 51 = .ok (.istore 5, 2) := by decide +kernel
theorem dX7_retouch_53 : decode cX7_retouch 53 = .ok (.aload 4, 2) := by decide +kernel
theorem dX7_retouch_55 : decode cX7_retouch 55 = .ok (.iload_n 2, 1) := by decide +kernel
theorem dX7_retouch_56 : decode cX7_retouch 56 = .ok (.iload_n 3, 1) := by decide +kernel
theorem dX7_retouch_57 : decode cX7_retouch 57 = .ok (.invokevirtual 105, 3) := by decide +kernel
theorem dX7_retouch_60 : decode cX7_retouch 60 = .ok (.iload 5, 2) := by decide +kernel
theorem dX7_retouch_62 : decode cX7_retouch 62 = .ok (.ireturn, 1) := by decide +kernel
theorem dX7_burn_0 : decode cX7_burn 0 = .ok (.aload_n 0, 1) := by decide +kernel
theorem dX7_burn_1 : decode cX7_burn 1 = .ok (.getfield 10, 3) := by decide +kernel
theorem dX7_burn_4 : decode cX7_burn 4 = .ok (.iload_n 1, 1) := by decide +kernel
theorem dX7_burn_5 : decode cX7_burn 5 = .ok (.invokevirtual 98, 3) := by decide +kernel
theorem dX7_burn_8 : decode cX7_burn 8 = .ok (.astore_n 2, 1) := by decide +kernel
theorem dX7_burn_9 : decode cX7_burn 9 = .ok (.aload_n 2, 1) := by decide +kernel
theorem dX7_burn_10 : decode cX7_burn 10 = .ok (.ifnonnull 5, 3) := by decide +kernel
theorem dX7_burn_13 : decode cX7_burn 13 = .ok (.iconst (-1), 1) := by decide +kernel
theorem dX7_burn_14 : decode cX7_burn 14 = .ok (.ireturn, 1) := by decide +kernel
theorem dX7_burn_15 : decode cX7_burn 15 = .ok (.aload_n 2, 1) := by decide +kernel
theorem dX7_burn_16 : decode cX7_burn 16 = .ok (.iconst 0, 1) := by decide +kernel
theorem dX7_burn_17 : decode cX7_burn 17 = .ok (.putfield 109, 3) := by decide +kernel
theorem dX7_burn_20 : decode cX7_burn 20 = .ok (.aload_n 0, 1) := by decide +kernel
theorem dX7_burn_21 : decode cX7_burn 21 = .ok (.getfield 10, 3) := by decide +kernel
theorem dX7_burn_24 : decode cX7_burn 24 = .ok (.invokevirtual 110, 3) := by decide +kernel
theorem dX7_burn_27 : decode cX7_burn 27 = .ok (.invokestatic 67, 3) := by decide +kernel
theorem dX7_burn_30 : decode cX7_burn 30 = .ok (.ireturn, 1) := by decide +kernel
theorem dX7_say_0 : decode cX7_say 0 = .ok (.iload_n 1, 1) := by decide +kernel
theorem dX7_say_1 : decode cX7_say 1 = .ok (.bipush 33, 2) := by decide +kernel
theorem dX7_say_3 : decode cX7_say 3 = .ok (.bipush 126, 2) := by decide +kernel
theorem dX7_say_5 : decode cX7_say 5 = .ok (.invokestatic 55, 3) := by decide +kernel
theorem dX7_say_8 : decode cX7_say 8 = .ok (.ifCond .ne 6, 3) := by decide +kernel
theorem dX7_say_11 : decode cX7_say 11 = .ok (.bipush (-2), 2) := by decide +kernel
theorem dX7_say_13 : decode cX7_say 13 = .ok (.ireturn, 1) := by decide +kernel
theorem dX7_say_14 : decode cX7_say 14 = .ok (.aload_n 0, 1) := by decide +kernel
theorem dX7_say_15 : decode cX7_say 15 = .ok (.getfield 27, 3) := by decide +kernel
theorem dX7_say_18 : decode cX7_say 18 = .ok (.iload_n 1, 1) := by decide +kernel
theorem dX7_say_19 : decode cX7_say 19 = .ok (.invokevirtual 113, 3) := by decide +kernel
theorem dX7_say_22 : decode cX7_say 22 = .ok (.ifCond .eq 13, 3) := by decide +kernel
theorem dX7_say_25 : decode cX7_say 25 = .ok (.aload_n 0, 1) := by decide +kernel
theorem dX7_say_26 : decode cX7_say 26 = .ok (.getfield 27, 3) := by decide +kernel
theorem dX7_say_29 : decode cX7_say 29 = .ok (.getfield 116, 3) := by decide +kernel
theorem dX7_say_32 : decode cX7_say 32 = .ok (.goto 5, 3) := by decide +kernel
theorem dX7_say_35 : decode cX7_say 35 = .ok (.bipush (-4), 2) := by decide +kernel
theorem dX7_say_37 : decode cX7_say 37 = .ok (.ireturn, 1) := by decide +kernel
theorem dX7_wipe_0 : decode cX7_wipe 0 = .ok (.aload_n 0, 1) := by decide +kernel
theorem dX7_wipe_1 : decode cX7_wipe 1 = .ok (.getfield 27, 3) := by decide +kernel
theorem dX7_wipe_4 : decode cX7_wipe 4 = .ok (.getfield 116, 3) := by decide +kernel
theorem dX7_wipe_7 : decode cX7_wipe 7 = .ok (.istore_n 1, 1) := by decide +kernel
theorem dX7_wipe_8 : decode cX7_wipe 8 = .ok (.aload_n 0, 1) := by decide +kernel
theorem dX7_wipe_9 : decode cX7_wipe 9 = .ok (.getfield 27, 3) := by decide +kernel
theorem dX7_wipe_12 : decode cX7_wipe 12 = .ok (.iconst 0, 1) := by decide +kernel
theorem dX7_wipe_13 : decode cX7_wipe 13 = .ok (.putfield 116, 3) := by decide +kernel
theorem dX7_wipe_16 : decode cX7_wipe 16 = .ok (.iload_n 1, 1) := by decide +kernel
theorem dX7_wipe_17 : decode cX7_wipe 17 = .ok (.ireturn, 1) := by decide +kernel
theorem dX7_fault_0 : decode cX7_fault 0 = .ok (.aload_n 0, 1) := by decide +kernel
theorem dX7_fault_1 : decode cX7_fault 1 = .ok (.getfield 27, 3) := by decide +kernel
theorem dX7_fault_4 : decode cX7_fault 4 = .ok (.invokevirtual 119, 3) := by decide +kernel
theorem dX7_fault_7 : decode cX7_fault 7 = .ok (.ireturn, 1) := by decide +kernel
theorem dX7_judge_0 : decode cX7_judge 0 = .ok (.iload_n 1, 1) := by decide +kernel
theorem dX7_judge_1 : decode cX7_judge 1 = .ok (.iconst 0, 1) := by decide +kernel
theorem dX7_judge_2 : decode cX7_judge 2 = .ok (.iconst 3, 1) := by decide +kernel
theorem dX7_judge_3 : decode cX7_judge 3 = .ok (.invokestatic 55, 3) := by decide +kernel
theorem dX7_judge_6 : decode cX7_judge 6 = .ok (.ifCond .ne 6, 3) := by decide +kernel
theorem dX7_judge_9 : decode cX7_judge 9 = .ok (.bipush (-2), 2) := by decide +kernel
theorem dX7_judge_11 : decode cX7_judge 11 = .ok (.ireturn, 1) := by decide +kernel
theorem dX7_judge_12 : decode cX7_judge 12 = .ok (.aload_n 0, 1) := by decide +kernel
theorem dX7_judge_13 : decode cX7_judge 13 = .ok (.getfield 27, 3) := by decide +kernel
theorem dX7_judge_16 : decode cX7_judge 16 = .ok (.invokevirtual 119, 3) := by decide +kernel
theorem dX7_judge_19 : decode cX7_judge 19 = .ok (.bipush (-6), 2) := by decide +kernel
theorem dX7_judge_21 : decode cX7_judge 21 = .ok (.if_icmp .eq 6, 3) := by decide +kernel
theorem dX7_judge_24 : decode cX7_judge 24 = .ok (.bipush (-5), 2) := by decide +kernel
theorem dX7_judge_26 : decode cX7_judge 26 = .ok (.ireturn, 1) := by decide +kernel
theorem dX7_judge_27 : decode cX7_judge 27 = .ok (.aload_n 0, 1) := by decide +kernel
theorem dX7_judge_28 : decode cX7_judge 28 = .ok (.getfield 27, 3) := by decide +kernel
theorem dX7_judge_31 : decode cX7_judge 31 = .ok (.aload_n 0, 1) := by decide +kernel
theorem dX7_judge_32 : decode cX7_judge 32 = .ok (.getfield 10, 3) := by decide +kernel
theorem dX7_judge_35 : decode cX7_judge 35 = .ok (.invokevirtual 122, 3) := by decide +kernel
theorem dX7_judge_38 : decode cX7_judge 38 = .ok (.istore_n 2, 1) := by decide +kernel
theorem dX7_judge_39 : decode cX7_judge 39 = .ok (.iload_n 1, 1) := by decide +kernel
theorem dX7_judge_40 : decode cX7_judge 40 = .ok (.ifCond .ne 5, 3) := by decide +kernel
theorem dX7_judge_43 : decode cX7_judge 43 = .ok (.iload_n 2, 1) := by decide +kernel
theorem dX7_judge_44 : decode cX7_judge 44 = .ok (.ireturn, 1) := by decide +kernel
theorem dX7_judge_45 : decode cX7_judge 45 = .ok (.iload_n 1, 1) := by decide +kernel
theorem dX7_judge_46 : decode cX7_judge 46 = .ok (.iconst 1, 1) := by decide +kernel
theorem dX7_judge_47 : decode cX7_judge 47 = .ok (.if_icmp .ne 27, 3) := by decide +kernel
theorem dX7_judge_50 : decode cX7_judge 50 = .ok (.iload_n 2, 1) := by decide +kernel
theorem dX7_judge_51 : decode cX7_judge 51 = .ok (.bipush (-6), 2) := by decide +kernel
theorem dX7_judge_53 : decode cX7_judge 53 = .ok (.if_icmp .ne 8, 3) := by decide +kernel
theorem dX7_judge_56 : decode cX7_judge 56 = .ok (.bipush (-6), 2) := by decide +kernel
theorem dX7_judge_58 : decode cX7_judge 58 = .ok (.goto 15, 3) := by decide +kernel
theorem dX7_judge_61 : decode cX7_judge 61 = .ok (.aload_n 0, 1) := by decide +kernel
theorem dX7_judge_62 : decode cX7_judge 62 = .ok (.getfield 27, 3) := by decide +kernel
theorem dX7_judge_65 : decode cX7_judge 65 = .ok (.iload_n 2, 1) := by decide +kernel
theorem dX7_judge_66 : decode cX7_judge 66 = .ok (.aload_n 0, 1) := by decide +kernel
theorem dX7_judge_67 : decode cX7_judge 67 = .ok (.getfield 10, 3) := by decide +kernel
theorem dX7_judge_70 : decode cX7_judge 70 = .ok (.invokevirtual 126, 3) := by decide +kernel
theorem dX7_judge_73 : decode cX7_judge 73 = .ok (.ireturn, 1) := by decide +kernel
theorem dX7_judge_74 : decode cX7_judge 74 = .ok (.iload_n 2, 1) := by decide +kernel
theorem dX7_judge_75 : decode cX7_judge 75 = .ok (.bipush (-6), 2) := by decide +kernel
theorem dX7_judge_77 : decode cX7_judge 77 = .ok (.if_icmp .eq 6, 3) := by decide +kernel
theorem dX7_judge_80 : decode cX7_judge 80 = .ok (.bipush (-3), 2) := by decide +kernel
theorem dX7_judge_82 : decode cX7_judge 82 = .ok (.ireturn, 1) := by decide +kernel
theorem dX7_judge_83 : decode cX7_judge 83 = .ok (.iload_n 1, 1) := by decide +kernel
theorem dX7_judge_84 : decode cX7_judge 84 = .ok (.iconst 2, 1) := by decide +kernel
theorem dX7_judge_85 : decode cX7_judge 85 = .ok (.if_icmp .ne 13, 3) := by decide +kernel
theorem dX7_judge_88 : decode cX7_judge 88 = .ok (.aload_n 0, 1) := by decide +kernel
theorem dX7_judge_89 : decode cX7_judge 89 = .ok (.getfield 27, 3) := by decide +kernel
theorem dX7_judge_92 : decode cX7_judge 92 = .ok (.getfield 130, 3) := by decide +kernel
theorem dX7_judge_95 : decode cX7_judge 95 = .ok (.goto 12, 3) := by decide +kernel
theorem dX7_judge_98 : decode cX7_judge 98 = .ok (.aload_n 0, 1) := by decide +kernel
theorem dX7_judge_99 : decode cX7_judge 99 = .ok (.getfield 27, 3) := by decide +kernel
theorem dX7_judge_102 : decode cX7_judge 102 = .ok (.getfield 133, 3) := by decide +kernel
theorem dX7_judge_105 : decode cX7_judge 105 = .ok (.iconst 1, 1) := by decide +kernel
theorem dX7_judge_106 : decode cX7_judge 106 = .ok (.iadd, 1) := by decide +kernel
theorem dX7_judge_107 : decode cX7_judge 107 = .ok (.ireturn, 1) := by decide +kernel
theorem dX7_kinds_0 : decode cX7_kinds 0 = .ok (.iload_n 1, 1) := by decide +kernel
theorem dX7_kinds_1 : decode cX7_kinds 1 = .ok (.iconst 0, 1) := by decide +kernel
theorem dX7_kinds_2 : decode cX7_kinds 2 = .ok (.iconst 5, 1) := by decide +kernel
theorem dX7_kinds_3 : decode cX7_kinds 3 = .ok (.invokestatic 55, 3) := by decide +kernel
theorem dX7_kinds_6 : decode cX7_kinds 6 = .ok (.ifCond .ne 6, 3) := by decide +kernel
theorem dX7_kinds_9 : decode cX7_kinds 9 = .ok (.bipush (-2), 2) := by decide +kernel
theorem dX7_kinds_11 : decode cX7_kinds 11 = .ok (.ireturn, 1) := by decide +kernel
theorem dX7_kinds_12 : decode cX7_kinds 12 = .ok (.aload_n 0, 1) := by decide +kernel
theorem dX7_kinds_13 : decode cX7_kinds 13 = .ok (.getfield 27, 3) := by decide +kernel
theorem dX7_kinds_16 : decode cX7_kinds 16 = .ok (.invokevirtual 119, 3) := by decide +kernel
theorem dX7_kinds_19 : decode cX7_kinds 19 = .ok (.bipush (-6), 2) := by decide +kernel
theorem dX7_kinds_21 : decode cX7_kinds 21 = .ok (.if_icmp .eq 6, 3) := by decide +kernel
theorem dX7_kinds_24 : decode cX7_kinds 24 = .ok (.bipush (-5), 2) := by decide +kernel
theorem dX7_kinds_26 : decode cX7_kinds 26 = .ok (.ireturn, 1) := by decide +kernel
theorem dX7_kinds_27 : decode cX7_kinds 27 = .ok (.aload_n 0, 1) := by decide +kernel
theorem dX7_kinds_28 : decode cX7_kinds 28 = .ok (.getfield 27, 3) := by decide +kernel
theorem dX7_kinds_31 : decode cX7_kinds 31 = .ok (.aload_n 0, 1) := by decide +kernel
theorem dX7_kinds_32 : decode cX7_kinds 32 = .ok (.getfield 10, 3) := by decide +kernel
theorem dX7_kinds_35 : decode cX7_kinds 35 = .ok (.invokevirtual 122, 3) := by decide +kernel
theorem dX7_kinds_38 : decode cX7_kinds 38 = .ok (.bipush (-6), 2) := by decide +kernel
theorem dX7_kinds_40 : decode cX7_kinds 40 = .ok (.if_icmp .eq 6, 3) := by decide +kernel
theorem dX7_kinds_43 : decode cX7_kinds 43 = .ok (.bipush (-3), 2) := by decide +kernel
theorem dX7_kinds_45 : decode cX7_kinds 45 = .ok (.ireturn, 1) := by decide +kernel
theorem dX7_kinds_46 : decode cX7_kinds 46 = .ok (.iload_n 1, 1) := by decide +kernel
theorem dX7_kinds_47 : decode cX7_kinds 47 = .ok (.iconst 4, 1) := by decide +kernel
theorem dX7_kinds_48 : decode cX7_kinds 48 = .ok (.if_icmp .ne 15, 3) := by decide +kernel
theorem dX7_kinds_51 : decode cX7_kinds 51 = .ok (.aload_n 0, 1) := by decide +kernel
theorem dX7_kinds_52 : decode cX7_kinds 52 = .ok (.getfield 27, 3) := by decide +kernel
theorem dX7_kinds_55 : decode cX7_kinds 55 = .ok (.aload_n 0, 1) := by decide +kernel
theorem dX7_kinds_56 : decode cX7_kinds 56 = .ok (.getfield 10, 3) := by decide +kernel
theorem dX7_kinds_59 : decode cX7_kinds 59 = .ok (.invokevirtual 136, 3) := by decide +kernel
theorem dX7_kinds_62 : decode cX7_kinds 62 = .ok (.ireturn, 1) := by decide +kernel
theorem dX7_kinds_63 : decode cX7_kinds 63 = .ok (.iload_n 1, 1) := by decide +kernel
theorem dX7_kinds_64 : decode cX7_kinds 64 = .ok (.iconst 5, 1) := by decide +kernel
theorem dX7_kinds_65 : decode cX7_kinds 65 = .ok (.if_icmp .ne 29, 3) := by decide +kernel
theorem dX7_kinds_68 : decode cX7_kinds 68 = .ok (.aload_n 0, 1) := by decide +kernel
theorem dX7_kinds_69 : decode cX7_kinds 69 = .ok (.getfield 27, 3) := by decide +kernel
theorem dX7_kinds_72 : decode cX7_kinds 72 = .ok (.iconst 0, 1) := by decide +kernel
theorem dX7_kinds_73 : decode cX7_kinds 73 = .ok (.aload_n 0, 1) := by decide +kernel
theorem dX7_kinds_74 : decode cX7_kinds 74 = .ok (.getfield 10, 3) := by decide +kernel
theorem dX7_kinds_77 : decode cX7_kinds 77 = .ok (.invokevirtual 139, 3) := by decide +kernel
theorem dX7_kinds_80 : decode cX7_kinds 80 = .ok (.aload_n 0, 1) := by decide +kernel
theorem dX7_kinds_81 : decode cX7_kinds 81 = .ok (.getfield 27, 3) := by decide +kernel
theorem dX7_kinds_84 : decode cX7_kinds 84 = .ok (.iconst 2, 1) := by decide +kernel
theorem dX7_kinds_85 : decode cX7_kinds 85 = .ok (.aload_n 0, 1) := by decide +kernel
theorem dX7_kinds_86 : decode cX7_kinds 86 = .ok (.getfield 10, 3) := by decide +kernel
theorem dX7_kinds_89 : decode cX7_kinds 89 = .ok (.invokevirtual 139, 3) := by decide +kernel
theorem dX7_kinds_92 : decode cX7_kinds 92 = .ok (.iadd, 1) := by decide +kernel
theorem dX7_kinds_93 : decode cX7_kinds 93 = .ok (.ireturn, 1) := by decide +kernel
theorem dX7_kinds_94 : decode cX7_kinds 94 = .ok (.aload_n 0, 1) := by decide +kernel
theorem dX7_kinds_95 : decode cX7_kinds 95 = .ok (.getfield 27, 3) := by decide +kernel
theorem dX7_kinds_98 : decode cX7_kinds 98 = .ok (.iload_n 1, 1) := by decide +kernel
theorem dX7_kinds_99 : decode cX7_kinds 99 = .ok (.aload_n 0, 1) := by decide +kernel
theorem dX7_kinds_100 : decode cX7_kinds 100 = .ok (.getfield 10, 3) := by decide +kernel
theorem dX7_kinds_103 : decode cX7_kinds 103 = .ok (.invokevirtual 139, 3) := by decide +kernel
theorem dX7_kinds_106 : decode cX7_kinds 106 = .ok (.ireturn, 1) := by decide +kernel
theorem dX7_kind_0 : decode cX7_kind 0 = .ok (.aload_n 0, 1) := by decide +kernel
theorem dX7_kind_1 : decode cX7_kind 1 = .ok (.getfield 10, 3) := by decide +kernel
theorem dX7_kind_4 : decode cX7_kind 4 = .ok (.iload_n 1, 1) := by decide +kernel
theorem dX7_kind_5 : decode cX7_kind 5 = .ok (.iload_n 2, 1) := by decide +kernel
theorem dX7_kind_6 : decode cX7_kind 6 = .ok (.invokevirtual 142, 3) := by decide +kernel
theorem dX7_kind_9 : decode cX7_kind 9 = .ok (.ireturn, 1) := by decide +kernel
theorem dX7_shift_0 : decode cX7_shift 0 = .ok (.aload_n 0, 1) := by decide +kernel
theorem dX7_shift_1 : decode cX7_shift 1 = .ok (.getfield 10, 3) := by decide +kernel
theorem dX7_shift_4 : decode cX7_shift 4 = .ok (.iload_n 1, 1) := by decide +kernel
theorem dX7_shift_5 : decode cX7_shift 5 = .ok (.invokevirtual 98, 3) := by decide +kernel
theorem dX7_shift_8 : decode cX7_shift 8 = .ok (.astore 4, 2) := by decide +kernel
theorem dX7_shift_10 : decode cX7_shift 10 = .ok (.aload_n 0, 1) := by decide +kernel
theorem dX7_shift_11 : decode cX7_shift 11 = .ok (.getfield 10, 3) := by decide +kernel
theorem dX7_shift_14 : decode cX7_shift 14 = .ok (.iload_n 2, 1) := by decide +kernel
theorem dX7_shift_15 : decode cX7_shift 15 = .ok (.invokevirtual 98, 3) := by decide +kernel
theorem dX7_shift_18 : decode cX7_shift 18 = .ok (.astore 5, 2) := by decide +kernel
theorem dX7_shift_20 : decode cX7_shift 20 = .ok (.aload 4, 2) := by decide +kernel
theorem dX7_shift_22 : decode cX7_shift 22 = .ok (.ifnull 22, 3) := by decide +kernel
theorem dX7_shift_25 : decode cX7_shift 25 = .ok (.aload 5, 2) := by decide +kernel
theorem dX7_shift_27 : decode cX7_shift 27 = .ok (.ifnull 17, 3) := by decide +kernel
theorem dX7_shift_30 : decode cX7_shift 30 = .ok (.iload_n 1, 1) := by decide +kernel
theorem dX7_shift_31 : decode cX7_shift 31 = .ok (.iload_n 2, 1) := by decide +kernel
theorem dX7_shift_32 : decode cX7_shift 32 = .ok (.if_icmp .eq 12, 3) := by decide +kernel
theorem dX7_shift_35 : decode cX7_shift 35 = .ok (.iload_n 3, 1) := by decide +kernel
theorem dX7_shift_36 : decode cX7_shift 36 = .ok (.iconst 0, 1) := by decide +kernel
theorem dX7_shift_37 : decode cX7_shift 37 = .ok (.iconst 5, 1) := by decide +kernel
theorem dX7_shift_38 : decode cX7_shift 38 = .ok (.invokestatic 55, 3) := by decide +kernel
theorem dX7_shift_41 : decode cX7_shift 41 = .ok (.ifCond .ne 5, 3) := by decide +kernel
theorem dX7_shift_44 : decode cX7_shift 44 = .ok (.iconst (-1), 1) := by decide +kernel
theorem dX7_shift_45 : decode cX7_shift 45 = .ok (.ireturn, 1) := by decide +kernel
theorem dX7_shift_46 : decode cX7_shift 46 = .ok (.aload 4, 2) := by decide +kernel
theorem dX7_shift_48 : decode cX7_shift 48 = .ok (.aload 5, 2) := by decide +kernel
theorem dX7_shift_50 : decode cX7_shift 50 = .ok (.iload_n 3, 1) := by decide +kernel
theorem dX7_shift_51 : decode cX7_shift 51 = .ok (.invokevirtual 146, 3) := by decide +kernel
theorem dX7_shift_54 : decode cX7_shift 54 = .ok (.ifCond .eq 17, 3) := by decide +kernel
theorem dX7_shift_57 : decode cX7_shift 57 = .ok (.aload 4, 2) := by decide +kernel
theorem dX7_shift_59 : decode cX7_shift 59 = .ok (.aload 5, 2) := by decide +kernel
theorem dX7_shift_61 : decode cX7_shift 61 = .ok (.iload_n 3, 1) := by decide +kernel
theorem dX7_shift_62 : decode cX7_shift 62 = .ok (.invokevirtual 150, 3) := by decide +kernel
theorem dX7_shift_65 : decode cX7_shift 65 = .ok (.bipush 100, 2) := by decide +kernel
theorem dX7_shift_67 : decode cX7_shift 67 = .ok (.iadd, 1) := by decide +kernel
theorem dX7_shift_68 : decode cX7_shift 68 = .ok (.goto 5, 3) := by decide +kernel
theorem dX7_shift_71 : decode cX7_shift 71 = .ok (.bipush (-3), 2) := by decide +kernel
theorem dX7_shift_73 : decode cX7_shift 73 = .ok (.ireturn, 1) := by decide +kernel
theorem dX7_near_0 : decode cX7_near 0 = .ok (.aload_n 0, 1) := by decide +kernel
theorem dX7_near_1 : decode cX7_near 1 = .ok (.getfield 10, 3) := by decide +kernel
theorem dX7_near_4 : decode cX7_near 4 = .ok (.iload_n 1, 1) := by decide +kernel
theorem dX7_near_5 : decode cX7_near 5 = .ok (.invokevirtual 98, 3) := by decide +kernel
theorem dX7_near_8 : decode cX7_near 8 = .ok (.astore 4, 2) := by decide +kernel
theorem dX7_near_10 : decode cX7_near 10 = .ok (.aload_n 0, 1) := by decide +kernel
theorem dX7_near_11 : decode cX7_near 11 = .ok (.getfield 10, 3) := by decide +kernel
theorem dX7_near_14 : decode cX7_near 14 = .ok (.iload_n 2, 1) := by decide +kernel
theorem dX7_near_15 : decode cX7_near 15 = .ok (.invokevirtual 98, 3) := by decide +kernel
theorem dX7_near_18 : decode cX7_near 18 = .ok (.astore 5, 2) := by decide +kernel
theorem dX7_near_20 : decode cX7_near 20 = .ok (.aload 4, 2) := by decide +kernel
theorem dX7_near_22 : decode cX7_near 22 = .ok (.ifnull 13, 3) := by decide +kernel
theorem dX7_near_25 : decode cX7_near 25 = .ok (.aload 5, 2) := by decide +kernel
theorem dX7_near_27 : decode cX7_near 27 = .ok (.ifnull 8, 3) := by decide +kernel
theorem dX7_near_30 : decode cX7_near 30 = .ok (.iload_n 1, 1) := by decide +kernel
theorem dX7_near_31 : decode cX7_near 31 = .ok (.iload_n 2, 1) := by decide +kernel
theorem dX7_near_32 : decode cX7_near 32 = .ok (.if_icmp .ne 5, 3) := by decide +kernel
theorem dX7_near_35 : decode cX7_near 35 = .ok (.iconst (-1), 1) := by decide +kernel
theorem dX7_near_36 : decode cX7_near 36 = .ok (.ireturn, 1) := by decide +kernel
theorem dX7_near_37 : decode cX7_near 37 = .ok (.iload_n 3, 1) := by decide +kernel
theorem dX7_near_38 : decode cX7_near 38 = .ok (.iconst (-1), 1) := by decide +kernel
theorem dX7_near_39 : decode cX7_near 39 = .ok (.if_icmp .ne 13, 3) := by decide +kernel
theorem dX7_near_42 : decode cX7_near 42 = .ok (.aload 4, 2) := by decide +kernel
theorem dX7_near_44 : decode cX7_near 44 = .ok (.aload 5, 2) := by decide +kernel
theorem dX7_near_46 : decode cX7_near 46 = .ok (.invokevirtual 154, 3) := by decide +kernel
theorem dX7_near_49 : decode cX7_near 49 = .ok (.goto 11, 3) := by decide +kernel
theorem dX7_near_52 : decode cX7_near 52 = .ok (.aload 4, 2) := by decide +kernel
theorem dX7_near_54 : decode cX7_near 54 = .ok (.aload 5, 2) := by decide +kernel
theorem dX7_near_56 : decode cX7_near 56 = .ok (.iload_n 3, 1) := by decide +kernel
theorem dX7_near_57 : decode cX7_near 57 = .ok (.invokevirtual 158, 3) := by decide +kernel
theorem dX7_near_60 : decode cX7_near 60 = .ok (.ireturn, 1) := by decide +kernel
theorem dX7_match_0 : decode cX7_match 0 = .ok (.iload_n 1, 1) := by decide +kernel
theorem dX7_match_1 : decode cX7_match 1 = .ok (.aload_n 0, 1) := by decide +kernel
theorem dX7_match_2 : decode cX7_match 2 = .ok (.getfield 10, 3) := by decide +kernel
theorem dX7_match_5 : decode cX7_match 5 = .ok (.invokevirtual 110, 3) := by decide +kernel
theorem dX7_match_8 : decode cX7_match 8 = .ok (.iconst (-1), 1) := by decide +kernel
theorem dX7_match_9 : decode cX7_match 9 = .ok (.ixor, 1) := by decide +kernel
theorem dX7_match_10 : decode cX7_match 10 = .ok (.iand, 1) := by decide +kernel
theorem dX7_match_11 : decode cX7_match 11 = .ok (.ifCond .eq 5, 3) := by decide +kernel
theorem dX7_match_14 : decode cX7_match 14 = .ok (.iconst (-1), 1) := by decide +kernel
theorem dX7_match_15 : decode cX7_match 15 = .ok (.ireturn, 1) := by decide +kernel
theorem dX7_match_16 : decode cX7_match 16 = .ok (.iload_n 2, 1) := by decide +kernel
theorem dX7_match_17 : decode cX7_match 17 = .ok (.iconst (-1), 1) := by decide +kernel
theorem dX7_match_18 : decode cX7_match 18 = .ok (.if_icmp .eq 23, 3) := by decide +kernel
theorem dX7_match_21 : decode cX7_match 21 = .ok (.iload_n 2, 1) := by decide +kernel
theorem dX7_match_22 : decode cX7_match 22 = .ok (.iconst 0, 1) := by decide +kernel
theorem dX7_match_23 : decode cX7_match 23 = .ok (.bipush 9, 2) := by decide +kernel
theorem dX7_match_25 : decode cX7_match 25 = .ok (.invokestatic 55, 3) := by decide +kernel
theorem dX7_match_28 : decode cX7_match 28 = .ok (.ifCond .eq 11, 3) := by decide +kernel
theorem dX7_match_31 : decode cX7_match 31 = .ok (.iload_n 1, 1) := by decide +kernel
theorem dX7_match_32 : decode cX7_match 32 = .ok (.iload_n 2, 1) := by decide +kernel
theorem dX7_match_33 : decode cX7_match 33 = .ok (.invokestatic 161, 3) := by decide +kernel
theorem dX7_match_36 : decode cX7_match 36 = .ok (.ifCond .ne 5, 3) := by decide +kernel
theorem dX7_match_39 : decode cX7_match 39 = .ok (.iconst (-1), 1) := by decide +kernel
theorem dX7_match_40 : decode cX7_match 40 = .ok (.ireturn, 1) := by decide +kernel
theorem dX7_match_41 : decode cX7_match 41 = .ok (.aload_n 0, 1) := by decide +kernel
theorem dX7_match_42 : decode cX7_match 42 = .ok (.getfield 34, 3) := by decide +kernel
theorem dX7_match_45 : decode cX7_match 45 = .ok (.aload_n 0, 1) := by decide +kernel
theorem dX7_match_46 : decode cX7_match 46 = .ok (.getfield 10, 3) := by decide +kernel
theorem dX7_match_49 : decode cX7_match 49 = .ok (.iload_n 1, 1) := by decide +kernel
theorem dX7_match_50 : decode cX7_match 50 = .ok (.invokevirtual 165, 3) := by decide +kernel
theorem dX7_match_53 : decode cX7_match 53 = .ok (.iload_n 2, 1) := by decide +kernel
theorem dX7_match_54 : decode cX7_match 54 = .ok (.iconst (-1), 1) := by decide +kernel
theorem dX7_match_55 : decode cX7_match 55 = .ok (.if_icmp .ne 14, 3) := by decide +kernel
theorem dX7_match_58 : decode cX7_match 58 = .ok (.aload_n 0, 1) := by decide +kernel
theorem dX7_match_59 : decode cX7_match 59 = .ok (.getfield 34, 3) := by decide +kernel
theorem dX7_match_62 : decode cX7_match 62 = .ok (.iload_n 1, 1) := by decide +kernel
theorem dX7_match_63 : decode cX7_match 63 = .ok (.invokevirtual 169, 3) := by decide +kernel
theorem dX7_match_66 : decode cX7_match 66 = .ok (.goto 12, 3) := by decide +kernel
theorem dX7_match_69 : decode cX7_match 69 = .ok (.aload_n 0, 1) := by decide +kernel
theorem dX7_match_70 : decode cX7_match 70 = .ok (.getfield 34, 3) := by decide +kernel
theorem dX7_match_73 : decode cX7_match 73 = .ok (.iload_n 2, 1) := by decide +kernel
theorem dX7_match_74 : decode cX7_match 74 = .ok (.iload_n 1, 1) := by decide +kernel
theorem dX7_match_75 : decode cX7_match 75 = .ok (.invokevirtual 172, 3) := by decide +kernel
theorem dX7_match_78 : decode cX7_match 78 = .ok (.ireturn, 1) := by decide +kernel
theorem dX7_stood_0 : decode cX7_stood 0 = .ok (.aload_n 0, 1) := by decide +kernel
theorem dX7_stood_1 : decode cX7_stood 1 = .ok (.getfield 10, 3) := by decide +kernel
theorem dX7_stood_4 : decode cX7_stood 4 = .ok (.iload_n 1, 1) := by decide +kernel
theorem dX7_stood_5 : decode cX7_stood 5 = .ok (.invokevirtual 98, 3) := by decide +kernel
theorem dX7_stood_8 : decode cX7_stood 8 = .ok (.astore_n 3, 1) := by decide +kernel
theorem dX7_stood_9 : decode cX7_stood 9 = .ok (.aload_n 3, 1) := by decide +kernel
theorem dX7_stood_10 : decode cX7_stood 10 = .ok (.ifnonnull 5, 3) := by decide +kernel
theorem dX7_stood_13 : decode cX7_stood 13 = .ok (.iconst (-1), 1) := by decide +kernel
theorem dX7_stood_14 : decode cX7_stood 14 = .ok (.ireturn, 1) := by decide +kernel
theorem dX7_stood_15 : decode cX7_stood 15 = .ok (.iload_n 2, 1) := by decide +kernel
theorem dX7_stood_16 : decode cX7_stood 16 = .ok (.iconst (-1), 1) := by decide +kernel
theorem dX7_stood_17 : decode cX7_stood 17 = .ok (.if_icmp .ne 14, 3) := by decide +kernel
theorem dX7_stood_20 : decode cX7_stood 20 = .ok (.aload_n 0, 1) := by decide +kernel
theorem dX7_stood_21 : decode cX7_stood 21 = .ok (.getfield 10, 3) := by decide +kernel
theorem dX7_stood_24 : decode cX7_stood 24 = .ok (.aload_n 3, 1) := by decide +kernel
theorem dX7_stood_25 : decode cX7_stood 25 = .ok (.invokestatic 175, 3) := by decide +kernel
theorem dX7_stood_28 : decode cX7_stood 28 = .ok (.goto 12, 3) := by decide +kernel
theorem dX7_stood_31 : decode cX7_stood 31 = .ok (.aload_n 0, 1) := by decide +kernel
theorem dX7_stood_32 : decode cX7_stood 32 = .ok (.getfield 10, 3) := by decide +kernel
theorem dX7_stood_35 : decode cX7_stood 35 = .ok (.aload_n 3, 1) := by decide +kernel
theorem dX7_stood_36 : decode cX7_stood 36 = .ok (.iload_n 2, 1) := by decide +kernel
theorem dX7_stood_37 : decode cX7_stood 37 = .ok (.invokestatic 181, 3) := by decide +kernel
theorem dX7_stood_40 : decode cX7_stood 40 = .ok (.ireturn, 1) := by decide +kernel
theorem dX7_forged_0 : decode cX7_forged 0 = .ok (.aload_n 0, 1) := by decide +kernel
theorem dX7_forged_1 : decode cX7_forged 1 = .ok (.getfield 10, 3) := by decide +kernel
theorem dX7_forged_4 : decode cX7_forged 4 = .ok (.iload_n 1, 1) := by decide +kernel
theorem dX7_forged_5 : decode cX7_forged 5 = .ok (.invokevirtual 98, 3) := by decide +kernel
theorem dX7_forged_8 : decode cX7_forged 8 = .ok (.astore_n 3, 1) := by decide +kernel
theorem dX7_forged_9 : decode cX7_forged 9 = .ok (.aload_n 3, 1) := by decide +kernel
theorem dX7_forged_10 : decode cX7_forged 10 = .ok (.ifnonnull 5, 3) := by decide +kernel
theorem dX7_forged_13 : decode cX7_forged 13 = .ok (.iconst (-1), 1) := by decide +kernel
theorem dX7_forged_14 : decode cX7_forged 14 = .ok (.ireturn, 1) := by decide +kernel
theorem dX7_forged_15 : decode cX7_forged 15 = .ok (.iload_n 2, 1) := by decide +kernel
theorem dX7_forged_16 : decode cX7_forged 16 = .ok (.iconst 0, 1) := by decide +kernel
theorem dX7_forged_17 : decode cX7_forged 17 = .ok (.iconst 1, 1) := by decide +kernel
theorem dX7_forged_18 : decode cX7_forged 18 = .ok (.invokestatic 55, 3) := by decide +kernel
theorem dX7_forged_21 : decode cX7_forged 21 = .ok (.ifCond .ne 6, 3) := by decide +kernel
theorem dX7_forged_24 : decode cX7_forged 24 = .ok (.bipush (-2), 2) := by decide +kernel
theorem dX7_forged_26 : decode cX7_forged 26 = .ok (.ireturn, 1) := by decide +kernel
theorem dX7_forged_27 : decode cX7_forged 27 = .ok (.aload_n 0, 1) := by decide +kernel
theorem dX7_forged_28 : decode cX7_forged 28 = .ok (.getfield 10, 3) := by decide +kernel
theorem dX7_forged_31 : decode cX7_forged 31 = .ok (.aload_n 3, 1) := by decide +kernel
theorem dX7_forged_32 : decode cX7_forged 32 = .ok (.invokestatic 185, 3) := by decide +kernel
theorem dX7_forged_35 : decode cX7_forged 35 = .ok (.istore 4, 2) := by decide +kernel
theorem dX7_forged_37 : decode cX7_forged 37 = .ok (.iload_n 2, 1) := by decide +kernel
theorem dX7_forged_38 : decode cX7_forged 38 = .ok (.ifCond .ne 11, 3) := by decide +kernel
theorem dX7_forged_41 : decode cX7_forged 41 = .ok (.iload 4, 2) := by decide +kernel
theorem dX7_forged_43 : decode cX7_forged 43 = .ok (.invokestatic 67, 3) := by decide +kernel
theorem dX7_forged_46 : decode cX7_forged 46 = .ok (.goto 5, 3) := by decide +kernel
theorem dX7_forged_49 : decode cX7_forged 49 = .ok (.iload 4, 2) := by decide +kernel
theorem dX7_forged_51 : decode cX7_forged 51 = .ok (.ireturn, 1) := by decide +kernel
theorem dX7_ahead_0 : decode cX7_ahead 0 = .ok (.aload_n 0, 1) := by decide +kernel
theorem dX7_ahead_1 : decode cX7_ahead 1 = .ok (.getfield 10, 3) := by decide +kernel
theorem dX7_ahead_4 : decode cX7_ahead 4 = .ok (.iload_n 1, 1) := by decide +kernel
theorem dX7_ahead_5 : decode cX7_ahead 5 = .ok (.invokevirtual 98, 3) := by decide +kernel
theorem dX7_ahead_8 : decode cX7_ahead 8 = .ok (.astore_n 3, 1) := by decide +kernel
theorem dX7_ahead_9 : decode cX7_ahead 9 = .ok (.aload_n 0, 1) := by decide +kernel
theorem dX7_ahead_10 : decode cX7_ahead 10 = .ok (.getfield 10, 3) := by decide +kernel
theorem dX7_ahead_13 : decode cX7_ahead 13 = .ok (.iload_n 2, 1) := by decide +kernel
theorem dX7_ahead_14 : decode cX7_ahead 14 = .ok (.invokevirtual 98, 3) := by decide +kernel
theorem dX7_ahead_17 : decode cX7_ahead 17 = .ok (.astore 4, 2) := by decide +kernel
theorem dX7_ahead_19 : decode cX7_ahead 19 = .ok (.aload_n 3, 1) := by decide +kernel
theorem dX7_ahead_20 : decode cX7_ahead 20 = .ok (.ifnull 13, 3) := by decide +kernel
theorem dX7_ahead_23 : decode cX7_ahead 23 = .ok (.aload 4, 2) := by decide +kernel
theorem dX7_ahead_25 : decode cX7_ahead 25 = .ok (.ifnull 8, 3) := by decide +kernel
theorem dX7_ahead_28 : decode cX7_ahead 28 = .ok (.iload_n 1, 1) := by decide +kernel
theorem dX7_ahead_29 : decode cX7_ahead 29 = .ok (.iload_n 2, 1) := by decide +kernel
theorem dX7_ahead_30 : decode cX7_ahead 30 = .ok (.if_icmp .ne 5, 3) := by decide +kernel
theorem dX7_ahead_33 : decode cX7_ahead 33 = .ok (.iconst (-1), 1) := by decide +kernel
theorem dX7_ahead_34 : decode cX7_ahead 34 = .ok (.ireturn, 1) := by decide +kernel
theorem dX7_ahead_35 : decode cX7_ahead 35 = .ok (.aload_n 0, 1) := by decide +kernel
theorem dX7_ahead_36 : decode cX7_ahead 36 = .ok (.getfield 10, 3) := by decide +kernel
theorem dX7_ahead_39 : decode cX7_ahead 39 = .ok (.aload_n 3, 1) := by decide +kernel
theorem dX7_ahead_40 : decode cX7_ahead 40 = .ok (.invokestatic 188, 3) := by decide +kernel
theorem dX7_ahead_43 : decode cX7_ahead 43 = .ok (.istore 5, 2) := by decide +kernel
theorem dX7_ahead_45 : decode cX7_ahead 45 = .ok (.aload_n 0, 1) := by decide +kernel
theorem dX7_ahead_46 : decode cX7_ahead 46 = .ok (.getfield 10, 3) := by decide +kernel
theorem dX7_ahead_49 : decode cX7_ahead 49 = .ok (.aload 4, 2) := by decide +kernel
theorem dX7_ahead_51 : decode cX7_ahead 51 = .ok (.invokestatic 188, 3) := by decide +kernel
theorem dX7_ahead_54 : decode cX7_ahead 54 = .ok (.istore 6, 2) := by decide +kernel
theorem dX7_ahead_56 : decode cX7_ahead 56 = .ok (.iload 5, 2) := by decide +kernel
theorem dX7_ahead_58 : decode cX7_ahead 58 = .ok (.bipush (-6), 2) := by decide +kernel
theorem dX7_ahead_60 : decode cX7_ahead 60 = .ok (.if_icmp .eq 10, 3) := by decide +kernel
theorem dX7_ahead_63 : decode cX7_ahead 63 = .ok (.iload 6, 2) := by decide +kernel
theorem dX7_ahead_65 : decode cX7_ahead 65 = .ok (.bipush (-6), 2) := by decide +kernel
theorem dX7_ahead_67 : decode cX7_ahead 67 = .ok (.if_icmp .ne 6, 3) := by decide +kernel
theorem dX7_ahead_70 : decode cX7_ahead 70 = .ok (.bipush (-6), 2) := by decide +kernel
theorem dX7_ahead_72 : decode cX7_ahead 72 = .ok (.ireturn, 1) := by decide +kernel
theorem dX7_ahead_73 : decode cX7_ahead 73 = .ok (.aload_n 0, 1) := by decide +kernel
theorem dX7_ahead_74 : decode cX7_ahead 74 = .ok (.getfield 10, 3) := by decide +kernel
theorem dX7_ahead_77 : decode cX7_ahead 77 = .ok (.aload_n 3, 1) := by decide +kernel
theorem dX7_ahead_78 : decode cX7_ahead 78 = .ok (.invokestatic 191, 3) := by decide +kernel
theorem dX7_ahead_81 : decode cX7_ahead 81 = .ok (.iload 6, 2) := by decide +kernel
theorem dX7_ahead_83 : decode cX7_ahead 83 = .ok (.if_icmp .ge 5, 3) := by decide +kernel
theorem dX7_ahead_86 : decode cX7_ahead 86 = .ok (.iconst 1, 1) := by decide +kernel
theorem dX7_ahead_87 : decode cX7_ahead 87 = .ok (.ireturn, 1) := by decide +kernel
theorem dX7_ahead_88 : decode cX7_ahead 88 = .ok (.aload_n 0, 1) := by decide +kernel
theorem dX7_ahead_89 : decode cX7_ahead 89 = .ok (.getfield 10, 3) := by decide +kernel
theorem dX7_ahead_92 : decode cX7_ahead 92 = .ok (.aload 4, 2) := by decide +kernel
theorem dX7_ahead_94 : decode cX7_ahead 94 = .ok (.invokestatic 191, 3) := by decide +kernel
theorem dX7_ahead_97 : decode cX7_ahead 97 = .ok (.iload 5, 2) := by decide +kernel
theorem dX7_ahead_99 : decode cX7_ahead 99 = .ok (.if_icmp .ge 7, 3) := by decide +kernel
theorem dX7_ahead_102 : decode cX7_ahead 102 = .ok (.iconst 2, 1) := by decide +kernel
theorem dX7_ahead_103 : decode cX7_ahead 103 = .ok (.goto 4, 3) := by decide +kernel
theorem dX7_ahead_106 : decode cX7_ahead 106 = .ok (.iconst 0, 1) := by decide +kernel
theorem dX7_ahead_107 : decode cX7_ahead 107 = .ok (.ireturn, 1) := by decide +kernel
theorem dX7_missing_0 : decode cX7_missing 0 = .ok (.aload_n 0, 1) := by decide +kernel
theorem dX7_missing_1 : decode cX7_missing 1 = .ok (.getfield 10, 3) := by decide +kernel
theorem dX7_missing_4 : decode cX7_missing 4 = .ok (.iload_n 1, 1) := by decide +kernel
theorem dX7_missing_5 : decode cX7_missing 5 = .ok (.invokevirtual 98, 3) := by decide +kernel
theorem dX7_missing_8 : decode cX7_missing 8 = .ok (.astore 4, 2) := by decide +kernel
theorem dX7_missing_10 : decode cX7_missing 10 = .ok (.aload 4, 2) := by decide +kernel
theorem dX7_missing_12 : decode cX7_missing 12 = .ok (.ifnull 14, 3) := by decide +kernel
theorem dX7_missing_15 : decode cX7_missing 15 = .ok (.aload_n 0, 1) := by decide +kernel
theorem dX7_missing_16 : decode cX7_missing 16 = .ok (.getfield 10, 3) := by decide +kernel
theorem dX7_missing_19 : decode cX7_missing 19 = .ok (.iload_n 2, 1) := by decide +kernel
theorem dX7_missing_20 : decode cX7_missing 20 = .ok (.invokevirtual 73, 3) := by decide +kernel
theorem dX7_missing_23 : decode cX7_missing 23 = .ok (.ifnonnull 5, 3) := by decide +kernel
theorem dX7_missing_26 : decode cX7_missing 26 = .ok (.iconst (-1), 1) := by decide +kernel
theorem dX7_missing_27 : decode cX7_missing 27 = .ok (.ireturn, 1) := by decide +kernel
theorem dX7_missing_28 : decode cX7_missing 28 = .ok (.iload_n 3, 1) := by decide +kernel
theorem dX7_missing_29 : decode cX7_missing 29 = .ok (.iconst 0, 1) := by decide +kernel
theorem dX7_missing_30 : decode cX7_missing 30 = .ok (.iconst 2, 1) := by decide +kernel
theorem dX7_missing_31 : decode cX7_missing 31 = .ok (.invokestatic 55, 3) := by decide +kernel
theorem dX7_missing_34 : decode cX7_missing 34 = .ok (.ifCond .ne 6, 3) := by decide +kernel
theorem dX7_missing_37 : decode cX7_missing 37 = .ok (.bipush (-2), 2) := by decide +kernel
theorem dX7_missing_39 : decode cX7_missing 39 = .ok (.ireturn, 1) := by decide +kernel
theorem dX7_missing_40 : decode cX7_missing 40 = .ok (.aload_n 0, 1) := by decide +kernel
theorem dX7_missing_41 : decode cX7_missing 41 = .ok (.getfield 10, 3) := by decide +kernel
theorem dX7_missing_44 : decode cX7_missing 44 = .ok (.aload 4, 2) := by decide +kernel
theorem dX7_missing_46 : decode cX7_missing 46 = .ok (.iload_n 2, 1) := by decide +kernel
theorem dX7_missing_47 : decode cX7_missing 47 = .ok (.invokestatic 194, 3) := by decide +kernel
theorem dX7_missing_50 : decode cX7_missing 50 = .ok (.lstore 5, 2) := by decide +kernel
theorem dX7_missing_52 : decode cX7_missing 52 = .ok (.iload_n 3, 1) := by decide +kernel
theorem dX7_missing_53 : decode cX7_missing 53 = .ok (.ifCond .ne 9, 3) := by decide +kernel
theorem dX7_missing_56 : decode cX7_missing 56 = .ok (.lload 5, 2) := by decide +kernel
theorem dX7_missing_58 : decode cX7_missing 58 = .ok (.invokestatic 198, 3) := by decide +kernel
theorem dX7_missing_61 : decode cX7_missing 61 = .ok (.ireturn, 1) := by decide +kernel
theorem dX7_missing_62 : decode cX7_missing 62 = .ok (.iload_n 3, 1) := by decide +kernel
theorem dX7_missing_63 : decode cX7_missing 63 = .ok (.iconst 1, 1) := by decide +kernel
theorem dX7_missing_64 : decode cX7_missing 64 = .ok (.if_icmp .ne 11, 3) := by decide +kernel
theorem dX7_missing_67 : decode cX7_missing 67 = .ok (.lload 5, 2) := by decide +kernel
theorem dX7_missing_69 : decode cX7_missing 69 = .ok (.invokestatic 203, 3) := by decide +kernel
theorem dX7_missing_72 : decode cX7_missing 72 = .ok (.goto 8, 3) := by decide +kernel
theorem dX7_missing_75 : decode cX7_missing 75 = .ok (.lload 5, 2) := by decide +kernel
theorem dX7_missing_77 : decode cX7_missing 77 = .ok (.invokestatic 206, 3) := by decide +kernel
theorem dX7_missing_80 : decode cX7_missing 80 = .ok (.ireturn, 1) := by decide +kernel
theorem dX7_eyes_0 : decode cX7_eyes 0 = .ok (.iconst 0, 1) := by decide +kernel
theorem dX7_eyes_1 : decode cX7_eyes 1 = .ok (.istore_n 1, 1) := by decide +kernel
theorem dX7_eyes_2 : decode cX7_eyes 2 = .ok (.iconst 0, 1) := by decide +kernel
theorem dX7_eyes_3 : decode cX7_eyes 3 = .ok (.istore_n 2, 1) := by decide +kernel
theorem dX7_eyes_4 : decode cX7_eyes 4 = .ok (.iload_n 2, 1) := by decide +kernel
theorem dX7_eyes_5 : decode cX7_eyes 5 = .ok (.bipush 10, 2) := by decide +kernel
theorem dX7_eyes_7 : decode cX7_eyes 7 = .ok (.if_icmp .ge 17, 3) := by decide +kernel
theorem dX7_eyes_10 : decode cX7_eyes 10 = .ok (.iload_n 1, 1) := by decide +kernel
theorem dX7_eyes_11 : decode cX7_eyes 11 = .ok (.aload_n 0, 1) := by decide +kernel
theorem dX7_eyes_12 : decode cX7_eyes 12 = .ok (.iload_n 2, 1) := by decide +kernel
theorem dX7_eyes_13 : decode cX7_eyes 13 = .ok (.invokevirtual 209, 3) := by decide +kernel
theorem dX7_eyes_16 : decode cX7_eyes 16 = .ok (.iadd, 1) := by decide +kernel
theorem dX7_eyes_17 : decode cX7_eyes 17 = .ok (.istore_n 1, 1) := by decide +kernel
theorem dX7_eyes_18 : decode cX7_eyes 18 = .ok (.iinc 2 1, 3) := by decide +kernel
theorem dX7_eyes_21 : decode cX7_eyes 21 = .ok (.goto (-17), 3) := by decide +kernel
theorem dX7_eyes_24 : decode cX7_eyes 24 = .ok (.iload_n 1, 1) := by decide +kernel
theorem dX7_eyes_25 : decode cX7_eyes 25 = .ok (.ireturn, 1) := by decide +kernel
theorem dX7_late_0 : decode cX7_late 0 = .ok (.iload_n 1, 1) := by decide +kernel
theorem dX7_late_1 : decode cX7_late 1 = .ok (.invokestatic 87, 3) := by decide +kernel
theorem dX7_late_4 : decode cX7_late 4 = .ok (.ifCond .eq 30, 3) := by decide +kernel
theorem dX7_late_7 : decode cX7_late 7 = .ok (.iload_n 2, 1) := by decide +kernel
theorem dX7_late_8 : decode cX7_late 8 = .ok (.invokestatic 91, 3) := by decide +kernel
theorem dX7_late_11 : decode cX7_late 11 = .ok (.ifCond .eq 23, 3) := by decide +kernel
theorem dX7_late_14 : decode cX7_late 14 = .ok (.iload_n 3, 1) := by decide +kernel
theorem dX7_late_15 : decode cX7_late 15 = .ok (.iconst 1, 1) := by decide +kernel
theorem dX7_late_16 : decode cX7_late 16 = .ok (.bipush 40, 2) := by decide +kernel
theorem dX7_late_18 : decode cX7_late 18 = .ok (.invokestatic 55, 3) := by decide +kernel
theorem dX7_late_21 : decode cX7_late 21 = .ok (.ifCond .eq 13, 3) := by decide +kernel
theorem dX7_late_24 : decode cX7_late 24 = .ok (.iload 7, 2) := by decide +kernel
theorem dX7_late_26 : decode cX7_late 26 = .ok (.iconst 0, 1) := by decide +kernel
theorem dX7_late_27 : decode cX7_late 27 = .ok (.iconst 1, 1) := by decide +kernel
theorem dX7_late_28 : decode cX7_late 28 = .ok (.invokestatic 55, 3) := by decide +kernel
theorem dX7_late_31 : decode cX7_late 31 = .ok (.ifCond .ne 7, 3) := by decide +kernel
theorem dX7_late_34 : decode cX7_late 34 = .ok (.ldc2_w 212, 3) := by decide +kernel
theorem dX7_late_37 : decode cX7_late 37 = .ok (.lreturn, 1) := by decide +kernel
theorem dX7_late_38 : decode cX7_late 38 = .ok (.iload 4, 2) := by decide +kernel
theorem dX7_late_40 : decode cX7_late 40 = .ok (.iconst 0, 1) := by decide +kernel
theorem dX7_late_41 : decode cX7_late 41 = .ok (.bipush 8, 2) := by decide +kernel
theorem dX7_late_43 : decode cX7_late 43 = .ok (.invokestatic 55, 3) := by decide +kernel
theorem dX7_late_46 : decode cX7_late 46 = .ok (.ifCond .eq 22, 3) := by decide +kernel
theorem dX7_late_49 : decode cX7_late 49 = .ok (.iload 5, 2) := by decide +kernel
theorem dX7_late_51 : decode cX7_late 51 = .ok (.iconst 0, 1) := by decide +kernel
theorem dX7_late_52 : decode cX7_late 52 = .ok (.bipush 10, 2) := by decide +kernel
theorem dX7_late_54 : decode cX7_late 54 = .ok (.invokestatic 55, 3) := by decide +kernel
theorem dX7_late_57 : decode cX7_late 57 = .ok (.ifCond .eq 11, 3) := by decide +kernel
theorem dX7_late_60 : decode cX7_late 60 = .ok (.iload 6, 2) := by decide +kernel
theorem dX7_late_62 : decode cX7_late 62 = .ok (.invokestatic 214, 3) := by decide +kernel
theorem dX7_late_65 : decode cX7_late 65 = .ok (.ifCond .ne 7, 3) := by decide +kernel
theorem dX7_late_68 : decode cX7_late 68 = .ok (.ldc2_w 212, 3) := by decide +kernel
theorem dX7_late_71 : decode cX7_late 71 = .ok (.lreturn, 1) := by decide +kernel
theorem dX7_late_72 : decode cX7_late 72 = .ok (.aload_n 0, 1) := by decide +kernel
theorem dX7_late_73 : decode cX7_late 73 = .ok (.getfield 41, 3) := by decide +kernel
theorem dX7_late_76 : decode cX7_late 76 = .ok (.iload 4, 2) := by decide +kernel
theorem dX7_late_78 : decode cX7_late 78 = .ok (.iload 5, 2) := by decide +kernel
theorem dX7_late_80 : decode cX7_late 80 = .ok (.invokevirtual 217, 3) := by decide +kernel
theorem dX7_late_83 : decode cX7_late 83 = .ok (.aload_n 0, 1) := by decide +kernel
theorem dX7_late_84 : decode cX7_late 84 = .ok (.getfield 10, 3) := by decide +kernel
theorem dX7_late_87 : decode cX7_late 87 = .ok (.aload_n 0, 1) := by decide +kernel
theorem dX7_late_88 : decode cX7_late 88 = .ok (.getfield 48, 3) := by decide +kernel
theorem dX7_late_91 : decode cX7_late 91 = .ok (.iload_n 1, 1) := by decide +kernel
theorem dX7_late_92 : decode cX7_late 92 = .ok (.iload_n 2, 1) := by decide +kernel
theorem dX7_late_93 : decode cX7_late 93 = .ok (.invokevirtual 220, 3) := by decide +kernel
theorem dX7_late_96 : decode cX7_late 96 = .ok (.lconst 0, 1) := by decide +kernel
theorem dX7_late_97 : decode cX7_late 97 = .ok (.lstore 8, 2) := by decide +kernel
theorem dX7_late_99 : decode cX7_late 99 = .ok (.lconst 0, 1) := by decide +kernel
theorem dX7_late_100 : decode cX7_late 100 = .ok (.lstore 10, 2) := by decide +kernel
theorem dX7_late_102 : decode cX7_late 102 = .ok (.iconst 0, 1) := by decide +kernel
theorem dX7_late_103 : decode cX7_late 103 = .ok (.istore 12, 2) := by decide +kernel
theorem dX7_late_105 : decode cX7_late 105 = .ok (.iload 12, 2) := by decide +kernel
theorem dX7_late_107 : decode cX7_late 107 = .ok (.iload 4, 2) := by decide +kernel
theorem dX7_late_109 : decode cX7_late 109 = .ok (.if_icmp .gt 71, 3) := by decide +kernel
theorem dX7_late_112 : decode cX7_late 112 = .ok (.aload_n 0, 1) := by decide +kernel
theorem dX7_late_113 : decode cX7_late 113 = .ok (.getfield 10, 3) := by decide +kernel
theorem dX7_late_116 : decode cX7_late 116 = .ok (.aload_n 0, 1) := by decide +kernel
theorem dX7_late_117 : decode cX7_late 117 = .ok (.getfield 52, 3) := by decide +kernel
theorem dX7_late_120 : decode cX7_late 120 = .ok (.iload_n 1, 1) := by decide +kernel
theorem dX7_late_121 : decode cX7_late 121 = .ok (.iload_n 3, 1) := by decide +kernel
theorem dX7_late_122 : decode cX7_late 122 = .ok (.iadd, 1) := by decide +kernel
theorem dX7_late_123 : decode cX7_late 123 = .ok (.iload_n 2, 1) := by decide +kernel
theorem dX7_late_124 : decode cX7_late 124 = .ok (.iload 12, 2) := by decide +kernel
theorem dX7_late_126 : decode cX7_late 126 = .ok (.iadd, 1) := by decide +kernel
theorem dX7_late_127 : decode cX7_late 127 = .ok (.invokevirtual 220, 3) := by decide +kernel
theorem dX7_late_130 : decode cX7_late 130 = .ok (.lload 10, 2) := by decide +kernel
theorem dX7_late_132 : decode cX7_late 132 = .ok (.aload_n 0, 1) := by decide +kernel
theorem dX7_late_133 : decode cX7_late 133 = .ok (.getfield 41, 3) := by decide +kernel
theorem dX7_late_136 : decode cX7_late 136 = .ok (.iload 12, 2) := by decide +kernel
theorem dX7_late_138 : decode cX7_late 138 = .ok (.invokevirtual 224, 3) := by decide +kernel
theorem dX7_late_141 : decode cX7_late 141 = .ok (.ladd, 1) := by decide +kernel
theorem dX7_late_142 : decode cX7_late 142 = .ok (.lstore 10, 2) := by decide +kernel
theorem dX7_late_144 : decode cX7_late 144 = .ok (.aload_n 0, 1) := by decide +kernel
theorem dX7_late_145 : decode cX7_late 145 = .ok (.getfield 48, 3) := by decide +kernel
theorem dX7_late_148 : decode cX7_late 148 = .ok (.aload_n 0, 1) := by decide +kernel
theorem dX7_late_149 : decode cX7_late 149 = .ok (.getfield 52, 3) := by decide +kernel
theorem dX7_late_152 : decode cX7_late 152 = .ok (.invokevirtual 228, 3) := by decide +kernel
theorem dX7_late_155 : decode cX7_late 155 = .ok (.iload 6, 2) := by decide +kernel
theorem dX7_late_157 : decode cX7_late 157 = .ok (.if_icmp .ne 17, 3) := by decide +kernel
theorem dX7_late_160 : decode cX7_late 160 = .ok (.lload 8, 2) := by decide +kernel
theorem dX7_late_162 : decode cX7_late 162 = .ok (.aload_n 0, 1) := by decide +kernel
theorem dX7_late_163 : decode cX7_late 163 = .ok (.getfield 41, 3) := by decide +kernel
theorem dX7_late_166 : decode cX7_late 166 = .ok (.iload 12, 2) := by decide +kernel
theorem dX7_late_168 : decode cX7_late 168 = .ok (.invokevirtual 224, 3) := by decide +kernel
theorem dX7_late_171 : decode cX7_late 171 = .ok (.ladd, 1) := by decide +kernel
theorem dX7_late_172 : decode cX7_late 172 = .ok (.lstore 8, 2) := by decide +kernel
theorem dX7_late_174 : decode cX7_late 174 = .ok (.iinc 12 1, 3) := by decide +kernel
theorem dX7_late_177 : decode cX7_late 177 = .ok (.goto (-72), 3) := by decide +kernel
theorem dX7_late_180 : decode cX7_late 180 = .ok (.lload 8, 2) := by decide +kernel
theorem dX7_late_182 : decode cX7_late 182 = .ok (.lload 10, 2) := by decide +kernel
theorem dX7_late_184 : decode cX7_late 184 = .ok (.invokestatic 231, 3) := by decide +kernel
theorem dX7_late_187 : decode cX7_late 187 = .ok (.lstore 12, 2) := by decide +kernel
theorem dX7_late_189 : decode cX7_late 189 = .ok (.iload 7, 2) := by decide +kernel
theorem dX7_late_191 : decode cX7_late 191 = .ok (.ifCond .ne 8, 3) := by decide +kernel
theorem dX7_late_194 : decode cX7_late 194 = .ok (.lload 8, 2) := by decide +kernel
theorem dX7_late_196 : decode cX7_late 196 = .ok (.goto 5, 3) := by decide +kernel
theorem dX7_late_199 : decode cX7_late 199 = .ok (.lload 10, 2) := by decide +kernel
theorem dX7_late_201 : decode cX7_late 201 = .ok (.lload 12, 2) := by decide +kernel
theorem dX7_late_203 : decode cX7_late 203 = .ok (.lconst 1, 1) := by decide +kernel
theorem dX7_late_204 : decode cX7_late 204 = .ok (.lcmp, 1) := by decide +kernel
theorem dX7_late_205 : decode cX7_late 205 = .ok (.ifCond .ge 7, 3) := by decide +kernel
theorem dX7_late_208 : decode cX7_late 208 = .ok (.lconst 1, 1) := by decide +kernel
theorem dX7_late_209 : decode cX7_late 209 = .ok (.goto 5, 3) := by decide +kernel
theorem dX7_late_212 : decode cX7_late 212 = .ok (.lload 12, 2) := by decide +kernel
theorem dX7_late_214 : decode cX7_late 214 = .ok (.ldiv, 1) := by decide +kernel
theorem dX7_late_215 : decode cX7_late 215 = .ok (.lreturn, 1) := by decide +kernel
theorem dX7_past_0 : decode cX7_past 0 = .ok (.aload_n 0, 1) := by decide +kernel
theorem dX7_past_1 : decode cX7_past 1 = .ok (.getfield 10, 3) := by decide +kernel
theorem dX7_past_4 : decode cX7_past 4 = .ok (.iload_n 1, 1) := by decide +kernel
theorem dX7_past_5 : decode cX7_past 5 = .ok (.invokevirtual 73, 3) := by decide +kernel
theorem dX7_past_8 : decode cX7_past 8 = .ok (.astore 4, 2) := by decide +kernel
theorem dX7_past_10 : decode cX7_past 10 = .ok (.aload 4, 2) := by decide +kernel
theorem dX7_past_12 : decode cX7_past 12 = .ok (.ifnonnull 5, 3) := by decide +kernel
theorem dX7_past_15 : decode cX7_past 15 = .ok (.iconst (-1), 1) := by decide +kernel
theorem dX7_past_16 : decode cX7_past 16 = .ok (.ireturn, 1) := by decide +kernel
theorem dX7_past_17 : decode cX7_past 17 = .ok (.iload_n 2, 1) := by decide +kernel
theorem dX7_past_18 : decode cX7_past 18 = .ok (.invokestatic 87, 3) := by decide +kernel
theorem dX7_past_21 : decode cX7_past 21 = .ok (.ifCond .eq 12, 3) := by decide +kernel
theorem dX7_past_24 : decode cX7_past 24 = .ok (.iload_n 3, 1) := by decide +kernel
theorem dX7_past_25 : decode cX7_past 25 = .ok (.iconst 0, 1) := by decide +kernel
theorem dX7_past_26 : decode cX7_past 26 = .ok (.iconst 1, 1) := by decide +kernel
theorem dX7_past_27 : decode cX7_past 27 = .ok (.invokestatic 55, 3) := by decide +kernel
theorem dX7_past_30 : decode cX7_past 30 = .ok (.ifCond .ne 6, 3) := by decide +kernel
theorem dX7_past_33 : decode cX7_past 33 = .ok (.bipush (-2), 2) := by decide +kernel
theorem dX7_past_35 : decode cX7_past 35 = .ok (.ireturn, 1) := by decide +kernel
theorem dX7_past_36 : decode cX7_past 36 = .ok (.iconst 0, 1) := by decide +kernel
theorem dX7_past_37 : decode cX7_past 37 = .ok (.istore 5, 2) := by decide +kernel
theorem dX7_past_39 : decode cX7_past 39 = .ok (.bipush (-6), 2) := by decide +kernel
theorem dX7_past_41 : decode cX7_past 41 = .ok (.istore 6, 2) := by decide +kernel
theorem dX7_past_43 : decode cX7_past 43 = .ok (.bipush 99, 2) := by decide +kernel
theorem dX7_past_45 : decode cX7_past 45 = .ok (.istore 7, 2) := by decide +kernel
theorem dX7_past_47 : decode cX7_past 47 = .ok (.iload 7, 2) := by decide +kernel
theorem dX7_past_49 : decode cX7_past 49 = .ok (.ifCond .lt 36, 3) := by decide +kernel
theorem dX7_past_52 : decode cX7_past 52 = .ok (.aload 4, 2) := by decide +kernel
theorem dX7_past_54 : decode cX7_past 54 = .ok (.iload_n 2, 1) := by decide +kernel
theorem dX7_past_55 : decode cX7_past 55 = .ok (.iload 7, 2) := by decide +kernel
theorem dX7_past_57 : decode cX7_past 57 = .ok (.aload_n 0, 1) := by decide +kernel
theorem dX7_past_58 : decode cX7_past 58 = .ok (.getfield 10, 3) := by decide +kernel
theorem dX7_past_61 : decode cX7_past 61 = .ok (.getfield 83, 3) := by decide +kernel
theorem dX7_past_64 : decode cX7_past 64 = .ok (.invokevirtual 235, 3) := by decide +kernel
theorem dX7_past_67 : decode cX7_past 67 = .ok (.bipush (-6), 2) := by decide +kernel
theorem dX7_past_69 : decode cX7_past 69 = .ok (.if_icmp .eq 10, 3) := by decide +kernel
theorem dX7_past_72 : decode cX7_past 72 = .ok (.iinc 5 1, 3) := by decide +kernel
theorem dX7_past_75 : decode cX7_past 75 = .ok (.iload 7, 2) := by decide +kernel
theorem dX7_past_77 : decode cX7_past 77 = .ok (.istore 6, 2) := by decide +kernel
theorem dX7_past_79 : decode cX7_past 79 = .ok (.iinc 7 (-1), 3) := by decide +kernel
theorem dX7_past_82 : decode cX7_past 82 = .ok (.goto (-35), 3) := by decide +kernel
theorem dX7_past_85 : decode cX7_past 85 = .ok (.iload_n 3, 1) := by decide +kernel
theorem dX7_past_86 : decode cX7_past 86 = .ok (.ifCond .ne 8, 3) := by decide +kernel
theorem dX7_past_89 : decode cX7_past 89 = .ok (.iload 5, 2) := by decide +kernel
theorem dX7_past_91 : decode cX7_past 91 = .ok (.goto 5, 3) := by decide +kernel
theorem dX7_past_94 : decode cX7_past 94 = .ok (.iload 6, 2) := by decide +kernel
theorem dX7_past_96 : decode cX7_past 96 = .ok (.ireturn, 1) := by decide +kernel
theorem dX7_best_0 : decode cX7_best 0 = .ok (.iload_n 1, 1) := by decide +kernel
theorem dX7_best_1 : decode cX7_best 1 = .ok (.invokestatic 91, 3) := by decide +kernel
theorem dX7_best_4 : decode cX7_best 4 = .ok (.ifCond .eq 12, 3) := by decide +kernel
theorem dX7_best_7 : decode cX7_best 7 = .ok (.iload_n 2, 1) := by decide +kernel
theorem dX7_best_8 : decode cX7_best 8 = .ok (.iconst 0, 1) := by decide +kernel
theorem dX7_best_9 : decode cX7_best 9 = .ok (.iconst 1, 1) := by decide +kernel
theorem dX7_best_10 : decode cX7_best 10 = .ok (.invokestatic 55, 3) := by decide +kernel
theorem dX7_best_13 : decode cX7_best 13 = .ok (.ifCond .ne 6, 3) := by decide +kernel
theorem dX7_best_16 : decode cX7_best 16 = .ok (.bipush (-2), 2) := by decide +kernel
theorem dX7_best_18 : decode cX7_best 18 = .ok (.ireturn, 1) := by decide +kernel
theorem dX7_best_19 : decode cX7_best 19 = .ok (.iconst 0, 1) := by decide +kernel
theorem dX7_best_20 : decode cX7_best 20 = .ok (.istore_n 3, 1) := by decide +kernel
theorem dX7_best_21 : decode cX7_best 21 = .ok (.iconst 0, 1) := by decide +kernel
theorem dX7_best_22 : decode cX7_best 22 = .ok (.istore 4, 2) := by decide +kernel
theorem dX7_best_24 : decode cX7_best 24 = .ok (.iconst 0, 1) := by decide +kernel
theorem dX7_best_25 : decode cX7_best 25 = .ok (.istore 5, 2) := by decide +kernel
theorem dX7_best_27 : decode cX7_best 27 = .ok (.iload 5, 2) := by decide +kernel
theorem dX7_best_29 : decode cX7_best 29 = .ok (.bipush 100, 2) := by decide +kernel
theorem dX7_best_31 : decode cX7_best 31 = .ok (.if_icmp .ge 35, 3) := by decide +kernel
theorem dX7_best_34 : decode cX7_best 34 = .ok (.aload_n 0, 1) := by decide +kernel
theorem dX7_best_35 : decode cX7_best 35 = .ok (.getfield 10, 3) := by decide +kernel
theorem dX7_best_38 : decode cX7_best 38 = .ok (.iload 5, 2) := by decide +kernel
theorem dX7_best_40 : decode cX7_best 40 = .ok (.iload_n 1, 1) := by decide +kernel
theorem dX7_best_41 : decode cX7_best 41 = .ok (.invokevirtual 238, 3) := by decide +kernel
theorem dX7_best_44 : decode cX7_best 44 = .ok (.istore 6, 2) := by decide +kernel
theorem dX7_best_46 : decode cX7_best 46 = .ok (.iload 6, 2) := by decide +kernel
theorem dX7_best_48 : decode cX7_best 48 = .ok (.iload 4, 2) := by decide +kernel
theorem dX7_best_50 : decode cX7_best 50 = .ok (.if_icmp .le 10, 3) := by decide +kernel
theorem dX7_best_53 : decode cX7_best 53 = .ok (.iload 6, 2) := by decide +kernel
theorem dX7_best_55 : decode cX7_best 55 = .ok (.istore 4, 2) := by decide +kernel
theorem dX7_best_57 : decode cX7_best 57 = .ok (.iload 5, 2) := by decide +kernel
theorem dX7_best_59 : decode cX7_best 59 = .ok (.istore_n 3, 1) := by decide +kernel
theorem dX7_best_60 : decode cX7_best 60 = .ok (.iinc 5 1, 3) := by decide +kernel
theorem dX7_best_63 : decode cX7_best 63 = .ok (.goto (-36), 3) := by decide +kernel
theorem dX7_best_66 : decode cX7_best 66 = .ok (.iload_n 2, 1) := by decide +kernel
theorem dX7_best_67 : decode cX7_best 67 = .ok (.ifCond .ne 7, 3) := by decide +kernel
theorem dX7_best_70 : decode cX7_best 70 = .ok (.iload_n 3, 1) := by decide +kernel
theorem dX7_best_71 : decode cX7_best 71 = .ok (.goto 5, 3) := by decide +kernel
theorem dX7_best_74 : decode cX7_best 74 = .ok (.iload 4, 2) := by decide +kernel
theorem dX7_best_76 : decode cX7_best 76 = .ok (.ireturn, 1) := by decide +kernel
theorem dX7_year_0 : decode cX7_year 0 = .ok (.iload_n 1, 1) := by decide +kernel
theorem dX7_year_1 : decode cX7_year 1 = .ok (.iconst 0, 1) := by decide +kernel
theorem dX7_year_2 : decode cX7_year 2 = .ok (.sipush 9999, 3) := by decide +kernel
theorem dX7_year_5 : decode cX7_year 5 = .ok (.invokestatic 55, 3) := by decide +kernel
theorem dX7_year_8 : decode cX7_year 8 = .ok (.ifCond .eq 20, 3) := by decide +kernel
theorem dX7_year_11 : decode cX7_year 11 = .ok (.iload_n 2, 1) := by decide +kernel
theorem dX7_year_12 : decode cX7_year 12 = .ok (.iconst 1, 1) := by decide +kernel
theorem dX7_year_13 : decode cX7_year 13 = .ok (.bipush 99, 2) := by decide +kernel
theorem dX7_year_15 : decode cX7_year 15 = .ok (.invokestatic 55, 3) := by decide +kernel
theorem dX7_year_18 : decode cX7_year 18 = .ok (.ifCond .eq 10, 3) := by decide +kernel
theorem dX7_year_21 : decode cX7_year 21 = .ok (.iload_n 3, 1) := by decide +kernel
theorem dX7_year_22 : decode cX7_year 22 = .ok (.invokestatic 214, 3) := by decide +kernel
theorem dX7_year_25 : decode cX7_year 25 = .ok (.ifCond .ne 6, 3) := by decide +kernel
theorem dX7_year_28 : decode cX7_year 28 = .ok (.bipush (-2), 2) := by decide +kernel
theorem dX7_year_30 : decode cX7_year 30 = .ok (.ireturn, 1) := by decide +kernel
theorem dX7_year_31 : decode cX7_year 31 = .ok (.iload_n 1, 1) := by decide +kernel
theorem dX7_year_32 : decode cX7_year 32 = .ok (.istore 4, 2) := by decide +kernel
theorem dX7_year_34 : decode cX7_year 34 = .ok (.iconst 0, 1) := by decide +kernel
theorem dX7_year_35 : decode cX7_year 35 = .ok (.istore 5, 2) := by decide +kernel
theorem dX7_year_37 : decode cX7_year 37 = .ok (.iconst 0, 1) := by decide +kernel
theorem dX7_year_38 : decode cX7_year 38 = .ok (.istore 6, 2) := by decide +kernel
theorem dX7_year_40 : decode cX7_year 40 = .ok (.iload 6, 2) := by decide +kernel
theorem dX7_year_42 : decode cX7_year 42 = .ok (.iload_n 2, 1) := by decide +kernel
theorem dX7_year_43 : decode cX7_year 43 = .ok (.if_icmp .ge 49, 3) := by decide +kernel
theorem dX7_year_46 : decode cX7_year 46 = .ok (.bipush 75, 2) := by decide +kernel
theorem dX7_year_48 : decode cX7_year 48 = .ok (.iload 4, 2) := by decide +kernel
theorem dX7_year_50 : decode cX7_year 50 = .ok (.imul, 1) := by decide +kernel
theorem dX7_year_51 : decode cX7_year 51 = .ok (.bipush 74, 2) := by decide +kernel
theorem dX7_year_53 : decode cX7_year 53 = .ok (.iadd, 1) := by decide +kernel
theorem dX7_year_54 : decode cX7_year 54 = .ok (.ldc 241, 2) := by decide +kernel
theorem dX7_year_56 : decode cX7_year 56 = .ok (.irem, 1) := by decide +kernel
theorem dX7_year_57 : decode cX7_year 57 = .ok (.istore 4, 2) := by decide +kernel
theorem dX7_year_59 : decode cX7_year 59 = .ok (.aload_n 0, 1) := by decide +kernel
theorem dX7_year_60 : decode cX7_year 60 = .ok (.getfield 10, 3) := by decide +kernel
theorem dX7_year_63 : decode cX7_year 63 = .ok (.iload 4, 2) := by decide +kernel
theorem dX7_year_65 : decode cX7_year 65 = .ok (.bipush 10, 2) := by decide +kernel
theorem dX7_year_67 : decode cX7_year 67 = .ok (.irem, 1) := by decide +kernel
theorem dX7_year_68 : decode cX7_year 68 = .ok (.iload 4, 2) := by decide +kernel
theorem dX7_year_70 : decode cX7_year 70 = .ok (.bipush 10, 2) := by decide +kernel
theorem dX7_year_72 : decode cX7_year 72 = .ok (.idiv, 1) := by decide +kernel
theorem dX7_year_73 : decode cX7_year 73 = .ok (.bipush 10, 2) := by decide +kernel
theorem dX7_year_75 : decode cX7_year 75 = .ok (.irem, 1) := by decide +kernel
theorem dX7_year_76 : decode cX7_year 76 = .ok (.invokevirtual 142, 3) := by decide +kernel
theorem dX7_year_79 : decode cX7_year 79 = .ok (.iload_n 3, 1) := by decide +kernel
theorem dX7_year_80 : decode cX7_year 80 = .ok (.if_icmp .ne 6, 3) := by decide +kernel
theorem dX7_year_83 : decode cX7_year 83 = .ok (.iinc 5 1, 3) := by decide +kernel
theorem dX7_year_86 : decode cX7_year 86 = .ok (.iinc 6 1, 3) := by decide +kernel
theorem dX7_year_89 : decode cX7_year 89 = .ok (.goto (-49), 3) := by decide +kernel
theorem dX7_year_92 : decode cX7_year 92 = .ok (.iload 5, 2) := by decide +kernel
theorem dX7_year_94 : decode cX7_year 94 = .ok (.ireturn, 1) := by decide +kernel
theorem dX7_image_0 : decode cX7_image 0 = .ok (.iload_n 1, 1) := by decide +kernel
theorem dX7_image_1 : decode cX7_image 1 = .ok (.iconst 0, 1) := by decide +kernel
theorem dX7_image_2 : decode cX7_image 2 = .ok (.iconst 1, 1) := by decide +kernel
theorem dX7_image_3 : decode cX7_image 3 = .ok (.invokestatic 55, 3) := by decide +kernel
theorem dX7_image_6 : decode cX7_image 6 = .ok (.ifCond .ne 6, 3) := by decide +kernel
theorem dX7_image_9 : decode cX7_image 9 = .ok (.bipush (-2), 2) := by decide +kernel
theorem dX7_image_11 : decode cX7_image 11 = .ok (.ireturn, 1) := by decide +kernel
theorem dX7_image_12 : decode cX7_image 12 = .ok (.aload_n 0, 1) := by decide +kernel
theorem dX7_image_13 : decode cX7_image 13 = .ok (.getfield 16, 3) := by decide +kernel
theorem dX7_image_16 : decode cX7_image 16 = .ok (.iload_n 1, 1) := by decide +kernel
theorem dX7_image_17 : decode cX7_image 17 = .ok (.aaload, 1) := by decide +kernel
theorem dX7_image_18 : decode cX7_image 18 = .ok (.aload_n 0, 1) := by decide +kernel
theorem dX7_image_19 : decode cX7_image 19 = .ok (.getfield 10, 3) := by decide +kernel
theorem dX7_image_22 : decode cX7_image 22 = .ok (.invokevirtual 242, 3) := by decide +kernel
theorem dX7_image_25 : decode cX7_image 25 = .ok (.aload_n 0, 1) := by decide +kernel
theorem dX7_image_26 : decode cX7_image 26 = .ok (.getfield 20, 3) := by decide +kernel
theorem dX7_image_29 : decode cX7_image 29 = .ok (.iload_n 1, 1) := by decide +kernel
theorem dX7_image_30 : decode cX7_image 30 = .ok (.iconst 1, 1) := by decide +kernel
theorem dX7_image_31 : decode cX7_image 31 = .ok (.bastore, 1) := by decide +kernel
theorem dX7_image_32 : decode cX7_image 32 = .ok (.iconst 1, 1) := by decide +kernel
theorem dX7_image_33 : decode cX7_image 33 = .ok (.ireturn, 1) := by decide +kernel
theorem dX7_restore_0 : decode cX7_restore 0 = .ok (.iload_n 1, 1) := by decide +kernel
theorem dX7_restore_1 : decode cX7_restore 1 = .ok (.iconst 0, 1) := by decide +kernel
theorem dX7_restore_2 : decode cX7_restore 2 = .ok (.iconst 1, 1) := by decide +kernel
theorem dX7_restore_3 : decode cX7_restore 3 = .ok (.invokestatic 55, 3) := by decide +kernel
theorem dX7_restore_6 : decode cX7_restore 6 = .ok (.ifCond .ne 6, 3) := by decide +kernel
theorem dX7_restore_9 : decode cX7_restore 9 = .ok (.bipush (-2), 2) := by decide +kernel
theorem dX7_restore_11 : decode cX7_restore 11 = .ok (.ireturn, 1) := by decide +kernel
theorem dX7_restore_12 : decode cX7_restore 12 = .ok (.aload_n 0, 1) := by decide +kernel
theorem dX7_restore_13 : decode cX7_restore 13 = .ok (.getfield 20, 3) := by decide +kernel
theorem dX7_restore_16 : decode cX7_restore 16 = .ok (.iload_n 1, 1) := by decide +kernel
theorem dX7_restore_17 : decode cX7_restore 17 = .ok (.baload, 1) := by decide +kernel
theorem dX7_restore_18 : decode cX7_restore 18 = .ok (.ifCond .ne 6, 3) := by decide +kernel
theorem dX7_restore_21 : decode cX7_restore 21 = .ok (.bipush (-3), 2) := by decide +kernel
theorem dX7_restore_23 : decode cX7_restore 23 = .ok (.ireturn, 1) := by decide +kernel
theorem dX7_restore_24 : decode cX7_restore 24 = .ok (.aload_n 0, 1) := by decide +kernel
theorem dX7_restore_25 : decode cX7_restore 25 = .ok (.getfield 10, 3) := by decide +kernel
theorem dX7_restore_28 : decode cX7_restore 28 = .ok (.aload_n 0, 1) := by decide +kernel
theorem dX7_restore_29 : decode cX7_restore 29 = .ok (.getfield 16, 3) := by decide +kernel
theorem dX7_restore_32 : decode cX7_restore 32 = .ok (.iload_n 1, 1) := by decide +kernel
theorem dX7_restore_33 : decode cX7_restore 33 = .ok (.aaload, 1) := by decide +kernel
theorem dX7_restore_34 : decode cX7_restore 34 = .ok (.invokevirtual 242, 3) := by decide +kernel
theorem dX7_restore_37 : decode cX7_restore 37 = .ok (.iconst 1, 1) := by decide +kernel
theorem dX7_restore_38 : decode cX7_restore 38 = .ok (.ireturn, 1) := by decide +kernel
theorem dX7_told_0 : decode cX7_told 0 = .ok (.iload_n 1, 1) := by decide +kernel
theorem dX7_told_1 : decode cX7_told 1 = .ok (.tableswitch 63 0 3 #[31, 39, 47, 55], 31) := by decide +kernel
theorem dX7_told_32 : decode cX7_told 32 = .ok (.aload_n 0, 1) := by decide +kernel
theorem dX7_told_33 : decode cX7_told 33 = .ok (.getfield 27, 3) := by decide +kernel
theorem dX7_told_36 : decode cX7_told 36 = .ok (.getfield 116, 3) := by decide +kernel
theorem dX7_told_39 : decode cX7_told 39 = .ok (.ireturn, 1) := by decide +kernel
theorem dX7_told_40 : decode cX7_told 40 = .ok (.aload_n 0, 1) := by decide +kernel
theorem dX7_told_41 : decode cX7_told 41 = .ok (.getfield 10, 3) := by decide +kernel
theorem dX7_told_44 : decode cX7_told 44 = .ok (.invokevirtual 63, 3) := by decide +kernel
theorem dX7_told_47 : decode cX7_told 47 = .ok (.ireturn, 1) := by decide +kernel
theorem dX7_told_48 : decode cX7_told 48 = .ok (.aload_n 0, 1) := by decide +kernel
theorem dX7_told_49 : decode cX7_told 49 = .ok (.getfield 10, 3) := by decide +kernel
theorem dX7_told_52 : decode cX7_told 52 = .ok (.invokevirtual 110, 3) := by decide +kernel
theorem dX7_told_55 : decode cX7_told 55 = .ok (.ireturn, 1) := by decide +kernel
theorem dX7_told_56 : decode cX7_told 56 = .ok (.aload_n 0, 1) := by decide +kernel
theorem dX7_told_57 : decode cX7_told 57 = .ok (.getfield 10, 3) := by decide +kernel
theorem dX7_told_60 : decode cX7_told 60 = .ok (.getfield 83, 3) := by decide +kernel
theorem dX7_told_63 : decode cX7_told 63 = .ok (.ireturn, 1) := by decide +kernel
theorem dX7_told_64 : decode cX7_told 64 = .ok (.iload_n 1, 1) := by decide +kernel
theorem dX7_told_65 : decode cX7_told 65 = .ok (.bipush 100, 2) := by decide +kernel
theorem dX7_told_67 : decode cX7_told 67 = .ok (.if_icmp .ge 20, 3) := by decide +kernel
theorem dX7_told_70 : decode cX7_told 70 = .ok (.aload_n 0, 1) := by decide +kernel
theorem dX7_told_71 : decode cX7_told 71 = .ok (.iload_n 1, 1) := by decide +kernel
theorem dX7_told_72 : decode cX7_told 72 = .ok (.bipush 10, 2) := by decide +kernel
theorem dX7_told_74 : decode cX7_told 74 = .ok (.idiv, 1) := by decide +kernel
theorem dX7_told_75 : decode cX7_told 75 = .ok (.iconst 1, 1) := by decide +kernel
theorem dX7_told_76 : decode cX7_told 76 = .ok (.isub, 1) := by decide +kernel
theorem dX7_told_77 : decode cX7_told 77 = .ok (.iload_n 1, 1) := by decide +kernel
theorem dX7_told_78 : decode cX7_told 78 = .ok (.bipush 10, 2) := by decide +kernel
theorem dX7_told_80 : decode cX7_told 80 = .ok (.irem, 1) := by decide +kernel
theorem dX7_told_81 : decode cX7_told 81 = .ok (.invokevirtual 246, 3) := by decide +kernel
theorem dX7_told_84 : decode cX7_told 84 = .ok (.goto 17, 3) := by decide +kernel
theorem dX7_told_87 : decode cX7_told 87 = .ok (.aload_n 0, 1) := by decide +kernel
theorem dX7_told_88 : decode cX7_told 88 = .ok (.iload_n 1, 1) := by decide +kernel
theorem dX7_told_89 : decode cX7_told 89 = .ok (.bipush 100, 2) := by decide +kernel
theorem dX7_told_91 : decode cX7_told 91 = .ok (.idiv, 1) := by decide +kernel
theorem dX7_told_92 : decode cX7_told 92 = .ok (.iconst 1, 1) := by decide +kernel
theorem dX7_told_93 : decode cX7_told 93 = .ok (.isub, 1) := by decide +kernel
theorem dX7_told_94 : decode cX7_told 94 = .ok (.iload_n 1, 1) := by decide +kernel
theorem dX7_told_95 : decode cX7_told 95 = .ok (.bipush 100, 2) := by decide +kernel
theorem dX7_told_97 : decode cX7_told 97 = .ok (.irem, 1) := by decide +kernel
theorem dX7_told_98 : decode cX7_told 98 = .ok (.invokevirtual 249, 3) := by decide +kernel
theorem dX7_told_101 : decode cX7_told 101 = .ok (.ireturn, 1) := by decide +kernel
theorem dX7_toldOfThing_0 : decode cX7_toldOfThing 0 = .ok (.aload_n 0, 1) := by decide +kernel
theorem dX7_toldOfThing_1 : decode cX7_toldOfThing 1 = .ok (.getfield 10, 3) := by decide +kernel
theorem dX7_toldOfThing_4 : decode cX7_toldOfThing 4 = .ok (.iload_n 1, 1) := by decide +kernel
theorem dX7_toldOfThing_5 : decode cX7_toldOfThing 5 = .ok (.invokevirtual 73, 3) := by decide +kernel
theorem dX7_toldOfThing_8 : decode cX7_toldOfThing 8 = .ok (.astore_n 3, 1) := by decide +kernel
theorem dX7_toldOfThing_9 : decode cX7_toldOfThing 9 = .ok (.aload_n 3, 1) := by decide +kernel
theorem dX7_toldOfThing_10 : decode cX7_toldOfThing 10 = .ok (.ifnonnull 6, 3) := by decide +kernel
theorem dX7_toldOfThing_13 : decode cX7_toldOfThing 13 = .ok (.bipush (-2), 2) := by decide +kernel
theorem dX7_toldOfThing_15 : decode cX7_toldOfThing 15 = .ok (.ireturn, 1) := by decide +kernel
theorem dX7_toldOfThing_16 : decode cX7_toldOfThing 16 = .ok (.iload_n 2, 1) := by decide +kernel
theorem dX7_toldOfThing_17 : decode cX7_toldOfThing 17 = .ok (.tableswitch 45 0 2 #[27, 32, 40], 27) := by decide +kernel
theorem dX7_toldOfThing_44 : decode cX7_toldOfThing 44 = .ok (.aload_n 3, 1) := by decide +kernel
theorem dX7_toldOfThing_45 : decode cX7_toldOfThing 45 = .ok (.getfield 252, 3) := by decide +kernel
theorem dX7_toldOfThing_48 : decode cX7_toldOfThing 48 = .ok (.ireturn, 1) := by decide +kernel
theorem dX7_toldOfThing_49 : decode cX7_toldOfThing 49 = .ok (.aload_n 3, 1) := by decide +kernel
theorem dX7_toldOfThing_50 : decode cX7_toldOfThing 50 = .ok (.getfield 255, 3) := by decide +kernel
theorem dX7_toldOfThing_53 : decode cX7_toldOfThing 53 = .ok (.bipush 9, 2) := by decide +kernel
theorem dX7_toldOfThing_55 : decode cX7_toldOfThing 55 = .ok (.iadd, 1) := by decide +kernel
theorem dX7_toldOfThing_56 : decode cX7_toldOfThing 56 = .ok (.ireturn, 1) := by decide +kernel
theorem dX7_toldOfThing_57 : decode cX7_toldOfThing 57 = .ok (.aload_n 3, 1) := by decide +kernel
theorem dX7_toldOfThing_58 : decode cX7_toldOfThing 58 = .ok (.getfield 258, 3) := by decide +kernel
theorem dX7_toldOfThing_61 : decode cX7_toldOfThing 61 = .ok (.ireturn, 1) := by decide +kernel
theorem dX7_toldOfThing_62 : decode cX7_toldOfThing 62 = .ok (.bipush (-2), 2) := by decide +kernel
theorem dX7_toldOfThing_64 : decode cX7_toldOfThing 64 = .ok (.ireturn, 1) := by decide +kernel
theorem dX7_toldOfPicture_0 : decode cX7_toldOfPicture 0 = .ok (.aload_n 0, 1) := by decide +kernel
theorem dX7_toldOfPicture_1 : decode cX7_toldOfPicture 1 = .ok (.getfield 10, 3) := by decide +kernel
theorem dX7_toldOfPicture_4 : decode cX7_toldOfPicture 4 = .ok (.iload_n 1, 1) := by decide +kernel
theorem dX7_toldOfPicture_5 : decode cX7_toldOfPicture 5 = .ok (.invokevirtual 98, 3) := by decide +kernel
theorem dX7_toldOfPicture_8 : decode cX7_toldOfPicture 8 = .ok (.astore_n 3, 1) := by decide +kernel
theorem dX7_toldOfPicture_9 : decode cX7_toldOfPicture 9 = .ok (.aload_n 3, 1) := by decide +kernel
theorem dX7_toldOfPicture_10 : decode cX7_toldOfPicture 10 = .ok (.ifnull 12, 3) := by decide +kernel
theorem dX7_toldOfPicture_13 : decode cX7_toldOfPicture 13 = .ok (.iload_n 2, 1) := by decide +kernel
theorem dX7_toldOfPicture_14 : decode cX7_toldOfPicture 14 = .ok (.iconst 0, 1) := by decide +kernel
theorem dX7_toldOfPicture_15 : decode cX7_toldOfPicture 15 = .ok (.iconst 5, 1) := by decide +kernel
theorem dX7_toldOfPicture_16 : decode cX7_toldOfPicture 16 = .ok (.invokestatic 55, 3) := by decide +kernel
theorem dX7_toldOfPicture_19 : decode cX7_toldOfPicture 19 = .ok (.ifCond .ne 6, 3) := by decide +kernel
theorem dX7_toldOfPicture_22 : decode cX7_toldOfPicture 22 = .ok (.bipush (-2), 2) := by decide +kernel
theorem dX7_toldOfPicture_24 : decode cX7_toldOfPicture 24 = .ok (.ireturn, 1) := by decide +kernel
theorem dX7_toldOfPicture_25 : decode cX7_toldOfPicture 25 = .ok (.aload_n 3, 1) := by decide +kernel
theorem dX7_toldOfPicture_26 : decode cX7_toldOfPicture 26 = .ok (.iload_n 2, 1) := by decide +kernel
theorem dX7_toldOfPicture_27 : decode cX7_toldOfPicture 27 = .ok (.invokevirtual 102, 3) := by decide +kernel
theorem dX7_toldOfPicture_30 : decode cX7_toldOfPicture 30 = .ok (.ireturn, 1) := by decide +kernel
theorem dX7_rowsOfThree_0 : decode cX7_rowsOfThree 0 = .ok (.iconst 0, 1) := by decide +kernel
theorem dX7_rowsOfThree_1 : decode cX7_rowsOfThree 1 = .ok (.istore_n 2, 1) := by decide +kernel
theorem dX7_rowsOfThree_2 : decode cX7_rowsOfThree 2 = .ok (.iconst 0, 1) := by decide +kernel
theorem dX7_rowsOfThree_3 : decode cX7_rowsOfThree 3 = .ok (.istore_n 3, 1) := by decide +kernel
theorem dX7_rowsOfThree_4 : decode cX7_rowsOfThree 4 = .ok (.iload_n 3, 1) := by decide +kernel
theorem dX7_rowsOfThree_5 : decode cX7_rowsOfThree 5 = .ok (.bipush 10, 2) := by decide +kernel
theorem dX7_rowsOfThree_7 : decode cX7_rowsOfThree 7 = .ok (.if_icmp .ge 62, 3) := by decide +kernel
theorem dX7_rowsOfThree_10 : decode cX7_rowsOfThree 10 = .ok (.aload_n 0, 1) := by decide +kernel
theorem dX7_rowsOfThree_11 : decode cX7_rowsOfThree 11 = .ok (.getfield 10, 3) := by decide +kernel
theorem dX7_rowsOfThree_14 : decode cX7_rowsOfThree 14 = .ok (.iload_n 3, 1) := by decide +kernel
theorem dX7_rowsOfThree_15 : decode cX7_rowsOfThree 15 = .ok (.iload_n 1, 1) := by decide +kernel
theorem dX7_rowsOfThree_16 : decode cX7_rowsOfThree 16 = .ok (.invokevirtual 142, 3) := by decide +kernel
theorem dX7_rowsOfThree_19 : decode cX7_rowsOfThree 19 = .ok (.ifCond .eq 6, 3) := by decide +kernel
theorem dX7_rowsOfThree_22 : decode cX7_rowsOfThree 22 = .ok (.goto 41, 3) := by decide +kernel
theorem dX7_rowsOfThree_25 : decode cX7_rowsOfThree 25 = .ok (.iconst 0, 1) := by decide +kernel
theorem dX7_rowsOfThree_26 : decode cX7_rowsOfThree 26 = .ok (.istore 4, 2) := by decide +kernel
theorem dX7_rowsOfThree_28 : decode cX7_rowsOfThree 28 = .ok (.iload 4, 2) := by decide +kernel
theorem dX7_rowsOfThree_30 : decode cX7_rowsOfThree 30 = .ok (.bipush 10, 2) := by decide +kernel
theorem dX7_rowsOfThree_32 : decode cX7_rowsOfThree 32 = .ok (.if_icmp .ge 31, 3) := by decide +kernel
theorem dX7_rowsOfThree_35 : decode cX7_rowsOfThree 35 = .ok (.iload 4, 2) := by decide +kernel
theorem dX7_rowsOfThree_37 : decode cX7_rowsOfThree 37 = .ok (.iload_n 3, 1) := by decide +kernel
theorem dX7_rowsOfThree_38 : decode cX7_rowsOfThree 38 = .ok (.if_icmp .eq 19, 3) := by decide +kernel
theorem dX7_rowsOfThree_41 : decode cX7_rowsOfThree 41 = .ok (.aload_n 0, 1) := by decide +kernel
theorem dX7_rowsOfThree_42 : decode cX7_rowsOfThree 42 = .ok (.getfield 10, 3) := by decide +kernel
theorem dX7_rowsOfThree_45 : decode cX7_rowsOfThree 45 = .ok (.iload_n 1, 1) := by decide +kernel
theorem dX7_rowsOfThree_46 : decode cX7_rowsOfThree 46 = .ok (.iload 4, 2) := by decide +kernel
theorem dX7_rowsOfThree_48 : decode cX7_rowsOfThree 48 = .ok (.invokevirtual 142, 3) := by decide +kernel
theorem dX7_rowsOfThree_51 : decode cX7_rowsOfThree 51 = .ok (.ifCond .ne 6, 3) := by decide +kernel
theorem dX7_rowsOfThree_54 : decode cX7_rowsOfThree 54 = .ok (.iinc 2 1, 3) := by decide +kernel
theorem dX7_rowsOfThree_57 : decode cX7_rowsOfThree 57 = .ok (.iinc 4 1, 3) := by decide +kernel
theorem dX7_rowsOfThree_60 : decode cX7_rowsOfThree 60 = .ok (.goto (-32), 3) := by decide +kernel
theorem dX7_rowsOfThree_63 : decode cX7_rowsOfThree 63 = .ok (.iinc 3 1, 3) := by decide +kernel
theorem dX7_rowsOfThree_66 : decode cX7_rowsOfThree 66 = .ok (.goto (-62), 3) := by decide +kernel
theorem dX7_rowsOfThree_69 : decode cX7_rowsOfThree 69 = .ok (.iload_n 2, 1) := by decide +kernel
theorem dX7_rowsOfThree_70 : decode cX7_rowsOfThree 70 = .ok (.ireturn, 1) := by decide +kernel
theorem dX7_within_0 : decode cX7_within 0 = .ok (.iload_n 1, 1) := by decide +kernel
theorem dX7_within_1 : decode cX7_within 1 = .ok (.iload_n 0, 1) := by decide +kernel
theorem dX7_within_2 : decode cX7_within 2 = .ok (.if_icmp .gt 12, 3) := by decide +kernel
theorem dX7_within_5 : decode cX7_within 5 = .ok (.iload_n 0, 1) := by decide +kernel
theorem dX7_within_6 : decode cX7_within 6 = .ok (.iload_n 2, 1) := by decide +kernel
theorem dX7_within_7 : decode cX7_within 7 = .ok (.if_icmp .gt 7, 3) := by decide +kernel
theorem dX7_within_10 : decode cX7_within 10 = .ok (.iconst 1, 1) := by decide +kernel
theorem dX7_within_11 : decode cX7_within 11 = .ok (.goto 4, 3) := by decide +kernel
theorem dX7_within_14 : decode cX7_within 14 = .ok (.iconst 0, 1) := by decide +kernel
theorem dX7_within_15 : decode cX7_within 15 = .ok (.ireturn, 1) := by decide +kernel
theorem dX7_isStand_0 : decode cX7_isStand 0 = .ok (.iload_n 0, 1) := by decide +kernel
theorem dX7_isStand_1 : decode cX7_isStand 1 = .ok (.iconst 0, 1) := by decide +kernel
theorem dX7_isStand_2 : decode cX7_isStand 2 = .ok (.bipush 99, 2) := by decide +kernel
theorem dX7_isStand_4 : decode cX7_isStand 4 = .ok (.invokestatic 55, 3) := by decide +kernel
theorem dX7_isStand_7 : decode cX7_isStand 7 = .ok (.ireturn, 1) := by decide +kernel
theorem dX7_isMinute_0 : decode cX7_isMinute 0 = .ok (.iload_n 0, 1) := by decide +kernel
theorem dX7_isMinute_1 : decode cX7_isMinute 1 = .ok (.iconst 0, 1) := by decide +kernel
theorem dX7_isMinute_2 : decode cX7_isMinute 2 = .ok (.bipush 99, 2) := by decide +kernel
theorem dX7_isMinute_4 : decode cX7_isMinute 4 = .ok (.invokestatic 55, 3) := by decide +kernel
theorem dX7_isMinute_7 : decode cX7_isMinute 7 = .ok (.ireturn, 1) := by decide +kernel
theorem dX7_isKind_0 : decode cX7_isKind 0 = .ok (.iload_n 0, 1) := by decide +kernel
theorem dX7_isKind_1 : decode cX7_isKind 1 = .ok (.iconst 0, 1) := by decide +kernel
theorem dX7_isKind_2 : decode cX7_isKind 2 = .ok (.iconst 3, 1) := by decide +kernel
theorem dX7_isKind_3 : decode cX7_isKind 3 = .ok (.invokestatic 55, 3) := by decide +kernel
theorem dX7_isKind_6 : decode cX7_isKind 6 = .ok (.ireturn, 1) := by decide +kernel
theorem dX7_hasBit_0 : decode cX7_hasBit 0 = .ok (.iload_n 0, 1) := by decide +kernel
theorem dX7_hasBit_1 : decode cX7_hasBit 1 = .ok (.iload_n 1, 1) := by decide +kernel
theorem dX7_hasBit_2 : decode cX7_hasBit 2 = .ok (.ishr, 1) := by decide +kernel
theorem dX7_hasBit_3 : decode cX7_hasBit 3 = .ok (.iconst 1, 1) := by decide +kernel
theorem dX7_hasBit_4 : decode cX7_hasBit 4 = .ok (.iand, 1) := by decide +kernel
theorem dX7_hasBit_5 : decode cX7_hasBit 5 = .ok (.iconst 1, 1) := by decide +kernel
theorem dX7_hasBit_6 : decode cX7_hasBit 6 = .ok (.if_icmp .ne 7, 3) := by decide +kernel
theorem dX7_hasBit_9 : decode cX7_hasBit 9 = .ok (.iconst 1, 1) := by decide +kernel
theorem dX7_hasBit_10 : decode cX7_hasBit 10 = .ok (.goto 4, 3) := by decide +kernel
theorem dX7_hasBit_13 : decode cX7_hasBit 13 = .ok (.iconst 0, 1) := by decide +kernel
theorem dX7_hasBit_14 : decode cX7_hasBit 14 = .ok (.ireturn, 1) := by decide +kernel
theorem dX7_greatestDivisor_0 : decode cX7_greatestDivisor 0 = .ok (.lload_n 0, 1) := by decide +kernel
theorem dX7_greatestDivisor_1 : decode cX7_greatestDivisor 1 = .ok (.lstore 4, 2) := by decide +kernel
theorem dX7_greatestDivisor_3 : decode cX7_greatestDivisor 3 = .ok (.lload_n 2, 1) := by decide +kernel
theorem dX7_greatestDivisor_4 : decode cX7_greatestDivisor 4 = .ok (.lstore 6, 2) := by decide +kernel
theorem dX7_greatestDivisor_6 : decode cX7_greatestDivisor 6 = .ok (.iconst 0, 1) := by decide +kernel
theorem dX7_greatestDivisor_7 : decode cX7_greatestDivisor 7 = .ok (.istore 8, 2) := by decide +kernel
theorem dX7_greatestDivisor_9 : decode cX7_greatestDivisor 9 = .ok (.iload 8, 2) := by decide +kernel
theorem dX7_greatestDivisor_11 : decode cX7_greatestDivisor 11 = .ok (.sipush 1000, 3) := by decide +kernel
theorem dX7_greatestDivisor_14 : decode cX7_greatestDivisor 14 = .ok (.if_icmp .ge 31, 3) := by decide +kernel
theorem dX7_greatestDivisor_17 : decode cX7_greatestDivisor 17 = .ok (.lload 6, 2) := by decide +kernel
theorem dX7_greatestDivisor_19 : decode cX7_greatestDivisor 19 = .ok (.lconst 0, 1) := by decide +kernel
theorem dX7_greatestDivisor_20 : decode cX7_greatestDivisor 20 = .ok (.lcmp, 1) := by decide +kernel
theorem dX7_greatestDivisor_21 : decode cX7_greatestDivisor 21 = .ok (.ifCond .eq 24, 3) := by decide +kernel
theorem dX7_greatestDivisor_24 : decode cX7_greatestDivisor 24 = .ok (.lload 4, 2) := by decide +kernel
theorem dX7_greatestDivisor_26 : decode cX7_greatestDivisor 26 = .ok (.lload 6, 2) := by decide +kernel
theorem dX7_greatestDivisor_28 : decode cX7_greatestDivisor 28 = .ok (.lrem, 1) := by decide +kernel
theorem dX7_greatestDivisor_29 : decode cX7_greatestDivisor 29 = .ok (.lstore 9, 2) := by decide +kernel
theorem dX7_greatestDivisor_31 : decode cX7_greatestDivisor 31 = .ok (.lload 6, 2) := by decide +kernel
theorem dX7_greatestDivisor_33 : decode cX7_greatestDivisor 33 = .ok (.lstore 4, 2) := by decide +kernel
theorem dX7_greatestDivisor_35 : decode cX7_greatestDivisor 35 = .ok (.lload 9, 2) := by decide +kernel
theorem dX7_greatestDivisor_37 : decode cX7_greatestDivisor 37 = .ok (.lstore 6, 2) := by decide +kernel
theorem dX7_greatestDivisor_39 : decode cX7_greatestDivisor 39 = .ok (.iinc 8 1, 3) := by decide +kernel
theorem dX7_greatestDivisor_42 : decode cX7_greatestDivisor 42 = .ok (.goto (-33), 3) := by decide +kernel
theorem dX7_greatestDivisor_45 : decode cX7_greatestDivisor 45 = .ok (.lload 4, 2) := by decide +kernel
theorem dX7_greatestDivisor_47 : decode cX7_greatestDivisor 47 = .ok (.lreturn, 1) := by decide +kernel
