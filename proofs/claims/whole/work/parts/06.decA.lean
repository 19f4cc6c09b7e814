theorem dX0_init_0 : decode cX0_init 0 = .ok (.aload_n 0, 1) := by decide +kernel
theorem dX0_init_1 : decode cX0_init 1 = .ok (.invokespecial 3, 3) := by decide +kernel
theorem dX0_init_4 : decode cX0_init 4 = .ok (.aload_n 0, 1) := by decide +kernel
theorem dX0_init_5 : decode cX0_init 5 = .ok (.bipush 10, 2) := by decide +kernel
theorem dX0_init_7 : decode cX0_init 7 = .ok (.newarray .int, 2) := by decide +kernel
theorem dX0_init_9 : decode cX0_init 9 = .ok (.putfield 9, 3) := by decide +kernel
theorem dX0_init_12 : decode cX0_init 12 = .ok (.aload_n 0, 1) := by decide +kernel
theorem dX0_init_13 : decode cX0_init 13 = .ok (.sipush 1024, 3) := by decide +kernel
theorem dX0_init_16 : decode cX0_init 16 = .ok (.newarray .int, 2) := by decide +kernel
theorem dX0_init_18 : decode cX0_init 18 = .ok (.putfield 15, 3) := by decide +kernel
theorem dX0_init_21 : decode cX0_init 21 = .ok (.return_, 1) := by decide +kernel
theorem dX0_prepare_0 : decode cX0_prepare 0 = .ok (.iconst 0, 1) := by decide +kernel
theorem dX0_prepare_1 : decode cX0_prepare 1 = .ok (.istore_n 3, 1) := by decide +kernel
theorem dX0_prepare_2 : decode cX0_prepare 2 = .ok (.iload_n 3, 1) := by decide +kernel
theorem dX0_prepare_3 : decode cX0_prepare 3 = .ok (.aload_n 0, 1) := by decide +kernel
theorem dX0_prepare_4 : decode cX0_prepare 4 = .ok (.getfield 9, 3) := by decide +kernel
theorem dX0_prepare_7 : decode cX0_prepare 7 = .ok (.arraylength, 1) := by decide +kernel
theorem dX0_prepare_8 : decode cX0_prepare 8 = .ok (.if_icmp .ge 20, 3) := by decide +kernel
theorem dX0_prepare_11 : decode cX0_prepare 11 = .ok (.aload_n 0, 1) := by decide +kernel
theorem dX0_prepare_12 : decode cX0_prepare 12 = .ok (.getfield 9, 3) := by decide +kernel
theorem dX0_prepare_15 : decode cX0_prepare 15 = .ok (.iload_n 3, 1) := by decide +kernel
theorem dX0_prepare_16 : decode cX0_prepare 16 = .ok (.iload_n 3, 1) := by decide +kernel
theorem dX0_prepare_17 : decode cX0_prepare 17 = .ok (.aload_n 1, 1) := by decide +kernel
theorem dX0_prepare_18 : decode cX0_prepare 18 = .ok (.invokestatic 18, 3) := by decide +kernel
theorem dX0_prepare_21 : decode cX0_prepare 21 = .ok (.iastore, 1) := by decide +kernel
theorem dX0_prepare_22 : decode cX0_prepare 22 = .ok (.iinc 3 1, 3) := by decide +kernel
theorem dX0_prepare_25 : decode cX0_prepare 25 = .ok (.goto (-23), 3) := by decide +kernel
theorem dX0_prepare_28 : decode cX0_prepare 28 = .ok (.iconst 1, 1) := by decide +kernel
theorem dX0_prepare_29 : decode cX0_prepare 29 = .ok (.istore_n 3, 1) := by decide +kernel
theorem dX0_prepare_30 : decode cX0_prepare 30 = .ok (.iload_n 3, 1) := by decide +kernel
theorem dX0_prepare_31 : decode cX0_prepare 31 = .ok (.iload_n 2, 1) := by decide +kernel
theorem dX0_prepare_32 : decode cX0_prepare 32 = .ok (.if_icmp .gt 29, 3) := by decide +kernel
theorem dX0_prepare_35 : decode cX0_prepare 35 = .ok (.iload_n 3, 1) := by decide +kernel
theorem dX0_prepare_36 : decode cX0_prepare 36 = .ok (.aload_n 0, 1) := by decide +kernel
theorem dX0_prepare_37 : decode cX0_prepare 37 = .ok (.getfield 15, 3) := by decide +kernel
theorem dX0_prepare_40 : decode cX0_prepare 40 = .ok (.arraylength, 1) := by decide +kernel
theorem dX0_prepare_41 : decode cX0_prepare 41 = .ok (.if_icmp .ge 20, 3) := by decide +kernel
theorem dX0_prepare_44 : decode cX0_prepare 44 = .ok (.aload_n 0, 1) := by decide +kernel
theorem dX0_prepare_45 : decode cX0_prepare 45 = .ok (.getfield 15, 3) := by decide +kernel
theorem dX0_prepare_48 : decode cX0_prepare 48 = .ok (.iload_n 3, 1) := by decide +kernel
theorem dX0_prepare_49 : decode cX0_prepare 49 = .ok (.aload_n 0, 1) := by decide +kernel
theorem dX0_prepare_50 : decode cX0_prepare 50 = .ok (.iload_n 3, 1) := by decide +kernel
theorem dX0_prepare_51 : decode cX0_prepare 51 = .ok (.invokevirtual 22, 3) := by decide +kernel
theorem dX0_prepare_54 : decode cX0_prepare 54 = .ok (.iastore, 1) := by decide +kernel
theorem dX0_prepare_55 : decode cX0_prepare 55 = .ok (.iinc 3 1, 3) := by decide +kernel
theorem dX0_prepare_58 : decode cX0_prepare 58 = .ok (.goto (-28), 3) := by decide +kernel
theorem dX0_prepare_61 : decode cX0_prepare 61 = .ok (.return_, 1) := by decide +kernel
theorem dX0_friendsOf_0 : decode cX0_friendsOf 0 = .ok (.iconst 0, 1) := by decide +kernel
theorem dX0_friendsOf_1 : decode cX0_friendsOf 1 = .ok (.istore_n 2, 1) := by decide +kernel
theorem dX0_friendsOf_2 : decode cX0_friendsOf 2 = .ok (.iconst 0, 1) := by decide +kernel
theorem dX0_friendsOf_3 : decode cX0_friendsOf 3 = .ok (.istore_n 3, 1) := by decide +kernel
theorem dX0_friendsOf_4 : decode cX0_friendsOf 4 = .ok (.iload_n 3, 1) := by decide +kernel
theorem dX0_friendsOf_5 : decode cX0_friendsOf 5 = .ok (.bipush 10, 2) := by decide +kernel
theorem dX0_friendsOf_7 : decode cX0_friendsOf 7 = .ok (.if_icmp .ge 34, 3) := by decide +kernel
theorem dX0_friendsOf_10 : decode cX0_friendsOf 10 = .ok (.aload_n 1, 1) := by decide +kernel
theorem dX0_friendsOf_11 : decode cX0_friendsOf 11 = .ok (.iload_n 0, 1) := by decide +kernel
theorem dX0_friendsOf_12 : decode cX0_friendsOf 12 = .ok (.iload_n 3, 1) := by decide +kernel
theorem dX0_friendsOf_13 : decode cX0_friendsOf 13 = .ok (.invokevirtual 26, 3) := by decide +kernel
theorem dX0_friendsOf_16 : decode cX0_friendsOf 16 = .ok (.istore 4, 2) := by decide +kernel
theorem dX0_friendsOf_18 : decode cX0_friendsOf 18 = .ok (.iload 4, 2) := by decide +kernel
theorem dX0_friendsOf_20 : decode cX0_friendsOf 20 = .ok (.ifCond .eq 9, 3) := by decide +kernel
theorem dX0_friendsOf_23 : decode cX0_friendsOf 23 = .ok (.iload 4, 2) := by decide +kernel
theorem dX0_friendsOf_25 : decode cX0_friendsOf 25 = .ok (.iconst 2, 1) := by decide +kernel
theorem dX0_friendsOf_26 : decode cX0_friendsOf 26 = .ok (.if_icmp .ne 9, 3) := by decide +kernel
theorem dX0_friendsOf_29 : decode cX0_friendsOf 29 = .ok (.iload_n 2, 1) := by decide +kernel
theorem dX0_friendsOf_30 : decode cX0_friendsOf 30 = .ok (.iconst 1, 1) := by decide +kernel
theorem dX0_friendsOf_31 : decode cX0_friendsOf 31 = .ok (.iload_n 3, 1) := by decide +kernel
theorem dX0_friendsOf_32 : decode cX0_friendsOf 32 = .ok (.ishl, 1) := by decide +kernel
theorem dX0_friendsOf_33 : decode cX0_friendsOf 33 = .ok (.ior, 1) := by decide +kernel
theorem dX0_friendsOf_34 : decode cX0_friendsOf 34 = .ok (.istore_n 2, 1) := by decide +kernel
theorem dX0_friendsOf_35 : decode cX0_friendsOf 35 = .ok (.iinc 3 1, 3) := by decide +kernel
theorem dX0_friendsOf_38 : decode cX0_friendsOf 38 = .ok (.goto (-34), 3) := by decide +kernel
theorem dX0_friendsOf_41 : decode cX0_friendsOf 41 = .ok (.iload_n 2, 1) := by decide +kernel
theorem dX0_friendsOf_42 : decode cX0_friendsOf 42 = .ok (.ireturn, 1) := by decide +kernel
theorem dX0_mostOf_0 : decode cX0_mostOf 0 = .ok (.iload_n 1, 1) := by decide +kernel
theorem dX0_mostOf_1 : decode cX0_mostOf 1 = .ok (.invokestatic 32, 3) := by decide +kernel
theorem dX0_mostOf_4 : decode cX0_mostOf 4 = .ok (.istore_n 2, 1) := by decide +kernel
theorem dX0_mostOf_5 : decode cX0_mostOf 5 = .ok (.iload_n 1, 1) := by decide +kernel
theorem dX0_mostOf_6 : decode cX0_mostOf 6 = .ok (.iconst 1, 1) := by decide +kernel
theorem dX0_mostOf_7 : decode cX0_mostOf 7 = .ok (.iload_n 2, 1) := by decide +kernel
theorem dX0_mostOf_8 : decode cX0_mostOf 8 = .ok (.ishl, 1) := by decide +kernel
theorem dX0_mostOf_9 : decode cX0_mostOf 9 = .ok (.iconst (-1), 1) := by decide +kernel
theorem dX0_mostOf_10 : decode cX0_mostOf 10 = .ok (.ixor, 1) := by decide +kernel
theorem dX0_mostOf_11 : decode cX0_mostOf 11 = .ok (.iand, 1) := by decide +kernel
theorem dX0_mostOf_12 : decode cX0_mostOf 12 = .ok (.istore_n 3, 1) := by decide +kernel
theorem dX0_mostOf_13 : decode cX0_mostOf 13 = .ok (.aload_n 0, 1) := by decide +kernel
theorem dX0_mostOf_14 : decode cX0_mostOf 14 = .ok (.iload_n 3, 1) := by decide +kernel
theorem dX0_mostOf_15 : decode cX0_mostOf 15 = .ok (.invokevirtual 35, 3) := by decide +kernel
theorem dX0_mostOf_18 : decode cX0_mostOf 18 = .ok (.istore 4, 2) := by decide +kernel
theorem dX0_mostOf_20 : decode cX0_mostOf 20 = .ok (.iconst 0, 1) := by decide +kernel
theorem dX0_mostOf_21 : decode cX0_mostOf 21 = .ok (.istore 5, 2) := by decide +kernel
theorem dX0_mostOf_23 : decode cX0_mostOf 23 = .ok (.iload 5, 2) := by decide +kernel
theorem dX0_mostOf_25 : decode cX0_mostOf 25 = .ok (.bipush 10, 2) := by decide +kernel
theorem dX0_mostOf_27 : decode cX0_mostOf 27 = .ok (.if_icmp .ge 41, 3) := by decide +kernel
theorem dX0_mostOf_30 : decode cX0_mostOf 30 = .ok (.aload_n 0, 1) := by decide +kernel
theorem dX0_mostOf_31 : decode cX0_mostOf 31 = .ok (.iload_n 2, 1) := by decide +kernel
theorem dX0_mostOf_32 : decode cX0_mostOf 32 = .ok (.iload 5, 2) := by decide +kernel
theorem dX0_mostOf_34 : decode cX0_mostOf 34 = .ok (.iload_n 3, 1) := by decide +kernel
theorem dX0_mostOf_35 : decode cX0_mostOf 35 = .ok (.invokevirtual 38, 3) := by decide +kernel
theorem dX0_mostOf_38 : decode cX0_mostOf 38 = .ok (.ifCond .eq 24, 3) := by decide +kernel
theorem dX0_mostOf_41 : decode cX0_mostOf 41 = .ok (.iload 4, 2) := by decide +kernel
theorem dX0_mostOf_43 : decode cX0_mostOf 43 = .ok (.iconst 1, 1) := by decide +kernel
theorem dX0_mostOf_44 : decode cX0_mostOf 44 = .ok (.aload_n 0, 1) := by decide +kernel
theorem dX0_mostOf_45 : decode cX0_mostOf 45 = .ok (.iload_n 3, 1) := by decide +kernel
theorem dX0_mostOf_46 : decode cX0_mostOf 46 = .ok (.iconst 1, 1) := by decide +kernel
theorem dX0_mostOf_47 : decode cX0_mostOf 47 = .ok (.iload 5, 2) := by decide +kernel
theorem dX0_mostOf_49 : decode cX0_mostOf 49 = .ok (.ishl, 1) := by decide +kernel
theorem dX0_mostOf_50 : decode cX0_mostOf 50 = .ok (.iconst (-1), 1) := by decide +kernel
theorem dX0_mostOf_51 : decode cX0_mostOf 51 = .ok (.ixor, 1) := by decide +kernel
theorem dX0_mostOf_52 : decode cX0_mostOf 52 = .ok (.iand, 1) := by decide +kernel
theorem dX0_mostOf_53 : decode cX0_mostOf 53 = .ok (.invokevirtual 35, 3) := by decide +kernel
theorem dX0_mostOf_56 : decode cX0_mostOf 56 = .ok (.iadd, 1) := by decide +kernel
theorem dX0_mostOf_57 : decode cX0_mostOf 57 = .ok (.invokestatic 42, 3) := by decide +kernel
theorem dX0_mostOf_60 : decode cX0_mostOf 60 = .ok (.istore 4, 2) := by decide +kernel
theorem dX0_mostOf_62 : decode cX0_mostOf 62 = .ok (.iinc 5 1, 3) := by decide +kernel
theorem dX0_mostOf_65 : decode cX0_mostOf 65 = .ok (.goto (-42), 3) := by decide +kernel
theorem dX0_mostOf_68 : decode cX0_mostOf 68 = .ok (.iload 4, 2) := by decide +kernel
theorem dX0_mostOf_70 : decode cX0_mostOf 70 = .ok (.ireturn, 1) := by decide +kernel
theorem dX0_leastOf_0 : decode cX0_leastOf 0 = .ok (.iload_n 0, 1) := by decide +kernel
theorem dX0_leastOf_1 : decode cX0_leastOf 1 = .ok (.iload_n 0, 1) := by decide +kernel
theorem dX0_leastOf_2 : decode cX0_leastOf 2 = .ok (.ineg, 1) := by decide +kernel
theorem dX0_leastOf_3 : decode cX0_leastOf 3 = .ok (.iand, 1) := by decide +kernel
theorem dX0_leastOf_4 : decode cX0_leastOf 4 = .ok (.iconst 1, 1) := by decide +kernel
theorem dX0_leastOf_5 : decode cX0_leastOf 5 = .ok (.isub, 1) := by decide +kernel
theorem dX0_leastOf_6 : decode cX0_leastOf 6 = .ok (.invokestatic 47, 3) := by decide +kernel
theorem dX0_leastOf_9 : decode cX0_leastOf 9 = .ok (.ireturn, 1) := by decide +kernel
theorem dX0_canPair_0 : decode cX0_canPair 0 = .ok (.iload_n 1, 1) := by decide +kernel
theorem dX0_canPair_1 : decode cX0_canPair 1 = .ok (.iconst 0, 1) := by decide +kernel
theorem dX0_canPair_2 : decode cX0_canPair 2 = .ok (.aload_n 0, 1) := by decide +kernel
theorem dX0_canPair_3 : decode cX0_canPair 3 = .ok (.getfield 9, 3) := by decide +kernel
theorem dX0_canPair_6 : decode cX0_canPair 6 = .ok (.arraylength, 1) := by decide +kernel
theorem dX0_canPair_7 : decode cX0_canPair 7 = .ok (.iconst 1, 1) := by decide +kernel
theorem dX0_canPair_8 : decode cX0_canPair 8 = .ok (.isub, 1) := by decide +kernel
theorem dX0_canPair_9 : decode cX0_canPair 9 = .ok (.invokestatic 52, 3) := by decide +kernel
theorem dX0_canPair_12 : decode cX0_canPair 12 = .ok (.ifCond .eq 22, 3) := by decide +kernel
theorem dX0_canPair_15 : decode cX0_canPair 15 = .ok (.aload_n 0, 1) := by decide +kernel
theorem dX0_canPair_16 : decode cX0_canPair 16 = .ok (.getfield 9, 3) := by decide +kernel
theorem dX0_canPair_19 : decode cX0_canPair 19 = .ok (.iload_n 1, 1) := by decide +kernel
theorem dX0_canPair_20 : decode cX0_canPair 20 = .ok (.iaload, 1) := by decide +kernel
theorem dX0_canPair_21 : decode cX0_canPair 21 = .ok (.iload_n 3, 1) := by decide +kernel
theorem dX0_canPair_22 : decode cX0_canPair 22 = .ok (.iand, 1) := by decide +kernel
theorem dX0_canPair_23 : decode cX0_canPair 23 = .ok (.iload_n 2, 1) := by decide +kernel
theorem dX0_canPair_24 : decode cX0_canPair 24 = .ok (.invokestatic 55, 3) := by decide +kernel
theorem dX0_canPair_27 : decode cX0_canPair 27 = .ok (.ifCond .eq 7, 3) := by decide +kernel
theorem dX0_canPair_30 : decode cX0_canPair 30 = .ok (.iconst 1, 1) := by decide +kernel
theorem dX0_canPair_31 : decode cX0_canPair 31 = .ok (.goto 4, 3) := by decide +kernel
theorem dX0_canPair_34 : decode cX0_canPair 34 = .ok (.iconst 0, 1) := by decide +kernel
theorem dX0_canPair_35 : decode cX0_canPair 35 = .ok (.ireturn, 1) := by decide +kernel
theorem dX0_mostPairs_0 : decode cX0_mostPairs 0 = .ok (.iload_n 1, 1) := by decide +kernel
theorem dX0_mostPairs_1 : decode cX0_mostPairs 1 = .ok (.iconst 0, 1) := by decide +kernel
theorem dX0_mostPairs_2 : decode cX0_mostPairs 2 = .ok (.aload_n 0, 1) := by decide +kernel
theorem dX0_mostPairs_3 : decode cX0_mostPairs 3 = .ok (.getfield 15, 3) := by decide +kernel
theorem dX0_mostPairs_6 : decode cX0_mostPairs 6 = .ok (.arraylength, 1) := by decide +kernel
theorem dX0_mostPairs_7 : decode cX0_mostPairs 7 = .ok (.iconst 1, 1) := by decide +kernel
theorem dX0_mostPairs_8 : decode cX0_mostPairs 8 = .ok (.isub, 1) := by decide +kernel
theorem dX0_mostPairs_9 : decode cX0_mostPairs 9 = .ok (.invokestatic 52, 3) := by decide +kernel
theorem dX0_mostPairs_12 : decode cX0_mostPairs 12 = .ok (.ifCond .eq 12, 3) := by decide +kernel
theorem dX0_mostPairs_15 : decode cX0_mostPairs 15 = .ok (.aload_n 0, 1) := by decide +kernel
theorem dX0_mostPairs_16 : decode cX0_mostPairs 16 = .ok (.getfield 15, 3) := by decide +kernel
theorem dX0_mostPairs_19 : decode cX0_mostPairs 19 = .ok (.iload_n 1, 1) := by decide +kernel
theorem dX0_mostPairs_20 : decode cX0_mostPairs 20 = .ok (.iaload, 1) := by decide +kernel
theorem dX0_mostPairs_21 : decode cX0_mostPairs 21 = .ok (.goto 4, 3) := by decide +kernel
theorem dX0_mostPairs_24 : decode cX0_mostPairs 24 = .ok (.iconst 0, 1) := by decide +kernel
theorem dX0_mostPairs_25 : decode cX0_mostPairs 25 = .ok (.ireturn, 1) := by decide +kernel
theorem dX0_partnerOf_0 : decode cX0_partnerOf 0 = .ok (.iload_n 2, 1) := by decide +kernel
theorem dX0_partnerOf_1 : decode cX0_partnerOf 1 = .ok (.istore_n 3, 1) := by decide +kernel
theorem dX0_partnerOf_2 : decode cX0_partnerOf 2 = .ok (.iconst 0, 1) := by decide +kernel
theorem dX0_partnerOf_3 : decode cX0_partnerOf 3 = .ok (.istore 4, 2) := by decide +kernel
theorem dX0_partnerOf_5 : decode cX0_partnerOf 5 = .ok (.iload 4, 2) := by decide +kernel
theorem dX0_partnerOf_7 : decode cX0_partnerOf 7 = .ok (.bipush 10, 2) := by decide +kernel
theorem dX0_partnerOf_9 : decode cX0_partnerOf 9 = .ok (.if_icmp .ge 73, 3) := by decide +kernel
theorem dX0_partnerOf_12 : decode cX0_partnerOf 12 = .ok (.iload_n 3, 1) := by decide +kernel
theorem dX0_partnerOf_13 : decode cX0_partnerOf 13 = .ok (.iload 4, 2) := by decide +kernel
theorem dX0_partnerOf_15 : decode cX0_partnerOf 15 = .ok (.invokestatic 55, 3) := by decide +kernel
theorem dX0_partnerOf_18 : decode cX0_partnerOf 18 = .ok (.ifCond .ne 6, 3) := by decide +kernel
theorem dX0_partnerOf_21 : decode cX0_partnerOf 21 = .ok (.goto 55, 3) := by decide +kernel
theorem dX0_partnerOf_24 : decode cX0_partnerOf 24 = .ok (.aload_n 0, 1) := by decide +kernel
theorem dX0_partnerOf_25 : decode cX0_partnerOf 25 = .ok (.iload 4, 2) := by decide +kernel
theorem dX0_partnerOf_27 : decode cX0_partnerOf 27 = .ok (.iload_n 3, 1) := by decide +kernel
theorem dX0_partnerOf_28 : decode cX0_partnerOf 28 = .ok (.invokevirtual 59, 3) := by decide +kernel
theorem dX0_partnerOf_31 : decode cX0_partnerOf 31 = .ok (.istore 5, 2) := by decide +kernel
theorem dX0_partnerOf_33 : decode cX0_partnerOf 33 = .ok (.iload 4, 2) := by decide +kernel
theorem dX0_partnerOf_35 : decode cX0_partnerOf 35 = .ok (.iload_n 1, 1) := by decide +kernel
theorem dX0_partnerOf_36 : decode cX0_partnerOf 36 = .ok (.if_icmp .ne 6, 3) := by decide +kernel
theorem dX0_partnerOf_39 : decode cX0_partnerOf 39 = .ok (.iload 5, 2) := by decide +kernel
theorem dX0_partnerOf_41 : decode cX0_partnerOf 41 = .ok (.ireturn, 1) := by decide +kernel
theorem dX0_partnerOf_42 : decode cX0_partnerOf 42 = .ok (.iload 5, 2) := by decide +kernel
theorem dX0_partnerOf_44 : decode cX0_partnerOf 44 = .ok (.iload_n 1, 1) := by decide +kernel
theorem dX0_partnerOf_45 : decode cX0_partnerOf 45 = .ok (.if_icmp .ne 6, 3) := by decide +kernel
theorem dX0_partnerOf_48 : decode cX0_partnerOf 48 = .ok (.iload 4, 2) := by decide +kernel
theorem dX0_partnerOf_50 : decode cX0_partnerOf 50 = .ok (.ireturn, 1) := by decide +kernel
theorem dX0_partnerOf_51 : decode cX0_partnerOf 51 = .ok (.iload_n 3, 1) := by decide +kernel
theorem dX0_partnerOf_52 : decode cX0_partnerOf 52 = .ok (.iconst 1, 1) := by decide +kernel
theorem dX0_partnerOf_53 : decode cX0_partnerOf 53 = .ok (.iload 4, 2) := by decide +kernel
theorem dX0_partnerOf_55 : decode cX0_partnerOf 55 = .ok (.ishl, 1) := by decide +kernel
theorem dX0_partnerOf_56 : decode cX0_partnerOf 56 = .ok (.iconst (-1), 1) := by decide +kernel
theorem dX0_partnerOf_57 : decode cX0_partnerOf 57 = .ok (.ixor, 1) := by decide +kernel
theorem dX0_partnerOf_58 : decode cX0_partnerOf 58 = .ok (.iand, 1) := by decide +kernel
theorem dX0_partnerOf_59 : decode cX0_partnerOf 59 = .ok (.istore_n 3, 1) := by decide +kernel
theorem dX0_partnerOf_60 : decode cX0_partnerOf 60 = .ok (.iload 5, 2) := by decide +kernel
theorem dX0_partnerOf_62 : decode cX0_partnerOf 62 = .ok (.bipush (-6), 2) := by decide +kernel
theorem dX0_partnerOf_64 : decode cX0_partnerOf 64 = .ok (.if_icmp .eq 12, 3) := by decide +kernel
theorem dX0_partnerOf_67 : decode cX0_partnerOf 67 = .ok (.iload_n 3, 1) := by decide +kernel
theorem dX0_partnerOf_68 : decode cX0_partnerOf 68 = .ok (.iconst 1, 1) := by decide +kernel
theorem dX0_partnerOf_69 : decode cX0_partnerOf 69 = .ok (.iload 5, 2) := by decide +kernel
theorem dX0_partnerOf_71 : decode cX0_partnerOf 71 = .ok (.ishl, 1) := by decide +kernel
theorem dX0_partnerOf_72 : decode cX0_partnerOf 72 = .ok (.iconst (-1), 1) := by decide +kernel
theorem dX0_partnerOf_73 : decode cX0_partnerOf 73 = .ok (.ixor, 1) := by decide +kernel
theorem dX0_partnerOf_74 : decode cX0_partnerOf 74 = .ok (.iand, 1) := by decide +kernel
theorem dX0_partnerOf_75 : decode cX0_partnerOf 75 = .ok (.istore_n 3, 1) := by decide +kernel
theorem dX0_partnerOf_76 : decode cX0_partnerOf 76 = .ok (.iinc 4 1, 3) := by decide +kernel
theorem dX0_partnerOf_79 : decode cX0_partnerOf 79 = .ok (.goto (-74), 3) := by decide +kernel
theorem dX0_partnerOf_82 : decode cX0_partnerOf 82 = .ok (.bipush (-6), 2) := by decide +kernel
theorem dX0_partnerOf_84 : decode cX0_partnerOf 84 = .ok (.ireturn, 1) := by decide +kernel
theorem dX0_firstMate_0 : decode cX0_firstMate 0 = .ok (.iload_n 2, 1) := by decide +kernel
theorem dX0_firstMate_1 : decode cX0_firstMate 1 = .ok (.iconst 1, 1) := by decide +kernel
theorem dX0_firstMate_2 : decode cX0_firstMate 2 = .ok (.iload_n 1, 1) := by decide +kernel
theorem dX0_firstMate_3 : decode cX0_firstMate 3 = .ok (.ishl, 1) := by decide +kernel
theorem dX0_firstMate_4 : decode cX0_firstMate 4 = .ok (.iconst (-1), 1) := by decide +kernel
theorem dX0_firstMate_5 : decode cX0_firstMate 5 = .ok (.ixor, 1) := by decide +kernel
theorem dX0_firstMate_6 : decode cX0_firstMate 6 = .ok (.iand, 1) := by decide +kernel
theorem dX0_firstMate_7 : decode cX0_firstMate 7 = .ok (.istore_n 3, 1) := by decide +kernel
theorem dX0_firstMate_8 : decode cX0_firstMate 8 = .ok (.iconst 0, 1) := by decide +kernel
theorem dX0_firstMate_9 : decode cX0_firstMate 9 = .ok (.istore 4, 2) := by decide +kernel
theorem dX0_firstMate_11 : decode cX0_firstMate 11 = .ok (.iload 4, 2) := by decide +kernel
theorem dX0_firstMate_13 : decode cX0_firstMate 13 = .ok (.bipush 10, 2) := by decide +kernel
theorem dX0_firstMate_15 : decode cX0_firstMate 15 = .ok (.if_icmp .ge 45, 3) := by decide +kernel
theorem dX0_firstMate_18 : decode cX0_firstMate 18 = .ok (.aload_n 0, 1) := by decide +kernel
theorem dX0_firstMate_19 : decode cX0_firstMate 19 = .ok (.iload_n 1, 1) := by decide +kernel
theorem dX0_firstMate_20 : decode cX0_firstMate 20 = .ok (.iload 4, 2) := by decide +kernel
theorem dX0_firstMate_22 : decode cX0_firstMate 22 = .ok (.iload_n 3, 1) := by decide +kernel
theorem dX0_firstMate_23 : decode cX0_firstMate 23 = .ok (.invokevirtual 38, 3) := by decide +kernel
theorem dX0_firstMate_26 : decode cX0_firstMate 26 = .ok (.ifCond .eq 28, 3) := by decide +kernel
theorem dX0_firstMate_29 : decode cX0_firstMate 29 = .ok (.iconst 1, 1) := by decide +kernel
theorem dX0_firstMate_30 : decode cX0_firstMate 30 = .ok (.aload_n 0, 1) := by decide +kernel
theorem dX0_firstMate_31 : decode cX0_firstMate 31 = .ok (.iload_n 3, 1) := by decide +kernel
theorem dX0_firstMate_32 : decode cX0_firstMate 32 = .ok (.iconst 1, 1) := by decide +kernel
theorem dX0_firstMate_33 : decode cX0_firstMate 33 = .ok (.iload 4, 2) := by decide +kernel
theorem dX0_firstMate_35 : decode cX0_firstMate 35 = .ok (.ishl, 1) := by decide +kernel
theorem dX0_firstMate_36 : decode cX0_firstMate 36 = .ok (.iconst (-1), 1) := by decide +kernel
theorem dX0_firstMate_37 : decode cX0_firstMate 37 = .ok (.ixor, 1) := by decide +kernel
theorem dX0_firstMate_38 : decode cX0_firstMate 38 = .ok (.iand, 1) := by decide +kernel
theorem dX0_firstMate_39 : decode cX0_firstMate 39 = .ok (.invokevirtual 35, 3) := by decide +kernel
theorem dX0_firstMate_42 : decode cX0_firstMate 42 = .ok (.iadd, 1) := by decide +kernel
theorem dX0_firstMate_43 : decode cX0_firstMate 43 = .ok (.aload_n 0, 1) := by decide +kernel
theorem dX0_firstMate_44 : decode cX0_firstMate 44 = .ok (.iload_n 2, 1) := by decide +kernel
theorem dX0_firstMate_45 : decode cX0_firstMate 45 = .ok (.invokevirtual 35, 3) := by decide +kernel
theorem dX0_firstMate_48 : decode cX0_firstMate 48 = .ok (.if_icmp .ne 6, 3) := by decide +kernel
theorem dX0_firstMate_51 : decode cX0_firstMate 51 = .ok (.iload 4, 2) := by decide +kernel
theorem dX0_firstMate_53 : decode cX0_firstMate 53 = .ok (.ireturn, 1) := by decide +kernel
theorem dX0_firstMate_54 : decode cX0_firstMate 54 = .ok (.iinc 4 1, 3) := by decide +kernel
theorem dX0_firstMate_57 : decode cX0_firstMate 57 = .ok (.goto (-46), 3) := by decide +kernel
theorem dX0_firstMate_60 : decode cX0_firstMate 60 = .ok (.bipush (-6), 2) := by decide +kernel
theorem dX0_firstMate_62 : decode cX0_firstMate 62 = .ok (.ireturn, 1) := by decide +kernel
theorem dX1_init_0 : decode cX1_init 0 = .ok (.aload_n 0, 1) := by decide +kernel
theorem dX1_init_1 : decode cX1_init 1 = .ok (.invokespecial 3, 3) := by decide +kernel
theorem dX1_init_4 : decode cX1_init 4 = .ok (.aload_n 0, 1) := by decide +kernel
theorem dX1_init_5 : decode cX1_init 5 = .ok (.bipush 60, 2) := by decide +kernel
theorem dX1_init_7 : decode cX1_init 7 = .ok (.newarray .int, 2) := by decide +kernel
theorem dX1_init_9 : decode cX1_init 9 = .ok (.putfield 9, 3) := by decide +kernel
theorem dX1_init_12 : decode cX1_init 12 = .ok (.aload_n 0, 1) := by decide +kernel
theorem dX1_init_13 : decode cX1_init 13 = .ok (.bipush 30, 2) := by decide +kernel
theorem dX1_init_15 : decode cX1_init 15 = .ok (.newarray .int, 2) := by decide +kernel
theorem dX1_init_17 : decode cX1_init 17 = .ok (.putfield 15, 3) := by decide +kernel
theorem dX1_init_20 : decode cX1_init 20 = .ok (.aload_n 0, 1) := by decide +kernel
theorem dX1_init_21 : decode cX1_init 21 = .ok (.bipush 30, 2) := by decide +kernel
theorem dX1_init_23 : decode cX1_init 23 = .ok (.newarray .int, 2) := by decide +kernel
theorem dX1_init_25 : decode cX1_init 25 = .ok (.putfield 18, 3) := by decide +kernel
theorem dX1_init_28 : decode cX1_init 28 = .ok (.return_, 1) := by decide +kernel
theorem dX1_addSign_0 : decode cX1_addSign 0 = .ok (.aload_n 0, 1) := by decide +kernel
theorem dX1_addSign_1 : decode cX1_addSign 1 = .ok (.getfield 21, 3) := by decide +kernel
theorem dX1_addSign_4 : decode cX1_addSign 4 = .ok (.iconst 0, 1) := by decide +kernel
theorem dX1_addSign_5 : decode cX1_addSign 5 = .ok (.aload_n 0, 1) := by decide +kernel
theorem dX1_addSign_6 : decode cX1_addSign 6 = .ok (.getfield 9, 3) := by decide +kernel
theorem dX1_addSign_9 : decode cX1_addSign 9 = .ok (.arraylength, 1) := by decide +kernel
theorem dX1_addSign_10 : decode cX1_addSign 10 = .ok (.iconst 1, 1) := by decide +kernel
theorem dX1_addSign_11 : decode cX1_addSign 11 = .ok (.isub, 1) := by decide +kernel
theorem dX1_addSign_12 : decode cX1_addSign 12 = .ok (.invokestatic 25, 3) := by decide +kernel
theorem dX1_addSign_15 : decode cX1_addSign 15 = .ok (.ifCond .ne 5, 3) := by decide +kernel
theorem dX1_addSign_18 : decode cX1_addSign 18 = .ok (.iconst 0, 1) := by decide +kernel
theorem dX1_addSign_19 : decode cX1_addSign 19 = .ok (.ireturn, 1) := by decide +kernel
theorem dX1_addSign_20 : decode cX1_addSign 20 = .ok (.aload_n 0, 1) := by decide +kernel
theorem dX1_addSign_21 : decode cX1_addSign 21 = .ok (.getfield 9, 3) := by decide +kernel
theorem dX1_addSign_24 : decode cX1_addSign 24 = .ok (.aload_n 0, 1) := by decide +kernel
theorem dX1_addSign_25 : decode cX1_addSign 25 = .ok (.getfield 21, 3) := by decide +kernel
theorem dX1_addSign_28 : decode cX1_addSign 28 = .ok (.iload_n 1, 1) := by decide +kernel
theorem dX1_addSign_29 : decode cX1_addSign 29 = .ok (.iastore, 1) := by decide +kernel
theorem dX1_addSign_30 : decode cX1_addSign 30 = .ok (.aload_n 0, 1) := by decide +kernel
theorem dX1_addSign_31 : decode cX1_addSign 31 = .ok (.dup, 1) := by decide +kernel
theorem dX1_addSign_32 : decode cX1_addSign 32 = .ok (.getfield 21, 3) := by decide +kernel
theorem dX1_addSign_35 : decode cX1_addSign 35 = .ok (.iconst 1, 1) := by decide +kernel
theorem dX1_addSign_36 : decode cX1_addSign 36 = .ok (.iadd, 1) := by decide +kernel
theorem dX1_addSign_37 : decode cX1_addSign 37 = .ok (.putfield 21, 3) := by decide +kernel
theorem dX1_addSign_40 : decode cX1_addSign 40 = .ok (.iconst 1, 1) := by decide +kernel
theorem dX1_addSign_41 : decode cX1_addSign 41 = .ok (.ireturn, 1) := by decide +kernel
theorem dX1_read_0 : decode cX1_read 0 = .ok (.aload_n 0, 1) := by decide +kernel
theorem dX1_read_1 : decode cX1_read 1 = .ok (.iconst 0, 1) := by decide +kernel
theorem dX1_read_2 : decode cX1_read 2 = .ok (.putfield 29, 3) := by decide +kernel
theorem dX1_read_5 : decode cX1_read 5 = .ok (.aload_n 0, 1) := by decide +kernel
theorem dX1_read_6 : decode cX1_read 6 = .ok (.iconst 0, 1) := by decide +kernel
theorem dX1_read_7 : decode cX1_read 7 = .ok (.putfield 32, 3) := by decide +kernel
theorem dX1_read_10 : decode cX1_read 10 = .ok (.bipush (-6), 2) := by decide +kernel
theorem dX1_read_12 : decode cX1_read 12 = .ok (.istore_n 1, 1) := by decide +kernel
theorem dX1_read_13 : decode cX1_read 13 = .ok (.iconst 0, 1) := by decide +kernel
theorem dX1_read_14 : decode cX1_read 14 = .ok (.istore_n 2, 1) := by decide +kernel
theorem dX1_read_15 : decode cX1_read 15 = .ok (.iload_n 2, 1) := by decide +kernel
theorem dX1_read_16 : decode cX1_read 16 = .ok (.aload_n 0, 1) := by decide +kernel
theorem dX1_read_17 : decode cX1_read 17 = .ok (.getfield 21, 3) := by decide +kernel
theorem dX1_read_20 : decode cX1_read 20 = .ok (.if_icmp .ge 93, 3) := by decide +kernel
theorem dX1_read_23 : decode cX1_read 23 = .ok (.iload_n 2, 1) := by decide +kernel
theorem dX1_read_24 : decode cX1_read 24 = .ok (.aload_n 0, 1) := by decide +kernel
theorem dX1_read_25 : decode cX1_read 25 = .ok (.getfield 9, 3) := by decide +kernel
theorem dX1_read_28 : decode cX1_read 28 = .ok (.arraylength, 1) := by decide +kernel
theorem dX1_read_29 : decode cX1_read 29 = .ok (.if_icmp .ge 84, 3) := by decide +kernel
theorem dX1_read_32 : decode cX1_read 32 = .ok (.aload_n 0, 1) := by decide +kernel
theorem dX1_read_33 : decode cX1_read 33 = .ok (.getfield 9, 3) := by decide +kernel
theorem dX1_read_36 : decode cX1_read 36 = .ok (.iload_n 2, 1) := by decide +kernel
theorem dX1_read_37 : decode cX1_read 37 = .ok (.iaload, 1) := by decide +kernel
theorem dX1_read_38 : decode cX1_read 38 = .ok (.bipush 97, 2) := by decide +kernel
theorem dX1_read_40 : decode cX1_read 40 = .ok (.isub, 1) := by decide +kernel
theorem dX1_read_41 : decode cX1_read 41 = .ok (.istore_n 3, 1) := by decide +kernel
theorem dX1_read_42 : decode cX1_read 42 = .ok (.iload_n 3, 1) := by decide +kernel
theorem dX1_read_43 : decode cX1_read 43 = .ok (.iconst 0, 1) := by decide +kernel
theorem dX1_read_44 : decode cX1_read 44 = .ok (.bipush 9, 2) := by decide +kernel
theorem dX1_read_46 : decode cX1_read 46 = .ok (.invokestatic 25, 3) := by decide +kernel
theorem dX1_read_49 : decode cX1_read 49 = .ok (.ifCond .eq 26, 3) := by decide +kernel
theorem dX1_read_52 : decode cX1_read 52 = .ok (.iload_n 1, 1) := by decide +kernel
theorem dX1_read_53 : decode cX1_read 53 = .ok (.bipush (-6), 2) := by decide +kernel
theorem dX1_read_55 : decode cX1_read 55 = .ok (.if_icmp .ne 8, 3) := by decide +kernel
theorem dX1_read_58 : decode cX1_read 58 = .ok (.iload_n 3, 1) := by decide +kernel
theorem dX1_read_59 : decode cX1_read 59 = .ok (.istore_n 1, 1) := by decide +kernel
theorem dX1_read_60 : decode cX1_read 60 = .ok (.goto 47, 3) := by decide +kernel
theorem dX1_read_63 : decode cX1_read 63 = .ok (.aload_n 0, 1) := by decide +kernel
theorem dX1_read_64 : decode cX1_read 64 = .ok (.iload_n 1, 1) := by decide +kernel
theorem dX1_read_65 : decode cX1_read 65 = .ok (.iload_n 3, 1) := by decide +kernel
theorem dX1_read_66 : decode cX1_read 66 = .ok (.invokevirtual 35, 3) := by decide +kernel
theorem dX1_read_69 : decode cX1_read 69 = .ok (.bipush (-6), 2) := by decide +kernel
theorem dX1_read_71 : decode cX1_read 71 = .ok (.istore_n 1, 1) := by decide +kernel
theorem dX1_read_72 : decode cX1_read 72 = .ok (.goto 35, 3) := by decide +kernel
theorem dX1_read_75 : decode cX1_read 75 = .ok (.aload_n 0, 1) := by decide +kernel
theorem dX1_read_76 : decode cX1_read 76 = .ok (.getfield 9, 3) := by decide +kernel
theorem dX1_read_79 : decode cX1_read 79 = .ok (.iload_n 2, 1) := by decide +kernel
theorem dX1_read_80 : decode cX1_read 80 = .ok (.iaload, 1) := by decide +kernel
theorem dX1_read_81 : decode cX1_read 81 = .ok (.bipush 47, 2) := by decide +kernel
theorem dX1_read_83 : decode cX1_read 83 = .ok (.if_icmp .ne 22, 3) := by decide +kernel
theorem dX1_read_86 : decode cX1_read 86 = .ok (.iload_n 1, 1) := by decide +kernel
theorem dX1_read_87 : decode cX1_read 87 = .ok (.bipush (-6), 2) := by decide +kernel
theorem dX1_read_89 : decode cX1_read 89 = .ok (.if_icmp .ne 16, 3) := by decide +kernel
theorem dX1_read_92 : decode cX1_read 92 = .ok (.aload_n 0, 1) := by decide +kernel
theorem dX1_read_93 : decode cX1_read 93 = .ok (.dup, 1) := by decide +kernel
theorem dX1_read_94 : decode cX1_read 94 = .ok (.getfield 32, 3) := by decide +kernel
theorem dX1_read_97 : decode cX1_read 97 = .ok (.iconst 1, 1) := by decide +kernel
theorem dX1_read_98 : decode cX1_read 98 = .ok (.iadd, 1) := by decide +kernel
theorem dX1_read_99 : decode cX1_read 99 = .ok (.putfield 32, 3) := by decide +kernel
theorem dX1_read_102 : decode cX1_read 102 = .ok (.goto 5, 3) := by decide +kernel
theorem dX1_read_105 : decode cX1_read 105 = .ok (.iload_n 2, 1) := by decide +kernel
theorem dX1_read_106 : decode cX1_read 106 = .ok (.ireturn, 1) := by decide +kernel
theorem dX1_read_107 : decode cX1_read 107 = .ok (.iinc 2 1, 3) := by decide +kernel
theorem dX1_read_110 : decode cX1_read 110 = .ok (.goto (-95), 3) := by decide +kernel
theorem dX1_read_113 : decode cX1_read 113 = .ok (.iload_n 1, 1) := by decide +kernel
theorem dX1_read_114 : decode cX1_read 114 = .ok (.bipush (-6), 2) := by decide +kernel
theorem dX1_read_116 : decode cX1_read 116 = .ok (.if_icmp .ne 8, 3) := by decide +kernel
theorem dX1_read_119 : decode cX1_read 119 = .ok (.bipush (-6), 2) := by decide +kernel
theorem dX1_read_121 : decode cX1_read 121 = .ok (.goto 7, 3) := by decide +kernel
theorem dX1_read_124 : decode cX1_read 124 = .ok (.aload_n 0, 1) := by decide +kernel
theorem dX1_read_125 : decode cX1_read 125 = .ok (.getfield 21, 3) := by decide +kernel
theorem dX1_read_128 : decode cX1_read 128 = .ok (.ireturn, 1) := by decide +kernel
theorem dX1_addPair_0 : decode cX1_addPair 0 = .ok (.aload_n 0, 1) := by decide +kernel
theorem dX1_addPair_1 : decode cX1_addPair 1 = .ok (.getfield 29, 3) := by decide +kernel
theorem dX1_addPair_4 : decode cX1_addPair 4 = .ok (.iconst 0, 1) := by decide +kernel
theorem dX1_addPair_5 : decode cX1_addPair 5 = .ok (.aload_n 0, 1) := by decide +kernel
theorem dX1_addPair_6 : decode cX1_addPair 6 = .ok (.getfield 15, 3) := by decide +kernel
theorem dX1_addPair_9 : decode cX1_addPair 9 = .ok (.arraylength, 1) := by decide +kernel
theorem dX1_addPair_10 : decode cX1_addPair 10 = .ok (.iconst 1, 1) := by decide +kernel
theorem dX1_addPair_11 : decode cX1_addPair 11 = .ok (.isub, 1) := by decide +kernel
theorem dX1_addPair_12 : decode cX1_addPair 12 = .ok (.invokestatic 25, 3) := by decide +kernel
theorem dX1_addPair_15 : decode cX1_addPair 15 = .ok (.ifCond .eq 45, 3) := by decide +kernel
theorem dX1_addPair_18 : decode cX1_addPair 18 = .ok (.aload_n 0, 1) := by decide +kernel
theorem dX1_addPair_19 : decode cX1_addPair 19 = .ok (.getfield 29, 3) := by decide +kernel
theorem dX1_addPair_22 : decode cX1_addPair 22 = .ok (.aload_n 0, 1) := by decide +kernel
theorem dX1_addPair_23 : decode cX1_addPair 23 = .ok (.getfield 18, 3) := by decide +kernel
theorem dX1_addPair_26 : decode cX1_addPair 26 = .ok (.arraylength, 1) := by decide +kernel
theorem dX1_addPair_27 : decode cX1_addPair 27 = .ok (.if_icmp .ge 33, 3) := by decide +kernel
theorem dX1_addPair_30 : decode cX1_addPair 30 = .ok (.aload_n 0, 1) := by decide +kernel
theorem dX1_addPair_31 : decode cX1_addPair 31 = .ok (.getfield 15, 3) := by decide +kernel
theorem dX1_addPair_34 : decode cX1_addPair 34 = .ok (.aload_n 0, 1) := by decide +kernel
theorem dX1_addPair_35 : decode cX1_addPair 35 = .ok (.getfield 29, 3) := by decide +kernel
theorem dX1_addPair_38 : decode cX1_addPair 38 = .ok (.iload_n 1, 1) := by decide +kernel
theorem dX1_addPair_39 : decode cX1_addPair 39 = .ok (.iastore, 1) := by decide +kernel
theorem dX1_addPair_40 : decode cX1_addPair 40 = .ok (.aload_n 0, 1) := by decide +kernel
theorem dX1_addPair_41 : decode cX1_addPair 41 = .ok (.getfield 18, 3) := by decide +kernel
theorem dX1_addPair_44 : decode cX1_addPair 44 = .ok (.aload_n 0, 1) := by decide +kernel
theorem dX1_addPair_45 : decode cX1_addPair 45 = .ok (.getfield 29, 3) := by decide +kernel
theorem dX1_addPair_48 : decode cX1_addPair 48 = .ok (.iload_n 2, 1) := by decide +kernel
theorem dX1_addPair_49 : decode cX1_addPair 49 = .ok (.iastore, 1) := by decide +kernel
theorem dX1_addPair_50 : decode cX1_addPair 50 = .ok (.aload_n 0, 1) := by decide +kernel
theorem dX1_addPair_51 : decode cX1_addPair 51 = .ok (.dup, 1) := by decide +kernel
theorem dX1_addPair_52 : decode cX1_addPair 52 = .ok (.getfield 29, 3) := by decide +kernel
theorem dX1_addPair_55 : decode cX1_addPair 55 = .ok (.iconst 1, 1) := by decide +kernel
theorem dX1_addPair_56 : decode cX1_addPair 56 = .ok (.iadd, 1) := by decide +kernel
theorem dX1_addPair_57 : decode cX1_addPair 57 = .ok (.putfield 29, 3) := by decide +kernel
theorem dX1_addPair_60 : decode cX1_addPair 60 = .ok (.return_, 1) := by decide +kernel
theorem dX1_leftOf_0 : decode cX1_leftOf 0 = .ok (.iload_n 1, 1) := by decide +kernel
theorem dX1_leftOf_1 : decode cX1_leftOf 1 = .ok (.iconst 0, 1) := by decide +kernel
theorem dX1_leftOf_2 : decode cX1_leftOf 2 = .ok (.aload_n 0, 1) := by decide +kernel
theorem dX1_leftOf_3 : decode cX1_leftOf 3 = .ok (.getfield 15, 3) := by decide +kernel
theorem dX1_leftOf_6 : decode cX1_leftOf 6 = .ok (.arraylength, 1) := by decide +kernel
theorem dX1_leftOf_7 : decode cX1_leftOf 7 = .ok (.iconst 1, 1) := by decide +kernel
theorem dX1_leftOf_8 : decode cX1_leftOf 8 = .ok (.isub, 1) := by decide +kernel
theorem dX1_leftOf_9 : decode cX1_leftOf 9 = .ok (.invokestatic 25, 3) := by decide +kernel
theorem dX1_leftOf_12 : decode cX1_leftOf 12 = .ok (.ifCond .eq 12, 3) := by decide +kernel
theorem dX1_leftOf_15 : decode cX1_leftOf 15 = .ok (.aload_n 0, 1) := by decide +kernel
theorem dX1_leftOf_16 : decode cX1_leftOf 16 = .ok (.getfield 15, 3) := by decide +kernel
theorem dX1_leftOf_19 : decode cX1_leftOf 19 = .ok (.iload_n 1, 1) := by decide +kernel
theorem dX1_leftOf_20 : decode cX1_leftOf 20 = .ok (.iaload, 1) := by decide +kernel
theorem dX1_leftOf_21 : decode cX1_leftOf 21 = .ok (.goto 5, 3) := by decide +kernel
theorem dX1_leftOf_24 : decode cX1_leftOf 24 = .ok (.bipush (-6), 2) := by decide +kernel
theorem dX1_leftOf_26 : decode cX1_leftOf 26 = .ok (.ireturn, 1) := by decide +kernel
theorem dX1_rightOf_0 : decode cX1_rightOf 0 = .ok (.iload_n 1, 1) := by decide +kernel
theorem dX1_rightOf_1 : decode cX1_rightOf 1 = .ok (.iconst 0, 1) := by decide +kernel
theorem dX1_rightOf_2 : decode cX1_rightOf 2 = .ok (.aload_n 0, 1) := by decide +kernel
theorem dX1_rightOf_3 : decode cX1_rightOf 3 = .ok (.getfield 18, 3) := by decide +kernel
theorem dX1_rightOf_6 : decode cX1_rightOf 6 = .ok (.arraylength, 1) := by decide +kernel
theorem dX1_rightOf_7 : decode cX1_rightOf 7 = .ok (.iconst 1, 1) := by decide +kernel
theorem dX1_rightOf_8 : decode cX1_rightOf 8 = .ok (.isub, 1) := by decide +kernel
theorem dX1_rightOf_9 : decode cX1_rightOf 9 = .ok (.invokestatic 25, 3) := by decide +kernel
theorem dX1_rightOf_12 : decode cX1_rightOf 12 = .ok (.ifCond .eq 12, 3) := by decide +kernel
theorem dX1_rightOf_15 : decode cX1_rightOf 15 = .ok (.aload_n 0, 1) := by decide +kernel
theorem dX1_rightOf_16 : decode cX1_rightOf 16 = .ok (.getfield 18, 3) := by decide +kernel
theorem dX1_rightOf_19 : decode cX1_rightOf 19 = .ok (.iload_n 1, 1) := by decide +kernel
theorem dX1_rightOf_20 : decode cX1_rightOf 20 = .ok (.iaload, 1) := by decide +kernel
theorem dX1_rightOf_21 : decode cX1_rightOf 21 = .ok (.goto 5, 3) := by decide +kernel
theorem dX1_rightOf_24 : decode cX1_rightOf 24 = .ok (.bipush (-6), 2) := by decide +kernel
theorem dX1_rightOf_26 : decode cX1_rightOf 26 = .ok (.ireturn, 1) := by decide +kernel
theorem dX1_firstWrongPair_0 : decode cX1_firstWrongPair 0 = .ok (.iconst 0, 1) := by decide +kernel
theorem dX1_firstWrongPair_1 : decode cX1_firstWrongPair 1 = .ok (.istore_n 2, 1) := by decide +kernel
theorem dX1_firstWrongPair_2 : decode cX1_firstWrongPair 2 = .ok (.iload_n 2, 1) := by decide +kernel
theorem dX1_firstWrongPair_3 : decode cX1_firstWrongPair 3 = .ok (.aload_n 0, 1) := by decide +kernel
theorem dX1_firstWrongPair_4 : decode cX1_firstWrongPair 4 = .ok (.getfield 29, 3) := by decide +kernel
theorem dX1_firstWrongPair_7 : decode cX1_firstWrongPair 7 = .ok (.if_icmp .ge 20, 3) := by decide +kernel
theorem dX1_firstWrongPair_10 : decode cX1_firstWrongPair 10 = .ok (.aload_n 0, 1) := by decide +kernel
theorem dX1_firstWrongPair_11 : decode cX1_firstWrongPair 11 = .ok (.iload_n 2, 1) := by decide +kernel
theorem dX1_firstWrongPair_12 : decode cX1_firstWrongPair 12 = .ok (.aload_n 1, 1) := by decide +kernel
theorem dX1_firstWrongPair_13 : decode cX1_firstWrongPair 13 = .ok (.invokevirtual 39, 3) := by decide +kernel
theorem dX1_firstWrongPair_16 : decode cX1_firstWrongPair 16 = .ok (.ifCond .eq 5, 3) := by decide +kernel
theorem dX1_firstWrongPair_19 : decode cX1_firstWrongPair 19 = .ok (.iload_n 2, 1) := by decide +kernel
theorem dX1_firstWrongPair_20 : decode cX1_firstWrongPair 20 = .ok (.ireturn, 1) := by decide +kernel
theorem dX1_firstWrongPair_21 : decode cX1_firstWrongPair 21 = .ok (.iinc 2 1, 3) := by decide +kernel
theorem dX1_firstWrongPair_24 : decode cX1_firstWrongPair 24 = .ok (.goto (-22), 3) := by decide +kernel
theorem dX1_firstWrongPair_27 : decode cX1_firstWrongPair 27 = .ok (.bipush (-6), 2) := by decide +kernel
theorem dX1_firstWrongPair_29 : decode cX1_firstWrongPair 29 = .ok (.ireturn, 1) := by decide +kernel
theorem dX1_whyNot_0 : decode cX1_whyNot 0 = .ok (.aload_n 0, 1) := by decide +kernel
theorem dX1_whyNot_1 : decode cX1_whyNot 1 = .ok (.iload_n 1, 1) := by decide +kernel
theorem dX1_whyNot_2 : decode cX1_whyNot 2 = .ok (.invokevirtual 43, 3) := by decide +kernel
theorem dX1_whyNot_5 : decode cX1_whyNot 5 = .ok (.istore_n 3, 1) := by decide +kernel
theorem dX1_whyNot_6 : decode cX1_whyNot 6 = .ok (.aload_n 0, 1) := by decide +kernel
theorem dX1_whyNot_7 : decode cX1_whyNot 7 = .ok (.iload_n 1, 1) := by decide +kernel
theorem dX1_whyNot_8 : decode cX1_whyNot 8 = .ok (.invokevirtual 47, 3) := by decide +kernel
theorem dX1_whyNot_11 : decode cX1_whyNot 11 = .ok (.istore 4, 2) := by decide +kernel
theorem dX1_whyNot_13 : decode cX1_whyNot 13 = .ok (.aload_n 2, 1) := by decide +kernel
theorem dX1_whyNot_14 : decode cX1_whyNot 14 = .ok (.iload_n 3, 1) := by decide +kernel
theorem dX1_whyNot_15 : decode cX1_whyNot 15 = .ok (.invokevirtual 50, 3) := by decide +kernel
theorem dX1_whyNot_18 : decode cX1_whyNot 18 = .ok (.ifnull 12, 3) := by decide +kernel
theorem dX1_whyNot_21 : decode cX1_whyNot 21 = .ok (.aload_n 2, 1) := by decide +kernel
theorem dX1_whyNot_22 : decode cX1_whyNot 22 = .ok (.iload 4, 2) := by decide +kernel
theorem dX1_whyNot_24 : decode cX1_whyNot 24 = .ok (.invokevirtual 50, 3) := by decide +kernel
theorem dX1_whyNot_27 : decode cX1_whyNot 27 = .ok (.ifnonnull 5, 3) := by decide +kernel
theorem dX1_whyNot_30 : decode cX1_whyNot 30 = .ok (.iconst 1, 1) := by decide +kernel
theorem dX1_whyNot_31 : decode cX1_whyNot 31 = .ok (.ireturn, 1) := by decide +kernel
theorem dX1_whyNot_32 : decode cX1_whyNot 32 = .ok (.iload_n 3, 1) := by decide +kernel
theorem dX1_whyNot_33 : decode cX1_whyNot 33 = .ok (.iload 4, 2) := by decide +kernel
theorem dX1_whyNot_35 : decode cX1_whyNot 35 = .ok (.if_icmp .ne 5, 3) := by decide +kernel
theorem dX1_whyNot_38 : decode cX1_whyNot 38 = .ok (.iconst 2, 1) := by decide +kernel
theorem dX1_whyNot_39 : decode cX1_whyNot 39 = .ok (.ireturn, 1) := by decide +kernel
theorem dX1_whyNot_40 : decode cX1_whyNot 40 = .ok (.iconst 0, 1) := by decide +kernel
theorem dX1_whyNot_41 : decode cX1_whyNot 41 = .ok (.istore 5, 2) := by decide +kernel
theorem dX1_whyNot_43 : decode cX1_whyNot 43 = .ok (.iload 5, 2) := by decide +kernel
theorem dX1_whyNot_45 : decode cX1_whyNot 45 = .ok (.iload_n 1, 1) := by decide +kernel
theorem dX1_whyNot_46 : decode cX1_whyNot 46 = .ok (.if_icmp .ge 32, 3) := by decide +kernel
theorem dX1_whyNot_49 : decode cX1_whyNot 49 = .ok (.aload_n 0, 1) := by decide +kernel
theorem dX1_whyNot_50 : decode cX1_whyNot 50 = .ok (.iload_n 3, 1) := by decide +kernel
theorem dX1_whyNot_51 : decode cX1_whyNot 51 = .ok (.iload 5, 2) := by decide +kernel
theorem dX1_whyNot_53 : decode cX1_whyNot 53 = .ok (.invokevirtual 56, 3) := by decide +kernel
theorem dX1_whyNot_56 : decode cX1_whyNot 56 = .ok (.ifCond .ne 14, 3) := by decide +kernel
theorem dX1_whyNot_59 : decode cX1_whyNot 59 = .ok (.aload_n 0, 1) := by decide +kernel
theorem dX1_whyNot_60 : decode cX1_whyNot 60 = .ok (.iload 4, 2) := by decide +kernel
theorem dX1_whyNot_62 : decode cX1_whyNot 62 = .ok (.iload 5, 2) := by decide +kernel
theorem dX1_whyNot_64 : decode cX1_whyNot 64 = .ok (.invokevirtual 56, 3) := by decide +kernel
theorem dX1_whyNot_67 : decode cX1_whyNot 67 = .ok (.ifCond .eq 5, 3) := by decide +kernel
theorem dX1_whyNot_70 : decode cX1_whyNot 70 = .ok (.iconst 3, 1) := by decide +kernel
theorem dX1_whyNot_71 : decode cX1_whyNot 71 = .ok (.ireturn, 1) := by decide +kernel
theorem dX1_whyNot_72 : decode cX1_whyNot 72 = .ok (.iinc 5 1, 3) := by decide +kernel
theorem dX1_whyNot_75 : decode cX1_whyNot 75 = .ok (.goto (-32), 3) := by decide +kernel
theorem dX1_whyNot_78 : decode cX1_whyNot 78 = .ok (.iconst 0, 1) := by decide +kernel
theorem dX1_whyNot_79 : decode cX1_whyNot 79 = .ok (.ireturn, 1) := by decide +kernel
theorem dX1_isOf_0 : decode cX1_isOf 0 = .ok (.aload_n 0, 1) := by decide +kernel
theorem dX1_isOf_1 : decode cX1_isOf 1 = .ok (.iload_n 2, 1) := by decide +kernel
theorem dX1_isOf_2 : decode cX1_isOf 2 = .ok (.invokevirtual 43, 3) := by decide +kernel
theorem dX1_isOf_5 : decode cX1_isOf 5 = .ok (.iload_n 1, 1) := by decide +kernel
theorem dX1_isOf_6 : decode cX1_isOf 6 = .ok (.if_icmp .eq 12, 3) := by decide +kernel
theorem dX1_isOf_9 : decode cX1_isOf 9 = .ok (.aload_n 0, 1) := by decide +kernel
theorem dX1_isOf_10 : decode cX1_isOf 10 = .ok (.iload_n 2, 1) := by decide +kernel
theorem dX1_isOf_11 : decode cX1_isOf 11 = .ok (.invokevirtual 47, 3) := by decide +kernel
theorem dX1_isOf_14 : decode cX1_isOf 14 = .ok (.iload_n 1, 1) := by decide +kernel
theorem dX1_isOf_15 : decode cX1_isOf 15 = .ok (.if_icmp .ne 7, 3) := by decide +kernel
theorem dX1_isOf_18 : decode cX1_isOf 18 = .ok (.iconst 1, 1) := by decide +kernel
theorem dX1_isOf_19 : decode cX1_isOf 19 = .ok (.goto 4, 3) := by decide +kernel
theorem dX1_isOf_22 : decode cX1_isOf 22 = .ok (.iconst 0, 1) := by decide +kernel
theorem dX1_isOf_23 : decode cX1_isOf 23 = .ok (.ireturn, 1) := by decide +kernel
theorem dX1_countOfKind_0 : decode cX1_countOfKind 0 = .ok (.iconst 0, 1) := by decide +kernel
theorem dX1_countOfKind_1 : decode cX1_countOfKind 1 = .ok (.istore_n 3, 1) := by decide +kernel
theorem dX1_countOfKind_2 : decode cX1_countOfKind 2 = .ok (.iconst 0, 1) := by decide +kernel
theorem dX1_countOfKind_3 : decode cX1_countOfKind 3 = .ok (.istore 4, 2) := by decide +kernel
theorem dX1_countOfKind_5 : decode cX1_countOfKind 5 = .ok (.iload 4, 2) := by decide +kernel
theorem dX1_countOfKind_7 : decode cX1_countOfKind 7 = .ok (.aload_n 0, 1) := by decide +kernel
theorem dX1_countOfKind_8 : decode cX1_countOfKind 8 = .ok (.getfield 29, 3) := by decide +kernel
theorem dX1_countOfKind_11 : decode cX1_countOfKind 11 = .ok (.if_icmp .ge 32, 3) := by decide +kernel
theorem dX1_countOfKind_14 : decode cX1_countOfKind 14 = .ok (.aload_n 2, 1) := by decide +kernel
theorem dX1_countOfKind_15 : decode cX1_countOfKind 15 = .ok (.aload_n 0, 1) := by decide +kernel
theorem dX1_countOfKind_16 : decode cX1_countOfKind 16 = .ok (.iload 4, 2) := by decide +kernel
theorem dX1_countOfKind_18 : decode cX1_countOfKind 18 = .ok (.invokevirtual 43, 3) := by decide +kernel
theorem dX1_countOfKind_21 : decode cX1_countOfKind 21 = .ok (.aload_n 0, 1) := by decide +kernel
theorem dX1_countOfKind_22 : decode cX1_countOfKind 22 = .ok (.iload 4, 2) := by decide +kernel
theorem dX1_countOfKind_24 : decode cX1_countOfKind 24 = .ok (.invokevirtual 47, 3) := by decide +kernel
theorem dX1_countOfKind_27 : decode cX1_countOfKind 27 = .ok (.invokevirtual 60, 3) := by decide +kernel
theorem dX1_countOfKind_30 : decode cX1_countOfKind 30 = .ok (.iload_n 1, 1) := by decide +kernel
theorem dX1_countOfKind_31 : decode cX1_countOfKind 31 = .ok (.if_icmp .ne 6, 3) := by decide +kernel
theorem dX1_countOfKind_34 : decode cX1_countOfKind 34 = .ok (.iinc 3 1, 3) := by decide +kernel
theorem dX1_countOfKind_37 : decode cX1_countOfKind 37 = .ok (.iinc 4 1, 3) := by decide +kernel
theorem dX1_countOfKind_40 : decode cX1_countOfKind 40 = .ok (.goto (-35), 3) := by decide +kernel
theorem dX1_countOfKind_43 : decode cX1_countOfKind 43 = .ok (.iload_n 3, 1) := by decide +kernel
theorem dX1_countOfKind_44 : decode cX1_countOfKind 44 = .ok (.ireturn, 1) := by decide +kernel
theorem dX1_firstNotGood_0 : decode cX1_firstNotGood 0 = .ok (.iconst 0, 1) := by decide +kernel
theorem dX1_firstNotGood_1 : decode cX1_firstNotGood 1 = .ok (.istore_n 2, 1) := by decide +kernel
theorem dX1_firstNotGood_2 : decode cX1_firstNotGood 2 = .ok (.iload_n 2, 1) := by decide +kernel
theorem dX1_firstNotGood_3 : decode cX1_firstNotGood 3 = .ok (.aload_n 0, 1) := by decide +kernel
theorem dX1_firstNotGood_4 : decode cX1_firstNotGood 4 = .ok (.getfield 29, 3) := by decide +kernel
theorem dX1_firstNotGood_7 : decode cX1_firstNotGood 7 = .ok (.if_icmp .ge 28, 3) := by decide +kernel
theorem dX1_firstNotGood_10 : decode cX1_firstNotGood 10 = .ok (.aload_n 1, 1) := by decide +kernel
theorem dX1_firstNotGood_11 : decode cX1_firstNotGood 11 = .ok (.aload_n 0, 1) := by decide +kernel
theorem dX1_firstNotGood_12 : decode cX1_firstNotGood 12 = .ok (.iload_n 2, 1) := by decide +kernel
theorem dX1_firstNotGood_13 : decode cX1_firstNotGood 13 = .ok (.invokevirtual 43, 3) := by decide +kernel
theorem dX1_firstNotGood_16 : decode cX1_firstNotGood 16 = .ok (.aload_n 0, 1) := by decide +kernel
theorem dX1_firstNotGood_17 : decode cX1_firstNotGood 17 = .ok (.iload_n 2, 1) := by decide +kernel
theorem dX1_firstNotGood_18 : decode cX1_firstNotGood 18 = .ok (.invokevirtual 47, 3) := by decide +kernel
theorem dX1_firstNotGood_21 : decode cX1_firstNotGood 21 = .ok (.invokevirtual 60, 3) := by decide +kernel
theorem dX1_firstNotGood_24 : decode cX1_firstNotGood 24 = .ok (.ifCond .eq 5, 3) := by decide +kernel
theorem dX1_firstNotGood_27 : decode cX1_firstNotGood 27 = .ok (.iload_n 2, 1) := by decide +kernel
theorem dX1_firstNotGood_28 : decode cX1_firstNotGood 28 = .ok (.ireturn, 1) := by decide +kernel
theorem dX1_firstNotGood_29 : decode cX1_firstNotGood 29 = .ok (.iinc 2 1, 3) := by decide +kernel
theorem dX1_firstNotGood_32 : decode cX1_firstNotGood 32 = .ok (.goto (-30), 3) := by decide +kernel
theorem dX1_firstNotGood_35 : decode cX1_firstNotGood 35 = .ok (.bipush (-6), 2) := by decide +kernel
theorem dX1_firstNotGood_37 : decode cX1_firstNotGood 37 = .ok (.ireturn, 1) := by decide +kernel
theorem dX2_init_0 : decode cX2_init 0 = .ok (.aload_n 0, 1) := by decide +kernel
theorem dX2_init_1 : decode cX2_init 1 = .ok (.invokespecial 3, 3) := by decide +kernel
theorem dX2_init_4 : decode cX2_init 4 = .ok (.aload_n 0, 1) := by decide +kernel
theorem dX2_init_5 : decode cX2_init 5 = .ok (.bipush 6, 2) := by decide +kernel
theorem dX2_init_7 : decode cX2_init 7 = .ok (.newarray .int, 2) := by decide +kernel
theorem dX2_init_9 : decode cX2_init 9 = .ok (.putfield 9, 3) := by decide +kernel
theorem dX2_init_12 : decode cX2_init 12 = .ok (.return_, 1) := by decide +kernel
theorem dX2_columnOf_0 : decode cX2_columnOf 0 = .ok (.iload_n 1, 1) := by decide +kernel
theorem dX2_columnOf_1 : decode cX2_columnOf 1 = .ok (.iconst 0, 1) := by decide +kernel
theorem dX2_columnOf_2 : decode cX2_columnOf 2 = .ok (.aload_n 0, 1) := by decide +kernel
theorem dX2_columnOf_3 : decode cX2_columnOf 3 = .ok (.getfield 9, 3) := by decide +kernel
theorem dX2_columnOf_6 : decode cX2_columnOf 6 = .ok (.arraylength, 1) := by decide +kernel
theorem dX2_columnOf_7 : decode cX2_columnOf 7 = .ok (.iconst 1, 1) := by decide +kernel
theorem dX2_columnOf_8 : decode cX2_columnOf 8 = .ok (.isub, 1) := by decide +kernel
theorem dX2_columnOf_9 : decode cX2_columnOf 9 = .ok (.invokestatic 15, 3) := by decide +kernel
theorem dX2_columnOf_12 : decode cX2_columnOf 12 = .ok (.ifCond .eq 12, 3) := by decide +kernel
theorem dX2_columnOf_15 : decode cX2_columnOf 15 = .ok (.aload_n 0, 1) := by decide +kernel
theorem dX2_columnOf_16 : decode cX2_columnOf 16 = .ok (.getfield 9, 3) := by decide +kernel
theorem dX2_columnOf_19 : decode cX2_columnOf 19 = .ok (.iload_n 1, 1) := by decide +kernel
theorem dX2_columnOf_20 : decode cX2_columnOf 20 = .ok (.iaload, 1) := by decide +kernel
theorem dX2_columnOf_21 : decode cX2_columnOf 21 = .ok (.goto 5, 3) := by decide +kernel
theorem dX2_columnOf_24 : decode cX2_columnOf 24 = .ok (.bipush (-6), 2) := by decide +kernel
theorem dX2_columnOf_26 : decode cX2_columnOf 26 = .ok (.ireturn, 1) := by decide +kernel
theorem dX2_putColumn_0 : decode cX2_putColumn 0 = .ok (.iload_n 1, 1) := by decide +kernel
theorem dX2_putColumn_1 : decode cX2_putColumn 1 = .ok (.iconst 0, 1) := by decide +kernel
theorem dX2_putColumn_2 : decode cX2_putColumn 2 = .ok (.aload_n 0, 1) := by decide +kernel
theorem dX2_putColumn_3 : decode cX2_putColumn 3 = .ok (.getfield 9, 3) := by decide +kernel
theorem dX2_putColumn_6 : decode cX2_putColumn 6 = .ok (.arraylength, 1) := by decide +kernel
theorem dX2_putColumn_7 : decode cX2_putColumn 7 = .ok (.iconst 1, 1) := by decide +kernel
theorem dX2_putColumn_8 : decode cX2_putColumn 8 = .ok (.isub, 1) := by decide +kernel
theorem dX2_putColumn_9 : decode cX2_putColumn 9 = .ok (.invokestatic 15, 3) := by decide +kernel
theorem dX2_putColumn_12 : decode cX2_putColumn 12 = .ok (.ifCond .eq 10, 3) := by decide +kernel
theorem dX2_putColumn_15 : decode cX2_putColumn 15 = .ok (.aload_n 0, 1) := by decide +kernel
theorem dX2_putColumn_16 : decode cX2_putColumn 16 = .ok (.getfield 9, 3) := by decide +kernel
theorem dX2_putColumn_19 : decode cX2_putColumn 19 = .ok (.iload_n 1, 1) := by decide +kernel
theorem dX2_putColumn_20 : decode cX2_putColumn 20 = .ok (.iload_n 2, 1) := by decide +kernel
theorem dX2_putColumn_21 : decode cX2_putColumn 21 = .ok (.iastore, 1) := by decide +kernel
theorem dX2_putColumn_22 : decode cX2_putColumn 22 = .ok (.return_, 1) := by decide +kernel
theorem dX2_shownBits_0 : decode cX2_shownBits 0 = .ok (.iconst 0, 1) := by decide +kernel
theorem dX2_shownBits_1 : decode cX2_shownBits 1 = .ok (.istore_n 1, 1) := by decide +kernel
theorem dX2_shownBits_2 : decode cX2_shownBits 2 = .ok (.iconst 0, 1) := by decide +kernel
theorem dX2_shownBits_3 : decode cX2_shownBits 3 = .ok (.istore_n 2, 1) := by decide +kernel
theorem dX2_shownBits_4 : decode cX2_shownBits 4 = .ok (.iload_n 2, 1) := by decide +kernel
theorem dX2_shownBits_5 : decode cX2_shownBits 5 = .ok (.aload_n 0, 1) := by decide +kernel
theorem dX2_shownBits_6 : decode cX2_shownBits 6 = .ok (.getfield 9, 3) := by decide +kernel
theorem dX2_shownBits_9 : decode cX2_shownBits 9 = .ok (.arraylength, 1) := by decide +kernel
theorem dX2_shownBits_10 : decode cX2_shownBits 10 = .ok (.if_icmp .ge 26, 3) := by decide +kernel
theorem dX2_shownBits_13 : decode cX2_shownBits 13 = .ok (.aload_n 0, 1) := by decide +kernel
theorem dX2_shownBits_14 : decode cX2_shownBits 14 = .ok (.getfield 9, 3) := by decide +kernel
theorem dX2_shownBits_17 : decode cX2_shownBits 17 = .ok (.iload_n 2, 1) := by decide +kernel
theorem dX2_shownBits_18 : decode cX2_shownBits 18 = .ok (.iaload, 1) := by decide +kernel
theorem dX2_shownBits_19 : decode cX2_shownBits 19 = .ok (.bipush (-6), 2) := by decide +kernel
theorem dX2_shownBits_21 : decode cX2_shownBits 21 = .ok (.if_icmp .eq 9, 3) := by decide +kernel
theorem dX2_shownBits_24 : decode cX2_shownBits 24 = .ok (.iload_n 1, 1) := by decide +kernel
theorem dX2_shownBits_25 : decode cX2_shownBits 25 = .ok (.iconst 1, 1) := by decide +kernel
theorem dX2_shownBits_26 : decode cX2_shownBits 26 = .ok (.iload_n 2, 1) := by decide +kernel
theorem dX2_shownBits_27 : decode cX2_shownBits 27 = .ok (.ishl, 1) := by decide +kernel
theorem dX2_shownBits_28 : decode cX2_shownBits 28 = .ok (.ior, 1) := by decide +kernel
theorem dX2_shownBits_29 : decode cX2_shownBits 29 = .ok (.istore_n 1, 1) := by decide +kernel
theorem dX2_shownBits_30 : decode cX2_shownBits 30 = .ok (.iinc 2 1, 3) := by decide +kernel
theorem dX2_shownBits_33 : decode cX2_shownBits 33 = .ok (.goto (-29), 3) := by decide +kernel
theorem dX2_shownBits_36 : decode cX2_shownBits 36 = .ok (.iload_n 1, 1) := by decide +kernel
theorem dX2_shownBits_37 : decode cX2_shownBits 37 = .ok (.ireturn, 1) := by decide +kernel
theorem dX2_copyFrom_0 : decode cX2_copyFrom 0 = .ok (.aload_n 0, 1) := by decide +kernel
theorem dX2_copyFrom_1 : decode cX2_copyFrom 1 = .ok (.aload_n 1, 1) := by decide +kernel
theorem dX2_copyFrom_2 : decode cX2_copyFrom 2 = .ok (.getfield 19, 3) := by decide +kernel
theorem dX2_copyFrom_5 : decode cX2_copyFrom 5 = .ok (.putfield 19, 3) := by decide +kernel
theorem dX2_copyFrom_8 : decode cX2_copyFrom 8 = .ok (.iconst 0, 1) := by decide +kernel
theorem dX2_copyFrom_9 : decode cX2_copyFrom 9 = .ok (.istore_n 2, 1) := by decide +kernel
theorem dX2_copyFrom_10 : decode cX2_copyFrom 10 = .ok (.iload_n 2, 1) := by decide +kernel
theorem dX2_copyFrom_11 : decode cX2_copyFrom 11 = .ok (.aload_n 0, 1) := by decide +kernel
theorem dX2_copyFrom_12 : decode cX2_copyFrom 12 = .ok (.getfield 9, 3) := by decide +kernel
theorem dX2_copyFrom_15 : decode cX2_copyFrom 15 = .ok (.arraylength, 1) := by decide +kernel
theorem dX2_copyFrom_16 : decode cX2_copyFrom 16 = .ok (.if_icmp .ge 20, 3) := by decide +kernel
theorem dX2_copyFrom_19 : decode cX2_copyFrom 19 = .ok (.aload_n 0, 1) := by decide +kernel
theorem dX2_copyFrom_20 : decode cX2_copyFrom 20 = .ok (.getfield 9, 3) := by decide +kernel
theorem dX2_copyFrom_23 : decode cX2_copyFrom 23 = .ok (.iload_n 2, 1) := by decide +kernel
theorem dX2_copyFrom_24 : decode cX2_copyFrom 24 = .ok (.aload_n 1, 1) := by decide +kernel
theorem dX2_copyFrom_25 : decode cX2_copyFrom 25 = .ok (.iload_n 2, 1) := by decide +kernel
theorem dX2_copyFrom_26 : decode cX2_copyFrom 26 = .ok (.invokevirtual 23, 3) := by decide +kernel
theorem dX2_copyFrom_29 : decode cX2_copyFrom 29 = .ok (.iastore, 1) := by decide +kernel
theorem dX2_copyFrom_30 : decode cX2_copyFrom 30 = .ok (.iinc 2 1, 3) := by decide +kernel
theorem dX2_copyFrom_33 : decode cX2_copyFrom 33 = .ok (.goto (-23), 3) := by decide +kernel
theorem dX2_copyFrom_36 : decode cX2_copyFrom 36 = .ok (.return_, 1) := by decide +kernel
theorem dX2_sharesWith_0 : decode cX2_sharesWith 0 = .ok (.aload_n 0, 1) := by decide +kernel
theorem dX2_sharesWith_1 : decode cX2_sharesWith 1 = .ok (.iload_n 2, 1) := by decide +kernel
theorem dX2_sharesWith_2 : decode cX2_sharesWith 2 = .ok (.invokevirtual 23, 3) := by decide +kernel
theorem dX2_sharesWith_5 : decode cX2_sharesWith 5 = .ok (.bipush (-6), 2) := by decide +kernel
theorem dX2_sharesWith_7 : decode cX2_sharesWith 7 = .ok (.if_icmp .eq 17, 3) := by decide +kernel
theorem dX2_sharesWith_10 : decode cX2_sharesWith 10 = .ok (.aload_n 1, 1) := by decide +kernel
theorem dX2_sharesWith_11 : decode cX2_sharesWith 11 = .ok (.iload_n 2, 1) := by decide +kernel
theorem dX2_sharesWith_12 : decode cX2_sharesWith 12 = .ok (.invokevirtual 23, 3) := by decide +kernel
theorem dX2_sharesWith_15 : decode cX2_sharesWith 15 = .ok (.bipush (-6), 2) := by decide +kernel
theorem dX2_sharesWith_17 : decode cX2_sharesWith 17 = .ok (.if_icmp .eq 7, 3) := by decide +kernel
theorem dX2_sharesWith_20 : decode cX2_sharesWith 20 = .ok (.iconst 1, 1) := by decide +kernel
theorem dX2_sharesWith_21 : decode cX2_sharesWith 21 = .ok (.goto 4, 3) := by decide +kernel
theorem dX2_sharesWith_24 : decode cX2_sharesWith 24 = .ok (.iconst 0, 1) := by decide +kernel
theorem dX2_sharesWith_25 : decode cX2_sharesWith 25 = .ok (.ireturn, 1) := by decide +kernel
theorem dX2_shiftTo_0 : decode cX2_shiftTo 0 = .ok (.aload_n 0, 1) := by decide +kernel
theorem dX2_shiftTo_1 : decode cX2_shiftTo 1 = .ok (.iload_n 2, 1) := by decide +kernel
theorem dX2_shiftTo_2 : decode cX2_shiftTo 2 = .ok (.invokevirtual 23, 3) := by decide +kernel
theorem dX2_shiftTo_5 : decode cX2_shiftTo 5 = .ok (.aload_n 1, 1) := by decide +kernel
theorem dX2_shiftTo_6 : decode cX2_shiftTo 6 = .ok (.iload_n 2, 1) := by decide +kernel
theorem dX2_shiftTo_7 : decode cX2_shiftTo 7 = .ok (.invokevirtual 23, 3) := by decide +kernel
theorem dX2_shiftTo_10 : decode cX2_shiftTo 10 = .ok (.isub, 1) := by decide +kernel
theorem dX2_shiftTo_11 : decode cX2_shiftTo 11 = .ok (.ireturn, 1) := by decide +kernel
theorem dX2_kindWith_0 : decode cX2_kindWith 0 = .ok (.iconst 0, 1) := by decide +kernel
theorem dX2_kindWith_1 : decode cX2_kindWith 1 = .ok (.istore_n 2, 1) := by decide +kernel
theorem dX2_kindWith_2 : decode cX2_kindWith 2 = .ok (.iconst 0, 1) := by decide +kernel
theorem dX2_kindWith_3 : decode cX2_kindWith 3 = .ok (.istore_n 3, 1) := by decide +kernel
theorem dX2_kindWith_4 : decode cX2_kindWith 4 = .ok (.iconst 0, 1) := by decide +kernel
theorem dX2_kindWith_5 : decode cX2_kindWith 5 = .ok (.istore 4, 2) := by decide +kernel
theorem dX2_kindWith_7 : decode cX2_kindWith 7 = .ok (.iload 4, 2) := by decide +kernel
theorem dX2_kindWith_9 : decode cX2_kindWith 9 = .ok (.aload_n 0, 1) := by decide +kernel
theorem dX2_kindWith_10 : decode cX2_kindWith 10 = .ok (.getfield 9, 3) := by decide +kernel
theorem dX2_kindWith_13 : decode cX2_kindWith 13 = .ok (.arraylength, 1) := by decide +kernel
theorem dX2_kindWith_14 : decode cX2_kindWith 14 = .ok (.if_icmp .ge 55, 3) := by decide +kernel
theorem dX2_kindWith_17 : decode cX2_kindWith 17 = .ok (.aload_n 0, 1) := by decide +kernel
theorem dX2_kindWith_18 : decode cX2_kindWith 18 = .ok (.aload_n 1, 1) := by decide +kernel
theorem dX2_kindWith_19 : decode cX2_kindWith 19 = .ok (.iload 4, 2) := by decide +kernel
theorem dX2_kindWith_21 : decode cX2_kindWith 21 = .ok (.invokevirtual 27, 3) := by decide +kernel
theorem dX2_kindWith_24 : decode cX2_kindWith 24 = .ok (.ifCond .eq 39, 3) := by decide +kernel
theorem dX2_kindWith_27 : decode cX2_kindWith 27 = .ok (.iload_n 2, 1) := by decide +kernel
theorem dX2_kindWith_28 : decode cX2_kindWith 28 = .ok (.aload_n 0, 1) := by decide +kernel
theorem dX2_kindWith_29 : decode cX2_kindWith 29 = .ok (.aload_n 1, 1) := by decide +kernel
theorem dX2_kindWith_30 : decode cX2_kindWith 30 = .ok (.iload 4, 2) := by decide +kernel
theorem dX2_kindWith_32 : decode cX2_kindWith 32 = .ok (.invokevirtual 31, 3) := by decide +kernel
theorem dX2_kindWith_35 : decode cX2_kindWith 35 = .ok (.ifCond .le 7, 3) := by decide +kernel
theorem dX2_kindWith_38 : decode cX2_kindWith 38 = .ok (.iconst 1, 1) := by decide +kernel
theorem dX2_kindWith_39 : decode cX2_kindWith 39 = .ok (.goto 4, 3) := by decide +kernel
theorem dX2_kindWith_42 : decode cX2_kindWith 42 = .ok (.iconst 0, 1) := by decide +kernel
theorem dX2_kindWith_43 : decode cX2_kindWith 43 = .ok (.ior, 1) := by decide +kernel
theorem dX2_kindWith_44 : decode cX2_kindWith 44 = .ok (.istore_n 2, 1) := by decide +kernel
theorem dX2_kindWith_45 : decode cX2_kindWith 45 = .ok (.iload_n 3, 1) := by decide +kernel
theorem dX2_kindWith_46 : decode cX2_kindWith 46 = .ok (.aload_n 0, 1) := by decide +kernel
theorem dX2_kindWith_47 : decode cX2_kindWith 47 = .ok (.aload_n 1, 1) := by decide +kernel
theorem dX2_kindWith_48 : decode cX2_kindWith 48 = .ok (.iload 4, 2) := by decide +kernel
theorem dX2_kindWith_50 : decode cX2_kindWith 50 = .ok (.invokevirtual 31, 3) := by decide +kernel
theorem dX2_kindWith_53 : decode cX2_kindWith 53 = .ok (.ifCond .ge 7, 3) := by decide +kernel
theorem dX2_kindWith_56 : decode cX2_kindWith 56 = .ok (.iconst 1, 1) := by decide +kernel
theorem dX2_kindWith_57 : decode cX2_kindWith 57 = .ok (.goto 4, 3) := by decide +kernel
theorem dX2_kindWith_60 : decode cX2_kindWith 60 = .ok (.iconst 0, 1) := by decide +kernel
theorem dX2_kindWith_61 : decode cX2_kindWith 61 = .ok (.ior, 1) := by decide +kernel
theorem dX2_kindWith_62 : decode cX2_kindWith 62 = .ok (.istore_n 3, 1) := by decide +kernel
theorem dX2_kindWith_63 : decode cX2_kindWith 63 = .ok (.iinc 4 1, 3) := by decide +kernel
theorem dX2_kindWith_66 : decode cX2_kindWith 66 = .ok (.goto (-59), 3) := by decide +kernel
theorem dX2_kindWith_69 : decode cX2_kindWith 69 = .ok (.iload_n 2, 1) := by decide +kernel
theorem dX2_kindWith_70 : decode cX2_kindWith 70 = .ok (.ifCond .eq 13, 3) := by decide +kernel
theorem dX2_kindWith_73 : decode cX2_kindWith 73 = .ok (.iload_n 3, 1) := by decide +kernel
theorem dX2_kindWith_74 : decode cX2_kindWith 74 = .ok (.ifCond .eq 7, 3) := by decide +kernel
theorem dX2_kindWith_77 : decode cX2_kindWith 77 = .ok (.iconst 3, 1) := by decide +kernel
theorem dX2_kindWith_78 : decode cX2_kindWith 78 = .ok (.goto 4, 3) := by decide +kernel
theorem dX2_kindWith_81 : decode cX2_kindWith 81 = .ok (.iconst 0, 1) := by decide +kernel
theorem dX2_kindWith_82 : decode cX2_kindWith 82 = .ok (.ireturn, 1) := by decide +kernel
theorem dX2_kindWith_83 : decode cX2_kindWith 83 = .ok (.iload_n 3, 1) := by decide +kernel
theorem dX2_kindWith_84 : decode cX2_kindWith 84 = .ok (.ifCond .eq 7, 3) := by decide +kernel
theorem dX2_kindWith_87 : decode cX2_kindWith 87 = .ok (.iconst 2, 1) := by decide +kernel
theorem dX2_kindWith_88 : decode cX2_kindWith 88 = .ok (.goto 4, 3) := by decide +kernel
theorem dX2_kindWith_91 : decode cX2_kindWith 91 = .ok (.iconst 1, 1) := by decide +kernel
theorem dX2_kindWith_92 : decode cX2_kindWith 92 = .ok (.ireturn, 1) := by decide +kernel
theorem dX2_countSharedWith_0 : decode cX2_countSharedWith 0 = .ok (.aload_n 0, 1) := by decide +kernel
theorem dX2_countSharedWith_1 : decode cX2_countSharedWith 1 = .ok (.invokevirtual 35, 3) := by decide +kernel
theorem dX2_countSharedWith_4 : decode cX2_countSharedWith 4 = .ok (.aload_n 1, 1) := by decide +kernel
theorem dX2_countSharedWith_5 : decode cX2_countSharedWith 5 = .ok (.invokevirtual 35, 3) := by decide +kernel
theorem dX2_countSharedWith_8 : decode cX2_countSharedWith 8 = .ok (.iand, 1) := by decide +kernel
theorem dX2_countSharedWith_9 : decode cX2_countSharedWith 9 = .ok (.invokestatic 39, 3) := by decide +kernel
theorem dX2_countSharedWith_12 : decode cX2_countSharedWith 12 = .ok (.ireturn, 1) := by decide +kernel
theorem dX2_nearestWith_0 : decode cX2_nearestWith 0 = .ok (.iconst 0, 1) := by decide +kernel
theorem dX2_nearestWith_1 : decode cX2_nearestWith 1 = .ok (.istore_n 3, 1) := by decide +kernel
theorem dX2_nearestWith_2 : decode cX2_nearestWith 2 = .ok (.iload_n 3, 1) := by decide +kernel
theorem dX2_nearestWith_3 : decode cX2_nearestWith 3 = .ok (.aload_n 0, 1) := by decide +kernel
theorem dX2_nearestWith_4 : decode cX2_nearestWith 4 = .ok (.getfield 9, 3) := by decide +kernel
theorem dX2_nearestWith_7 : decode cX2_nearestWith 7 = .ok (.arraylength, 1) := by decide +kernel
theorem dX2_nearestWith_8 : decode cX2_nearestWith 8 = .ok (.if_icmp .ge 30, 3) := by decide +kernel
theorem dX2_nearestWith_11 : decode cX2_nearestWith 11 = .ok (.aload_n 0, 1) := by decide +kernel
theorem dX2_nearestWith_12 : decode cX2_nearestWith 12 = .ok (.aload_n 1, 1) := by decide +kernel
theorem dX2_nearestWith_13 : decode cX2_nearestWith 13 = .ok (.iload_n 3, 1) := by decide +kernel
theorem dX2_nearestWith_14 : decode cX2_nearestWith 14 = .ok (.invokevirtual 27, 3) := by decide +kernel
theorem dX2_nearestWith_17 : decode cX2_nearestWith 17 = .ok (.ifCond .eq 15, 3) := by decide +kernel
theorem dX2_nearestWith_20 : decode cX2_nearestWith 20 = .ok (.aload_n 0, 1) := by decide +kernel
theorem dX2_nearestWith_21 : decode cX2_nearestWith 21 = .ok (.aload_n 1, 1) := by decide +kernel
theorem dX2_nearestWith_22 : decode cX2_nearestWith 22 = .ok (.iload_n 3, 1) := by decide +kernel
theorem dX2_nearestWith_23 : decode cX2_nearestWith 23 = .ok (.invokevirtual 44, 3) := by decide +kernel
theorem dX2_nearestWith_26 : decode cX2_nearestWith 26 = .ok (.iload_n 2, 1) := by decide +kernel
theorem dX2_nearestWith_27 : decode cX2_nearestWith 27 = .ok (.if_icmp .ne 5, 3) := by decide +kernel
theorem dX2_nearestWith_30 : decode cX2_nearestWith 30 = .ok (.iload_n 3, 1) := by decide +kernel
theorem dX2_nearestWith_31 : decode cX2_nearestWith 31 = .ok (.ireturn, 1) := by decide +kernel
theorem dX2_nearestWith_32 : decode cX2_nearestWith 32 = .ok (.iinc 3 1, 3) := by decide +kernel
theorem dX2_nearestWith_35 : decode cX2_nearestWith 35 = .ok (.goto (-33), 3) := by decide +kernel
theorem dX2_nearestWith_38 : decode cX2_nearestWith 38 = .ok (.bipush (-6), 2) := by decide +kernel
theorem dX2_nearestWith_40 : decode cX2_nearestWith 40 = .ok (.ireturn, 1) := by decide +kernel
theorem dX2_countBefore_0 : decode cX2_countBefore 0 = .ok (.aload_n 0, 1) := by decide +kernel
theorem dX2_countBefore_1 : decode cX2_countBefore 1 = .ok (.aload_n 1, 1) := by decide +kernel
theorem dX2_countBefore_2 : decode cX2_countBefore 2 = .ok (.iload_n 2, 1) := by decide +kernel
theorem dX2_countBefore_3 : decode cX2_countBefore 3 = .ok (.invokevirtual 31, 3) := by decide +kernel
theorem dX2_countBefore_6 : decode cX2_countBefore 6 = .ok (.istore_n 3, 1) := by decide +kernel
theorem dX2_countBefore_7 : decode cX2_countBefore 7 = .ok (.iconst 0, 1) := by decide +kernel
theorem dX2_countBefore_8 : decode cX2_countBefore 8 = .ok (.istore 4, 2) := by decide +kernel
theorem dX2_countBefore_10 : decode cX2_countBefore 10 = .ok (.iconst 0, 1) := by decide +kernel
theorem dX2_countBefore_11 : decode cX2_countBefore 11 = .ok (.istore 5, 2) := by decide +kernel
theorem dX2_countBefore_13 : decode cX2_countBefore 13 = .ok (.iload 5, 2) := by decide +kernel
theorem dX2_countBefore_15 : decode cX2_countBefore 15 = .ok (.aload_n 0, 1) := by decide +kernel
theorem dX2_countBefore_16 : decode cX2_countBefore 16 = .ok (.getfield 9, 3) := by decide +kernel
theorem dX2_countBefore_19 : decode cX2_countBefore 19 = .ok (.arraylength, 1) := by decide +kernel
theorem dX2_countBefore_20 : decode cX2_countBefore 20 = .ok (.if_icmp .ge 49, 3) := by decide +kernel
theorem dX2_countBefore_23 : decode cX2_countBefore 23 = .ok (.aload_n 0, 1) := by decide +kernel
theorem dX2_countBefore_24 : decode cX2_countBefore 24 = .ok (.aload_n 1, 1) := by decide +kernel
theorem dX2_countBefore_25 : decode cX2_countBefore 25 = .ok (.iload 5, 2) := by decide +kernel
theorem dX2_countBefore_27 : decode cX2_countBefore 27 = .ok (.invokevirtual 27, 3) := by decide +kernel
theorem dX2_countBefore_30 : decode cX2_countBefore 30 = .ok (.ifCond .eq 33, 3) := by decide +kernel
theorem dX2_countBefore_33 : decode cX2_countBefore 33 = .ok (.aload_n 0, 1) := by decide +kernel
theorem dX2_countBefore_34 : decode cX2_countBefore 34 = .ok (.aload_n 1, 1) := by decide +kernel
theorem dX2_countBefore_35 : decode cX2_countBefore 35 = .ok (.iload 5, 2) := by decide +kernel
theorem dX2_countBefore_37 : decode cX2_countBefore 37 = .ok (.invokevirtual 31, 3) := by decide +kernel
theorem dX2_countBefore_40 : decode cX2_countBefore 40 = .ok (.istore 6, 2) := by decide +kernel
theorem dX2_countBefore_42 : decode cX2_countBefore 42 = .ok (.iload 6, 2) := by decide +kernel
theorem dX2_countBefore_44 : decode cX2_countBefore 44 = .ok (.iload_n 3, 1) := by decide +kernel
theorem dX2_countBefore_45 : decode cX2_countBefore 45 = .ok (.if_icmp .gt 15, 3) := by decide +kernel
theorem dX2_countBefore_48 : decode cX2_countBefore 48 = .ok (.iload 6, 2) := by decide +kernel
theorem dX2_countBefore_50 : decode cX2_countBefore 50 = .ok (.iload_n 3, 1) := by decide +kernel
theorem dX2_countBefore_51 : decode cX2_countBefore 51 = .ok (.if_icmp .ne 12, 3) := by decide +kernel
theorem dX2_countBefore_54 : decode cX2_countBefore 54 = .ok (.iload 5, 2) := by decide +kernel
theorem dX2_countBefore_56 : decode cX2_countBefore 56 = .ok (.iload_n 2, 1) := by decide +kernel
theorem dX2_countBefore_57 : decode cX2_countBefore 57 = .ok (.if_icmp .ge 6, 3) := by decide +kernel
theorem dX2_countBefore_60 : decode cX2_countBefore 60 = .ok (.iinc 4 1, 3) := by decide +kernel
theorem dX2_countBefore_63 : decode cX2_countBefore 63 = .ok (.iinc 5 1, 3) := by decide +kernel
theorem dX2_countBefore_66 : decode cX2_countBefore 66 = .ok (.goto (-53), 3) := by decide +kernel
theorem dX2_countBefore_69 : decode cX2_countBefore 69 = .ok (.iload 4, 2) := by decide +kernel
theorem dX2_countBefore_71 : decode cX2_countBefore 71 = .ok (.ireturn, 1) := by decide +kernel
theorem dX3_init_0 : decode cX3_init 0 = .ok (.aload_n 0, 1) := by decide +kernel
theorem dX3_init_1 : decode cX3_init 1 = .ok (.invokespecial 3, 3) := by decide +kernel
theorem dX3_init_4 : decode cX3_init 4 = .ok (.aload_n 0, 1) := by decide +kernel
theorem dX3_init_5 : decode cX3_init 5 = .ok (.bipush 6, 2) := by decide +kernel
theorem dX3_init_7 : decode cX3_init 7 = .ok (.anewarray 9, 3) := by decide +kernel
theorem dX3_init_10 : decode cX3_init 10 = .ok (.putfield 11, 3) := by decide +kernel
theorem dX3_init_13 : decode cX3_init 13 = .ok (.aload_n 0, 1) := by decide +kernel
theorem dX3_init_14 : decode cX3_init 14 = .ok (.bipush 10, 2) := by decide +kernel
theorem dX3_init_16 : decode cX3_init 16 = .ok (.anewarray 17, 3) := by decide +kernel
theorem dX3_init_19 : decode cX3_init 19 = .ok (.putfield 19, 3) := by decide +kernel
theorem dX3_init_22 : decode cX3_init 22 = .ok (.aload_n 0, 1) := by decide +kernel
theorem dX3_init_23 : decode cX3_init 23 = .ok (.bipush 20, 2) := by decide +kernel
theorem dX3_init_25 : decode cX3_init 25 = .ok (.putfield 23, 3) := by decide +kernel
theorem dX3_init_28 : decode cX3_init 28 = .ok (.iconst 0, 1) := by decide +kernel
theorem dX3_init_29 : decode cX3_init 29 = .ok (.istore_n 1, 1) := by decide +kernel
theorem dX3_init_30 : decode cX3_init 30 = .ok (.iload_n 1, 1) := by decide +kernel
theorem dX3_init_31 : decode cX3_init 31 = .ok (.aload_n 0, 1) := by decide +kernel
theorem dX3_init_32 : decode cX3_init 32 = .ok (.getfield 11, 3) := by decide +kernel
theorem dX3_init_35 : decode cX3_init 35 = .ok (.arraylength, 1) := by decide +kernel
theorem dX3_init_36 : decode cX3_init 36 = .ok (.if_icmp .ge 22, 3) := by decide +kernel
theorem dX3_init_39 : decode cX3_init 39 = .ok (.aload_n 0, 1) := by decide +kernel
theorem dX3_init_40 : decode cX3_init 40 = .ok (.getfield 11, 3) := by decide +kernel
theorem dX3_init_43 : decode cX3_init 43 = .ok (.iload_n 1, 1) := by decide +kernel
theorem dX3_init_44 : decode cX3_init 44 = .ok (.new 9, 3) := by decide +kernel
theorem dX3_init_47 : decode cX3_init 47 = .ok (.dup, 1) := by decide +kernel
theorem dX3_init_48 : decode cX3_init 48 = .ok (.invokespecial 27, 3) := by decide +kernel
theorem dX3_init_51 : decode cX3_init 51 = .ok (.aastore, 1) := by decide +kernel
theorem dX3_init_52 : decode cX3_init 52 = .ok (.iinc 1 1, 3) := by decide +kernel
theorem dX3_init_55 : decode cX3_init 55 = .ok (.goto (-25), 3) := by decide +kernel
theorem dX3_init_58 : decode cX3_init 58 = .ok (.iconst 0, 1) := by decide +kernel
theorem dX3_init_59 : decode cX3_init 59 = .ok (.istore_n 1, 1) := by decide +kernel
theorem dX3_init_60 : decode cX3_init 60 = .ok (.iload_n 1, 1) := by decide +kernel
theorem dX3_init_61 : decode cX3_init 61 = .ok (.aload_n 0, 1) := by decide +kernel
theorem dX3_init_62 : decode cX3_init 62 = .ok (.getfield 19, 3) := by decide +kernel
theorem dX3_init_65 : decode cX3_init 65 = .ok (.arraylength, 1) := by decide +kernel
theorem dX3_init_66 : decode cX3_init 66 = .ok (.if_icmp .ge 22, 3) := by decide +kernel
theorem dX3_init_69 : decode cX3_init 69 = .ok (.aload_n 0, 1) := by decide +kernel
theorem dX3_init_70 : decode cX3_init 70 = .ok (.getfield 19, 3) := by decide +kernel
theorem dX3_init_73 : decode cX3_init 73 = .ok (.iload_n 1, 1) := by decide +kernel
theorem dX3_init_74 : decode cX3_init 74 = .ok (.new 17, 3) := by decide +kernel
theorem dX3_init_77 : decode cX3_init 77 = .ok (.dup, 1) := by decide +kernel
theorem dX3_init_78 : decode cX3_init 78 = .ok (.invokespecial 28, 3) := by decide +kernel
theorem dX3_init_81 : decode cX3_init 81 = .ok (.aastore, 1) := by decide +kernel
theorem dX3_init_82 : decode cX3_init 82 = .ok (.iinc 1 1, 3) := by decide +kernel
theorem dX3_init_85 : decode cX3_init 85 = .ok (.goto (-25), 3) := by decide +kernel
theorem dX3_init_88 : decode cX3_init 88 = .ok (.return_, 1) := by decide +kernel
theorem dX3_copyFrom_0 : decode cX3_copyFrom 0 = .ok (.aload_n 0, 1) := by decide +kernel
theorem dX3_copyFrom_1 : decode cX3_copyFrom 1 = .ok (.aload_n 1, 1) := by decide +kernel
theorem dX3_copyFrom_2 : decode cX3_copyFrom 2 = .ok (.getfield 23, 3) := by decide +kernel
theorem dX3_copyFrom_5 : decode cX3_copyFrom 5 = .ok (.putfield 23, 3) := by decide +kernel
theorem dX3_copyFrom_8 : decode cX3_copyFrom 8 = .ok (.iconst 0, 1) := by decide +kernel
theorem dX3_copyFrom_9 : decode cX3_copyFrom 9 = .ok (.istore_n 2, 1) := by decide +kernel
theorem dX3_copyFrom_10 : decode cX3_copyFrom 10 = .ok (.iload_n 2, 1) := by decide +kernel
theorem dX3_copyFrom_11 : decode cX3_copyFrom 11 = .ok (.bipush 6, 2) := by decide +kernel
theorem dX3_copyFrom_13 : decode cX3_copyFrom 13 = .ok (.if_icmp .ge 24, 3) := by decide +kernel
theorem dX3_copyFrom_16 : decode cX3_copyFrom 16 = .ok (.aload_n 0, 1) := by decide +kernel
theorem dX3_copyFrom_17 : decode cX3_copyFrom 17 = .ok (.getfield 11, 3) := by decide +kernel
theorem dX3_copyFrom_20 : decode cX3_copyFrom 20 = .ok (.iload_n 2, 1) := by decide +kernel
theorem dX3_copyFrom_21 : decode cX3_copyFrom 21 = .ok (.aaload, 1) := by decide +kernel
theorem dX3_copyFrom_22 : decode cX3_copyFrom 22 = .ok (.aload_n 1, 1) := by decide +kernel
theorem dX3_copyFrom_23 : decode cX3_copyFrom 23 = .ok (.getfield 11, 3) := by decide +kernel
theorem dX3_copyFrom_26 : decode cX3_copyFrom 26 = .ok (.iload_n 2, 1) := by decide +kernel
theorem dX3_copyFrom_27 : decode cX3_copyFrom 27 = .ok (.aaload, 1) := by decide +kernel
theorem dX3_copyFrom_28 : decode cX3_copyFrom 28 = .ok (.invokevirtual 29, 3) := by decide +kernel
theorem dX3_copyFrom_31 : decode cX3_copyFrom 31 = .ok (.iinc 2 1, 3) := by decide +kernel
theorem dX3_copyFrom_34 : decode cX3_copyFrom 34 = .ok (.goto (-24), 3) := by decide +kernel
theorem dX3_copyFrom_37 : decode cX3_copyFrom 37 = .ok (.iconst 0, 1) := by decide +kernel
theorem dX3_copyFrom_38 : decode cX3_copyFrom 38 = .ok (.istore_n 2, 1) := by decide +kernel
theorem dX3_copyFrom_39 : decode cX3_copyFrom 39 = .ok (.iload_n 2, 1) := by decide +kernel
theorem dX3_copyFrom_40 : decode cX3_copyFrom 40 = .ok (.bipush 10, 2) := by decide +kernel
theorem dX3_copyFrom_42 : decode cX3_copyFrom 42 = .ok (.if_icmp .ge 24, 3) := by decide +kernel
theorem dX3_copyFrom_45 : decode cX3_copyFrom 45 = .ok (.aload_n 0, 1) := by decide +kernel
theorem dX3_copyFrom_46 : decode cX3_copyFrom 46 = .ok (.getfield 19, 3) := by decide +kernel
theorem dX3_copyFrom_49 : decode cX3_copyFrom 49 = .ok (.iload_n 2, 1) := by decide +kernel
theorem dX3_copyFrom_50 : decode cX3_copyFrom 50 = .ok (.aaload, 1) := by decide +kernel
theorem dX3_copyFrom_51 : decode cX3_copyFrom 51 = .ok (.aload_n 1, 1) := by decide +kernel
theorem dX3_copyFrom_52 : decode cX3_copyFrom 52 = .ok (.getfield 19, 3) := by decide +kernel
theorem dX3_copyFrom_55 : decode cX3_copyFrom 55 = .ok (.iload_n 2, 1) := by decide +kernel
theorem dX3_copyFrom_56 : decode cX3_copyFrom 56 = .ok (.aaload, 1) := by decide +kernel
theorem dX3_copyFrom_57 : decode cX3_copyFrom 57 = .ok (.invokevirtual 33, 3) := by decide +kernel
theorem dX3_copyFrom_60 : decode cX3_copyFrom 60 = .ok (.iinc 2 1, 3) := by decide +kernel
theorem dX3_copyFrom_63 : decode cX3_copyFrom 63 = .ok (.goto (-24), 3) := by decide +kernel
theorem dX3_copyFrom_66 : decode cX3_copyFrom 66 = .ok (.return_, 1) := by decide +kernel
theorem dX3_thingAt_0 : decode cX3_thingAt 0 = .ok (.iload_n 1, 1) := by decide +kernel
theorem dX3_thingAt_1 : decode cX3_thingAt 1 = .ok (.iconst 0, 1) := by decide +kernel
theorem dX3_thingAt_2 : decode cX3_thingAt 2 = .ok (.aload_n 0, 1) := by decide +kernel
theorem dX3_thingAt_3 : decode cX3_thingAt 3 = .ok (.getfield 11, 3) := by decide +kernel
theorem dX3_thingAt_6 : decode cX3_thingAt 6 = .ok (.arraylength, 1) := by decide +kernel
theorem dX3_thingAt_7 : decode cX3_thingAt 7 = .ok (.iconst 1, 1) := by decide +kernel
theorem dX3_thingAt_8 : decode cX3_thingAt 8 = .ok (.isub, 1) := by decide +kernel
theorem dX3_thingAt_9 : decode cX3_thingAt 9 = .ok (.invokestatic 36, 3) := by decide +kernel
theorem dX3_thingAt_12 : decode cX3_thingAt 12 = .ok (.ifCond .ne 5, 3) := by decide +kernel
theorem dX3_thingAt_15 : decode cX3_thingAt 15 = .ok (.aconst_null, 1) := by decide +kernel
theorem dX3_thingAt_16 : decode cX3_thingAt 16 = .ok (.areturn, 1) := by decide +kernel
theorem dX3_thingAt_17 : decode cX3_thingAt 17 = .ok (.aload_n 0, 1) := by decide +kernel
theorem dX3_thingAt_18 : decode cX3_thingAt 18 = .ok (.getfield 11, 3) := by decide +kernel
theorem dX3_thingAt_21 : decode cX3_thingAt 21 = .ok (.iload_n 1, 1) := by decide +kernel
theorem dX3_thingAt_22 : decode cX3_thingAt 22 = .ok (.aaload, 1) := by decide +kernel
theorem dX3_thingAt_23 : decode cX3_thingAt 23 = .ok (.getfield 40, 3) := by decide +kernel
theorem dX3_thingAt_26 : decode cX3_thingAt 26 = .ok (.ifCond .eq 12, 3) := by decide +kernel
theorem dX3_thingAt_29 : decode cX3_thingAt 29 = .ok (.aload_n 0, 1) := by decide +kernel
theorem dX3_thingAt_30 : decode cX3_thingAt 30 = .ok (.getfield 11, 3) := by decide +kernel
theorem dX3_thingAt_33 : decode cX3_thingAt 33 = .ok (.iload_n 1, 1) := by decide +kernel
theorem dX3_thingAt_34 : decode cX3_thingAt 34 = .ok (.aaload, 1) := by decide +kernel
theorem dX3_thingAt_35 : decode cX3_thingAt 35 = .ok (.goto 4, 3) := by decide +kernel
theorem dX3_thingAt_38 : decode cX3_thingAt 38 = .ok (.aconst_null, 1) := by decide +kernel
theorem dX3_thingAt_39 : decode cX3_thingAt 39 = .ok (.areturn, 1) := by decide +kernel
theorem dX3_pictureAt_0 : decode cX3_pictureAt 0 = .ok (.iload_n 1, 1) := by decide +kernel
theorem dX3_pictureAt_1 : decode cX3_pictureAt 1 = .ok (.iconst 0, 1) := by decide +kernel
theorem dX3_pictureAt_2 : decode cX3_pictureAt 2 = .ok (.aload_n 0, 1) := by decide +kernel
theorem dX3_pictureAt_3 : decode cX3_pictureAt 3 = .ok (.getfield 19, 3) := by decide +kernel
theorem dX3_pictureAt_6 : decode cX3_pictureAt 6 = .ok (.arraylength, 1) := by decide +kernel
theorem dX3_pictureAt_7 : decode cX3_pictureAt 7 = .ok (.iconst 1, 1) := by decide +kernel
theorem dX3_pictureAt_8 : decode cX3_pictureAt 8 = .ok (.isub, 1) := by decide +kernel
theorem dX3_pictureAt_9 : decode cX3_pictureAt 9 = .ok (.invokestatic 36, 3) := by decide +kernel
theorem dX3_pictureAt_12 : decode cX3_pictureAt 12 = .ok (.ifCond .ne 5, 3) := by decide +kernel
theorem dX3_pictureAt_15 : decode cX3_pictureAt 15 = .ok (.aconst_null, 1) := by decide +kernel
theorem dX3_pictureAt_16 : decode cX3_pictureAt 16 = .ok (.areturn, 1) := by decide +kernel
theorem dX3_pictureAt_17 : decode cX3_pictureAt 17 = .ok (.aload_n 0, 1) := by decide +kernel
theorem dX3_pictureAt_18 : decode cX3_pictureAt 18 = .ok (.getfield 19, 3) := by decide +kernel
theorem dX3_pictureAt_21 : decode cX3_pictureAt 21 = .ok (.iload_n 1, 1) := by decide +kernel
theorem dX3_pictureAt_22 : decode cX3_pictureAt 22 = .ok (.aaload, 1) := by decide +kernel
theorem dX3_pictureAt_23 : decode cX3_pictureAt 23 = .ok (.getfield 44, 3) := by decide +kernel
theorem dX3_pictureAt_26 : decode cX3_pictureAt 26 = .ok (.ifCond .eq 12, 3) := by decide +kernel
theorem dX3_pictureAt_29 : decode cX3_pictureAt 29 = .ok (.aload_n 0, 1) := by decide +kernel
theorem dX3_pictureAt_30 : decode cX3_pictureAt 30 = .ok (.getfield 19, 3) := by decide +kernel
theorem dX3_pictureAt_33 : decode cX3_pictureAt 33 = .ok (.iload_n 1, 1) := by decide +kernel
theorem dX3_pictureAt_34 : decode cX3_pictureAt 34 = .ok (.aaload, 1) := by decide +kernel
theorem dX3_pictureAt_35 : decode cX3_pictureAt 35 = .ok (.goto 4, 3) := by decide +kernel
theorem dX3_pictureAt_38 : decode cX3_pictureAt 38 = .ok (.aconst_null, 1) := by decide +kernel
theorem dX3_pictureAt_39 : decode cX3_pictureAt 39 = .ok (.areturn, 1) := by decide +kernel
theorem dX3_putThing_0 : decode cX3_putThing 0 = .ok (.iload_n 1, 1) := by decide +kernel
theorem dX3_putThing_1 : decode cX3_putThing 1 = .ok (.iconst 0, 1) := by decide +kernel
theorem dX3_putThing_2 : decode cX3_putThing 2 = .ok (.aload_n 0, 1) := by decide +kernel
theorem dX3_putThing_3 : decode cX3_putThing 3 = .ok (.getfield 11, 3) := by decide +kernel
theorem dX3_putThing_6 : decode cX3_putThing 6 = .ok (.arraylength, 1) := by decide +kernel
theorem dX3_putThing_7 : decode cX3_putThing 7 = .ok (.iconst 1, 1) := by decide +kernel
theorem dX3_putThing_8 : decode cX3_putThing 8 = .ok (.isub, 1) := by decide +kernel
theorem dX3_putThing_9 : decode cX3_putThing 9 = .ok (.invokestatic 36, 3) := by decide +kernel
theorem dX3_putThing_12 : decode cX3_putThing 12 = .ok (.ifCond .ne 4, 3) := by decide +kernel
theorem dX3_putThing_15 : decode cX3_putThing 15 = .ok (.return_, 1) := by decide +kernel
theorem dX3_putThing_16 : decode cX3_putThing 16 = .ok (.aload_n 0, 1) := by decide +kernel
theorem dX3_putThing_17 : decode cX3_putThing 17 = .ok (.getfield 11, 3) := by decide +kernel
theorem dX3_putThing_20 : decode cX3_putThing 20 = .ok (.iload_n 1, 1) := by decide +kernel
theorem dX3_putThing_21 : decode cX3_putThing 21 = .ok (.aaload, 1) := by decide +kernel
theorem dX3_putThing_22 : decode cX3_putThing 22 = .ok (.astore 5, 2) := by decide +kernel
theorem dX3_putThing_24 : decode cX3_putThing 24 = .ok (.aload 5, 2) := by decide +kernel
theorem dX3_putThing_26 : decode cX3_putThing 26 = .ok (.iconst 1, 1) := by decide +kernel
theorem dX3_putThing_27 : decode cX3_putThing 27 = .ok (.putfield 40, 3) := by decide +kernel
theorem dX3_putThing_30 : decode cX3_putThing 30 = .ok (.aload 5, 2) := by decide +kernel
theorem dX3_putThing_32 : decode cX3_putThing 32 = .ok (.iload_n 2, 1) := by decide +kernel
theorem dX3_putThing_33 : decode cX3_putThing 33 = .ok (.putfield 45, 3) := by decide +kernel
theorem dX3_putThing_36 : decode cX3_putThing 36 = .ok (.aload 5, 2) := by decide +kernel
theorem dX3_putThing_38 : decode cX3_putThing 38 = .ok (.iload_n 3, 1) := by decide +kernel
theorem dX3_putThing_39 : decode cX3_putThing 39 = .ok (.putfield 48, 3) := by decide +kernel
theorem dX3_putThing_42 : decode cX3_putThing 42 = .ok (.aload 5, 2) := by decide +kernel
theorem dX3_putThing_44 : decode cX3_putThing 44 = .ok (.iload 4, 2) := by decide +kernel
theorem dX3_putThing_46 : decode cX3_putThing 46 = .ok (.putfield 51, 3) := by decide +kernel
theorem dX3_putThing_49 : decode cX3_putThing 49 = .ok (.return_, 1) := by decide +kernel
theorem dX3_takePicture_0 : decode cX3_takePicture 0 = .ok (.iload_n 1, 1) := by decide +kernel
theorem dX3_takePicture_1 : decode cX3_takePicture 1 = .ok (.iconst 0, 1) := by decide +kernel
theorem dX3_takePicture_2 : decode cX3_takePicture 2 = .ok (.aload_n 0, 1) := by decide +kernel
theorem dX3_takePicture_3 : decode cX3_takePicture 3 = .ok (.getfield 19, 3) := by decide +kernel
theorem dX3_takePicture_6 : decode cX3_takePicture 6 = .ok (.arraylength, 1) := by decide +kernel
theorem dX3_takePicture_7 : decode cX3_takePicture 7 = .ok (.iconst 1, 1) := by decide +kernel
theorem dX3_takePicture_8 : decode cX3_takePicture 8 = .ok (.isub, 1) := by decide +kernel
theorem dX3_takePicture_9 : decode cX3_takePicture 9 = .ok (.invokestatic 36, 3) := by decide +kernel
theorem dX3_takePicture_12 : decode cX3_takePicture 12 = .ok (.ifCond .ne 5, 3) := by decide +kernel
theorem dX3_takePicture_15 : decode cX3_takePicture 15 = .ok (.iconst (-1), 1) := by decide +kernel
theorem dX3_takePicture_16 : decode cX3_takePicture 16 = .ok (.ireturn, 1) := by decide +kernel
theorem dX3_takePicture_17 : decode cX3_takePicture 17 = .ok (.aload_n 0, 1) := by decide +kernel
theorem dX3_takePicture_18 : decode cX3_takePicture 18 = .ok (.getfield 19, 3) := by decide +kernel
theorem dX3_takePicture_21 : decode cX3_takePicture 21 = .ok (.iload_n 1, 1) := by decide +kernel
theorem dX3_takePicture_22 : decode cX3_takePicture 22 = .ok (.aaload, 1) := by decide +kernel
theorem dX3_takePicture_23 : decode cX3_takePicture 23 = .ok (.astore 4, 2) := by decide +kernel
theorem dX3_takePicture_25 : decode cX3_takePicture 25 = .ok (.aload 4, 2) := by decide +kernel
theorem dX3_takePicture_27 : decode cX3_takePicture 27 = .ok (.iconst 1, 1) := by decide +kernel
theorem dX3_takePicture_28 : decode cX3_takePicture 28 = .ok (.putfield 44, 3) := by decide +kernel
theorem dX3_takePicture_31 : decode cX3_takePicture 31 = .ok (.aload_n 0, 1) := by decide +kernel
theorem dX3_takePicture_32 : decode cX3_takePicture 32 = .ok (.aload 4, 2) := by decide +kernel
theorem dX3_takePicture_34 : decode cX3_takePicture 34 = .ok (.iload_n 2, 1) := by decide +kernel
theorem dX3_takePicture_35 : decode cX3_takePicture 35 = .ok (.iload_n 3, 1) := by decide +kernel
theorem dX3_takePicture_36 : decode cX3_takePicture 36 = .ok (.invokevirtual 54, 3) := by decide +kernel
theorem dX3_takePicture_39 : decode cX3_takePicture 39 = .ok (.aload 4, 2) := by decide +kernel
theorem dX3_takePicture_41 : decode cX3_takePicture 41 = .ok (.invokevirtual 58, 3) := by decide +kernel
theorem dX3_takePicture_44 : decode cX3_takePicture 44 = .ok (.ireturn, 1) := by decide +kernel
theorem dX3_expose_0 : decode cX3_expose 0 = .ok (.iconst 0, 1) := by decide +kernel
theorem dX3_expose_1 : decode cX3_expose 1 = .ok (.istore 4, 2) := by decide +kernel
theorem dX3_expose_3 : decode cX3_expose 3 = .ok (.iload 4, 2) := by decide +kernel
theorem dX3_expose_5 : decode cX3_expose 5 = .ok (.bipush 6, 2) := by decide +kernel
theorem dX3_expose_7 : decode cX3_expose 7 = .ok (.if_icmp .ge 23, 3) := by decide +kernel
theorem dX3_expose_10 : decode cX3_expose 10 = .ok (.aload_n 1, 1) := by decide +kernel
theorem dX3_expose_11 : decode cX3_expose 11 = .ok (.iload 4, 2) := by decide +kernel
theorem dX3_expose_13 : decode cX3_expose 13 = .ok (.aload_n 0, 1) := by decide +kernel
theorem dX3_expose_14 : decode cX3_expose 14 = .ok (.iload 4, 2) := by decide +kernel
theorem dX3_expose_16 : decode cX3_expose 16 = .ok (.iload_n 2, 1) := by decide +kernel
theorem dX3_expose_17 : decode cX3_expose 17 = .ok (.iload_n 3, 1) := by decide +kernel
theorem dX3_expose_18 : decode cX3_expose 18 = .ok (.invokevirtual 62, 3) := by decide +kernel
theorem dX3_expose_21 : decode cX3_expose 21 = .ok (.invokevirtual 66, 3) := by decide +kernel
theorem dX3_expose_24 : decode cX3_expose 24 = .ok (.iinc 4 1, 3) := by decide +kernel
theorem dX3_expose_27 : decode cX3_expose 27 = .ok (.goto (-24), 3) := by decide +kernel
theorem dX3_expose_30 : decode cX3_expose 30 = .ok (.return_, 1) := by decide +kernel
theorem dX3_columnOf_0 : decode cX3_columnOf 0 = .ok (.aload_n 0, 1) := by decide +kernel
theorem dX3_columnOf_1 : decode cX3_columnOf 1 = .ok (.iload_n 1, 1) := by decide +kernel
theorem dX3_columnOf_2 : decode cX3_columnOf 2 = .ok (.invokevirtual 70, 3) := by decide +kernel
theorem dX3_columnOf_5 : decode cX3_columnOf 5 = .ok (.astore 4, 2) := by decide +kernel
theorem dX3_columnOf_7 : decode cX3_columnOf 7 = .ok (.aload 4, 2) := by decide +kernel
theorem dX3_columnOf_9 : decode cX3_columnOf 9 = .ok (.ifnonnull 8, 3) := by decide +kernel
theorem dX3_columnOf_12 : decode cX3_columnOf 12 = .ok (.bipush (-6), 2) := by decide +kernel
theorem dX3_columnOf_14 : decode cX3_columnOf 14 = .ok (.goto 14, 3) := by decide +kernel
theorem dX3_columnOf_17 : decode cX3_columnOf 17 = .ok (.aload 4, 2) := by decide +kernel
theorem dX3_columnOf_19 : decode cX3_columnOf 19 = .ok (.iload_n 2, 1) := by decide +kernel
theorem dX3_columnOf_20 : decode cX3_columnOf 20 = .ok (.iload_n 3, 1) := by decide +kernel
theorem dX3_columnOf_21 : decode cX3_columnOf 21 = .ok (.aload_n 0, 1) := by decide +kernel
theorem dX3_columnOf_22 : decode cX3_columnOf 22 = .ok (.getfield 23, 3) := by decide +kernel
theorem dX3_columnOf_25 : decode cX3_columnOf 25 = .ok (.invokevirtual 74, 3) := by decide +kernel
theorem dX3_columnOf_28 : decode cX3_columnOf 28 = .ok (.ireturn, 1) := by decide +kernel
theorem dX3_countShown_0 : decode cX3_countShown 0 = .ok (.iconst 0, 1) := by decide +kernel
theorem dX3_countShown_1 : decode cX3_countShown 1 = .ok (.istore_n 3, 1) := by decide +kernel
theorem dX3_countShown_2 : decode cX3_countShown 2 = .ok (.iconst 0, 1) := by decide +kernel
theorem dX3_countShown_3 : decode cX3_countShown 3 = .ok (.istore 4, 2) := by decide +kernel
theorem dX3_countShown_5 : decode cX3_countShown 5 = .ok (.iload 4, 2) := by decide +kernel
theorem dX3_countShown_7 : decode cX3_countShown 7 = .ok (.bipush 6, 2) := by decide +kernel
theorem dX3_countShown_9 : decode cX3_countShown 9 = .ok (.if_icmp .ge 25, 3) := by decide +kernel
theorem dX3_countShown_12 : decode cX3_countShown 12 = .ok (.aload_n 0, 1) := by decide +kernel
theorem dX3_countShown_13 : decode cX3_countShown 13 = .ok (.iload 4, 2) := by decide +kernel
theorem dX3_countShown_15 : decode cX3_countShown 15 = .ok (.iload_n 1, 1) := by decide +kernel
theorem dX3_countShown_16 : decode cX3_countShown 16 = .ok (.iload_n 2, 1) := by decide +kernel
theorem dX3_countShown_17 : decode cX3_countShown 17 = .ok (.invokevirtual 62, 3) := by decide +kernel
theorem dX3_countShown_20 : decode cX3_countShown 20 = .ok (.bipush (-6), 2) := by decide +kernel
theorem dX3_countShown_22 : decode cX3_countShown 22 = .ok (.if_icmp .eq 6, 3) := by decide +kernel
theorem dX3_countShown_25 : decode cX3_countShown 25 = .ok (.iinc 3 1, 3) := by decide +kernel
theorem dX3_countShown_28 : decode cX3_countShown 28 = .ok (.iinc 4 1, 3) := by decide +kernel
theorem dX3_countShown_31 : decode cX3_countShown 31 = .ok (.goto (-26), 3) := by decide +kernel
theorem dX3_countShown_34 : decode cX3_countShown 34 = .ok (.iload_n 3, 1) := by decide +kernel
theorem dX3_countShown_35 : decode cX3_countShown 35 = .ok (.ireturn, 1) := by decide +kernel
theorem dX3_thingBits_0 : decode cX3_thingBits 0 = .ok (.iconst 0, 1) := by decide +kernel
theorem dX3_thingBits_1 : decode cX3_thingBits 1 = .ok (.istore_n 1, 1) := by decide +kernel
theorem dX3_thingBits_2 : decode cX3_thingBits 2 = .ok (.iconst 0, 1) := by decide +kernel
theorem dX3_thingBits_3 : decode cX3_thingBits 3 = .ok (.istore_n 2, 1) := by decide +kernel
theorem dX3_thingBits_4 : decode cX3_thingBits 4 = .ok (.iload_n 2, 1) := by decide +kernel
theorem dX3_thingBits_5 : decode cX3_thingBits 5 = .ok (.aload_n 0, 1) := by decide +kernel
theorem dX3_thingBits_6 : decode cX3_thingBits 6 = .ok (.getfield 11, 3) := by decide +kernel
theorem dX3_thingBits_9 : decode cX3_thingBits 9 = .ok (.arraylength, 1) := by decide +kernel
theorem dX3_thingBits_10 : decode cX3_thingBits 10 = .ok (.if_icmp .ge 27, 3) := by decide +kernel
theorem dX3_thingBits_13 : decode cX3_thingBits 13 = .ok (.aload_n 0, 1) := by decide +kernel
theorem dX3_thingBits_14 : decode cX3_thingBits 14 = .ok (.getfield 11, 3) := by decide +kernel
theorem dX3_thingBits_17 : decode cX3_thingBits 17 = .ok (.iload_n 2, 1) := by decide +kernel
theorem dX3_thingBits_18 : decode cX3_thingBits 18 = .ok (.aaload, 1) := by decide +kernel
theorem dX3_thingBits_19 : decode cX3_thingBits 19 = .ok (.getfield 40, 3) := by decide +kernel
theorem dX3_thingBits_22 : decode cX3_thingBits 22 = .ok (.ifCond .eq 9, 3) := by decide +kernel
theorem dX3_thingBits_25 : decode cX3_thingBits 25 = .ok (.iload_n 1, 1) := by decide +kernel
theorem dX3_thingBits_26 : decode cX3_thingBits 26 = .ok (.iconst 1, 1) := by decide +kernel
theorem dX3_thingBits_27 : decode cX3_thingBits 27 = .ok (.iload_n 2, 1) := by decide +kernel
theorem dX3_thingBits_28 : decode cX3_thingBits 28 = .ok (.ishl, 1) := by decide +kernel
theorem dX3_thingBits_29 : decode cX3_thingBits 29 = .ok (.ior, 1) := by decide +kernel
theorem dX3_thingBits_30 : decode cX3_thingBits 30 = .ok (.istore_n 1, 1) := by decide +kernel
theorem dX3_thingBits_31 : decode cX3_thingBits 31 = .ok (.iinc 2 1, 3) := by decide +kernel
theorem dX3_thingBits_34 : decode cX3_thingBits 34 = .ok (.goto (-30), 3) := by decide +kernel
theorem dX3_thingBits_37 : decode cX3_thingBits 37 = .ok (.iload_n 1, 1) := by decide +kernel
theorem dX3_thingBits_38 : decode cX3_thingBits 38 = .ok (.ireturn, 1) := by decide +kernel
theorem dX3_pictureBits_0 : decode cX3_pictureBits 0 = .ok (.iconst 0, 1) := by decide +kernel
theorem dX3_pictureBits_1 : decode cX3_pictureBits 1 = .ok (.istore_n 1, 1) := by decide +kernel
theorem dX3_pictureBits_2 : decode cX3_pictureBits 2 = .ok (.iconst 0, 1) := by decide +kernel
theorem dX3_pictureBits_3 : decode cX3_pictureBits 3 = .ok (.istore_n 2, 1) := by decide +kernel
theorem dX3_pictureBits_4 : decode cX3_pictureBits 4 = .ok (.iload_n 2, 1) := by decide +kernel
theorem dX3_pictureBits_5 : decode cX3_pictureBits 5 = .ok (.aload_n 0, 1) := by decide +kernel
theorem dX3_pictureBits_6 : decode cX3_pictureBits 6 = .ok (.getfield 19, 3) := by decide +kernel
theorem dX3_pictureBits_9 : decode cX3_pictureBits 9 = .ok (.arraylength, 1) := by decide +kernel
theorem dX3_pictureBits_10 : decode cX3_pictureBits 10 = .ok (.if_icmp .ge 27, 3) := by decide +kernel
theorem dX3_pictureBits_13 : decode cX3_pictureBits 13 = .ok (.aload_n 0, 1) := by decide +kernel
theorem dX3_pictureBits_14 : decode cX3_pictureBits 14 = .ok (.getfield 19, 3) := by decide +kernel
theorem dX3_pictureBits_17 : decode cX3_pictureBits 17 = .ok (.iload_n 2, 1) := by decide +kernel
theorem dX3_pictureBits_18 : decode cX3_pictureBits 18 = .ok (.aaload, 1) := by decide +kernel
theorem dX3_pictureBits_19 : decode cX3_pictureBits 19 = .ok (.getfield 44, 3) := by decide +kernel
theorem dX3_pictureBits_22 : decode cX3_pictureBits 22 = .ok (.ifCond .eq 9, 3) := by decide +kernel
theorem dX3_pictureBits_25 : decode cX3_pictureBits 25 = .ok (.iload_n 1, 1) := by decide +kernel
theorem dX3_pictureBits_26 : decode cX3_pictureBits 26 = .ok (.iconst 1, 1) := by decide +kernel
theorem dX3_pictureBits_27 : decode cX3_pictureBits 27 = .ok (.iload_n 2, 1) := by decide +kernel
theorem dX3_pictureBits_28 : decode cX3_pictureBits 28 = .ok (.ishl, 1) := by decide +kernel
theorem dX3_pictureBits_29 : decode cX3_pictureBits 29 = .ok (.ior, 1) := by decide +kernel
theorem dX3_pictureBits_30 : decode cX3_pictureBits 30 = .ok (.istore_n 1, 1) := by decide +kernel
theorem dX3_pictureBits_31 : decode cX3_pictureBits 31 = .ok (.iinc 2 1, 3) := by decide +kernel
theorem dX3_pictureBits_34 : decode cX3_pictureBits 34 = .ok (.goto (-30), 3) := by decide +kernel
theorem dX3_pictureBits_37 : decode cX3_pictureBits 37 = .ok (.iload_n 1, 1) := by decide +kernel
theorem dX3_pictureBits_38 : decode cX3_pictureBits 38 = .ok (.ireturn, 1) := by decide +kernel
theorem dX3_kindOfPair_0 : decode cX3_kindOfPair 0 = .ok (.aload_n 0, 1) := by decide +kernel
theorem dX3_kindOfPair_1 : decode cX3_kindOfPair 1 = .ok (.iload_n 1, 1) := by decide +kernel
theorem dX3_kindOfPair_2 : decode cX3_kindOfPair 2 = .ok (.invokevirtual 77, 3) := by decide +kernel
theorem dX3_kindOfPair_5 : decode cX3_kindOfPair 5 = .ok (.astore_n 3, 1) := by decide +kernel
theorem dX3_kindOfPair_6 : decode cX3_kindOfPair 6 = .ok (.aload_n 0, 1) := by decide +kernel
theorem dX3_kindOfPair_7 : decode cX3_kindOfPair 7 = .ok (.iload_n 2, 1) := by decide +kernel
theorem dX3_kindOfPair_8 : decode cX3_kindOfPair 8 = .ok (.invokevirtual 77, 3) := by decide +kernel
theorem dX3_kindOfPair_11 : decode cX3_kindOfPair 11 = .ok (.astore 4, 2) := by decide +kernel
theorem dX3_kindOfPair_13 : decode cX3_kindOfPair 13 = .ok (.aload_n 3, 1) := by decide +kernel
theorem dX3_kindOfPair_14 : decode cX3_kindOfPair 14 = .ok (.ifnull 13, 3) := by decide +kernel
theorem dX3_kindOfPair_17 : decode cX3_kindOfPair 17 = .ok (.aload 4, 2) := by decide +kernel
theorem dX3_kindOfPair_19 : decode cX3_kindOfPair 19 = .ok (.ifnull 8, 3) := by decide +kernel
theorem dX3_kindOfPair_22 : decode cX3_kindOfPair 22 = .ok (.iload_n 1, 1) := by decide +kernel
theorem dX3_kindOfPair_23 : decode cX3_kindOfPair 23 = .ok (.iload_n 2, 1) := by decide +kernel
theorem dX3_kindOfPair_24 : decode cX3_kindOfPair 24 = .ok (.if_icmp .ne 5, 3) := by decide +kernel
theorem dX3_kindOfPair_27 : decode cX3_kindOfPair 27 = .ok (.iconst (-1), 1) := by decide +kernel
theorem dX3_kindOfPair_28 : decode cX3_kindOfPair 28 = .ok (.ireturn, 1) := by decide +kernel
theorem dX3_kindOfPair_29 : decode cX3_kindOfPair 29 = .ok (.aload_n 3, 1) := by decide +kernel
theorem dX3_kindOfPair_30 : decode cX3_kindOfPair 30 = .ok (.aload 4, 2) := by decide +kernel
theorem dX3_kindOfPair_32 : decode cX3_kindOfPair 32 = .ok (.invokevirtual 81, 3) := by decide +kernel
theorem dX3_kindOfPair_35 : decode cX3_kindOfPair 35 = .ok (.ireturn, 1) := by decide +kernel
theorem dX4_fits_0 : decode cX4_fits 0 = .ok (.iconst 0, 1) := by decide +kernel
theorem dX4_fits_1 : decode cX4_fits 1 = .ok (.istore 5, 2) := by decide +kernel
theorem dX4_fits_3 : decode cX4_fits 3 = .ok (.iload 5, 2) := by decide +kernel
theorem dX4_fits_5 : decode cX4_fits 5 = .ok (.bipush 6, 2) := by decide +kernel
theorem dX4_fits_7 : decode cX4_fits 7 = .ok (.if_icmp .ge 35, 3) := by decide +kernel
theorem dX4_fits_10 : decode cX4_fits 10 = .ok (.iload 5, 2) := by decide +kernel
theorem dX4_fits_12 : decode cX4_fits 12 = .ok (.iload 4, 2) := by decide +kernel
theorem dX4_fits_14 : decode cX4_fits 14 = .ok (.if_icmp .eq 22, 3) := by decide +kernel
theorem dX4_fits_17 : decode cX4_fits 17 = .ok (.aload_n 0, 1) := by decide +kernel
theorem dX4_fits_18 : decode cX4_fits 18 = .ok (.iload 5, 2) := by decide +kernel
theorem dX4_fits_20 : decode cX4_fits 20 = .ok (.iload_n 2, 1) := by decide +kernel
theorem dX4_fits_21 : decode cX4_fits 21 = .ok (.iload_n 3, 1) := by decide +kernel
theorem dX4_fits_22 : decode cX4_fits 22 = .ok (.invokevirtual 9, 3) := by decide +kernel
theorem dX4_fits_25 : decode cX4_fits 25 = .ok (.aload_n 1, 1) := by decide +kernel
theorem dX4_fits_26 : decode cX4_fits 26 = .ok (.iload 5, 2) := by decide +kernel
theorem dX4_fits_28 : decode cX4_fits 28 = .ok (.invokevirtual 15, 3) := by decide +kernel
theorem dX4_fits_31 : decode cX4_fits 31 = .ok (.if_icmp .eq 5, 3) := by decide +kernel
theorem dX4_fits_34 : decode cX4_fits 34 = .ok (.iconst 0, 1) := by decide +kernel
theorem dX4_fits_35 : decode cX4_fits 35 = .ok (.ireturn, 1) := by decide +kernel
theorem dX4_fits_36 : decode cX4_fits 36 = .ok (.iinc 5 1, 3) := by decide +kernel
theorem dX4_fits_39 : decode cX4_fits 39 = .ok (.goto (-36), 3) := by decide +kernel
theorem dX4_fits_42 : decode cX4_fits 42 = .ok (.iconst 1, 1) := by decide +kernel
theorem dX4_fits_43 : decode cX4_fits 43 = .ok (.ireturn, 1) := by decide +kernel
theorem dX4_countStands_0 : decode cX4_countStands 0 = .ok (.iconst 0, 1) := by decide +kernel
theorem dX4_countStands_1 : decode cX4_countStands 1 = .ok (.istore_n 2, 1) := by decide +kernel
theorem dX4_countStands_2 : decode cX4_countStands 2 = .ok (.iconst 0, 1) := by decide +kernel
theorem dX4_countStands_3 : decode cX4_countStands 3 = .ok (.istore_n 3, 1) := by decide +kernel
theorem dX4_countStands_4 : decode cX4_countStands 4 = .ok (.iload_n 3, 1) := by decide +kernel
theorem dX4_countStands_5 : decode cX4_countStands 5 = .ok (.bipush 100, 2) := by decide +kernel
theorem dX4_countStands_7 : decode cX4_countStands 7 = .ok (.if_icmp .ge 18, 3) := by decide +kernel
theorem dX4_countStands_10 : decode cX4_countStands 10 = .ok (.iload_n 2, 1) := by decide +kernel
theorem dX4_countStands_11 : decode cX4_countStands 11 = .ok (.aload_n 0, 1) := by decide +kernel
theorem dX4_countStands_12 : decode cX4_countStands 12 = .ok (.aload_n 1, 1) := by decide +kernel
theorem dX4_countStands_13 : decode cX4_countStands 13 = .ok (.iload_n 3, 1) := by decide +kernel
theorem dX4_countStands_14 : decode cX4_countStands 14 = .ok (.invokestatic 20, 3) := by decide +kernel
theorem dX4_countStands_17 : decode cX4_countStands 17 = .ok (.iadd, 1) := by decide +kernel
theorem dX4_countStands_18 : decode cX4_countStands 18 = .ok (.istore_n 2, 1) := by decide +kernel
theorem dX4_countStands_19 : decode cX4_countStands 19 = .ok (.iinc 3 1, 3) := by decide +kernel
theorem dX4_countStands_22 : decode cX4_countStands 22 = .ok (.goto (-18), 3) := by decide +kernel
theorem dX4_countStands_25 : decode cX4_countStands 25 = .ok (.iload_n 2, 1) := by decide +kernel
theorem dX4_countStands_26 : decode cX4_countStands 26 = .ok (.ireturn, 1) := by decide +kernel
theorem dX4_countStandsIn_0 : decode cX4_countStandsIn 0 = .ok (.iconst 0, 1) := by decide +kernel
theorem dX4_countStandsIn_1 : decode cX4_countStandsIn 1 = .ok (.istore_n 3, 1) := by decide +kernel
theorem dX4_countStandsIn_2 : decode cX4_countStandsIn 2 = .ok (.iconst 0, 1) := by decide +kernel
theorem dX4_countStandsIn_3 : decode cX4_countStandsIn 3 = .ok (.istore 4, 2) := by decide +kernel
theorem dX4_countStandsIn_5 : decode cX4_countStandsIn 5 = .ok (.iload 4, 2) := by decide +kernel
theorem dX4_countStandsIn_7 : decode cX4_countStandsIn 7 = .ok (.bipush 100, 2) := by decide +kernel
theorem dX4_countStandsIn_9 : decode cX4_countStandsIn 9 = .ok (.if_icmp .ge 24, 3) := by decide +kernel
theorem dX4_countStandsIn_12 : decode cX4_countStandsIn 12 = .ok (.aload_n 0, 1) := by decide +kernel
theorem dX4_countStandsIn_13 : decode cX4_countStandsIn 13 = .ok (.aload_n 1, 1) := by decide +kernel
theorem dX4_countStandsIn_14 : decode cX4_countStandsIn 14 = .ok (.iload 4, 2) := by decide +kernel
theorem dX4_countStandsIn_16 : decode cX4_countStandsIn 16 = .ok (.iload_n 2, 1) := by decide +kernel
theorem dX4_countStandsIn_17 : decode cX4_countStandsIn 17 = .ok (.iconst (-1), 1) := by decide +kernel
theorem dX4_countStandsIn_18 : decode cX4_countStandsIn 18 = .ok (.invokestatic 26, 3) := by decide +kernel
theorem dX4_countStandsIn_21 : decode cX4_countStandsIn 21 = .ok (.ifCond .eq 6, 3) := by decide +kernel
theorem dX4_countStandsIn_24 : decode cX4_countStandsIn 24 = .ok (.iinc 3 1, 3) := by decide +kernel
theorem dX4_countStandsIn_27 : decode cX4_countStandsIn 27 = .ok (.iinc 4 1, 3) := by decide +kernel
theorem dX4_countStandsIn_30 : decode cX4_countStandsIn 30 = .ok (.goto (-25), 3) := by decide +kernel
theorem dX4_countStandsIn_33 : decode cX4_countStandsIn 33 = .ok (.iload_n 3, 1) := by decide +kernel
theorem dX4_countStandsIn_34 : decode cX4_countStandsIn 34 = .ok (.ireturn, 1) := by decide +kernel
theorem dX4_standAt_0 : decode cX4_standAt 0 = .ok (.iload_n 2, 1) := by decide +kernel
theorem dX4_standAt_1 : decode cX4_standAt 1 = .ok (.iconst 0, 1) := by decide +kernel
theorem dX4_standAt_2 : decode cX4_standAt 2 = .ok (.sipush 9999, 3) := by decide +kernel
theorem dX4_standAt_5 : decode cX4_standAt 5 = .ok (.invokestatic 30, 3) := by decide +kernel
theorem dX4_standAt_8 : decode cX4_standAt 8 = .ok (.ifCond .ne 6, 3) := by decide +kernel
theorem dX4_standAt_11 : decode cX4_standAt 11 = .ok (.bipush (-6), 2) := by decide +kernel
theorem dX4_standAt_13 : decode cX4_standAt 13 = .ok (.ireturn, 1) := by decide +kernel
theorem dX4_standAt_14 : decode cX4_standAt 14 = .ok (.iconst 0, 1) := by decide +kernel
theorem dX4_standAt_15 : decode cX4_standAt 15 = .ok (.istore_n 3, 1) := by decide +kernel
theorem dX4_standAt_16 : decode cX4_standAt 16 = .ok (.iconst 0, 1) := by decide +kernel
theorem dX4_standAt_17 : decode cX4_standAt 17 = .ok (.istore 4, 2) := by decide +kernel
theorem dX4_standAt_19 : decode cX4_standAt 19 = .ok (.iload 4, 2) := by decide +kernel
theorem dX4_standAt_21 : decode cX4_standAt 21 = .ok (.bipush 100, 2) := by decide +kernel
theorem dX4_standAt_23 : decode cX4_standAt 23 = .ok (.if_icmp .ge 58, 3) := by decide +kernel
theorem dX4_standAt_26 : decode cX4_standAt 26 = .ok (.iconst 0, 1) := by decide +kernel
theorem dX4_standAt_27 : decode cX4_standAt 27 = .ok (.istore 5, 2) := by decide +kernel
theorem dX4_standAt_29 : decode cX4_standAt 29 = .ok (.iload 5, 2) := by decide +kernel
theorem dX4_standAt_31 : decode cX4_standAt 31 = .ok (.bipush 100, 2) := by decide +kernel
theorem dX4_standAt_33 : decode cX4_standAt 33 = .ok (.if_icmp .ge 42, 3) := by decide +kernel
theorem dX4_standAt_36 : decode cX4_standAt 36 = .ok (.aload_n 0, 1) := by decide +kernel
theorem dX4_standAt_37 : decode cX4_standAt 37 = .ok (.aload_n 1, 1) := by decide +kernel
theorem dX4_standAt_38 : decode cX4_standAt 38 = .ok (.iload 5, 2) := by decide +kernel
theorem dX4_standAt_40 : decode cX4_standAt 40 = .ok (.iload 4, 2) := by decide +kernel
theorem dX4_standAt_42 : decode cX4_standAt 42 = .ok (.iconst (-1), 1) := by decide +kernel
theorem dX4_standAt_43 : decode cX4_standAt 43 = .ok (.invokestatic 26, 3) := by decide +kernel
theorem dX4_standAt_46 : decode cX4_standAt 46 = .ok (.ifCond .ne 6, 3) := by decide +kernel
theorem dX4_standAt_49 : decode cX4_standAt 49 = .ok (.goto 20, 3) := by decide +kernel
theorem dX4_standAt_52 : decode cX4_standAt 52 = .ok (.iload_n 3, 1) := by decide +kernel
theorem dX4_standAt_53 : decode cX4_standAt 53 = .ok (.iload_n 2, 1) := by decide +kernel
theorem dX4_standAt_54 : decode cX4_standAt 54 = .ok (.if_icmp .ne 12, 3) := by decide +kernel
theorem dX4_standAt_57 : decode cX4_standAt 57 = .ok (.bipush 100, 2) := by decide +kernel
theorem dX4_standAt_59 : decode cX4_standAt 59 = .ok (.iload 4, 2) := by decide +kernel
theorem dX4_standAt_61 : decode cX4_standAt 61 = .ok (.imul, 1) := by decide +kernel
theorem dX4_standAt_62 : decode cX4_standAt 62 = .ok (.iload 5, 2) := by decide +kernel
theorem dX4_standAt_64 : decode cX4_standAt 64 = .ok (.iadd, 1) := by decide +kernel
theorem dX4_standAt_65 : decode cX4_standAt 65 = .ok (.ireturn, 1) := by decide +kernel
theorem dX4_standAt_66 : decode cX4_standAt 66 = .ok (.iinc 3 1, 3) := by decide +kernel
theorem dX4_standAt_69 : decode cX4_standAt 69 = .ok (.iinc 5 1, 3) := by decide +kernel
theorem dX4_standAt_72 : decode cX4_standAt 72 = .ok (.goto (-43), 3) := by decide +kernel
theorem dX4_standAt_75 : decode cX4_standAt 75 = .ok (.iinc 4 1, 3) := by decide +kernel
theorem dX4_standAt_78 : decode cX4_standAt 78 = .ok (.goto (-59), 3) := by decide +kernel
theorem dX4_standAt_81 : decode cX4_standAt 81 = .ok (.bipush (-6), 2) := by decide +kernel
theorem dX4_standAt_83 : decode cX4_standAt 83 = .ok (.ireturn, 1) := by decide +kernel
theorem dX4_firstMinute_0 : decode cX4_firstMinute 0 = .ok (.iconst 0, 1) := by decide +kernel
theorem dX4_firstMinute_1 : decode cX4_firstMinute 1 = .ok (.istore_n 2, 1) := by decide +kernel
theorem dX4_firstMinute_2 : decode cX4_firstMinute 2 = .ok (.iload_n 2, 1) := by decide +kernel
theorem dX4_firstMinute_3 : decode cX4_firstMinute 3 = .ok (.bipush 100, 2) := by decide +kernel
theorem dX4_firstMinute_5 : decode cX4_firstMinute 5 = .ok (.if_icmp .ge 20, 3) := by decide +kernel
theorem dX4_firstMinute_8 : decode cX4_firstMinute 8 = .ok (.aload_n 0, 1) := by decide +kernel
theorem dX4_firstMinute_9 : decode cX4_firstMinute 9 = .ok (.aload_n 1, 1) := by decide +kernel
theorem dX4_firstMinute_10 : decode cX4_firstMinute 10 = .ok (.iload_n 2, 1) := by decide +kernel
theorem dX4_firstMinute_11 : decode cX4_firstMinute 11 = .ok (.invokestatic 20, 3) := by decide +kernel
theorem dX4_firstMinute_14 : decode cX4_firstMinute 14 = .ok (.ifCond .le 5, 3) := by decide +kernel
theorem dX4_firstMinute_17 : decode cX4_firstMinute 17 = .ok (.iload_n 2, 1) := by decide +kernel
theorem dX4_firstMinute_18 : decode cX4_firstMinute 18 = .ok (.ireturn, 1) := by decide +kernel
theorem dX4_firstMinute_19 : decode cX4_firstMinute 19 = .ok (.iinc 2 1, 3) := by decide +kernel
theorem dX4_firstMinute_22 : decode cX4_firstMinute 22 = .ok (.goto (-20), 3) := by decide +kernel
theorem dX4_firstMinute_25 : decode cX4_firstMinute 25 = .ok (.bipush (-6), 2) := by decide +kernel
theorem dX4_firstMinute_27 : decode cX4_firstMinute 27 = .ok (.ireturn, 1) := by decide +kernel
theorem dX4_lastMinute_0 : decode cX4_lastMinute 0 = .ok (.bipush 99, 2) := by decide +kernel
theorem dX4_lastMinute_2 : decode cX4_lastMinute 2 = .ok (.istore_n 2, 1) := by decide +kernel
theorem dX4_lastMinute_3 : decode cX4_lastMinute 3 = .ok (.iload_n 2, 1) := by decide +kernel
theorem dX4_lastMinute_4 : decode cX4_lastMinute 4 = .ok (.ifCond .lt 20, 3) := by decide +kernel
theorem dX4_lastMinute_7 : decode cX4_lastMinute 7 = .ok (.aload_n 0, 1) := by decide +kernel
theorem dX4_lastMinute_8 : decode cX4_lastMinute 8 = .ok (.aload_n 1, 1) := by decide +kernel
theorem dX4_lastMinute_9 : decode cX4_lastMinute 9 = .ok (.iload_n 2, 1) := by decide +kernel
theorem dX4_lastMinute_10 : decode cX4_lastMinute 10 = .ok (.invokestatic 20, 3) := by decide +kernel
theorem dX4_lastMinute_13 : decode cX4_lastMinute 13 = .ok (.ifCond .le 5, 3) := by decide +kernel
theorem dX4_lastMinute_16 : decode cX4_lastMinute 16 = .ok (.iload_n 2, 1) := by decide +kernel
theorem dX4_lastMinute_17 : decode cX4_lastMinute 17 = .ok (.ireturn, 1) := by decide +kernel
theorem dX4_lastMinute_18 : decode cX4_lastMinute 18 = .ok (.iinc 2 (-1), 3) := by decide +kernel
theorem dX4_lastMinute_21 : decode cX4_lastMinute 21 = .ok (.goto (-18), 3) := by decide +kernel
theorem dX4_lastMinute_24 : decode cX4_lastMinute 24 = .ok (.bipush (-6), 2) := by decide +kernel
theorem dX4_lastMinute_26 : decode cX4_lastMinute 26 = .ok (.ireturn, 1) := by decide +kernel
theorem dX4_fewestForged_0 : decode cX4_fewestForged 0 = .ok (.bipush 63, 2) := by decide +kernel
theorem dX4_fewestForged_2 : decode cX4_fewestForged 2 = .ok (.istore_n 2, 1) := by decide +kernel
theorem dX4_fewestForged_3 : decode cX4_fewestForged 3 = .ok (.iconst 0, 1) := by decide +kernel
theorem dX4_fewestForged_4 : decode cX4_fewestForged 4 = .ok (.istore_n 3, 1) := by decide +kernel
theorem dX4_fewestForged_5 : decode cX4_fewestForged 5 = .ok (.iload_n 3, 1) := by decide +kernel
theorem dX4_fewestForged_6 : decode cX4_fewestForged 6 = .ok (.bipush 100, 2) := by decide +kernel
theorem dX4_fewestForged_8 : decode cX4_fewestForged 8 = .ok (.if_icmp .ge 66, 3) := by decide +kernel
theorem dX4_fewestForged_11 : decode cX4_fewestForged 11 = .ok (.iconst 0, 1) := by decide +kernel
theorem dX4_fewestForged_12 : decode cX4_fewestForged 12 = .ok (.istore 4, 2) := by decide +kernel
theorem dX4_fewestForged_14 : decode cX4_fewestForged 14 = .ok (.iload 4, 2) := by decide +kernel
theorem dX4_fewestForged_16 : decode cX4_fewestForged 16 = .ok (.bipush 100, 2) := by decide +kernel
theorem dX4_fewestForged_18 : decode cX4_fewestForged 18 = .ok (.if_icmp .ge 50, 3) := by decide +kernel
theorem dX4_fewestForged_21 : decode cX4_fewestForged 21 = .ok (.aload_n 0, 1) := by decide +kernel
theorem dX4_fewestForged_22 : decode cX4_fewestForged 22 = .ok (.aload_n 1, 1) := by decide +kernel
theorem dX4_fewestForged_23 : decode cX4_fewestForged 23 = .ok (.iload 4, 2) := by decide +kernel
theorem dX4_fewestForged_25 : decode cX4_fewestForged 25 = .ok (.iload_n 3, 1) := by decide +kernel
theorem dX4_fewestForged_26 : decode cX4_fewestForged 26 = .ok (.invokestatic 34, 3) := by decide +kernel
theorem dX4_fewestForged_29 : decode cX4_fewestForged 29 = .ok (.istore 5, 2) := by decide +kernel
theorem dX4_fewestForged_31 : decode cX4_fewestForged 31 = .ok (.iload 5, 2) := by decide +kernel
theorem dX4_fewestForged_33 : decode cX4_fewestForged 33 = .ok (.invokestatic 38, 3) := by decide +kernel
theorem dX4_fewestForged_36 : decode cX4_fewestForged 36 = .ok (.iload_n 2, 1) := by decide +kernel
theorem dX4_fewestForged_37 : decode cX4_fewestForged 37 = .ok (.invokestatic 38, 3) := by decide +kernel
theorem dX4_fewestForged_40 : decode cX4_fewestForged 40 = .ok (.isub, 1) := by decide +kernel
theorem dX4_fewestForged_41 : decode cX4_fewestForged 41 = .ok (.istore 6, 2) := by decide +kernel
theorem dX4_fewestForged_43 : decode cX4_fewestForged 43 = .ok (.iload 6, 2) := by decide +kernel
theorem dX4_fewestForged_45 : decode cX4_fewestForged 45 = .ok (.ifCond .lt 14, 3) := by decide +kernel
theorem dX4_fewestForged_48 : decode cX4_fewestForged 48 = .ok (.iload 6, 2) := by decide +kernel
theorem dX4_fewestForged_50 : decode cX4_fewestForged 50 = .ok (.ifCond .ne 12, 3) := by decide +kernel
theorem dX4_fewestForged_53 : decode cX4_fewestForged 53 = .ok (.iload 5, 2) := by decide +kernel
theorem dX4_fewestForged_55 : decode cX4_fewestForged 55 = .ok (.iload_n 2, 1) := by decide +kernel
theorem dX4_fewestForged_56 : decode cX4_fewestForged 56 = .ok (.if_icmp .ge 6, 3) := by decide +kernel
theorem dX4_fewestForged_59 : decode cX4_fewestForged 59 = .ok (.iload 5, 2) := by decide +kernel
theorem dX4_fewestForged_61 : decode cX4_fewestForged 61 = .ok (.istore_n 2, 1) := by decide +kernel
theorem dX4_fewestForged_62 : decode cX4_fewestForged 62 = .ok (.iinc 4 1, 3) := by decide +kernel
theorem dX4_fewestForged_65 : decode cX4_fewestForged 65 = .ok (.goto (-51), 3) := by decide +kernel
theorem dX4_fewestForged_68 : decode cX4_fewestForged 68 = .ok (.iinc 3 1, 3) := by decide +kernel
theorem dX4_fewestForged_71 : decode cX4_fewestForged 71 = .ok (.goto (-66), 3) := by decide +kernel
theorem dX4_fewestForged_74 : decode cX4_fewestForged 74 = .ok (.iload_n 2, 1) := by decide +kernel
theorem dX4_fewestForged_75 : decode cX4_fewestForged 75 = .ok (.ireturn, 1) := by decide +kernel
theorem dX4_differing_0 : decode cX4_differing 0 = .ok (.iconst 0, 1) := by decide +kernel
theorem dX4_differing_1 : decode cX4_differing 1 = .ok (.istore 4, 2) := by decide +kernel
theorem dX4_differing_3 : decode cX4_differing 3 = .ok (.iconst 0, 1) := by decide +kernel
theorem dX4_differing_4 : decode cX4_differing 4 = .ok (.istore 5, 2) := by decide +kernel
theorem dX4_differing_6 : decode cX4_differing 6 = .ok (.iload 5, 2) := by decide +kernel
theorem dX4_differing_8 : decode cX4_differing 8 = .ok (.bipush 6, 2) := by decide +kernel
theorem dX4_differing_10 : decode cX4_differing 10 = .ok (.if_icmp .ge 35, 3) := by decide +kernel
theorem dX4_differing_13 : decode cX4_differing 13 = .ok (.aload_n 0, 1) := by decide +kernel
theorem dX4_differing_14 : decode cX4_differing 14 = .ok (.iload 5, 2) := by decide +kernel
theorem dX4_differing_16 : decode cX4_differing 16 = .ok (.iload_n 2, 1) := by decide +kernel
theorem dX4_differing_17 : decode cX4_differing 17 = .ok (.iload_n 3, 1) := by decide +kernel
theorem dX4_differing_18 : decode cX4_differing 18 = .ok (.invokevirtual 9, 3) := by decide +kernel
theorem dX4_differing_21 : decode cX4_differing 21 = .ok (.aload_n 1, 1) := by decide +kernel
theorem dX4_differing_22 : decode cX4_differing 22 = .ok (.iload 5, 2) := by decide +kernel
theorem dX4_differing_24 : decode cX4_differing 24 = .ok (.invokevirtual 15, 3) := by decide +kernel
theorem dX4_differing_27 : decode cX4_differing 27 = .ok (.if_icmp .eq 12, 3) := by decide +kernel
theorem dX4_differing_30 : decode cX4_differing 30 = .ok (.iload 4, 2) := by decide +kernel
theorem dX4_differing_32 : decode cX4_differing 32 = .ok (.iconst 1, 1) := by decide +kernel
theorem dX4_differing_33 : decode cX4_differing 33 = .ok (.iload 5, 2) := by decide +kernel
theorem dX4_differing_35 : decode cX4_differing 35 = .ok (.ishl, 1) := by decide +kernel
theorem dX4_differing_36 : decode cX4_differing 36 = .ok (.ior, 1) := by decide +kernel
theorem dX4_differing_37 : decode cX4_differing 37 = .ok (.istore 4, 2) := by decide +kernel
theorem dX4_differing_39 : decode cX4_differing 39 = .ok (.iinc 5 1, 3) := by decide +kernel
theorem dX4_differing_42 : decode cX4_differing 42 = .ok (.goto (-36), 3) := by decide +kernel
theorem dX4_differing_45 : decode cX4_differing 45 = .ok (.iload 4, 2) := by decide +kernel
theorem dX4_differing_47 : decode cX4_differing 47 = .ok (.ireturn, 1) := by decide +kernel
theorem dX4_columnsWithout_0 : decode cX4_columnsWithout 0 = .ok (.lconst 0, 1) := by decide +kernel
theorem dX4_columnsWithout_1 : decode cX4_columnsWithout 1 = .ok (.lstore_n 3, 1) := by decide +kernel
theorem dX4_columnsWithout_2 : decode cX4_columnsWithout 2 = .ok (.iconst 0, 1) := by decide +kernel
theorem dX4_columnsWithout_3 : decode cX4_columnsWithout 3 = .ok (.istore 5, 2) := by decide +kernel
theorem dX4_columnsWithout_5 : decode cX4_columnsWithout 5 = .ok (.iload 5, 2) := by decide +kernel
theorem dX4_columnsWithout_7 : decode cX4_columnsWithout 7 = .ok (.bipush 100, 2) := by decide +kernel
theorem dX4_columnsWithout_9 : decode cX4_columnsWithout 9 = .ok (.if_icmp .ge 68, 3) := by decide +kernel
theorem dX4_columnsWithout_12 : decode cX4_columnsWithout 12 = .ok (.iconst 0, 1) := by decide +kernel
theorem dX4_columnsWithout_13 : decode cX4_columnsWithout 13 = .ok (.istore 6, 2) := by decide +kernel
theorem dX4_columnsWithout_15 : decode cX4_columnsWithout 15 = .ok (.iload 6, 2) := by decide +kernel
theorem dX4_columnsWithout_17 : decode cX4_columnsWithout 17 = .ok (.bipush 100, 2) := by decide +kernel
theorem dX4_columnsWithout_19 : decode cX4_columnsWithout 19 = .ok (.if_icmp .ge 52, 3) := by decide +kernel
theorem dX4_columnsWithout_22 : decode cX4_columnsWithout 22 = .ok (.aload_n 0, 1) := by decide +kernel
theorem dX4_columnsWithout_23 : decode cX4_columnsWithout 23 = .ok (.aload_n 1, 1) := by decide +kernel
theorem dX4_columnsWithout_24 : decode cX4_columnsWithout 24 = .ok (.iload 6, 2) := by decide +kernel
theorem dX4_columnsWithout_26 : decode cX4_columnsWithout 26 = .ok (.iload 5, 2) := by decide +kernel
theorem dX4_columnsWithout_28 : decode cX4_columnsWithout 28 = .ok (.iload_n 2, 1) := by decide +kernel
theorem dX4_columnsWithout_29 : decode cX4_columnsWithout 29 = .ok (.invokestatic 26, 3) := by decide +kernel
theorem dX4_columnsWithout_32 : decode cX4_columnsWithout 32 = .ok (.ifCond .eq 33, 3) := by decide +kernel
theorem dX4_columnsWithout_35 : decode cX4_columnsWithout 35 = .ok (.aload_n 0, 1) := by decide +kernel
theorem dX4_columnsWithout_36 : decode cX4_columnsWithout 36 = .ok (.iload_n 2, 1) := by decide +kernel
theorem dX4_columnsWithout_37 : decode cX4_columnsWithout 37 = .ok (.iload 6, 2) := by decide +kernel
theorem dX4_columnsWithout_39 : decode cX4_columnsWithout 39 = .ok (.iload 5, 2) := by decide +kernel
theorem dX4_columnsWithout_41 : decode cX4_columnsWithout 41 = .ok (.invokevirtual 9, 3) := by decide +kernel
theorem dX4_columnsWithout_44 : decode cX4_columnsWithout 44 = .ok (.istore 7, 2) := by decide +kernel
theorem dX4_columnsWithout_46 : decode cX4_columnsWithout 46 = .ok (.lload_n 3, 1) := by decide +kernel
theorem dX4_columnsWithout_47 : decode cX4_columnsWithout 47 = .ok (.lconst 1, 1) := by decide +kernel
theorem dX4_columnsWithout_48 : decode cX4_columnsWithout 48 = .ok (.iload 7, 2) := by decide +kernel
theorem dX4_columnsWithout_50 : decode cX4_columnsWithout 50 = .ok (.bipush (-6), 2) := by decide +kernel
theorem dX4_columnsWithout_52 : decode cX4_columnsWithout 52 = .ok (.if_icmp .ne 8, 3) := by decide +kernel
theorem dX4_columnsWithout_55 : decode cX4_columnsWithout 55 = .ok (.bipush 61, 2) := by decide +kernel
theorem dX4_columnsWithout_57 : decode cX4_columnsWithout 57 = .ok (.goto 5, 3) := by decide +kernel
theorem dX4_columnsWithout_60 : decode cX4_columnsWithout 60 = .ok (.iload 7, 2) := by decide +kernel
theorem dX4_columnsWithout_62 : decode cX4_columnsWithout 62 = .ok (.lshl, 1) := by decide +kernel
theorem dX4_columnsWithout_63 : decode cX4_columnsWithout 63 = .ok (.lor, 1) := by decide +kernel
theorem dX4_columnsWithout_64 : decode cX4_columnsWithout 64 = .ok (.lstore_n 3, 1) := by decide +kernel
theorem dX4_columnsWithout_65 : decode cX4_columnsWithout 65 = .ok (.iinc 6 1, 3) := by decide +kernel
theorem dX4_columnsWithout_68 : decode cX4_columnsWithout 68 = .ok (.goto (-53), 3) := by decide +kernel
theorem dX4_columnsWithout_71 : decode cX4_columnsWithout 71 = .ok (.iinc 5 1, 3) := by decide +kernel
theorem dX4_columnsWithout_74 : decode cX4_columnsWithout 74 = .ok (.goto (-69), 3) := by decide +kernel
theorem dX4_columnsWithout_77 : decode cX4_columnsWithout 77 = .ok (.lload_n 3, 1) := by decide +kernel
theorem dX4_columnsWithout_78 : decode cX4_columnsWithout 78 = .ok (.lreturn, 1) := by decide +kernel
theorem dX4_leastShown_0 : decode cX4_leastShown 0 = .ok (.iconst 0, 1) := by decide +kernel
theorem dX4_leastShown_1 : decode cX4_leastShown 1 = .ok (.istore_n 2, 1) := by decide +kernel
theorem dX4_leastShown_2 : decode cX4_leastShown 2 = .ok (.iload_n 2, 1) := by decide +kernel
theorem dX4_leastShown_3 : decode cX4_leastShown 3 = .ok (.bipush 60, 2) := by decide +kernel
theorem dX4_leastShown_5 : decode cX4_leastShown 5 = .ok (.if_icmp .gt 21, 3) := by decide +kernel
theorem dX4_leastShown_8 : decode cX4_leastShown 8 = .ok (.lload_n 0, 1) := by decide +kernel
theorem dX4_leastShown_9 : decode cX4_leastShown 9 = .ok (.iload_n 2, 1) := by decide +kernel
theorem dX4_leastShown_10 : decode cX4_leastShown 10 = .ok (.lshr, 1) := by decide +kernel
theorem dX4_leastShown_11 : decode cX4_leastShown 11 = .ok (.lconst 1, 1) := by decide +kernel
theorem dX4_leastShown_12 : decode cX4_leastShown 12 = .ok (.land, 1) := by decide +kernel
theorem dX4_leastShown_13 : decode cX4_leastShown 13 = .ok (.lconst 1, 1) := by decide +kernel
theorem dX4_leastShown_14 : decode cX4_leastShown 14 = .ok (.lcmp, 1) := by decide +kernel
theorem dX4_leastShown_15 : decode cX4_leastShown 15 = .ok (.ifCond .ne 5, 3) := by decide +kernel
theorem dX4_leastShown_18 : decode cX4_leastShown 18 = .ok (.iload_n 2, 1) := by decide +kernel
theorem dX4_leastShown_19 : decode cX4_leastShown 19 = .ok (.ireturn, 1) := by decide +kernel
theorem dX4_leastShown_20 : decode cX4_leastShown 20 = .ok (.iinc 2 1, 3) := by decide +kernel
theorem dX4_leastShown_23 : decode cX4_leastShown 23 = .ok (.goto (-21), 3) := by decide +kernel
theorem dX4_leastShown_26 : decode cX4_leastShown 26 = .ok (.bipush (-6), 2) := by decide +kernel
theorem dX4_leastShown_28 : decode cX4_leastShown 28 = .ok (.ireturn, 1) := by decide +kernel
theorem dX4_greatestShown_0 : decode cX4_greatestShown 0 = .ok (.bipush 60, 2) := by decide +kernel
theorem dX4_greatestShown_2 : decode cX4_greatestShown 2 = .ok (.istore_n 2, 1) := by decide +kernel
theorem dX4_greatestShown_3 : decode cX4_greatestShown 3 = .ok (.iload_n 2, 1) := by decide +kernel
theorem dX4_greatestShown_4 : decode cX4_greatestShown 4 = .ok (.ifCond .lt 21, 3) := by decide +kernel
theorem dX4_greatestShown_7 : decode cX4_greatestShown 7 = .ok (.lload_n 0, 1) := by decide +kernel
theorem dX4_greatestShown_8 : decode cX4_greatestShown 8 = .ok (.iload_n 2, 1) := by decide +kernel
theorem dX4_greatestShown_9 : decode cX4_greatestShown 9 = .ok (.lshr, 1) := by decide +kernel
theorem dX4_greatestShown_10 : decode cX4_greatestShown 10 = .ok (.lconst 1, 1) := by decide +kernel
theorem dX4_greatestShown_11 : decode cX4_greatestShown 11 = .ok (.land, 1) := by decide +kernel
theorem dX4_greatestShown_12 : decode cX4_greatestShown 12 = .ok (.lconst 1, 1) := by decide +kernel
theorem dX4_greatestShown_13 : decode cX4_greatestShown 13 = .ok (.lcmp, 1) := by decide +kernel
theorem dX4_greatestShown_14 : decode cX4_greatestShown 14 = .ok (.ifCond .ne 5, 3) := by decide +kernel
theorem dX4_greatestShown_17 : decode cX4_greatestShown 17 = .ok (.iload_n 2, 1) := by decide +kernel
theorem dX4_greatestShown_18 : decode cX4_greatestShown 18 = .ok (.ireturn, 1) := by decide +kernel
theorem dX4_greatestShown_19 : decode cX4_greatestShown 19 = .ok (.iinc 2 (-1), 3) := by decide +kernel
theorem dX4_greatestShown_22 : decode cX4_greatestShown 22 = .ok (.goto (-19), 3) := by decide +kernel
theorem dX4_greatestShown_25 : decode cX4_greatestShown 25 = .ok (.bipush (-6), 2) := by decide +kernel
theorem dX4_greatestShown_27 : decode cX4_greatestShown 27 = .ok (.ireturn, 1) := by decide +kernel
theorem dX5_init_0 : decode cX5_init 0 = .ok (.aload_n 0, 1) := by decide +kernel
theorem dX5_init_1 : decode cX5_init 1 = .ok (.invokespecial 3, 3) := by decide +kernel
theorem dX5_init_4 : decode cX5_init 4 = .ok (.aload_n 0, 1) := by decide +kernel
theorem dX5_init_5 : decode cX5_init 5 = .ok (.bipush 9, 2) := by decide +kernel
theorem dX5_init_7 : decode cX5_init 7 = .ok (.newarray .long, 2) := by decide +kernel
theorem dX5_init_9 : decode cX5_init 9 = .ok (.putfield 9, 3) := by decide +kernel
theorem dX5_init_12 : decode cX5_init 12 = .ok (.return_, 1) := by decide +kernel
theorem dX5_setChances_0 : decode cX5_setChances 0 = .ok (.iconst 0, 1) := by decide +kernel
theorem dX5_setChances_1 : decode cX5_setChances 1 = .ok (.istore_n 3, 1) := by decide +kernel
theorem dX5_setChances_2 : decode cX5_setChances 2 = .ok (.iload_n 3, 1) := by decide +kernel
theorem dX5_setChances_3 : decode cX5_setChances 3 = .ok (.aload_n 0, 1) := by decide +kernel
theorem dX5_setChances_4 : decode cX5_setChances 4 = .ok (.getfield 9, 3) := by decide +kernel
theorem dX5_setChances_7 : decode cX5_setChances 7 = .ok (.arraylength, 1) := by decide +kernel
theorem dX5_setChances_8 : decode cX5_setChances 8 = .ok (.if_icmp .ge 16, 3) := by decide +kernel
theorem dX5_setChances_11 : decode cX5_setChances 11 = .ok (.aload_n 0, 1) := by decide +kernel
theorem dX5_setChances_12 : decode cX5_setChances 12 = .ok (.getfield 9, 3) := by decide +kernel
theorem dX5_setChances_15 : decode cX5_setChances 15 = .ok (.iload_n 3, 1) := by decide +kernel
theorem dX5_setChances_16 : decode cX5_setChances 16 = .ok (.lconst 0, 1) := by decide +kernel
theorem dX5_setChances_17 : decode cX5_setChances 17 = .ok (.lastore, 1) := by decide +kernel
theorem dX5_setChances_18 : decode cX5_setChances 18 = .ok (.iinc 3 1, 3) := by decide +kernel
theorem dX5_setChances_21 : decode cX5_setChances 21 = .ok (.goto (-19), 3) := by decide +kernel
theorem dX5_setChances_24 : decode cX5_setChances 24 = .ok (.aload_n 0, 1) := by decide +kernel
theorem dX5_setChances_25 : decode cX5_setChances 25 = .ok (.getfield 9, 3) := by decide +kernel
theorem dX5_setChances_28 : decode cX5_setChances 28 = .ok (.iconst 0, 1) := by decide +kernel
theorem dX5_setChances_29 : decode cX5_setChances 29 = .ok (.lconst 1, 1) := by decide +kernel
theorem dX5_setChances_30 : decode cX5_setChances 30 = .ok (.lastore, 1) := by decide +kernel
theorem dX5_setChances_31 : decode cX5_setChances 31 = .ok (.iconst 0, 1) := by decide +kernel
theorem dX5_setChances_32 : decode cX5_setChances 32 = .ok (.istore_n 3, 1) := by decide +kernel
theorem dX5_setChances_33 : decode cX5_setChances 33 = .ok (.iload_n 3, 1) := by decide +kernel
theorem dX5_setChances_34 : decode cX5_setChances 34 = .ok (.iload_n 1, 1) := by decide +kernel
theorem dX5_setChances_35 : decode cX5_setChances 35 = .ok (.if_icmp .ge 82, 3) := by decide +kernel
theorem dX5_setChances_38 : decode cX5_setChances 38 = .ok (.iload_n 3, 1) := by decide +kernel
theorem dX5_setChances_39 : decode cX5_setChances 39 = .ok (.bipush 8, 2) := by decide +kernel
theorem dX5_setChances_41 : decode cX5_setChances 41 = .ok (.if_icmp .ge 76, 3) := by decide +kernel
theorem dX5_setChances_44 : decode cX5_setChances 44 = .ok (.aload_n 0, 1) := by decide +kernel
theorem dX5_setChances_45 : decode cX5_setChances 45 = .ok (.getfield 9, 3) := by decide +kernel
theorem dX5_setChances_48 : decode cX5_setChances 48 = .ok (.arraylength, 1) := by decide +kernel
theorem dX5_setChances_49 : decode cX5_setChances 49 = .ok (.iconst 1, 1) := by decide +kernel
theorem dX5_setChances_50 : decode cX5_setChances 50 = .ok (.isub, 1) := by decide +kernel
theorem dX5_setChances_51 : decode cX5_setChances 51 = .ok (.istore 4, 2) := by decide +kernel
theorem dX5_setChances_53 : decode cX5_setChances 53 = .ok (.iload 4, 2) := by decide +kernel
theorem dX5_setChances_55 : decode cX5_setChances 55 = .ok (.ifCond .le 42, 3) := by decide +kernel
theorem dX5_setChances_58 : decode cX5_setChances 58 = .ok (.aload_n 0, 1) := by decide +kernel
theorem dX5_setChances_59 : decode cX5_setChances 59 = .ok (.getfield 9, 3) := by decide +kernel
theorem dX5_setChances_62 : decode cX5_setChances 62 = .ok (.iload 4, 2) := by decide +kernel
theorem dX5_setChances_64 : decode cX5_setChances 64 = .ok (.aload_n 0, 1) := by decide +kernel
theorem dX5_setChances_65 : decode cX5_setChances 65 = .ok (.getfield 9, 3) := by decide +kernel
theorem dX5_setChances_68 : decode cX5_setChances 68 = .ok (.iload 4, 2) := by decide +kernel
theorem dX5_setChances_70 : decode cX5_setChances 70 = .ok (.laload, 1) := by decide +kernel
theorem dX5_setChances_71 : decode cX5_setChances 71 = .ok (.bipush 10, 2) := by decide +kernel
theorem dX5_setChances_73 : decode cX5_setChances 73 = .ok (.iload_n 2, 1) := by decide +kernel
theorem dX5_setChances_74 : decode cX5_setChances 74 = .ok (.isub, 1) := by decide +kernel
theorem dX5_setChances_75 : decode cX5_setChances 75 = .ok (.i2l, 1) := by decide +kernel
theorem dX5_setChances_76 : decode cX5_setChances 76 = .ok (.lmul, 1) := by decide +kernel
theorem dX5_setChances_77 : decode cX5_setChances 77 = .ok (.aload_n 0, 1) := by decide +kernel
theorem dX5_setChances_78 : decode cX5_setChances 78 = .ok (.getfield 9, 3) := by decide +kernel
theorem dX5_setChances_81 : decode cX5_setChances 81 = .ok (.iload 4, 2) := by decide +kernel
theorem dX5_setChances_83 : decode cX5_setChances 83 = .ok (.iconst 1, 1) := by decide +kernel
theorem dX5_setChances_84 : decode cX5_setChances 84 = .ok (.isub, 1) := by decide +kernel
theorem dX5_setChances_85 : decode cX5_setChances 85 = .ok (.laload, 1) := by decide +kernel
theorem dX5_setChances_86 : decode cX5_setChances 86 = .ok (.iload_n 2, 1) := by decide +kernel
theorem dX5_setChances_87 : decode cX5_setChances 87 = .ok (.i2l, 1) := by decide +kernel
theorem dX5_setChances_88 : decode cX5_setChances 88 = .ok (.lmul, 1) := by decide +kernel
theorem dX5_setChances_89 : decode cX5_setChances 89 = .ok (.ladd, 1) := by decide +kernel
theorem dX5_setChances_90 : decode cX5_setChances 90 = .ok (.lastore, 1) := by decide +kernel
theorem dX5_setChances_91 : decode cX5_setChances 91 = .ok (.iinc 4 (-1), 3) := by decide +kernel
theorem dX5_setChances_94 : decode cX5_setChances 94 = .ok (.goto (-41), 3) := by decide +kernel
theorem dX5_setChances_97 : decode cX5_setChances 97 = .ok (.aload_n 0, 1) := by decide +kernel
theorem dX5_setChances_98 : decode cX5_setChances 98 = .ok (.getfield 9, 3) := by decide +kernel
theorem dX5_setChances_101 : decode cX5_setChances 101 = .ok (.iconst 0, 1) := by decide +kernel
theorem dX5_setChances_102 : decode cX5_setChances 102 = .ok (.dup2, 1) := by decide +kernel
theorem dX5_setChances_103 : decode cX5_setChances 103 = .ok (.laload, 1) := by decide +kernel
theorem dX5_setChances_104 : decode cX5_setChances 104 = .ok (.bipush 10, 2) := by decide +kernel
theorem dX5_setChances_106 : decode cX5_setChances 106 = .ok (.iload_n 2, 1) := by decide +kernel
theorem dX5_setChances_107 : decode cX5_setChances 107 = .ok (.isub, 1) := by decide +kernel
theorem dX5_setChances_108 : decode cX5_setChances 108 = .ok (.i2l, 1) := by decide +kernel
theorem dX5_setChances_109 : decode cX5_setChances 109 = .ok (.lmul, 1) := by decide +kernel
theorem dX5_setChances_110 : decode cX5_setChances 110 = .ok (.lastore, 1) := by decide +kernel
theorem dX5_setChances_111 : decode cX5_setChances 111 = .ok (.iinc 3 1, 3) := by decide +kernel
theorem dX5_setChances_114 : decode cX5_setChances 114 = .ok (.goto (-81), 3) := by decide +kernel
theorem dX5_setChances_117 : decode cX5_setChances 117 = .ok (.return_, 1) := by decide +kernel
theorem dX5_waysOf_0 : decode cX5_waysOf 0 = .ok (.iload_n 1, 1) := by decide +kernel
theorem dX5_waysOf_1 : decode cX5_waysOf 1 = .ok (.iconst 0, 1) := by decide +kernel
theorem dX5_waysOf_2 : decode cX5_waysOf 2 = .ok (.aload_n 0, 1) := by decide +kernel
theorem dX5_waysOf_3 : decode cX5_waysOf 3 = .ok (.getfield 9, 3) := by decide +kernel
theorem dX5_waysOf_6 : decode cX5_waysOf 6 = .ok (.arraylength, 1) := by decide +kernel
theorem dX5_waysOf_7 : decode cX5_waysOf 7 = .ok (.iconst 1, 1) := by decide +kernel
theorem dX5_waysOf_8 : decode cX5_waysOf 8 = .ok (.isub, 1) := by decide +kernel
theorem dX5_waysOf_9 : decode cX5_waysOf 9 = .ok (.invokestatic 15, 3) := by decide +kernel
theorem dX5_waysOf_12 : decode cX5_waysOf 12 = .ok (.ifCond .eq 12, 3) := by decide +kernel
theorem dX5_waysOf_15 : decode cX5_waysOf 15 = .ok (.aload_n 0, 1) := by decide +kernel
theorem dX5_waysOf_16 : decode cX5_waysOf 16 = .ok (.getfield 9, 3) := by decide +kernel
theorem dX5_waysOf_19 : decode cX5_waysOf 19 = .ok (.iload_n 1, 1) := by decide +kernel
theorem dX5_waysOf_20 : decode cX5_waysOf 20 = .ok (.laload, 1) := by decide +kernel
theorem dX5_waysOf_21 : decode cX5_waysOf 21 = .ok (.goto 4, 3) := by decide +kernel
theorem dX5_waysOf_24 : decode cX5_waysOf 24 = .ok (.lconst 0, 1) := by decide +kernel
theorem dX5_waysOf_25 : decode cX5_waysOf 25 = .ok (.lreturn, 1) := by decide +kernel
theorem dX6_init_0 : decode cX6_init 0 = .ok (.aload_n 0, 1) := by decide +kernel
theorem dX6_init_1 : decode cX6_init 1 = .ok (.invokespecial 3, 3) := by decide +kernel
theorem dX6_init_4 : decode cX6_init 4 = .ok (.return_, 1) := by decide +kernel
theorem dX6_columnFrom_0 : decode cX6_columnFrom 0 = .ok (.aload_n 0, 1) := by decide +kernel
theorem dX6_columnFrom_1 : decode cX6_columnFrom 1 = .ok (.getfield 9, 3) := by decide +kernel
theorem dX6_columnFrom_4 : decode cX6_columnFrom 4 = .ok (.iconst 1, 1) := by decide +kernel
theorem dX6_columnFrom_5 : decode cX6_columnFrom 5 = .ok (.if_icmp .ge 6, 3) := by decide +kernel
theorem dX6_columnFrom_8 : decode cX6_columnFrom 8 = .ok (.bipush (-6), 2) := by decide +kernel
theorem dX6_columnFrom_10 : decode cX6_columnFrom 10 = .ok (.ireturn, 1) := by decide +kernel
theorem dX6_columnFrom_11 : decode cX6_columnFrom 11 = .ok (.bipush 30, 2) := by decide +kernel
theorem dX6_columnFrom_13 : decode cX6_columnFrom 13 = .ok (.iload_n 3, 1) := by decide +kernel
theorem dX6_columnFrom_14 : decode cX6_columnFrom 14 = .ok (.aload_n 0, 1) := by decide +kernel
theorem dX6_columnFrom_15 : decode cX6_columnFrom 15 = .ok (.getfield 15, 3) := by decide +kernel
theorem dX6_columnFrom_18 : decode cX6_columnFrom 18 = .ok (.aload_n 0, 1) := by decide +kernel
theorem dX6_columnFrom_19 : decode cX6_columnFrom 19 = .ok (.getfield 18, 3) := by decide +kernel
theorem dX6_columnFrom_22 : decode cX6_columnFrom 22 = .ok (.iload_n 2, 1) := by decide +kernel
theorem dX6_columnFrom_23 : decode cX6_columnFrom 23 = .ok (.imul, 1) := by decide +kernel
theorem dX6_columnFrom_24 : decode cX6_columnFrom 24 = .ok (.iadd, 1) := by decide +kernel
theorem dX6_columnFrom_25 : decode cX6_columnFrom 25 = .ok (.iload_n 1, 1) := by decide +kernel
theorem dX6_columnFrom_26 : decode cX6_columnFrom 26 = .ok (.isub, 1) := by decide +kernel
theorem dX6_columnFrom_27 : decode cX6_columnFrom 27 = .ok (.imul, 1) := by decide +kernel
theorem dX6_columnFrom_28 : decode cX6_columnFrom 28 = .ok (.aload_n 0, 1) := by decide +kernel
theorem dX6_columnFrom_29 : decode cX6_columnFrom 29 = .ok (.getfield 9, 3) := by decide +kernel
theorem dX6_columnFrom_32 : decode cX6_columnFrom 32 = .ok (.idiv, 1) := by decide +kernel
theorem dX6_columnFrom_33 : decode cX6_columnFrom 33 = .ok (.iadd, 1) := by decide +kernel
theorem dX6_columnFrom_34 : decode cX6_columnFrom 34 = .ok (.istore 4, 2) := by decide +kernel
theorem dX6_columnFrom_36 : decode cX6_columnFrom 36 = .ok (.iload 4, 2) := by decide +kernel
theorem dX6_columnFrom_38 : decode cX6_columnFrom 38 = .ok (.iconst 0, 1) := by decide +kernel
theorem dX6_columnFrom_39 : decode cX6_columnFrom 39 = .ok (.bipush 60, 2) := by decide +kernel
theorem dX6_columnFrom_41 : decode cX6_columnFrom 41 = .ok (.invokestatic 21, 3) := by decide +kernel
theorem dX6_columnFrom_44 : decode cX6_columnFrom 44 = .ok (.ifCond .eq 8, 3) := by decide +kernel
theorem dX6_columnFrom_47 : decode cX6_columnFrom 47 = .ok (.iload 4, 2) := by decide +kernel
theorem dX6_columnFrom_49 : decode cX6_columnFrom 49 = .ok (.goto 5, 3) := by decide +kernel
theorem dX6_columnFrom_52 : decode cX6_columnFrom 52 = .ok (.bipush (-6), 2) := by decide +kernel
theorem dX6_columnFrom_54 : decode cX6_columnFrom 54 = .ok (.ireturn, 1) := by decide +kernel
theorem dX6_copyFrom_0 : decode cX6_copyFrom 0 = .ok (.aload_n 0, 1) := by decide +kernel
theorem dX6_copyFrom_1 : decode cX6_copyFrom 1 = .ok (.aload_n 1, 1) := by decide +kernel
theorem dX6_copyFrom_2 : decode cX6_copyFrom 2 = .ok (.getfield 25, 3) := by decide +kernel
theorem dX6_copyFrom_5 : decode cX6_copyFrom 5 = .ok (.putfield 25, 3) := by decide +kernel
theorem dX6_copyFrom_8 : decode cX6_copyFrom 8 = .ok (.aload_n 0, 1) := by decide +kernel
theorem dX6_copyFrom_9 : decode cX6_copyFrom 9 = .ok (.aload_n 1, 1) := by decide +kernel
theorem dX6_copyFrom_10 : decode cX6_copyFrom 10 = .ok (.getfield 15, 3) := by decide +kernel
theorem dX6_copyFrom_13 : decode cX6_copyFrom 13 = .ok (.putfield 15, 3) := by decide +kernel
theorem dX6_copyFrom_16 : decode cX6_copyFrom 16 = .ok (.aload_n 0, 1) := by decide +kernel
theorem dX6_copyFrom_17 : decode cX6_copyFrom 17 = .ok (.aload_n 1, 1) := by decide +kernel
theorem dX6_copyFrom_18 : decode cX6_copyFrom 18 = .ok (.getfield 18, 3) := by decide +kernel
theorem dX6_copyFrom_21 : decode cX6_copyFrom 21 = .ok (.putfield 18, 3) := by decide +kernel
theorem dX6_copyFrom_24 : decode cX6_copyFrom 24 = .ok (.aload_n 0, 1) := by decide +kernel
theorem dX6_copyFrom_25 : decode cX6_copyFrom 25 = .ok (.aload_n 1, 1) := by decide +kernel
theorem dX6_copyFrom_26 : decode cX6_copyFrom 26 = .ok (.getfield 9, 3) := by decide +kernel
theorem dX6_copyFrom_29 : decode cX6_copyFrom 29 = .ok (.putfield 9, 3) := by decide +kernel
theorem dX6_copyFrom_32 : decode cX6_copyFrom 32 = .ok (.return_, 1) := by decide +kernel
theorem dJ6_bitCount_0f7a4_0 : decode cJ6_bitCount_0f7a4 0 = .ok (.iload_n 0, 1) := by decide +kernel
theorem dJ6_bitCount_0f7a4_1 : decode cJ6_bitCount_0f7a4 1 = .ok (.iload_n 0, 1) := by decide +kernel
theorem dJ6_bitCount_0f7a4_2 : decode cJ6_bitCount_0f7a4 2 = .ok (.iconst 1, 1) := by decide +kernel
theorem dJ6_bitCount_0f7a4_3 : decode cJ6_bitCount_0f7a4 3 = .ok (.iushr, 1) := by decide +kernel
theorem dJ6_bitCount_0f7a4_4 : decode cJ6_bitCount_0f7a4 4 = .ok (.ldc_w 265, 3) := by decide +kernel
theorem dJ6_bitCount_0f7a4_7 : decode cJ6_bitCount_0f7a4 7 = .ok (.iand, 1) := by decide +kernel
theorem dJ6_bitCount_0f7a4_8 : decode cJ6_bitCount_0f7a4 8 = .ok (.isub, 1) := by decide +kernel
theorem dJ6_bitCount_0f7a4_9 : decode cJ6_bitCount_0f7a4 9 = .ok (.istore_n 0, 1) := by decide +kernel
theorem dJ6_bitCount_0f7a4_10 : decode cJ6_bitCount_0f7a4 10 = .ok (.iload_n 0, 1) := by decide +kernel
theorem dJ6_bitCount_0f7a4_11 : decode cJ6_bitCount_0f7a4 11 = .ok (.ldc_w 266, 3) := by decide +kernel
theorem dJ6_bitCount_0f7a4_14 : decode cJ6_bitCount_0f7a4 14 = .ok (.iand, 1) := by decide +kernel
theorem dJ6_bitCount_0f7a4_15 : decode cJ6_bitCount_0f7a4 15 = .ok (.iload_n 0, 1) := by decide +kernel
theorem dJ6_bitCount_0f7a4_16 : decode cJ6_bitCount_0f7a4 16 = .ok (.iconst 2, 1) := by decide +kernel
theorem dJ6_bitCount_0f7a4_17 : decode cJ6_bitCount_0f7a4 17 = .ok (.iushr, 1) := by decide +kernel
theorem dJ6_bitCount_0f7a4_18 : decode cJ6_bitCount_0f7a4 18 = .ok (.ldc_w 266, 3) := by decide +kernel
theorem dJ6_bitCount_0f7a4_21 : decode cJ6_bitCount_0f7a4 21 = .ok (.iand, 1) := by decide +kernel
theorem dJ6_bitCount_0f7a4_22 : decode cJ6_bitCount_0f7a4 22 = .ok (.iadd, 1) := by decide +kernel
theorem dJ6_bitCount_0f7a4_23 : decode cJ6_bitCount_0f7a4 23 = .ok (.istore_n 0, 1) := by decide +kernel
theorem dJ6_bitCount_0f7a4_24 : decode cJ6_bitCount_0f7a4 24 = .ok (.iload_n 0, 1) := by decide +kernel
theorem dJ6_bitCount_0f7a4_25 : decode cJ6_bitCount_0f7a4 25 = .ok (.iload_n 0, 1) := by decide +kernel
theorem dJ6_bitCount_0f7a4_26 : decode cJ6_bitCount_0f7a4 26 = .ok (.iconst 4, 1) := by decide +kernel
theorem dJ6_bitCount_0f7a4_27 : decode cJ6_bitCount_0f7a4 27 = .ok (.iushr, 1) := by decide +kernel
theorem dJ6_bitCount_0f7a4_28 : decode cJ6_bitCount_0f7a4 28 = .ok (.iadd, 1) := by decide +kernel
theorem dJ6_bitCount_0f7a4_29 : decode cJ6_bitCount_0f7a4 29 = .ok (.ldc_w 267, 3) := by decide +kernel
theorem dJ6_bitCount_0f7a4_32 : decode cJ6_bitCount_0f7a4 32 = .ok (.iand, 1) := by decide +kernel
theorem dJ6_bitCount_0f7a4_33 : decode cJ6_bitCount_0f7a4 33 = .ok (.istore_n 0, 1) := by decide +kernel
theorem dJ6_bitCount_0f7a4_34 : decode cJ6_bitCount_0f7a4 34 = .ok (.iload_n 0, 1) := by decide +kernel
theorem dJ6_bitCount_0f7a4_35 : decode cJ6_bitCount_0f7a4 35 = .ok (.iload_n 0, 1) := by decide +kernel
theorem dJ6_bitCount_0f7a4_36 : decode cJ6_bitCount_0f7a4 36 = .ok (.bipush 8, 2) := by decide +kernel
theorem dJ6_bitCount_0f7a4_38 : decode cJ6_bitCount_0f7a4 38 = .ok (.iushr, 1) := by decide +kernel
theorem dJ6_bitCount_0f7a4_39 : decode cJ6_bitCount_0f7a4 39 = .ok (.iadd, 1) := by decide +kernel
theorem dJ6_bitCount_0f7a4_40 : decode cJ6_bitCount_0f7a4 40 = .ok (.istore_n 0, 1) := by decide +kernel
theorem dJ6_bitCount_0f7a4_41 : decode cJ6_bitCount_0f7a4 41 = .ok (.iload_n 0, 1) := by decide +kernel
theorem dJ6_bitCount_0f7a4_42 : decode cJ6_bitCount_0f7a4 42 = .ok (.iload_n 0, 1) := by decide +kernel
theorem dJ6_bitCount_0f7a4_43 : decode cJ6_bitCount_0f7a4 43 = .ok (.bipush 16, 2) := by decide +kernel
theorem dJ6_bitCount_0f7a4_45 : decode cJ6_bitCount_0f7a4 45 = .ok (.iushr, 1) := by decide +kernel
theorem dJ6_bitCount_0f7a4_46 : decode cJ6_bitCount_0f7a4 46 = .ok (.iadd, 1) := by decide +kernel
theorem dJ6_bitCount_0f7a4_47 : decode cJ6_bitCount_0f7a4 47 = .ok (.istore_n 0, 1) := by decide +kernel
theorem dJ6_bitCount_0f7a4_48 : decode cJ6_bitCount_0f7a4 48 = .ok (.iload_n 0, 1) := by decide +kernel
theorem dJ6_bitCount_0f7a4_49 : decode cJ6_bitCount_0f7a4 49 = .ok (.bipush 63, 2) := by decide +kernel
theorem dJ6_bitCount_0f7a4_51 : decode cJ6_bitCount_0f7a4 51 = .ok (.iand, 1) := by decide +kernel
theorem dJ6_bitCount_0f7a4_52 : decode cJ6_bitCount_0f7a4 52 = .ok (.ireturn, 1) := by decide +kernel
theorem dJ9_max_7cf53_0 : decode cJ9_max_7cf53 0 = .ok (.iload_n 0, 1) := by decide +kernel
theorem dJ9_max_7cf53_1 : decode cJ9_max_7cf53 1 = .ok (.iload_n 1, 1) := by decide +kernel
theorem dJ9_max_7cf53_2 : decode cJ9_max_7cf53 2 = .ok (.if_icmp .lt 7, 3) := by decide +kernel
theorem dJ9_max_7cf53_5 : decode cJ9_max_7cf53 5 = .ok (.iload_n 0, 1) := by decide +kernel
theorem dJ9_max_7cf53_6 : decode cJ9_max_7cf53 6 = .ok (.goto 4, 3) := by decide +kernel
theorem dJ9_max_7cf53_9 : decode cJ9_max_7cf53 9 = .ok (.iload_n 1, 1) := by decide +kernel
theorem dJ9_max_7cf53_10 : decode cJ9_max_7cf53 10 = .ok (.ireturn, 1) := by decide +kernel
theorem dJ13_bitCount_95d88_0 : decode cJ13_bitCount_95d88 0 = .ok (.lload_n 0, 1) := by decide +kernel
theorem dJ13_bitCount_95d88_1 : decode cJ13_bitCount_95d88 1 = .ok (.lload_n 0, 1) := by decide +kernel
theorem dJ13_bitCount_95d88_2 : decode cJ13_bitCount_95d88 2 = .ok (.iconst 1, 1) := by decide +kernel
theorem dJ13_bitCount_95d88_3 : decode cJ13_bitCount_95d88 3 = .ok (.lushr, 1) := by decide +kernel
theorem dJ13_bitCount_95d88_4 : decode cJ13_bitCount_95d88 4 = .ok (.ldc2_w 314, 3) := by decide +kernel
theorem dJ13_bitCount_95d88_7 : decode cJ13_bitCount_95d88 7 = .ok (.land, 1) := by decide +kernel
theorem dJ13_bitCount_95d88_8 : decode cJ13_bitCount_95d88 8 = .ok (.lsub, 1) := by decide +kernel
theorem dJ13_bitCount_95d88_9 : decode cJ13_bitCount_95d88 9 = .ok (.lstore_n 0, 1) := by decide +kernel
theorem dJ13_bitCount_95d88_10 : decode cJ13_bitCount_95d88 10 = .ok (.lload_n 0, 1) := by decide +kernel
theorem dJ13_bitCount_95d88_11 : decode cJ13_bitCount_95d88 11 = .ok (.ldc2_w 316, 3) := by decide +kernel
theorem dJ13_bitCount_95d88_14 : decode cJ13_bitCount_95d88 14 = .ok (.land, 1) := by decide +kernel
theorem dJ13_bitCount_95d88_15 : decode cJ13_bitCount_95d88 15 = .ok (.lload_n 0, 1) := by decide +kernel
theorem dJ13_bitCount_95d88_16 : decode cJ13_bitCount_95d88 16 = .ok (.iconst 2, 1) := by decide +kernel
theorem dJ13_bitCount_95d88_17 : decode cJ13_bitCount_95d88 17 = .ok (.lushr, 1) := by decide +kernel
theorem dJ13_bitCount_95d88_18 : decode cJ13_bitCount_95d88 18 = .ok (.ldc2_w 316, 3) := by decide +kernel
theorem dJ13_bitCount_95d88_21 : decode cJ13_bitCount_95d88 21 = .ok (.land, 1) := by decide +kernel
theorem dJ13_bitCount_95d88_22 : decode cJ13_bitCount_95d88 22 = .ok (.ladd, 1) := by decide +kernel
theorem dJ13_bitCount_95d88_23 : decode cJ13_bitCount_95d88 23 = .ok (.lstore_n 0, 1) := by decide +kernel
theorem dJ13_bitCount_95d88_24 : decode cJ13_bitCount_95d88 24 = .ok (.lload_n 0, 1) := by decide +kernel
theorem dJ13_bitCount_95d88_25 : decode cJ13_bitCount_95d88 25 = .ok (.lload_n 0, 1) := by decide +kernel
theorem dJ13_bitCount_95d88_26 : decode cJ13_bitCount_95d88 26 = .ok (.iconst 4, 1) := by decide +kernel
theorem dJ13_bitCount_95d88_27 : decode cJ13_bitCount_95d88 27 = .ok (.lushr, 1) := by decide +kernel
theorem dJ13_bitCount_95d88_28 : decode cJ13_bitCount_95d88 28 = .ok (.ladd, 1) := by decide +kernel
theorem dJ13_bitCount_95d88_29 : decode cJ13_bitCount_95d88 29 = .ok (.ldc2_w 318, 3) := by decide +kernel
theorem dJ13_bitCount_95d88_32 : decode cJ13_bitCount_95d88 32 = .ok (.land, 1) := by decide +kernel
theorem dJ13_bitCount_95d88_33 : decode cJ13_bitCount_95d88 33 = .ok (.lstore_n 0, 1) := by decide +kernel
theorem dJ13_bitCount_95d88_34 : decode cJ13_bitCount_95d88 34 = .ok (.lload_n 0, 1) := by decide +kernel
theorem dJ13_bitCount_95d88_35 : decode cJ13_bitCount_95d88 35 = .ok (.lload_n 0, 1) := by decide +kernel
theorem dJ13_bitCount_95d88_36 : decode cJ13_bitCount_95d88 36 = .ok (.bipush 8, 2) := by decide +kernel
theorem dJ13_bitCount_95d88_38 : decode cJ13_bitCount_95d88 38 = .ok (.lushr, 1) := by decide +kernel
theorem dJ13_bitCount_95d88_39 : decode cJ13_bitCount_95d88 39 = .ok (.ladd, 1) := by decide +kernel
theorem dJ13_bitCount_95d88_40 : decode cJ13_bitCount_95d88 40 = .ok (.lstore_n 0, 1) := by decide +kernel
theorem dJ13_bitCount_95d88_41 : decode cJ13_bitCount_95d88 41 = .ok (.lload_n 0, 1) := by decide +kernel
theorem dJ13_bitCount_95d88_42 : decode cJ13_bitCount_95d88 42 = .ok (.lload_n 0, 1) := by decide +kernel
theorem dJ13_bitCount_95d88_43 : decode cJ13_bitCount_95d88 43 = .ok (.bipush 16, 2) := by decide +kernel
theorem dJ13_bitCount_95d88_45 : decode cJ13_bitCount_95d88 45 = .ok (.lushr, 1) := by decide +kernel
theorem dJ13_bitCount_95d88_46 : decode cJ13_bitCount_95d88 46 = .ok (.ladd, 1) := by decide +kernel
theorem dJ13_bitCount_95d88_47 : decode cJ13_bitCount_95d88 47 = .ok (.lstore_n 0, 1) := by decide +kernel
theorem dJ13_bitCount_95d88_48 : decode cJ13_bitCount_95d88 48 = .ok (.lload_n 0, 1) := by decide +kernel
theorem dJ13_bitCount_95d88_49 : decode cJ13_bitCount_95d88 49 = .ok (.lload_n 0, 1) := by decide +kernel
theorem dJ13_bitCount_95d88_50 : decode cJ13_bitCount_95d88 50 = .ok (.bipush 32, 2) := by decide +kernel
theorem dJ13_bitCount_95d88_52 : decode cJ13_bitCount_95d88 52 = .ok (.lushr, 1) := by decide +kernel
theorem dJ13_bitCount_95d88_53 : decode cJ13_bitCount_95d88 53 = .ok (.ladd, 1) := by decide +kernel
theorem dJ13_bitCount_95d88_54 : decode cJ13_bitCount_95d88 54 = .ok (.lstore_n 0, 1) := by decide +kernel
theorem dJ13_bitCount_95d88_55 : decode cJ13_bitCount_95d88 55 = .ok (.lload_n 0, 1) := by decide +kernel
theorem dJ13_bitCount_95d88_56 : decode cJ13_bitCount_95d88 56 = .ok (.l2i, 1) := by decide +kernel
theorem dJ13_bitCount_95d88_57 : decode cJ13_bitCount_95d88 57 = .ok (.bipush 127, 2) := by decide +kernel
theorem dJ13_bitCount_95d88_59 : decode cJ13_bitCount_95d88 59 = .ok (.iand, 1) := by decide +kernel
theorem dJ13_bitCount_95d88_60 : decode cJ13_bitCount_95d88 60 = .ok (.ireturn, 1) := by decide +kernel
