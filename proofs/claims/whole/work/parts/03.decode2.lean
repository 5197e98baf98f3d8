theorem dX11_shrink_66 : decode cX11_shrink 66 = .ok (.iload 4, 2) := by decide +kernel
theorem dX11_shrink_68 : decode cX11_shrink 68 = .ok (.iaload, 1) := by decide +kernel
theorem dX11_shrink_69 : decode cX11_shrink 69 = .ok (.iaload, 1) := by decide +kernel
theorem dX11_shrink_70 : decode cX11_shrink 70 = .ok (.iastore, 1) := by decide +kernel
theorem dX11_shrink_71 : decode cX11_shrink 71 = .ok (.iinc 4 1, 3) := by decide +kernel
theorem dX11_shrink_74 : decode cX11_shrink 74 = .ok (.goto (-27), 3) := by decide +kernel
theorem dX11_shrink_77 : decode cX11_shrink 77 = .ok (.aload_n 2, 1) := by decide +kernel
theorem dX11_shrink_78 : decode cX11_shrink 78 = .ok (.invokevirtual 240, 3) := by decide +kernel
theorem dX11_shrink_81 : decode cX11_shrink 81 = .ok (.ifCond .ne 5, 3) := by decide +kernel
theorem dX11_shrink_84 : decode cX11_shrink 84 = .ok (.iconst (-1), 1) := by decide +kernel
theorem dX11_shrink_85 : decode cX11_shrink 85 = .ok (.ireturn, 1) := by decide +kernel
theorem dX11_shrink_86 : decode cX11_shrink 86 = .ok (.iconst 0, 1) := by decide +kernel
theorem dX11_shrink_87 : decode cX11_shrink 87 = .ok (.istore 4, 2) := by decide +kernel
theorem dX11_shrink_89 : decode cX11_shrink 89 = .ok (.iconst 0, 1) := by decide +kernel
theorem dX11_shrink_90 : decode cX11_shrink 90 = .ok (.istore 5, 2) := by decide +kernel
theorem dX11_shrink_92 : decode cX11_shrink 92 = .ok (.iload 5, 2) := by decide +kernel
theorem dX11_shrink_94 : decode cX11_shrink 94 = .ok (.iload_n 3, 1) := by decide +kernel
theorem dX11_shrink_95 : decode cX11_shrink 95 = .ok (.if_icmp .ge 33, 3) := by decide +kernel
theorem dX11_shrink_98 : decode cX11_shrink 98 = .ok (.aload_n 2, 1) := by decide +kernel
theorem dX11_shrink_99 : decode cX11_shrink 99 = .ok (.getfield 228, 3) := by decide +kernel
theorem dX11_shrink_102 : decode cX11_shrink 102 = .ok (.getstatic 237, 3) := by decide +kernel
theorem dX11_shrink_105 : decode cX11_shrink 105 = .ok (.iload 5, 2) := by decide +kernel
theorem dX11_shrink_107 : decode cX11_shrink 107 = .ok (.iaload, 1) := by decide +kernel
theorem dX11_shrink_108 : decode cX11_shrink 108 = .ok (.iaload, 1) := by decide +kernel
theorem dX11_shrink_109 : decode cX11_shrink 109 = .ok (.aload_n 0, 1) := by decide +kernel
theorem dX11_shrink_110 : decode cX11_shrink 110 = .ok (.getfield 64, 3) := by decide +kernel
theorem dX11_shrink_113 : decode cX11_shrink 113 = .ok (.iload 5, 2) := by decide +kernel
theorem dX11_shrink_115 : decode cX11_shrink 115 = .ok (.iaload, 1) := by decide +kernel
theorem dX11_shrink_116 : decode cX11_shrink 116 = .ok (.if_icmp .eq 6, 3) := by decide +kernel
theorem dX11_shrink_119 : decode cX11_shrink 119 = .ok (.iinc 4 1, 3) := by decide +kernel
theorem dX11_shrink_122 : decode cX11_shrink 122 = .ok (.iinc 5 1, 3) := by decide +kernel
theorem dX11_shrink_125 : decode cX11_shrink 125 = .ok (.goto (-33), 3) := by decide +kernel
theorem dX11_shrink_128 : decode cX11_shrink 128 = .ok (.iload 4, 2) := by decide +kernel
theorem dX11_shrink_130 : decode cX11_shrink 130 = .ok (.ireturn, 1) := by decide +kernel
theorem dX11_known_0 : decode cX11_known 0 = .ok (.aload_n 0, 1) := by decide +kernel
theorem dX11_known_1 : decode cX11_known 1 = .ok (.iload_n 1, 1) := by decide +kernel
theorem dX11_known_2 : decode cX11_known 2 = .ok (.iload_n 2, 1) := by decide +kernel
theorem dX11_known_3 : decode cX11_known 3 = .ok (.invokevirtual 214, 3) := by decide +kernel
theorem dX11_known_6 : decode cX11_known 6 = .ok (.ifCond .eq 10, 3) := by decide +kernel
theorem dX11_known_9 : decode cX11_known 9 = .ok (.iload_n 3, 1) := by decide +kernel
theorem dX11_known_10 : decode cX11_known 10 = .ok (.invokestatic 132, 3) := by decide +kernel
theorem dX11_known_13 : decode cX11_known 13 = .ok (.ifCond .ne 10, 3) := by decide +kernel
theorem dX11_known_16 : decode cX11_known 16 = .ok (.aload_n 0, 1) := by decide +kernel
theorem dX11_known_17 : decode cX11_known 17 = .ok (.bipush (-2), 2) := by decide +kernel
theorem dX11_known_19 : decode cX11_known 19 = .ok (.invokevirtual 71, 3) := by decide +kernel
theorem dX11_known_22 : decode cX11_known 22 = .ok (.ireturn, 1) := by decide +kernel
theorem dX11_known_23 : decode cX11_known 23 = .ok (.aload_n 0, 1) := by decide +kernel
theorem dX11_known_24 : decode cX11_known 24 = .ok (.getfield 53, 3) := by decide +kernel
theorem dX11_known_27 : decode cX11_known 27 = .ok (.getfield 217, 3) := by decide +kernel
theorem dX11_known_30 : decode cX11_known 30 = .ok (.astore 4, 2) := by decide +kernel
theorem dX11_known_32 : decode cX11_known 32 = .ok (.aload_n 0, 1) := by decide +kernel
theorem dX11_known_33 : decode cX11_known 33 = .ok (.getfield 35, 3) := by decide +kernel
theorem dX11_known_36 : decode cX11_known 36 = .ok (.aload 4, 2) := by decide +kernel
theorem dX11_known_38 : decode cX11_known 38 = .ok (.iload_n 3, 1) := by decide +kernel
theorem dX11_known_39 : decode cX11_known 39 = .ok (.aload_n 0, 1) := by decide +kernel
theorem dX11_known_40 : decode cX11_known 40 = .ok (.getfield 35, 3) := by decide +kernel
theorem dX11_known_43 : decode cX11_known 43 = .ok (.iload_n 3, 1) := by decide +kernel
theorem dX11_known_44 : decode cX11_known 44 = .ok (.invokevirtual 221, 3) := by decide +kernel
theorem dX11_known_47 : decode cX11_known 47 = .ok (.invokevirtual 224, 3) := by decide +kernel
theorem dX11_known_50 : decode cX11_known 50 = .ok (.aload 4, 2) := by decide +kernel
theorem dX11_known_52 : decode cX11_known 52 = .ok (.invokevirtual 240, 3) := by decide +kernel
theorem dX11_known_55 : decode cX11_known 55 = .ok (.ifCond .eq 18, 3) := by decide +kernel
theorem dX11_known_58 : decode cX11_known 58 = .ok (.aload 4, 2) := by decide +kernel
theorem dX11_known_60 : decode cX11_known 60 = .ok (.getfield 228, 3) := by decide +kernel
theorem dX11_known_63 : decode cX11_known 63 = .ok (.iload_n 1, 1) := by decide +kernel
theorem dX11_known_64 : decode cX11_known 64 = .ok (.bipush 10, 2) := by decide +kernel
theorem dX11_known_66 : decode cX11_known 66 = .ok (.imul, 1) := by decide +kernel
theorem dX11_known_67 : decode cX11_known 67 = .ok (.iload_n 2, 1) := by decide +kernel
theorem dX11_known_68 : decode cX11_known 68 = .ok (.iadd, 1) := by decide +kernel
theorem dX11_known_69 : decode cX11_known 69 = .ok (.iaload, 1) := by decide +kernel
theorem dX11_known_70 : decode cX11_known 70 = .ok (.goto 4, 3) := by decide +kernel
theorem dX11_known_73 : decode cX11_known 73 = .ok (.iconst 0, 1) := by decide +kernel
theorem dX11_known_74 : decode cX11_known 74 = .ok (.ireturn, 1) := by decide +kernel
theorem dX11_can_0 : decode cX11_can 0 = .ok (.iload_n 1, 1) := by decide +kernel
theorem dX11_can_1 : decode cX11_can 1 = .ok (.invokestatic 132, 3) := by decide +kernel
theorem dX11_can_4 : decode cX11_can 4 = .ok (.ifCond .ne 10, 3) := by decide +kernel
theorem dX11_can_7 : decode cX11_can 7 = .ok (.aload_n 0, 1) := by decide +kernel
theorem dX11_can_8 : decode cX11_can 8 = .ok (.bipush (-2), 2) := by decide +kernel
theorem dX11_can_10 : decode cX11_can 10 = .ok (.invokevirtual 71, 3) := by decide +kernel
theorem dX11_can_13 : decode cX11_can 13 = .ok (.ireturn, 1) := by decide +kernel
theorem dX11_can_14 : decode cX11_can 14 = .ok (.aload_n 0, 1) := by decide +kernel
theorem dX11_can_15 : decode cX11_can 15 = .ok (.getfield 35, 3) := by decide +kernel
theorem dX11_can_18 : decode cX11_can 18 = .ok (.aload_n 0, 1) := by decide +kernel
theorem dX11_can_19 : decode cX11_can 19 = .ok (.getfield 53, 3) := by decide +kernel
theorem dX11_can_22 : decode cX11_can 22 = .ok (.iload_n 1, 1) := by decide +kernel
theorem dX11_can_23 : decode cX11_can 23 = .ok (.aload_n 0, 1) := by decide +kernel
theorem dX11_can_24 : decode cX11_can 24 = .ok (.getfield 35, 3) := by decide +kernel
theorem dX11_can_27 : decode cX11_can 27 = .ok (.iload_n 1, 1) := by decide +kernel
theorem dX11_can_28 : decode cX11_can 28 = .ok (.invokevirtual 221, 3) := by decide +kernel
theorem dX11_can_31 : decode cX11_can 31 = .ok (.invokevirtual 243, 3) := by decide +kernel
theorem dX11_can_34 : decode cX11_can 34 = .ok (.istore_n 2, 1) := by decide +kernel
theorem dX11_can_35 : decode cX11_can 35 = .ok (.iload_n 2, 1) := by decide +kernel
theorem dX11_can_36 : decode cX11_can 36 = .ok (.bipush (-5), 2) := by decide +kernel
theorem dX11_can_38 : decode cX11_can 38 = .ok (.if_icmp .ne 12, 3) := by decide +kernel
theorem dX11_can_41 : decode cX11_can 41 = .ok (.aload_n 0, 1) := by decide +kernel
theorem dX11_can_42 : decode cX11_can 42 = .ok (.bipush (-5), 2) := by decide +kernel
theorem dX11_can_44 : decode cX11_can 44 = .ok (.invokevirtual 71, 3) := by decide +kernel
theorem dX11_can_47 : decode cX11_can 47 = .ok (.goto 4, 3) := by decide +kernel
theorem dX11_can_50 : decode cX11_can 50 = .ok (.iload_n 2, 1) := by decide +kernel
theorem dX11_can_51 : decode cX11_can 51 = .ok (.ireturn, 1) := by decide +kernel
theorem dX11_choose_0 : decode cX11_choose 0 = .ok (.iload_n 1, 1) := by decide +kernel
theorem dX11_choose_1 : decode cX11_choose 1 = .ok (.invokestatic 132, 3) := by decide +kernel
theorem dX11_choose_4 : decode cX11_choose 4 = .ok (.ifCond .ne 10, 3) := by decide +kernel
theorem dX11_choose_7 : decode cX11_choose 7 = .ok (.aload_n 0, 1) := by decide +kernel
theorem dX11_choose_8 : decode cX11_choose 8 = .ok (.bipush (-2), 2) := by decide +kernel
theorem dX11_choose_10 : decode cX11_choose 10 = .ok (.invokevirtual 71, 3) := by decide +kernel
theorem dX11_choose_13 : decode cX11_choose 13 = .ok (.ireturn, 1) := by decide +kernel
theorem dX11_choose_14 : decode cX11_choose 14 = .ok (.aload_n 0, 1) := by decide +kernel
theorem dX11_choose_15 : decode cX11_choose 15 = .ok (.iload_n 1, 1) := by decide +kernel
theorem dX11_choose_16 : decode cX11_choose 16 = .ok (.invokevirtual 247, 3) := by decide +kernel
theorem dX11_choose_19 : decode cX11_choose 19 = .ok (.iconst 3, 1) := by decide +kernel
theorem dX11_choose_20 : decode cX11_choose 20 = .ok (.if_icmp .ne 12, 3) := by decide +kernel
theorem dX11_choose_23 : decode cX11_choose 23 = .ok (.aload_n 0, 1) := by decide +kernel
theorem dX11_choose_24 : decode cX11_choose 24 = .ok (.bipush (-5), 2) := by decide +kernel
theorem dX11_choose_26 : decode cX11_choose 26 = .ok (.invokevirtual 71, 3) := by decide +kernel
theorem dX11_choose_29 : decode cX11_choose 29 = .ok (.goto 10, 3) := by decide +kernel
theorem dX11_choose_32 : decode cX11_choose 32 = .ok (.aload_n 0, 1) := by decide +kernel
theorem dX11_choose_33 : decode cX11_choose 33 = .ok (.getfield 53, 3) := by decide +kernel
theorem dX11_choose_36 : decode cX11_choose 36 = .ok (.getfield 250, 3) := by decide +kernel
theorem dX11_choose_39 : decode cX11_choose 39 = .ok (.ireturn, 1) := by decide +kernel
theorem dX11_blind_0 : decode cX11_blind 0 = .ok (.iload_n 1, 1) := by decide +kernel
theorem dX11_blind_1 : decode cX11_blind 1 = .ok (.invokestatic 132, 3) := by decide +kernel
theorem dX11_blind_4 : decode cX11_blind 4 = .ok (.ifCond .ne 10, 3) := by decide +kernel
theorem dX11_blind_7 : decode cX11_blind 7 = .ok (.aload_n 0, 1) := by decide +kernel
theorem dX11_blind_8 : decode cX11_blind 8 = .ok (.bipush (-2), 2) := by decide +kernel
theorem dX11_blind_10 : decode cX11_blind 10 = .ok (.invokevirtual 71, 3) := by decide +kernel
theorem dX11_blind_13 : decode cX11_blind 13 = .ok (.ireturn, 1) := by decide +kernel
theorem dX11_blind_14 : decode cX11_blind 14 = .ok (.aload_n 0, 1) := by decide +kernel
theorem dX11_blind_15 : decode cX11_blind 15 = .ok (.iload_n 1, 1) := by decide +kernel
theorem dX11_blind_16 : decode cX11_blind 16 = .ok (.invokevirtual 247, 3) := by decide +kernel
theorem dX11_blind_19 : decode cX11_blind 19 = .ok (.iconst 3, 1) := by decide +kernel
theorem dX11_blind_20 : decode cX11_blind 20 = .ok (.if_icmp .ne 12, 3) := by decide +kernel
theorem dX11_blind_23 : decode cX11_blind 23 = .ok (.aload_n 0, 1) := by decide +kernel
theorem dX11_blind_24 : decode cX11_blind 24 = .ok (.bipush (-5), 2) := by decide +kernel
theorem dX11_blind_26 : decode cX11_blind 26 = .ok (.invokevirtual 71, 3) := by decide +kernel
theorem dX11_blind_29 : decode cX11_blind 29 = .ok (.goto 10, 3) := by decide +kernel
theorem dX11_blind_32 : decode cX11_blind 32 = .ok (.aload_n 0, 1) := by decide +kernel
theorem dX11_blind_33 : decode cX11_blind 33 = .ok (.getfield 53, 3) := by decide +kernel
theorem dX11_blind_36 : decode cX11_blind 36 = .ok (.getfield 253, 3) := by decide +kernel
theorem dX11_blind_39 : decode cX11_blind 39 = .ok (.ireturn, 1) := by decide +kernel
theorem dX11_told_0 : decode cX11_told 0 = .ok (.aload_n 0, 1) := by decide +kernel
theorem dX11_told_1 : decode cX11_told 1 = .ok (.iload_n 1, 1) := by decide +kernel
theorem dX11_told_2 : decode cX11_told 2 = .ok (.iload_n 2, 1) := by decide +kernel
theorem dX11_told_3 : decode cX11_told 3 = .ok (.invokevirtual 214, 3) := by decide +kernel
theorem dX11_told_6 : decode cX11_told 6 = .ok (.ifCond .eq 10, 3) := by decide +kernel
theorem dX11_told_9 : decode cX11_told 9 = .ok (.iload_n 3, 1) := by decide +kernel
theorem dX11_told_10 : decode cX11_told 10 = .ok (.invokestatic 132, 3) := by decide +kernel
theorem dX11_told_13 : decode cX11_told 13 = .ok (.ifCond .ne 10, 3) := by decide +kernel
theorem dX11_told_16 : decode cX11_told 16 = .ok (.aload_n 0, 1) := by decide +kernel
theorem dX11_told_17 : decode cX11_told 17 = .ok (.bipush (-2), 2) := by decide +kernel
theorem dX11_told_19 : decode cX11_told 19 = .ok (.invokevirtual 71, 3) := by decide +kernel
theorem dX11_told_22 : decode cX11_told 22 = .ok (.ireturn, 1) := by decide +kernel
theorem dX11_told_23 : decode cX11_told 23 = .ok (.aload_n 0, 1) := by decide +kernel
theorem dX11_told_24 : decode cX11_told 24 = .ok (.iload_n 3, 1) := by decide +kernel
theorem dX11_told_25 : decode cX11_told 25 = .ok (.invokevirtual 247, 3) := by decide +kernel
theorem dX11_told_28 : decode cX11_told 28 = .ok (.istore 4, 2) := by decide +kernel
theorem dX11_told_30 : decode cX11_told 30 = .ok (.iload 4, 2) := by decide +kernel
theorem dX11_told_32 : decode cX11_told 32 = .ok (.iconst 3, 1) := by decide +kernel
theorem dX11_told_33 : decode cX11_told 33 = .ok (.if_icmp .ne 10, 3) := by decide +kernel
theorem dX11_told_36 : decode cX11_told 36 = .ok (.aload_n 0, 1) := by decide +kernel
theorem dX11_told_37 : decode cX11_told 37 = .ok (.bipush (-5), 2) := by decide +kernel
theorem dX11_told_39 : decode cX11_told 39 = .ok (.invokevirtual 71, 3) := by decide +kernel
theorem dX11_told_42 : decode cX11_told 42 = .ok (.ireturn, 1) := by decide +kernel
theorem dX11_told_43 : decode cX11_told 43 = .ok (.iload 4, 2) := by decide +kernel
theorem dX11_told_45 : decode cX11_told 45 = .ok (.iconst 1, 1) := by decide +kernel
theorem dX11_told_46 : decode cX11_told 46 = .ok (.if_icmp .ne 26, 3) := by decide +kernel
theorem dX11_told_49 : decode cX11_told 49 = .ok (.aload_n 0, 1) := by decide +kernel
theorem dX11_told_50 : decode cX11_told 50 = .ok (.getfield 53, 3) := by decide +kernel
theorem dX11_told_53 : decode cX11_told 53 = .ok (.getfield 217, 3) := by decide +kernel
theorem dX11_told_56 : decode cX11_told 56 = .ok (.getfield 228, 3) := by decide +kernel
theorem dX11_told_59 : decode cX11_told 59 = .ok (.iload_n 1, 1) := by decide +kernel
theorem dX11_told_60 : decode cX11_told 60 = .ok (.bipush 10, 2) := by decide +kernel
theorem dX11_told_62 : decode cX11_told 62 = .ok (.imul, 1) := by decide +kernel
theorem dX11_told_63 : decode cX11_told 63 = .ok (.iload_n 2, 1) := by decide +kernel
theorem dX11_told_64 : decode cX11_told 64 = .ok (.iadd, 1) := by decide +kernel
theorem dX11_told_65 : decode cX11_told 65 = .ok (.iaload, 1) := by decide +kernel
theorem dX11_told_66 : decode cX11_told 66 = .ok (.invokestatic 256, 3) := by decide +kernel
theorem dX11_told_69 : decode cX11_told 69 = .ok (.goto 4, 3) := by decide +kernel
theorem dX11_told_72 : decode cX11_told 72 = .ok (.iconst (-1), 1) := by decide +kernel
theorem dX11_told_73 : decode cX11_told 73 = .ok (.ireturn, 1) := by decide +kernel
theorem dX11_many_0 : decode cX11_many 0 = .ok (.iload_n 1, 1) := by decide +kernel
theorem dX11_many_1 : decode cX11_many 1 = .ok (.invokestatic 132, 3) := by decide +kernel
theorem dX11_many_4 : decode cX11_many 4 = .ok (.ifCond .eq 15, 3) := by decide +kernel
theorem dX11_many_7 : decode cX11_many 7 = .ok (.iload_n 2, 1) := by decide +kernel
theorem dX11_many_8 : decode cX11_many 8 = .ok (.iconst 1, 1) := by decide +kernel
theorem dX11_many_9 : decode cX11_many 9 = .ok (.if_icmp .lt 10, 3) := by decide +kernel
theorem dX11_many_12 : decode cX11_many 12 = .ok (.iload_n 2, 1) := by decide +kernel
theorem dX11_many_13 : decode cX11_many 13 = .ok (.sipush 500, 3) := by decide +kernel
theorem dX11_many_16 : decode cX11_many 16 = .ok (.if_icmp .le 10, 3) := by decide +kernel
theorem dX11_many_19 : decode cX11_many 19 = .ok (.aload_n 0, 1) := by decide +kernel
theorem dX11_many_20 : decode cX11_many 20 = .ok (.bipush (-2), 2) := by decide +kernel
theorem dX11_many_22 : decode cX11_many 22 = .ok (.invokevirtual 71, 3) := by decide +kernel
theorem dX11_many_25 : decode cX11_many 25 = .ok (.ireturn, 1) := by decide +kernel
theorem dX11_many_26 : decode cX11_many 26 = .ok (.iconst 0, 1) := by decide +kernel
theorem dX11_many_27 : decode cX11_many 27 = .ok (.istore_n 3, 1) := by decide +kernel
theorem dX11_many_28 : decode cX11_many 28 = .ok (.aload_n 0, 1) := by decide +kernel
theorem dX11_many_29 : decode cX11_many 29 = .ok (.iload_n 1, 1) := by decide +kernel
theorem dX11_many_30 : decode cX11_many 30 = .ok (.invokevirtual 247, 3) := by decide +kernel
theorem dX11_many_33 : decode cX11_many 33 = .ok (.istore 4, 2) := by decide +kernel
theorem dX11_many_35 : decode cX11_many 35 = .ok (.iload 4, 2) := by decide +kernel
theorem dX11_many_37 : decode cX11_many 37 = .ok (.iconst 1, 1) := by decide +kernel
theorem dX11_many_38 : decode cX11_many 38 = .ok (.if_icmp .ne 33, 3) := by decide +kernel
theorem dX11_many_41 : decode cX11_many 41 = .ok (.iload_n 3, 1) := by decide +kernel
theorem dX11_many_42 : decode cX11_many 42 = .ok (.iload_n 2, 1) := by decide +kernel
theorem dX11_many_43 : decode cX11_many 43 = .ok (.if_icmp .ge 28, 3) := by decide +kernel
theorem dX11_many_46 : decode cX11_many 46 = .ok (.iinc 3 1, 3) := by decide +kernel
theorem dX11_many_49 : decode cX11_many 49 = .ok (.iload_n 3, 1) := by decide +kernel
theorem dX11_many_50 : decode cX11_many 50 = .ok (.iload_n 2, 1) := by decide +kernel
theorem dX11_many_51 : decode cX11_many 51 = .ok (.if_icmp .ge 13, 3) := by decide +kernel
theorem dX11_many_54 : decode cX11_many 54 = .ok (.aload_n 0, 1) := by decide +kernel
theorem dX11_many_55 : decode cX11_many 55 = .ok (.getfield 53, 3) := by decide +kernel
theorem dX11_many_58 : decode cX11_many 58 = .ok (.invokevirtual 259, 3) := by decide +kernel
theorem dX11_many_61 : decode cX11_many 61 = .ok (.goto 5, 3) := by decide +kernel
theorem dX11_many_64 : decode cX11_many 64 = .ok (.iload 4, 2) := by decide +kernel
theorem dX11_many_66 : decode cX11_many 66 = .ok (.istore 4, 2) := by decide +kernel
theorem dX11_many_68 : decode cX11_many 68 = .ok (.goto (-33), 3) := by decide +kernel
theorem dX11_many_71 : decode cX11_many 71 = .ok (.iload 4, 2) := by decide +kernel
theorem dX11_many_73 : decode cX11_many 73 = .ok (.iconst 3, 1) := by decide +kernel
theorem dX11_many_74 : decode cX11_many 74 = .ok (.if_icmp .ne 12, 3) := by decide +kernel
theorem dX11_many_77 : decode cX11_many 77 = .ok (.aload_n 0, 1) := by decide +kernel
theorem dX11_many_78 : decode cX11_many 78 = .ok (.bipush (-5), 2) := by decide +kernel
theorem dX11_many_80 : decode cX11_many 80 = .ok (.invokevirtual 71, 3) := by decide +kernel
theorem dX11_many_83 : decode cX11_many 83 = .ok (.goto 4, 3) := by decide +kernel
theorem dX11_many_86 : decode cX11_many 86 = .ok (.iload_n 3, 1) := by decide +kernel
theorem dX11_many_87 : decode cX11_many 87 = .ok (.ireturn, 1) := by decide +kernel
theorem dX11_may_0 : decode cX11_may 0 = .ok (.aload_n 0, 1) := by decide +kernel
theorem dX11_may_1 : decode cX11_may 1 = .ok (.iload_n 1, 1) := by decide +kernel
theorem dX11_may_2 : decode cX11_may 2 = .ok (.iload_n 2, 1) := by decide +kernel
theorem dX11_may_3 : decode cX11_may 3 = .ok (.invokevirtual 214, 3) := by decide +kernel
theorem dX11_may_6 : decode cX11_may 6 = .ok (.ifCond .eq 10, 3) := by decide +kernel
theorem dX11_may_9 : decode cX11_may 9 = .ok (.iload_n 3, 1) := by decide +kernel
theorem dX11_may_10 : decode cX11_may 10 = .ok (.invokestatic 132, 3) := by decide +kernel
theorem dX11_may_13 : decode cX11_may 13 = .ok (.ifCond .ne 10, 3) := by decide +kernel
theorem dX11_may_16 : decode cX11_may 16 = .ok (.aload_n 0, 1) := by decide +kernel
theorem dX11_may_17 : decode cX11_may 17 = .ok (.bipush (-2), 2) := by decide +kernel
theorem dX11_may_19 : decode cX11_may 19 = .ok (.invokevirtual 71, 3) := by decide +kernel
theorem dX11_may_22 : decode cX11_may 22 = .ok (.ireturn, 1) := by decide +kernel
theorem dX11_may_23 : decode cX11_may 23 = .ok (.aload_n 0, 1) := by decide +kernel
theorem dX11_may_24 : decode cX11_may 24 = .ok (.iload_n 1, 1) := by decide +kernel
theorem dX11_may_25 : decode cX11_may 25 = .ok (.iload_n 2, 1) := by decide +kernel
theorem dX11_may_26 : decode cX11_may 26 = .ok (.iload_n 3, 1) := by decide +kernel
theorem dX11_may_27 : decode cX11_may 27 = .ok (.invokevirtual 262, 3) := by decide +kernel
theorem dX11_may_30 : decode cX11_may 30 = .ok (.istore 4, 2) := by decide +kernel
theorem dX11_may_32 : decode cX11_may 32 = .ok (.iload 4, 2) := by decide +kernel
theorem dX11_may_34 : decode cX11_may 34 = .ok (.bipush (-5), 2) := by decide +kernel
theorem dX11_may_36 : decode cX11_may 36 = .ok (.if_icmp .ne 12, 3) := by decide +kernel
theorem dX11_may_39 : decode cX11_may 39 = .ok (.aload_n 0, 1) := by decide +kernel
theorem dX11_may_40 : decode cX11_may 40 = .ok (.bipush (-5), 2) := by decide +kernel
theorem dX11_may_42 : decode cX11_may 42 = .ok (.invokevirtual 71, 3) := by decide +kernel
theorem dX11_may_45 : decode cX11_may 45 = .ok (.goto 5, 3) := by decide +kernel
theorem dX11_may_48 : decode cX11_may 48 = .ok (.iload 4, 2) := by decide +kernel
theorem dX11_may_50 : decode cX11_may 50 = .ok (.ireturn, 1) := by decide +kernel
theorem dX11_must_0 : decode cX11_must 0 = .ok (.aload_n 0, 1) := by decide +kernel
theorem dX11_must_1 : decode cX11_must 1 = .ok (.iload_n 1, 1) := by decide +kernel
theorem dX11_must_2 : decode cX11_must 2 = .ok (.iload_n 2, 1) := by decide +kernel
theorem dX11_must_3 : decode cX11_must 3 = .ok (.invokevirtual 214, 3) := by decide +kernel
theorem dX11_must_6 : decode cX11_must 6 = .ok (.ifCond .eq 10, 3) := by decide +kernel
theorem dX11_must_9 : decode cX11_must 9 = .ok (.iload_n 3, 1) := by decide +kernel
theorem dX11_must_10 : decode cX11_must 10 = .ok (.invokestatic 132, 3) := by decide +kernel
theorem dX11_must_13 : decode cX11_must 13 = .ok (.ifCond .ne 10, 3) := by decide +kernel
theorem dX11_must_16 : decode cX11_must 16 = .ok (.aload_n 0, 1) := by decide +kernel
theorem dX11_must_17 : decode cX11_must 17 = .ok (.bipush (-2), 2) := by decide +kernel
theorem dX11_must_19 : decode cX11_must 19 = .ok (.invokevirtual 71, 3) := by decide +kernel
theorem dX11_must_22 : decode cX11_must 22 = .ok (.ireturn, 1) := by decide +kernel
theorem dX11_must_23 : decode cX11_must 23 = .ok (.aload_n 0, 1) := by decide +kernel
theorem dX11_must_24 : decode cX11_must 24 = .ok (.iload_n 1, 1) := by decide +kernel
theorem dX11_must_25 : decode cX11_must 25 = .ok (.iload_n 2, 1) := by decide +kernel
theorem dX11_must_26 : decode cX11_must 26 = .ok (.iload_n 3, 1) := by decide +kernel
theorem dX11_must_27 : decode cX11_must 27 = .ok (.invokevirtual 262, 3) := by decide +kernel
theorem dX11_must_30 : decode cX11_must 30 = .ok (.istore 4, 2) := by decide +kernel
theorem dX11_must_32 : decode cX11_must 32 = .ok (.iload 4, 2) := by decide +kernel
theorem dX11_must_34 : decode cX11_must 34 = .ok (.bipush (-5), 2) := by decide +kernel
theorem dX11_must_36 : decode cX11_must 36 = .ok (.if_icmp .ne 12, 3) := by decide +kernel
theorem dX11_must_39 : decode cX11_must 39 = .ok (.aload_n 0, 1) := by decide +kernel
theorem dX11_must_40 : decode cX11_must 40 = .ok (.bipush (-5), 2) := by decide +kernel
theorem dX11_must_42 : decode cX11_must 42 = .ok (.invokevirtual 71, 3) := by decide +kernel
theorem dX11_must_45 : decode cX11_must 45 = .ok (.goto 8, 3) := by decide +kernel
theorem dX11_must_48 : decode cX11_must 48 = .ok (.iload 4, 2) := by decide +kernel
theorem dX11_must_50 : decode cX11_must 50 = .ok (.invokestatic 256, 3) := by decide +kernel
theorem dX11_must_53 : decode cX11_must 53 = .ok (.ireturn, 1) := by decide +kernel
theorem dX11_quarrel_0 : decode cX11_quarrel 0 = .ok (.iload_n 1, 1) := by decide +kernel
theorem dX11_quarrel_1 : decode cX11_quarrel 1 = .ok (.invokestatic 132, 3) := by decide +kernel
theorem dX11_quarrel_4 : decode cX11_quarrel 4 = .ok (.ifCond .ne 10, 3) := by decide +kernel
theorem dX11_quarrel_7 : decode cX11_quarrel 7 = .ok (.aload_n 0, 1) := by decide +kernel
theorem dX11_quarrel_8 : decode cX11_quarrel 8 = .ok (.bipush (-2), 2) := by decide +kernel
theorem dX11_quarrel_10 : decode cX11_quarrel 10 = .ok (.invokevirtual 71, 3) := by decide +kernel
theorem dX11_quarrel_13 : decode cX11_quarrel 13 = .ok (.ireturn, 1) := by decide +kernel
theorem dX11_quarrel_14 : decode cX11_quarrel 14 = .ok (.aload_n 0, 1) := by decide +kernel
theorem dX11_quarrel_15 : decode cX11_quarrel 15 = .ok (.getfield 60, 3) := by decide +kernel
theorem dX11_quarrel_18 : decode cX11_quarrel 18 = .ok (.aload_n 0, 1) := by decide +kernel
theorem dX11_quarrel_19 : decode cX11_quarrel 19 = .ok (.getfield 35, 3) := by decide +kernel
theorem dX11_quarrel_22 : decode cX11_quarrel 22 = .ok (.aload_n 0, 1) := by decide +kernel
theorem dX11_quarrel_23 : decode cX11_quarrel 23 = .ok (.getfield 53, 3) := by decide +kernel
theorem dX11_quarrel_26 : decode cX11_quarrel 26 = .ok (.iload_n 1, 1) := by decide +kernel
theorem dX11_quarrel_27 : decode cX11_quarrel 27 = .ok (.invokevirtual 266, 3) := by decide +kernel
theorem dX11_quarrel_30 : decode cX11_quarrel 30 = .ok (.ifCond .eq 13, 3) := by decide +kernel
theorem dX11_quarrel_33 : decode cX11_quarrel 33 = .ok (.aload_n 0, 1) := by decide +kernel
theorem dX11_quarrel_34 : decode cX11_quarrel 34 = .ok (.getfield 60, 3) := by decide +kernel
theorem dX11_quarrel_37 : decode cX11_quarrel 37 = .ok (.getfield 270, 3) := by decide +kernel
theorem dX11_quarrel_40 : decode cX11_quarrel 40 = .ok (.goto 9, 3) := by decide +kernel
theorem dX11_quarrel_43 : decode cX11_quarrel 43 = .ok (.aload_n 0, 1) := by decide +kernel
theorem dX11_quarrel_44 : decode cX11_quarrel 44 = .ok (.bipush (-5), 2) := by decide +kernel
theorem dX11_quarrel_46 : decode cX11_quarrel 46 = .ok (.invokevirtual 71, 3) := by decide +kernel
theorem dX11_quarrel_49 : decode cX11_quarrel 49 = .ok (.ireturn, 1) := by decide +kernel
theorem dX11_small_0 : decode cX11_small 0 = .ok (.iload_n 1, 1) := by decide +kernel
theorem dX11_small_1 : decode cX11_small 1 = .ok (.invokestatic 132, 3) := by decide +kernel
theorem dX11_small_4 : decode cX11_small 4 = .ok (.ifCond .ne 10, 3) := by decide +kernel
theorem dX11_small_7 : decode cX11_small 7 = .ok (.aload_n 0, 1) := by decide +kernel
theorem dX11_small_8 : decode cX11_small 8 = .ok (.bipush (-2), 2) := by decide +kernel
theorem dX11_small_10 : decode cX11_small 10 = .ok (.invokevirtual 71, 3) := by decide +kernel
theorem dX11_small_13 : decode cX11_small 13 = .ok (.ireturn, 1) := by decide +kernel
theorem dX11_small_14 : decode cX11_small 14 = .ok (.aload_n 0, 1) := by decide +kernel
theorem dX11_small_15 : decode cX11_small 15 = .ok (.getfield 60, 3) := by decide +kernel
theorem dX11_small_18 : decode cX11_small 18 = .ok (.aload_n 0, 1) := by decide +kernel
theorem dX11_small_19 : decode cX11_small 19 = .ok (.getfield 35, 3) := by decide +kernel
theorem dX11_small_22 : decode cX11_small 22 = .ok (.aload_n 0, 1) := by decide +kernel
theorem dX11_small_23 : decode cX11_small 23 = .ok (.getfield 53, 3) := by decide +kernel
theorem dX11_small_26 : decode cX11_small 26 = .ok (.iload_n 1, 1) := by decide +kernel
theorem dX11_small_27 : decode cX11_small 27 = .ok (.invokevirtual 266, 3) := by decide +kernel
theorem dX11_small_30 : decode cX11_small 30 = .ok (.ifCond .eq 16, 3) := by decide +kernel
theorem dX11_small_33 : decode cX11_small 33 = .ok (.aload_n 0, 1) := by decide +kernel
theorem dX11_small_34 : decode cX11_small 34 = .ok (.getfield 60, 3) := by decide +kernel
theorem dX11_small_37 : decode cX11_small 37 = .ok (.getfield 270, 3) := by decide +kernel
theorem dX11_small_40 : decode cX11_small 40 = .ok (.invokestatic 273, 3) := by decide +kernel
theorem dX11_small_43 : decode cX11_small 43 = .ok (.goto 9, 3) := by decide +kernel
theorem dX11_small_46 : decode cX11_small 46 = .ok (.aload_n 0, 1) := by decide +kernel
theorem dX11_small_47 : decode cX11_small 47 = .ok (.bipush (-5), 2) := by decide +kernel
theorem dX11_small_49 : decode cX11_small 49 = .ok (.invokevirtual 71, 3) := by decide +kernel
theorem dX11_small_52 : decode cX11_small 52 = .ok (.ireturn, 1) := by decide +kernel
theorem dX11_doubt_0 : decode cX11_doubt 0 = .ok (.iload_n 1, 1) := by decide +kernel
theorem dX11_doubt_1 : decode cX11_doubt 1 = .ok (.invokestatic 132, 3) := by decide +kernel
theorem dX11_doubt_4 : decode cX11_doubt 4 = .ok (.ifCond .ne 10, 3) := by decide +kernel
theorem dX11_doubt_7 : decode cX11_doubt 7 = .ok (.aload_n 0, 1) := by decide +kernel
theorem dX11_doubt_8 : decode cX11_doubt 8 = .ok (.bipush (-2), 2) := by decide +kernel
theorem dX11_doubt_10 : decode cX11_doubt 10 = .ok (.invokevirtual 71, 3) := by decide +kernel
theorem dX11_doubt_13 : decode cX11_doubt 13 = .ok (.ireturn, 1) := by decide +kernel
theorem dX11_doubt_14 : decode cX11_doubt 14 = .ok (.aload_n 0, 1) := by decide +kernel
theorem dX11_doubt_15 : decode cX11_doubt 15 = .ok (.getfield 60, 3) := by decide +kernel
theorem dX11_doubt_18 : decode cX11_doubt 18 = .ok (.aload_n 0, 1) := by decide +kernel
theorem dX11_doubt_19 : decode cX11_doubt 19 = .ok (.getfield 35, 3) := by decide +kernel
theorem dX11_doubt_22 : decode cX11_doubt 22 = .ok (.aload_n 0, 1) := by decide +kernel
theorem dX11_doubt_23 : decode cX11_doubt 23 = .ok (.getfield 53, 3) := by decide +kernel
theorem dX11_doubt_26 : decode cX11_doubt 26 = .ok (.iload_n 1, 1) := by decide +kernel
theorem dX11_doubt_27 : decode cX11_doubt 27 = .ok (.invokevirtual 266, 3) := by decide +kernel
theorem dX11_doubt_30 : decode cX11_doubt 30 = .ok (.ifCond .eq 13, 3) := by decide +kernel
theorem dX11_doubt_33 : decode cX11_doubt 33 = .ok (.aload_n 0, 1) := by decide +kernel
theorem dX11_doubt_34 : decode cX11_doubt 34 = .ok (.getfield 60, 3) := by decide +kernel
theorem dX11_doubt_37 : decode cX11_doubt 37 = .ok (.getfield 278, 3) := by decide +kernel
theorem dX11_doubt_40 : decode cX11_doubt 40 = .ok (.goto 9, 3) := by decide +kernel
theorem dX11_doubt_43 : decode cX11_doubt 43 = .ok (.aload_n 0, 1) := by decide +kernel
theorem dX11_doubt_44 : decode cX11_doubt 44 = .ok (.bipush (-5), 2) := by decide +kernel
theorem dX11_doubt_46 : decode cX11_doubt 46 = .ok (.invokevirtual 71, 3) := by decide +kernel
theorem dX11_doubt_49 : decode cX11_doubt 49 = .ok (.ireturn, 1) := by decide +kernel
theorem dX11_drops_0 : decode cX11_drops 0 = .ok (.iload_n 1, 1) := by decide +kernel
theorem dX11_drops_1 : decode cX11_drops 1 = .ok (.invokestatic 132, 3) := by decide +kernel
theorem dX11_drops_4 : decode cX11_drops 4 = .ok (.ifCond .ne 10, 3) := by decide +kernel
theorem dX11_drops_7 : decode cX11_drops 7 = .ok (.aload_n 0, 1) := by decide +kernel
theorem dX11_drops_8 : decode cX11_drops 8 = .ok (.bipush (-2), 2) := by decide +kernel
theorem dX11_drops_10 : decode cX11_drops 10 = .ok (.invokevirtual 71, 3) := by decide +kernel
theorem dX11_drops_13 : decode cX11_drops 13 = .ok (.ireturn, 1) := by decide +kernel
theorem dX11_drops_14 : decode cX11_drops 14 = .ok (.aload_n 0, 1) := by decide +kernel
theorem dX11_drops_15 : decode cX11_drops 15 = .ok (.getfield 60, 3) := by decide +kernel
theorem dX11_drops_18 : decode cX11_drops 18 = .ok (.aload_n 0, 1) := by decide +kernel
theorem dX11_drops_19 : decode cX11_drops 19 = .ok (.getfield 35, 3) := by decide +kernel
theorem dX11_drops_22 : decode cX11_drops 22 = .ok (.aload_n 0, 1) := by decide +kernel
theorem dX11_drops_23 : decode cX11_drops 23 = .ok (.getfield 53, 3) := by decide +kernel
theorem dX11_drops_26 : decode cX11_drops 26 = .ok (.iload_n 1, 1) := by decide +kernel
theorem dX11_drops_27 : decode cX11_drops 27 = .ok (.invokevirtual 266, 3) := by decide +kernel
theorem dX11_drops_30 : decode cX11_drops 30 = .ok (.ifCond .eq 13, 3) := by decide +kernel
theorem dX11_drops_33 : decode cX11_drops 33 = .ok (.aload_n 0, 1) := by decide +kernel
theorem dX11_drops_34 : decode cX11_drops 34 = .ok (.getfield 60, 3) := by decide +kernel
theorem dX11_drops_37 : decode cX11_drops 37 = .ok (.getfield 281, 3) := by decide +kernel
theorem dX11_drops_40 : decode cX11_drops 40 = .ok (.goto 9, 3) := by decide +kernel
theorem dX11_drops_43 : decode cX11_drops 43 = .ok (.aload_n 0, 1) := by decide +kernel
theorem dX11_drops_44 : decode cX11_drops 44 = .ok (.bipush (-5), 2) := by decide +kernel
theorem dX11_drops_46 : decode cX11_drops 46 = .ok (.invokevirtual 71, 3) := by decide +kernel
theorem dX11_drops_49 : decode cX11_drops 49 = .ok (.ireturn, 1) := by decide +kernel
theorem dX11_rival_0 : decode cX11_rival 0 = .ok (.iload_n 1, 1) := by decide +kernel
theorem dX11_rival_1 : decode cX11_rival 1 = .ok (.invokestatic 132, 3) := by decide +kernel
theorem dX11_rival_4 : decode cX11_rival 4 = .ok (.ifCond .ne 10, 3) := by decide +kernel
theorem dX11_rival_7 : decode cX11_rival 7 = .ok (.aload_n 0, 1) := by decide +kernel
theorem dX11_rival_8 : decode cX11_rival 8 = .ok (.bipush (-2), 2) := by decide +kernel
theorem dX11_rival_10 : decode cX11_rival 10 = .ok (.invokevirtual 71, 3) := by decide +kernel
theorem dX11_rival_13 : decode cX11_rival 13 = .ok (.ireturn, 1) := by decide +kernel
theorem dX11_rival_14 : decode cX11_rival 14 = .ok (.aload_n 0, 1) := by decide +kernel
theorem dX11_rival_15 : decode cX11_rival 15 = .ok (.getfield 60, 3) := by decide +kernel
theorem dX11_rival_18 : decode cX11_rival 18 = .ok (.aload_n 0, 1) := by decide +kernel
theorem dX11_rival_19 : decode cX11_rival 19 = .ok (.getfield 35, 3) := by decide +kernel
theorem dX11_rival_22 : decode cX11_rival 22 = .ok (.aload_n 0, 1) := by decide +kernel
theorem dX11_rival_23 : decode cX11_rival 23 = .ok (.getfield 53, 3) := by decide +kernel
theorem dX11_rival_26 : decode cX11_rival 26 = .ok (.iload_n 1, 1) := by decide +kernel
theorem dX11_rival_27 : decode cX11_rival 27 = .ok (.invokevirtual 266, 3) := by decide +kernel
theorem dX11_rival_30 : decode cX11_rival 30 = .ok (.ifCond .eq 13, 3) := by decide +kernel
theorem dX11_rival_33 : decode cX11_rival 33 = .ok (.aload_n 0, 1) := by decide +kernel
theorem dX11_rival_34 : decode cX11_rival 34 = .ok (.getfield 60, 3) := by decide +kernel
theorem dX11_rival_37 : decode cX11_rival 37 = .ok (.getfield 284, 3) := by decide +kernel
theorem dX11_rival_40 : decode cX11_rival 40 = .ok (.goto 9, 3) := by decide +kernel
theorem dX11_rival_43 : decode cX11_rival 43 = .ok (.aload_n 0, 1) := by decide +kernel
theorem dX11_rival_44 : decode cX11_rival 44 = .ok (.bipush (-5), 2) := by decide +kernel
theorem dX11_rival_46 : decode cX11_rival 46 = .ok (.invokevirtual 71, 3) := by decide +kernel
theorem dX11_rival_49 : decode cX11_rival 49 = .ok (.ireturn, 1) := by decide +kernel
theorem dX11_word_0 : decode cX11_word 0 = .ok (.iload_n 1, 1) := by decide +kernel
theorem dX11_word_1 : decode cX11_word 1 = .ok (.ifCond .lt 15, 3) := by decide +kernel
theorem dX11_word_4 : decode cX11_word 4 = .ok (.iload_n 1, 1) := by decide +kernel
theorem dX11_word_5 : decode cX11_word 5 = .ok (.iconst 4, 1) := by decide +kernel
theorem dX11_word_6 : decode cX11_word 6 = .ok (.if_icmp .ge 10, 3) := by decide +kernel
theorem dX11_word_9 : decode cX11_word 9 = .ok (.iload_n 2, 1) := by decide +kernel
theorem dX11_word_10 : decode cX11_word 10 = .ok (.invokestatic 132, 3) := by decide +kernel
theorem dX11_word_13 : decode cX11_word 13 = .ok (.ifCond .ne 10, 3) := by decide +kernel
theorem dX11_word_16 : decode cX11_word 16 = .ok (.aload_n 0, 1) := by decide +kernel
theorem dX11_word_17 : decode cX11_word 17 = .ok (.bipush (-2), 2) := by decide +kernel
theorem dX11_word_19 : decode cX11_word 19 = .ok (.invokevirtual 71, 3) := by decide +kernel
theorem dX11_word_22 : decode cX11_word 22 = .ok (.ireturn, 1) := by decide +kernel
theorem dX11_word_23 : decode cX11_word 23 = .ok (.aload_n 0, 1) := by decide +kernel
theorem dX11_word_24 : decode cX11_word 24 = .ok (.getfield 35, 3) := by decide +kernel
theorem dX11_word_27 : decode cX11_word 27 = .ok (.getfield 189, 3) := by decide +kernel
theorem dX11_word_30 : decode cX11_word 30 = .ok (.iload_n 1, 1) := by decide +kernel
theorem dX11_word_31 : decode cX11_word 31 = .ok (.iaload, 1) := by decide +kernel
theorem dX11_word_32 : decode cX11_word 32 = .ok (.istore_n 3, 1) := by decide +kernel
theorem dX11_word_33 : decode cX11_word 33 = .ok (.iconst 1, 1) := by decide +kernel
theorem dX11_word_34 : decode cX11_word 34 = .ok (.istore 4, 2) := by decide +kernel
theorem dX11_word_36 : decode cX11_word 36 = .ok (.iconst (-1), 1) := by decide +kernel
theorem dX11_word_37 : decode cX11_word 37 = .ok (.istore 5, 2) := by decide +kernel
theorem dX11_word_39 : decode cX11_word 39 = .ok (.iconst 0, 1) := by decide +kernel
theorem dX11_word_40 : decode cX11_word 40 = .ok (.istore 6, 2) := by decide +kernel
theorem dX11_word_42 : decode cX11_word 42 = .ok (.iconst 0, 1) := by decide +kernel
theorem dX11_word_43 : decode cX11_word 43 = .ok (.istore 7, 2) := by decide +kernel
theorem dX11_word_45 : decode cX11_word 45 = .ok (.iload 7, 2) := by decide +kernel
theorem dX11_word_47 : decode cX11_word 47 = .ok (.bipush 8, 2) := by decide +kernel
theorem dX11_word_49 : decode cX11_word 49 = .ok (.if_icmp .ge 79, 3) := by decide +kernel
theorem dX11_word_52 : decode cX11_word 52 = .ok (.iload 4, 2) := by decide +kernel
theorem dX11_word_54 : decode cX11_word 54 = .ok (.ifCond .eq 74, 3) := by decide +kernel
theorem dX11_word_57 : decode cX11_word 57 = .ok (.aload_n 0, 1) := by decide +kernel
theorem dX11_word_58 : decode cX11_word 58 = .ok (.getfield 35, 3) := by decide +kernel
theorem dX11_word_61 : decode cX11_word 61 = .ok (.getfield 189, 3) := by decide +kernel
theorem dX11_word_64 : decode cX11_word 64 = .ok (.iload_n 1, 1) := by decide +kernel
theorem dX11_word_65 : decode cX11_word 65 = .ok (.iload 7, 2) := by decide +kernel
theorem dX11_word_67 : decode cX11_word 67 = .ok (.iastore, 1) := by decide +kernel
theorem dX11_word_68 : decode cX11_word 68 = .ok (.aload_n 0, 1) := by decide +kernel
theorem dX11_word_69 : decode cX11_word 69 = .ok (.getfield 60, 3) := by decide +kernel
theorem dX11_word_72 : decode cX11_word 72 = .ok (.aload_n 0, 1) := by decide +kernel
theorem dX11_word_73 : decode cX11_word 73 = .ok (.getfield 35, 3) := by decide +kernel
theorem dX11_word_76 : decode cX11_word 76 = .ok (.aload_n 0, 1) := by decide +kernel
theorem dX11_word_77 : decode cX11_word 77 = .ok (.getfield 53, 3) := by decide +kernel
theorem dX11_word_80 : decode cX11_word 80 = .ok (.iload_n 2, 1) := by decide +kernel
theorem dX11_word_81 : decode cX11_word 81 = .ok (.invokevirtual 266, 3) := by decide +kernel
theorem dX11_word_84 : decode cX11_word 84 = .ok (.istore 4, 2) := by decide +kernel
theorem dX11_word_86 : decode cX11_word 86 = .ok (.iload 4, 2) := by decide +kernel
theorem dX11_word_88 : decode cX11_word 88 = .ok (.ifCond .eq 34, 3) := by decide +kernel
theorem dX11_word_91 : decode cX11_word 91 = .ok (.iload 5, 2) := by decide +kernel
theorem dX11_word_93 : decode cX11_word 93 = .ok (.iconst (-1), 1) := by decide +kernel
theorem dX11_word_94 : decode cX11_word 94 = .ok (.if_icmp .eq 15, 3) := by decide +kernel
theorem dX11_word_97 : decode cX11_word 97 = .ok (.aload_n 0, 1) := by decide +kernel
theorem dX11_word_98 : decode cX11_word 98 = .ok (.getfield 60, 3) := by decide +kernel
theorem dX11_word_101 : decode cX11_word 101 = .ok (.getfield 278, 3) := by decide +kernel
theorem dX11_word_104 : decode cX11_word 104 = .ok (.iload 6, 2) := by decide +kernel
theorem dX11_word_106 : decode cX11_word 106 = .ok (.if_icmp .ge 16, 3) := by decide +kernel
theorem dX11_word_109 : decode cX11_word 109 = .ok (.iload 7, 2) := by decide +kernel
theorem dX11_word_111 : decode cX11_word 111 = .ok (.istore 5, 2) := by decide +kernel
theorem dX11_word_113 : decode cX11_word 113 = .ok (.aload_n 0, 1) := by decide +kernel
theorem dX11_word_114 : decode cX11_word 114 = .ok (.getfield 60, 3) := by decide +kernel
theorem dX11_word_117 : decode cX11_word 117 = .ok (.getfield 278, 3) := by decide +kernel
theorem dX11_word_120 : decode cX11_word 120 = .ok (.istore 6, 2) := by decide +kernel
theorem dX11_word_122 : decode cX11_word 122 = .ok (.iinc 7 1, 3) := by decide +kernel
theorem dX11_word_125 : decode cX11_word 125 = .ok (.goto (-80), 3) := by decide +kernel
theorem dX11_word_128 : decode cX11_word 128 = .ok (.aload_n 0, 1) := by decide +kernel
theorem dX11_word_129 : decode cX11_word 129 = .ok (.getfield 35, 3) := by decide +kernel
theorem dX11_word_132 : decode cX11_word 132 = .ok (.getfield 189, 3) := by decide +kernel
theorem dX11_word_135 : decode cX11_word 135 = .ok (.iload_n 1, 1) := by decide +kernel
theorem dX11_word_136 : decode cX11_word 136 = .ok (.iload_n 3, 1) := by decide +kernel
theorem dX11_word_137 : decode cX11_word 137 = .ok (.iastore, 1) := by decide +kernel
theorem dX11_word_138 : decode cX11_word 138 = .ok (.iload 4, 2) := by decide +kernel
theorem dX11_word_140 : decode cX11_word 140 = .ok (.ifCond .eq 8, 3) := by decide +kernel
theorem dX11_word_143 : decode cX11_word 143 = .ok (.iload 5, 2) := by decide +kernel
theorem dX11_word_145 : decode cX11_word 145 = .ok (.goto 9, 3) := by decide +kernel
theorem dX11_word_148 : decode cX11_word 148 = .ok (.aload_n 0, 1) := by decide +kernel
theorem dX11_word_149 : decode cX11_word 149 = .ok (.bipush (-5), 2) := by decide +kernel
theorem dX11_word_151 : decode cX11_word 151 = .ok (.invokevirtual 71, 3) := by decide +kernel
theorem dX11_word_154 : decode cX11_word 154 = .ok (.ireturn, 1) := by decide +kernel
theorem dX11_settle_0 : decode cX11_settle 0 = .ok (.iload_n 1, 1) := by decide +kernel
theorem dX11_settle_1 : decode cX11_settle 1 = .ok (.invokestatic 132, 3) := by decide +kernel
theorem dX11_settle_4 : decode cX11_settle 4 = .ok (.ifCond .ne 10, 3) := by decide +kernel
theorem dX11_settle_7 : decode cX11_settle 7 = .ok (.aload_n 0, 1) := by decide +kernel
theorem dX11_settle_8 : decode cX11_settle 8 = .ok (.bipush (-2), 2) := by decide +kernel
theorem dX11_settle_10 : decode cX11_settle 10 = .ok (.invokevirtual 71, 3) := by decide +kernel
theorem dX11_settle_13 : decode cX11_settle 13 = .ok (.ireturn, 1) := by decide +kernel
theorem dX11_settle_14 : decode cX11_settle 14 = .ok (.aload_n 0, 1) := by decide +kernel
theorem dX11_settle_15 : decode cX11_settle 15 = .ok (.iload_n 1, 1) := by decide +kernel
theorem dX11_settle_16 : decode cX11_settle 16 = .ok (.invokevirtual 287, 3) := by decide +kernel
theorem dX11_settle_19 : decode cX11_settle 19 = .ok (.ifCond .ne 10, 3) := by decide +kernel
theorem dX11_settle_22 : decode cX11_settle 22 = .ok (.aload_n 0, 1) := by decide +kernel
theorem dX11_settle_23 : decode cX11_settle 23 = .ok (.bipush (-5), 2) := by decide +kernel
theorem dX11_settle_25 : decode cX11_settle 25 = .ok (.invokevirtual 71, 3) := by decide +kernel
theorem dX11_settle_28 : decode cX11_settle 28 = .ok (.ireturn, 1) := by decide +kernel
theorem dX11_settle_29 : decode cX11_settle 29 = .ok (.aload_n 0, 1) := by decide +kernel
theorem dX11_settle_30 : decode cX11_settle 30 = .ok (.invokevirtual 290, 3) := by decide +kernel
theorem dX11_settle_33 : decode cX11_settle 33 = .ok (.istore_n 2, 1) := by decide +kernel
theorem dX11_settle_34 : decode cX11_settle 34 = .ok (.aload_n 0, 1) := by decide +kernel
theorem dX11_settle_35 : decode cX11_settle 35 = .ok (.iload_n 2, 1) := by decide +kernel
theorem dX11_settle_36 : decode cX11_settle 36 = .ok (.invokevirtual 293, 3) := by decide +kernel
theorem dX11_settle_39 : decode cX11_settle 39 = .ok (.ifCond .ne 7, 3) := by decide +kernel
theorem dX11_settle_42 : decode cX11_settle 42 = .ok (.iconst (-1), 1) := by decide +kernel
theorem dX11_settle_43 : decode cX11_settle 43 = .ok (.goto 23, 3) := by decide +kernel
theorem dX11_settle_46 : decode cX11_settle 46 = .ok (.bipush 100, 2) := by decide +kernel
theorem dX11_settle_48 : decode cX11_settle 48 = .ok (.getstatic 237, 3) := by decide +kernel
theorem dX11_settle_51 : decode cX11_settle 51 = .ok (.iload_n 2, 1) := by decide +kernel
theorem dX11_settle_52 : decode cX11_settle 52 = .ok (.iaload, 1) := by decide +kernel
theorem dX11_settle_53 : decode cX11_settle 53 = .ok (.bipush 10, 2) := by decide +kernel
theorem dX11_settle_55 : decode cX11_settle 55 = .ok (.idiv, 1) := by decide +kernel
theorem dX11_settle_56 : decode cX11_settle 56 = .ok (.imul, 1) := by decide +kernel
theorem dX11_settle_57 : decode cX11_settle 57 = .ok (.getstatic 237, 3) := by decide +kernel
theorem dX11_settle_60 : decode cX11_settle 60 = .ok (.iload_n 2, 1) := by decide +kernel
theorem dX11_settle_61 : decode cX11_settle 61 = .ok (.iaload, 1) := by decide +kernel
theorem dX11_settle_62 : decode cX11_settle 62 = .ok (.bipush 10, 2) := by decide +kernel
theorem dX11_settle_64 : decode cX11_settle 64 = .ok (.irem, 1) := by decide +kernel
theorem dX11_settle_65 : decode cX11_settle 65 = .ok (.iadd, 1) := by decide +kernel
theorem dX11_settle_66 : decode cX11_settle 66 = .ok (.ireturn, 1) := by decide +kernel
theorem dX11_left_0 : decode cX11_left 0 = .ok (.iload_n 1, 1) := by decide +kernel
theorem dX11_left_1 : decode cX11_left 1 = .ok (.invokestatic 132, 3) := by decide +kernel
theorem dX11_left_4 : decode cX11_left 4 = .ok (.ifCond .ne 10, 3) := by decide +kernel
theorem dX11_left_7 : decode cX11_left 7 = .ok (.aload_n 0, 1) := by decide +kernel
theorem dX11_left_8 : decode cX11_left 8 = .ok (.bipush (-2), 2) := by decide +kernel
theorem dX11_left_10 : decode cX11_left 10 = .ok (.invokevirtual 71, 3) := by decide +kernel
theorem dX11_left_13 : decode cX11_left 13 = .ok (.ireturn, 1) := by decide +kernel
theorem dX11_left_14 : decode cX11_left 14 = .ok (.aload_n 0, 1) := by decide +kernel
theorem dX11_left_15 : decode cX11_left 15 = .ok (.iload_n 1, 1) := by decide +kernel
theorem dX11_left_16 : decode cX11_left 16 = .ok (.invokevirtual 287, 3) := by decide +kernel
theorem dX11_left_19 : decode cX11_left 19 = .ok (.ifCond .eq 14, 3) := by decide +kernel
theorem dX11_left_22 : decode cX11_left 22 = .ok (.aload_n 0, 1) := by decide +kernel
theorem dX11_left_23 : decode cX11_left 23 = .ok (.aload_n 0, 1) := by decide +kernel
theorem dX11_left_24 : decode cX11_left 24 = .ok (.invokevirtual 290, 3) := by decide +kernel
theorem dX11_left_27 : decode cX11_left 27 = .ok (.invokevirtual 293, 3) := by decide +kernel
theorem dX11_left_30 : decode cX11_left 30 = .ok (.goto 9, 3) := by decide +kernel
theorem dX11_left_33 : decode cX11_left 33 = .ok (.aload_n 0, 1) := by decide +kernel
theorem dX11_left_34 : decode cX11_left 34 = .ok (.bipush (-5), 2) := by decide +kernel
theorem dX11_left_36 : decode cX11_left 36 = .ok (.invokevirtual 71, 3) := by decide +kernel
theorem dX11_left_39 : decode cX11_left 39 = .ok (.ireturn, 1) := by decide +kernel
theorem dX11_ring_0 : decode cX11_ring 0 = .ok (.iload_n 1, 1) := by decide +kernel
theorem dX11_ring_1 : decode cX11_ring 1 = .ok (.invokestatic 296, 3) := by decide +kernel
theorem dX11_ring_4 : decode cX11_ring 4 = .ok (.ifCond .eq 10, 3) := by decide +kernel
theorem dX11_ring_7 : decode cX11_ring 7 = .ok (.iload_n 2, 1) := by decide +kernel
theorem dX11_ring_8 : decode cX11_ring 8 = .ok (.invokestatic 132, 3) := by decide +kernel
theorem dX11_ring_11 : decode cX11_ring 11 = .ok (.ifCond .ne 10, 3) := by decide +kernel
theorem dX11_ring_14 : decode cX11_ring 14 = .ok (.aload_n 0, 1) := by decide +kernel
theorem dX11_ring_15 : decode cX11_ring 15 = .ok (.bipush (-2), 2) := by decide +kernel
theorem dX11_ring_17 : decode cX11_ring 17 = .ok (.invokevirtual 71, 3) := by decide +kernel
theorem dX11_ring_20 : decode cX11_ring 20 = .ok (.ireturn, 1) := by decide +kernel
theorem dX11_ring_21 : decode cX11_ring 21 = .ok (.aload_n 0, 1) := by decide +kernel
theorem dX11_ring_22 : decode cX11_ring 22 = .ok (.getfield 35, 3) := by decide +kernel
theorem dX11_ring_25 : decode cX11_ring 25 = .ok (.iload_n 1, 1) := by decide +kernel
theorem dX11_ring_26 : decode cX11_ring 26 = .ok (.aload_n 0, 1) := by decide +kernel
theorem dX11_ring_27 : decode cX11_ring 27 = .ok (.getfield 35, 3) := by decide +kernel
theorem dX11_ring_30 : decode cX11_ring 30 = .ok (.iload_n 2, 1) := by decide +kernel
theorem dX11_ring_31 : decode cX11_ring 31 = .ok (.invokevirtual 221, 3) := by decide +kernel
theorem dX11_ring_34 : decode cX11_ring 34 = .ok (.invokevirtual 299, 3) := by decide +kernel
theorem dX11_ring_37 : decode cX11_ring 37 = .ok (.ireturn, 1) := by decide +kernel
theorem dX11_rank_0 : decode cX11_rank 0 = .ok (.iload_n 1, 1) := by decide +kernel
theorem dX11_rank_1 : decode cX11_rank 1 = .ok (.invokestatic 296, 3) := by decide +kernel
theorem dX11_rank_4 : decode cX11_rank 4 = .ok (.ifCond .eq 21, 3) := by decide +kernel
theorem dX11_rank_7 : decode cX11_rank 7 = .ok (.aload_n 0, 1) := by decide +kernel
theorem dX11_rank_8 : decode cX11_rank 8 = .ok (.getfield 35, 3) := by decide +kernel
theorem dX11_rank_11 : decode cX11_rank 11 = .ok (.iload_n 2, 1) := by decide +kernel
theorem dX11_rank_12 : decode cX11_rank 12 = .ok (.invokevirtual 114, 3) := by decide +kernel
theorem dX11_rank_15 : decode cX11_rank 15 = .ok (.ifCond .eq 10, 3) := by decide +kernel
theorem dX11_rank_18 : decode cX11_rank 18 = .ok (.iload_n 3, 1) := by decide +kernel
theorem dX11_rank_19 : decode cX11_rank 19 = .ok (.invokestatic 132, 3) := by decide +kernel
theorem dX11_rank_22 : decode cX11_rank 22 = .ok (.ifCond .ne 10, 3) := by decide +kernel
theorem dX11_rank_25 : decode cX11_rank 25 = .ok (.aload_n 0, 1) := by decide +kernel
theorem dX11_rank_26 : decode cX11_rank 26 = .ok (.bipush (-2), 2) := by decide +kernel
theorem dX11_rank_28 : decode cX11_rank 28 = .ok (.invokevirtual 71, 3) := by decide +kernel
theorem dX11_rank_31 : decode cX11_rank 31 = .ok (.ireturn, 1) := by decide +kernel
theorem dX11_rank_32 : decode cX11_rank 32 = .ok (.aload_n 0, 1) := by decide +kernel
theorem dX11_rank_33 : decode cX11_rank 33 = .ok (.getfield 35, 3) := by decide +kernel
theorem dX11_rank_36 : decode cX11_rank 36 = .ok (.iload_n 3, 1) := by decide +kernel
theorem dX11_rank_37 : decode cX11_rank 37 = .ok (.invokevirtual 221, 3) := by decide +kernel
theorem dX11_rank_40 : decode cX11_rank 40 = .ok (.istore 4, 2) := by decide +kernel
theorem dX11_rank_42 : decode cX11_rank 42 = .ok (.aload_n 0, 1) := by decide +kernel
theorem dX11_rank_43 : decode cX11_rank 43 = .ok (.getfield 35, 3) := by decide +kernel
theorem dX11_rank_46 : decode cX11_rank 46 = .ok (.iload_n 1, 1) := by decide +kernel
theorem dX11_rank_47 : decode cX11_rank 47 = .ok (.iload 4, 2) := by decide +kernel
theorem dX11_rank_49 : decode cX11_rank 49 = .ok (.invokevirtual 299, 3) := by decide +kernel
theorem dX11_rank_52 : decode cX11_rank 52 = .ok (.iconst (-1), 1) := by decide +kernel
theorem dX11_rank_53 : decode cX11_rank 53 = .ok (.if_icmp .eq 12, 3) := by decide +kernel
theorem dX11_rank_56 : decode cX11_rank 56 = .ok (.aload_n 0, 1) := by decide +kernel
theorem dX11_rank_57 : decode cX11_rank 57 = .ok (.bipush (-5), 2) := by decide +kernel
theorem dX11_rank_59 : decode cX11_rank 59 = .ok (.invokevirtual 71, 3) := by decide +kernel
theorem dX11_rank_62 : decode cX11_rank 62 = .ok (.goto 14, 3) := by decide +kernel
theorem dX11_rank_65 : decode cX11_rank 65 = .ok (.aload_n 0, 1) := by decide +kernel
theorem dX11_rank_66 : decode cX11_rank 66 = .ok (.getfield 35, 3) := by decide +kernel
theorem dX11_rank_69 : decode cX11_rank 69 = .ok (.iload_n 1, 1) := by decide +kernel
theorem dX11_rank_70 : decode cX11_rank 70 = .ok (.iload_n 2, 1) := by decide +kernel
theorem dX11_rank_71 : decode cX11_rank 71 = .ok (.iload 4, 2) := by decide +kernel
theorem dX11_rank_73 : decode cX11_rank 73 = .ok (.invokevirtual 302, 3) := by decide +kernel
theorem dX11_rank_76 : decode cX11_rank 76 = .ok (.ireturn, 1) := by decide +kernel
theorem dX11_lay_0 : decode cX11_lay 0 = .ok (.iload_n 1, 1) := by decide +kernel
theorem dX11_lay_1 : decode cX11_lay 1 = .ok (.invokestatic 132, 3) := by decide +kernel
theorem dX11_lay_4 : decode cX11_lay 4 = .ok (.ifCond .ne 10, 3) := by decide +kernel
theorem dX11_lay_7 : decode cX11_lay 7 = .ok (.aload_n 0, 1) := by decide +kernel
theorem dX11_lay_8 : decode cX11_lay 8 = .ok (.bipush (-2), 2) := by decide +kernel
theorem dX11_lay_10 : decode cX11_lay 10 = .ok (.invokevirtual 71, 3) := by decide +kernel
theorem dX11_lay_13 : decode cX11_lay 13 = .ok (.ireturn, 1) := by decide +kernel
theorem dX11_lay_14 : decode cX11_lay 14 = .ok (.aload_n 0, 1) := by decide +kernel
theorem dX11_lay_15 : decode cX11_lay 15 = .ok (.iload_n 1, 1) := by decide +kernel
theorem dX11_lay_16 : decode cX11_lay 16 = .ok (.invokevirtual 247, 3) := by decide +kernel
theorem dX11_lay_19 : decode cX11_lay 19 = .ok (.istore_n 2, 1) := by decide +kernel
theorem dX11_lay_20 : decode cX11_lay 20 = .ok (.iload_n 2, 1) := by decide +kernel
theorem dX11_lay_21 : decode cX11_lay 21 = .ok (.iconst 3, 1) := by decide +kernel
theorem dX11_lay_22 : decode cX11_lay 22 = .ok (.if_icmp .ne 10, 3) := by decide +kernel
theorem dX11_lay_25 : decode cX11_lay 25 = .ok (.aload_n 0, 1) := by decide +kernel
theorem dX11_lay_26 : decode cX11_lay 26 = .ok (.bipush (-5), 2) := by decide +kernel
theorem dX11_lay_28 : decode cX11_lay 28 = .ok (.invokevirtual 71, 3) := by decide +kernel
theorem dX11_lay_31 : decode cX11_lay 31 = .ok (.ireturn, 1) := by decide +kernel
theorem dX11_lay_32 : decode cX11_lay 32 = .ok (.iload_n 2, 1) := by decide +kernel
theorem dX11_lay_33 : decode cX11_lay 33 = .ok (.iconst 2, 1) := by decide +kernel
theorem dX11_lay_34 : decode cX11_lay 34 = .ok (.if_icmp .ne 5, 3) := by decide +kernel
theorem dX11_lay_37 : decode cX11_lay 37 = .ok (.iconst (-1), 1) := by decide +kernel
theorem dX11_lay_38 : decode cX11_lay 38 = .ok (.ireturn, 1) := by decide +kernel
theorem dX11_lay_39 : decode cX11_lay 39 = .ok (.aload_n 0, 1) := by decide +kernel
theorem dX11_lay_40 : decode cX11_lay 40 = .ok (.getfield 35, 3) := by decide +kernel
theorem dX11_lay_43 : decode cX11_lay 43 = .ok (.getfield 305, 3) := by decide +kernel
theorem dX11_lay_46 : decode cX11_lay 46 = .ok (.aload_n 0, 1) := by decide +kernel
theorem dX11_lay_47 : decode cX11_lay 47 = .ok (.getfield 53, 3) := by decide +kernel
theorem dX11_lay_50 : decode cX11_lay 50 = .ok (.getfield 217, 3) := by decide +kernel
theorem dX11_lay_53 : decode cX11_lay 53 = .ok (.invokevirtual 309, 3) := by decide +kernel
theorem dX11_lay_56 : decode cX11_lay 56 = .ok (.aload_n 0, 1) := by decide +kernel
theorem dX11_lay_57 : decode cX11_lay 57 = .ok (.getfield 35, 3) := by decide +kernel
theorem dX11_lay_60 : decode cX11_lay 60 = .ok (.getfield 305, 3) := by decide +kernel
theorem dX11_lay_63 : decode cX11_lay 63 = .ok (.getfield 315, 3) := by decide +kernel
theorem dX11_lay_66 : decode cX11_lay 66 = .ok (.ireturn, 1) := by decide +kernel
theorem dX11_cell_0 : decode cX11_cell 0 = .ok (.aload_n 0, 1) := by decide +kernel
theorem dX11_cell_1 : decode cX11_cell 1 = .ok (.getfield 35, 3) := by decide +kernel
theorem dX11_cell_4 : decode cX11_cell 4 = .ok (.getfield 305, 3) := by decide +kernel
theorem dX11_cell_7 : decode cX11_cell 7 = .ok (.iload_n 1, 1) := by decide +kernel
theorem dX11_cell_8 : decode cX11_cell 8 = .ok (.invokevirtual 318, 3) := by decide +kernel
theorem dX11_cell_11 : decode cX11_cell 11 = .ok (.ifCond .eq 14, 3) := by decide +kernel
theorem dX11_cell_14 : decode cX11_cell 14 = .ok (.aload_n 0, 1) := by decide +kernel
theorem dX11_cell_15 : decode cX11_cell 15 = .ok (.getfield 35, 3) := by decide +kernel
theorem dX11_cell_18 : decode cX11_cell 18 = .ok (.iload_n 2, 1) := by decide +kernel
theorem dX11_cell_19 : decode cX11_cell 19 = .ok (.invokevirtual 114, 3) := by decide +kernel
theorem dX11_cell_22 : decode cX11_cell 22 = .ok (.ifCond .ne 10, 3) := by decide +kernel
theorem dX11_cell_25 : decode cX11_cell 25 = .ok (.aload_n 0, 1) := by decide +kernel
theorem dX11_cell_26 : decode cX11_cell 26 = .ok (.bipush (-2), 2) := by decide +kernel
theorem dX11_cell_28 : decode cX11_cell 28 = .ok (.invokevirtual 71, 3) := by decide +kernel
theorem dX11_cell_31 : decode cX11_cell 31 = .ok (.ireturn, 1) := by decide +kernel
theorem dX11_cell_32 : decode cX11_cell 32 = .ok (.aload_n 0, 1) := by decide +kernel
theorem dX11_cell_33 : decode cX11_cell 33 = .ok (.getfield 35, 3) := by decide +kernel
theorem dX11_cell_36 : decode cX11_cell 36 = .ok (.getfield 305, 3) := by decide +kernel
theorem dX11_cell_39 : decode cX11_cell 39 = .ok (.getfield 321, 3) := by decide +kernel
theorem dX11_cell_42 : decode cX11_cell 42 = .ok (.iload_n 1, 1) := by decide +kernel
theorem dX11_cell_43 : decode cX11_cell 43 = .ok (.iaload, 1) := by decide +kernel
theorem dX11_cell_44 : decode cX11_cell 44 = .ok (.iload_n 2, 1) := by decide +kernel
theorem dX11_cell_45 : decode cX11_cell 45 = .ok (.ishr, 1) := by decide +kernel
theorem dX11_cell_46 : decode cX11_cell 46 = .ok (.iconst 1, 1) := by decide +kernel
theorem dX11_cell_47 : decode cX11_cell 47 = .ok (.iand, 1) := by decide +kernel
theorem dX11_cell_48 : decode cX11_cell 48 = .ok (.ireturn, 1) := by decide +kernel
theorem dX11_mate_0 : decode cX11_mate 0 = .ok (.aload_n 0, 1) := by decide +kernel
theorem dX11_mate_1 : decode cX11_mate 1 = .ok (.getfield 35, 3) := by decide +kernel
theorem dX11_mate_4 : decode cX11_mate 4 = .ok (.getfield 305, 3) := by decide +kernel
theorem dX11_mate_7 : decode cX11_mate 7 = .ok (.iload_n 1, 1) := by decide +kernel
theorem dX11_mate_8 : decode cX11_mate 8 = .ok (.invokevirtual 318, 3) := by decide +kernel
theorem dX11_mate_11 : decode cX11_mate 11 = .ok (.ifCond .eq 18, 3) := by decide +kernel
theorem dX11_mate_14 : decode cX11_mate 14 = .ok (.aload_n 0, 1) := by decide +kernel
theorem dX11_mate_15 : decode cX11_mate 15 = .ok (.getfield 35, 3) := by decide +kernel
theorem dX11_mate_18 : decode cX11_mate 18 = .ok (.getfield 305, 3) := by decide +kernel
theorem dX11_mate_21 : decode cX11_mate 21 = .ok (.getfield 324, 3) := by decide +kernel
theorem dX11_mate_24 : decode cX11_mate 24 = .ok (.iload_n 1, 1) := by decide +kernel
theorem dX11_mate_25 : decode cX11_mate 25 = .ok (.iaload, 1) := by decide +kernel
theorem dX11_mate_26 : decode cX11_mate 26 = .ok (.goto 9, 3) := by decide +kernel
theorem dX11_mate_29 : decode cX11_mate 29 = .ok (.aload_n 0, 1) := by decide +kernel
theorem dX11_mate_30 : decode cX11_mate 30 = .ok (.bipush (-2), 2) := by decide +kernel
theorem dX11_mate_32 : decode cX11_mate 32 = .ok (.invokevirtual 71, 3) := by decide +kernel
theorem dX11_mate_35 : decode cX11_mate 35 = .ok (.ireturn, 1) := by decide +kernel
theorem dX11_laid_0 : decode cX11_laid 0 = .ok (.aload_n 0, 1) := by decide +kernel
theorem dX11_laid_1 : decode cX11_laid 1 = .ok (.iload_n 1, 1) := by decide +kernel
theorem dX11_laid_2 : decode cX11_laid 2 = .ok (.iload_n 2, 1) := by decide +kernel
theorem dX11_laid_3 : decode cX11_laid 3 = .ok (.invokevirtual 214, 3) := by decide +kernel
theorem dX11_laid_6 : decode cX11_laid 6 = .ok (.ifCond .eq 18, 3) := by decide +kernel
theorem dX11_laid_9 : decode cX11_laid 9 = .ok (.aload_n 0, 1) := by decide +kernel
theorem dX11_laid_10 : decode cX11_laid 10 = .ok (.getfield 35, 3) := by decide +kernel
theorem dX11_laid_13 : decode cX11_laid 13 = .ok (.getfield 305, 3) := by decide +kernel
theorem dX11_laid_16 : decode cX11_laid 16 = .ok (.iload_n 1, 1) := by decide +kernel
theorem dX11_laid_17 : decode cX11_laid 17 = .ok (.iload_n 2, 1) := by decide +kernel
theorem dX11_laid_18 : decode cX11_laid 18 = .ok (.invokevirtual 327, 3) := by decide +kernel
theorem dX11_laid_21 : decode cX11_laid 21 = .ok (.goto 9, 3) := by decide +kernel
theorem dX11_laid_24 : decode cX11_laid 24 = .ok (.aload_n 0, 1) := by decide +kernel
theorem dX11_laid_25 : decode cX11_laid 25 = .ok (.bipush (-2), 2) := by decide +kernel
theorem dX11_laid_27 : decode cX11_laid 27 = .ok (.invokevirtual 71, 3) := by decide +kernel
theorem dX11_laid_30 : decode cX11_laid 30 = .ok (.ireturn, 1) := by decide +kernel
theorem dX11_ground_0 : decode cX11_ground 0 = .ok (.aload_n 0, 1) := by decide +kernel
theorem dX11_ground_1 : decode cX11_ground 1 = .ok (.getfield 35, 3) := by decide +kernel
theorem dX11_ground_4 : decode cX11_ground 4 = .ok (.iload_n 1, 1) := by decide +kernel
theorem dX11_ground_5 : decode cX11_ground 5 = .ok (.invokevirtual 114, 3) := by decide +kernel
theorem dX11_ground_8 : decode cX11_ground 8 = .ok (.ifCond .eq 10, 3) := by decide +kernel
theorem dX11_ground_11 : decode cX11_ground 11 = .ok (.iload_n 2, 1) := by decide +kernel
theorem dX11_ground_12 : decode cX11_ground 12 = .ok (.invokestatic 67, 3) := by decide +kernel
theorem dX11_ground_15 : decode cX11_ground 15 = .ok (.ifCond .ne 10, 3) := by decide +kernel
theorem dX11_ground_18 : decode cX11_ground 18 = .ok (.aload_n 0, 1) := by decide +kernel
theorem dX11_ground_19 : decode cX11_ground 19 = .ok (.bipush (-2), 2) := by decide +kernel
theorem dX11_ground_21 : decode cX11_ground 21 = .ok (.invokevirtual 71, 3) := by decide +kernel
theorem dX11_ground_24 : decode cX11_ground 24 = .ok (.ireturn, 1) := by decide +kernel
theorem dX11_ground_25 : decode cX11_ground 25 = .ok (.aload_n 0, 1) := by decide +kernel
theorem dX11_ground_26 : decode cX11_ground 26 = .ok (.getfield 11, 3) := by decide +kernel
theorem dX11_ground_29 : decode cX11_ground 29 = .ok (.iload_n 2, 1) := by decide +kernel
theorem dX11_ground_30 : decode cX11_ground 30 = .ok (.aaload, 1) := by decide +kernel
theorem dX11_ground_31 : decode cX11_ground 31 = .ok (.astore_n 3, 1) := by decide +kernel
theorem dX11_ground_32 : decode cX11_ground 32 = .ok (.aload_n 3, 1) := by decide +kernel
theorem dX11_ground_33 : decode cX11_ground 33 = .ok (.invokevirtual 79, 3) := by decide +kernel
theorem dX11_ground_36 : decode cX11_ground 36 = .ok (.ifCond .eq 10, 3) := by decide +kernel
theorem dX11_ground_39 : decode cX11_ground 39 = .ok (.aload_n 0, 1) := by decide +kernel
theorem dX11_ground_40 : decode cX11_ground 40 = .ok (.bipush (-3), 2) := by decide +kernel
theorem dX11_ground_42 : decode cX11_ground 42 = .ok (.invokevirtual 71, 3) := by decide +kernel
theorem dX11_ground_45 : decode cX11_ground 45 = .ok (.ireturn, 1) := by decide +kernel
theorem dX11_ground_46 : decode cX11_ground 46 = .ok (.aload_n 3, 1) := by decide +kernel
theorem dX11_ground_47 : decode cX11_ground 47 = .ok (.invokevirtual 83, 3) := by decide +kernel
theorem dX11_ground_50 : decode cX11_ground 50 = .ok (.ifCond .ne 10, 3) := by decide +kernel
theorem dX11_ground_53 : decode cX11_ground 53 = .ok (.aload_n 0, 1) := by decide +kernel
theorem dX11_ground_54 : decode cX11_ground 54 = .ok (.bipush (-4), 2) := by decide +kernel
theorem dX11_ground_56 : decode cX11_ground 56 = .ok (.invokevirtual 71, 3) := by decide +kernel
theorem dX11_ground_59 : decode cX11_ground 59 = .ok (.ireturn, 1) := by decide +kernel
theorem dX11_ground_60 : decode cX11_ground 60 = .ok (.aload_n 3, 1) := by decide +kernel
theorem dX11_ground_61 : decode cX11_ground 61 = .ok (.invokevirtual 330, 3) := by decide +kernel
theorem dX11_ground_64 : decode cX11_ground 64 = .ok (.lstore 4, 2) := by decide +kernel
theorem dX11_ground_66 : decode cX11_ground 66 = .ok (.aload_n 0, 1) := by decide +kernel
theorem dX11_ground_67 : decode cX11_ground 67 = .ok (.getfield 35, 3) := by decide +kernel
theorem dX11_ground_70 : decode cX11_ground 70 = .ok (.getfield 120, 3) := by decide +kernel
theorem dX11_ground_73 : decode cX11_ground 73 = .ok (.iload_n 1, 1) := by decide +kernel
theorem dX11_ground_74 : decode cX11_ground 74 = .ok (.aaload, 1) := by decide +kernel
theorem dX11_ground_75 : decode cX11_ground 75 = .ok (.lload 4, 2) := by decide +kernel
theorem dX11_ground_77 : decode cX11_ground 77 = .ok (.putfield 334, 3) := by decide +kernel
theorem dX11_ground_80 : decode cX11_ground 80 = .ok (.lload 4, 2) := by decide +kernel
theorem dX11_ground_82 : decode cX11_ground 82 = .ok (.invokestatic 338, 3) := by decide +kernel
theorem dX11_ground_85 : decode cX11_ground 85 = .ok (.ireturn, 1) := by decide +kernel
theorem dX11_groundOf_0 : decode cX11_groundOf 0 = .ok (.aload_n 0, 1) := by decide +kernel
theorem dX11_groundOf_1 : decode cX11_groundOf 1 = .ok (.getfield 35, 3) := by decide +kernel
theorem dX11_groundOf_4 : decode cX11_groundOf 4 = .ok (.iload_n 1, 1) := by decide +kernel
theorem dX11_groundOf_5 : decode cX11_groundOf 5 = .ok (.invokevirtual 114, 3) := by decide +kernel
theorem dX11_groundOf_8 : decode cX11_groundOf 8 = .ok (.ifCond .eq 18, 3) := by decide +kernel
theorem dX11_groundOf_11 : decode cX11_groundOf 11 = .ok (.aload_n 0, 1) := by decide +kernel
theorem dX11_groundOf_12 : decode cX11_groundOf 12 = .ok (.getfield 35, 3) := by decide +kernel
theorem dX11_groundOf_15 : decode cX11_groundOf 15 = .ok (.getfield 120, 3) := by decide +kernel
theorem dX11_groundOf_18 : decode cX11_groundOf 18 = .ok (.iload_n 1, 1) := by decide +kernel
theorem dX11_groundOf_19 : decode cX11_groundOf 19 = .ok (.aaload, 1) := by decide +kernel
theorem dX11_groundOf_20 : decode cX11_groundOf 20 = .ok (.getfield 334, 3) := by decide +kernel
theorem dX11_groundOf_23 : decode cX11_groundOf 23 = .ok (.goto 4, 3) := by decide +kernel
theorem dX11_groundOf_26 : decode cX11_groundOf 26 = .ok (.lconst 0, 1) := by decide +kernel
theorem dX11_groundOf_27 : decode cX11_groundOf 27 = .ok (.lreturn, 1) := by decide +kernel
theorem dX11_lies_0 : decode cX11_lies 0 = .ok (.aload_n 0, 1) := by decide +kernel
theorem dX11_lies_1 : decode cX11_lies 1 = .ok (.iload_n 1, 1) := by decide +kernel
theorem dX11_lies_2 : decode cX11_lies 2 = .ok (.iload_n 2, 1) := by decide +kernel
theorem dX11_lies_3 : decode cX11_lies 3 = .ok (.invokevirtual 214, 3) := by decide +kernel
theorem dX11_lies_6 : decode cX11_lies 6 = .ok (.ifCond .ne 10, 3) := by decide +kernel
theorem dX11_lies_9 : decode cX11_lies 9 = .ok (.aload_n 0, 1) := by decide +kernel
theorem dX11_lies_10 : decode cX11_lies 10 = .ok (.bipush (-2), 2) := by decide +kernel
theorem dX11_lies_12 : decode cX11_lies 12 = .ok (.invokevirtual 71, 3) := by decide +kernel
theorem dX11_lies_15 : decode cX11_lies 15 = .ok (.ireturn, 1) := by decide +kernel
theorem dX11_lies_16 : decode cX11_lies 16 = .ok (.aload_n 0, 1) := by decide +kernel
theorem dX11_lies_17 : decode cX11_lies 17 = .ok (.getfield 35, 3) := by decide +kernel
theorem dX11_lies_20 : decode cX11_lies 20 = .ok (.getfield 120, 3) := by decide +kernel
theorem dX11_lies_23 : decode cX11_lies 23 = .ok (.iload_n 1, 1) := by decide +kernel
theorem dX11_lies_24 : decode cX11_lies 24 = .ok (.aaload, 1) := by decide +kernel
theorem dX11_lies_25 : decode cX11_lies 25 = .ok (.getfield 334, 3) := by decide +kernel
theorem dX11_lies_28 : decode cX11_lies 28 = .ok (.lstore_n 3, 1) := by decide +kernel
theorem dX11_lies_29 : decode cX11_lies 29 = .ok (.aload_n 0, 1) := by decide +kernel
theorem dX11_lies_30 : decode cX11_lies 30 = .ok (.getfield 35, 3) := by decide +kernel
theorem dX11_lies_33 : decode cX11_lies 33 = .ok (.getfield 120, 3) := by decide +kernel
theorem dX11_lies_36 : decode cX11_lies 36 = .ok (.iload_n 2, 1) := by decide +kernel
theorem dX11_lies_37 : decode cX11_lies 37 = .ok (.aaload, 1) := by decide +kernel
theorem dX11_lies_38 : decode cX11_lies 38 = .ok (.getfield 334, 3) := by decide +kernel
theorem dX11_lies_41 : decode cX11_lies 41 = .ok (.lstore 5, 2) := by decide +kernel
theorem dX11_lies_43 : decode cX11_lies 43 = .ok (.lload_n 3, 1) := by decide +kernel
theorem dX11_lies_44 : decode cX11_lies 44 = .ok (.lconst 0, 1) := by decide +kernel
theorem dX11_lies_45 : decode cX11_lies 45 = .ok (.lcmp, 1) := by decide +kernel
theorem dX11_lies_46 : decode cX11_lies 46 = .ok (.ifCond .eq 10, 3) := by decide +kernel
theorem dX11_lies_49 : decode cX11_lies 49 = .ok (.lload 5, 2) := by decide +kernel
theorem dX11_lies_51 : decode cX11_lies 51 = .ok (.lconst 0, 1) := by decide +kernel
theorem dX11_lies_52 : decode cX11_lies 52 = .ok (.lcmp, 1) := by decide +kernel
theorem dX11_lies_53 : decode cX11_lies 53 = .ok (.ifCond .ne 7, 3) := by decide +kernel
theorem dX11_lies_56 : decode cX11_lies 56 = .ok (.iconst (-1), 1) := by decide +kernel
theorem dX11_lies_57 : decode cX11_lies 57 = .ok (.goto 9, 3) := by decide +kernel
theorem dX11_lies_60 : decode cX11_lies 60 = .ok (.lload_n 3, 1) := by decide +kernel
theorem dX11_lies_61 : decode cX11_lies 61 = .ok (.lload 5, 2) := by decide +kernel
theorem dX11_lies_63 : decode cX11_lies 63 = .ok (.invokestatic 343, 3) := by decide +kernel
theorem dX11_lies_66 : decode cX11_lies 66 = .ok (.ireturn, 1) := by decide +kernel
theorem dX11_judge_0 : decode cX11_judge 0 = .ok (.iload_n 1, 1) := by decide +kernel
theorem dX11_judge_1 : decode cX11_judge 1 = .ok (.invokestatic 132, 3) := by decide +kernel
theorem dX11_judge_4 : decode cX11_judge 4 = .ok (.ifCond .ne 10, 3) := by decide +kernel
theorem dX11_judge_7 : decode cX11_judge 7 = .ok (.aload_n 0, 1) := by decide +kernel
theorem dX11_judge_8 : decode cX11_judge 8 = .ok (.bipush (-2), 2) := by decide +kernel
theorem dX11_judge_10 : decode cX11_judge 10 = .ok (.invokevirtual 71, 3) := by decide +kernel
theorem dX11_judge_13 : decode cX11_judge 13 = .ok (.ireturn, 1) := by decide +kernel
theorem dX11_judge_14 : decode cX11_judge 14 = .ok (.aload_n 0, 1) := by decide +kernel
theorem dX11_judge_15 : decode cX11_judge 15 = .ok (.getfield 35, 3) := by decide +kernel
theorem dX11_judge_18 : decode cX11_judge 18 = .ok (.iload_n 1, 1) := by decide +kernel
theorem dX11_judge_19 : decode cX11_judge 19 = .ok (.invokevirtual 221, 3) := by decide +kernel
theorem dX11_judge_22 : decode cX11_judge 22 = .ok (.istore_n 2, 1) := by decide +kernel
theorem dX11_judge_23 : decode cX11_judge 23 = .ok (.iconst 0, 1) := by decide +kernel
theorem dX11_judge_24 : decode cX11_judge 24 = .ok (.istore_n 3, 1) := by decide +kernel
theorem dX11_judge_25 : decode cX11_judge 25 = .ok (.iload_n 3, 1) := by decide +kernel
theorem dX11_judge_26 : decode cX11_judge 26 = .ok (.aload_n 0, 1) := by decide +kernel
theorem dX11_judge_27 : decode cX11_judge 27 = .ok (.getfield 35, 3) := by decide +kernel
theorem dX11_judge_30 : decode cX11_judge 30 = .ok (.getfield 158, 3) := by decide +kernel
theorem dX11_judge_33 : decode cX11_judge 33 = .ok (.if_icmp .ge 38, 3) := by decide +kernel
theorem dX11_judge_36 : decode cX11_judge 36 = .ok (.iload_n 2, 1) := by decide +kernel
theorem dX11_judge_37 : decode cX11_judge 37 = .ok (.iload_n 3, 1) := by decide +kernel
theorem dX11_judge_38 : decode cX11_judge 38 = .ok (.ishr, 1) := by decide +kernel
theorem dX11_judge_39 : decode cX11_judge 39 = .ok (.iconst 1, 1) := by decide +kernel
theorem dX11_judge_40 : decode cX11_judge 40 = .ok (.iand, 1) := by decide +kernel
theorem dX11_judge_41 : decode cX11_judge 41 = .ok (.ifCond .eq 24, 3) := by decide +kernel
theorem dX11_judge_44 : decode cX11_judge 44 = .ok (.aload_n 0, 1) := by decide +kernel
theorem dX11_judge_45 : decode cX11_judge 45 = .ok (.getfield 35, 3) := by decide +kernel
theorem dX11_judge_48 : decode cX11_judge 48 = .ok (.aload_n 0, 1) := by decide +kernel
theorem dX11_judge_49 : decode cX11_judge 49 = .ok (.getfield 35, 3) := by decide +kernel
theorem dX11_judge_52 : decode cX11_judge 52 = .ok (.getfield 161, 3) := by decide +kernel
theorem dX11_judge_55 : decode cX11_judge 55 = .ok (.iload_n 3, 1) := by decide +kernel
theorem dX11_judge_56 : decode cX11_judge 56 = .ok (.aaload, 1) := by decide +kernel
theorem dX11_judge_57 : decode cX11_judge 57 = .ok (.invokevirtual 348, 3) := by decide +kernel
theorem dX11_judge_60 : decode cX11_judge 60 = .ok (.ifCond .ne 5, 3) := by decide +kernel
theorem dX11_judge_63 : decode cX11_judge 63 = .ok (.iload_n 3, 1) := by decide +kernel
theorem dX11_judge_64 : decode cX11_judge 64 = .ok (.ireturn, 1) := by decide +kernel
theorem dX11_judge_65 : decode cX11_judge 65 = .ok (.iinc 3 1, 3) := by decide +kernel
theorem dX11_judge_68 : decode cX11_judge 68 = .ok (.goto (-43), 3) := by decide +kernel
theorem dX11_judge_71 : decode cX11_judge 71 = .ok (.iconst (-1), 1) := by decide +kernel
theorem dX11_judge_72 : decode cX11_judge 72 = .ok (.ireturn, 1) := by decide +kernel
theorem dX11_right_0 : decode cX11_right 0 = .ok (.aload_n 0, 1) := by decide +kernel
theorem dX11_right_1 : decode cX11_right 1 = .ok (.getfield 35, 3) := by decide +kernel
theorem dX11_right_4 : decode cX11_right 4 = .ok (.iload_n 1, 1) := by decide +kernel
theorem dX11_right_5 : decode cX11_right 5 = .ok (.invokevirtual 114, 3) := by decide +kernel
theorem dX11_right_8 : decode cX11_right 8 = .ok (.ifCond .ne 10, 3) := by decide +kernel
theorem dX11_right_11 : decode cX11_right 11 = .ok (.aload_n 0, 1) := by decide +kernel
theorem dX11_right_12 : decode cX11_right 12 = .ok (.bipush (-2), 2) := by decide +kernel
theorem dX11_right_14 : decode cX11_right 14 = .ok (.invokevirtual 71, 3) := by decide +kernel
theorem dX11_right_17 : decode cX11_right 17 = .ok (.ireturn, 1) := by decide +kernel
theorem dX11_right_18 : decode cX11_right 18 = .ok (.aload_n 0, 1) := by decide +kernel
theorem dX11_right_19 : decode cX11_right 19 = .ok (.getfield 35, 3) := by decide +kernel
theorem dX11_right_22 : decode cX11_right 22 = .ok (.aload_n 0, 1) := by decide +kernel
theorem dX11_right_23 : decode cX11_right 23 = .ok (.getfield 35, 3) := by decide +kernel
theorem dX11_right_26 : decode cX11_right 26 = .ok (.getfield 120, 3) := by decide +kernel
theorem dX11_right_29 : decode cX11_right 29 = .ok (.iload_n 1, 1) := by decide +kernel
theorem dX11_right_30 : decode cX11_right 30 = .ok (.aaload, 1) := by decide +kernel
theorem dX11_right_31 : decode cX11_right 31 = .ok (.invokevirtual 352, 3) := by decide +kernel
theorem dX11_right_34 : decode cX11_right 34 = .ok (.ifCond .eq 7, 3) := by decide +kernel
theorem dX11_right_37 : decode cX11_right 37 = .ok (.iconst 1, 1) := by decide +kernel
theorem dX11_right_38 : decode cX11_right 38 = .ok (.goto 4, 3) := by decide +kernel
theorem dX11_right_41 : decode cX11_right 41 = .ok (.iconst 0, 1) := by decide +kernel
theorem dX11_right_42 : decode cX11_right 42 = .ok (.ireturn, 1) := by decide +kernel
theorem dX11_whole_0 : decode cX11_whole 0 = .ok (.aload_n 0, 1) := by decide +kernel
theorem dX11_whole_1 : decode cX11_whole 1 = .ok (.getfield 35, 3) := by decide +kernel
theorem dX11_whole_4 : decode cX11_whole 4 = .ok (.iload_n 1, 1) := by decide +kernel
theorem dX11_whole_5 : decode cX11_whole 5 = .ok (.invokevirtual 114, 3) := by decide +kernel
theorem dX11_whole_8 : decode cX11_whole 8 = .ok (.ifCond .eq 19, 3) := by decide +kernel
theorem dX11_whole_11 : decode cX11_whole 11 = .ok (.iload_n 2, 1) := by decide +kernel
theorem dX11_whole_12 : decode cX11_whole 12 = .ok (.ifCond .eq 15, 3) := by decide +kernel
theorem dX11_whole_15 : decode cX11_whole 15 = .ok (.iload_n 2, 1) := by decide +kernel
theorem dX11_whole_16 : decode cX11_whole 16 = .ok (.aload_n 0, 1) := by decide +kernel
theorem dX11_whole_17 : decode cX11_whole 17 = .ok (.getfield 35, 3) := by decide +kernel
theorem dX11_whole_20 : decode cX11_whole 20 = .ok (.getfield 135, 3) := by decide +kernel
theorem dX11_whole_23 : decode cX11_whole 23 = .ok (.ishr, 1) := by decide +kernel
theorem dX11_whole_24 : decode cX11_whole 24 = .ok (.ifCond .eq 10, 3) := by decide +kernel
theorem dX11_whole_27 : decode cX11_whole 27 = .ok (.aload_n 0, 1) := by decide +kernel
theorem dX11_whole_28 : decode cX11_whole 28 = .ok (.bipush (-2), 2) := by decide +kernel
theorem dX11_whole_30 : decode cX11_whole 30 = .ok (.invokevirtual 71, 3) := by decide +kernel
theorem dX11_whole_33 : decode cX11_whole 33 = .ok (.ireturn, 1) := by decide +kernel
theorem dX11_whole_34 : decode cX11_whole 34 = .ok (.aload_n 0, 1) := by decide +kernel
theorem dX11_whole_35 : decode cX11_whole 35 = .ok (.getfield 35, 3) := by decide +kernel
theorem dX11_whole_38 : decode cX11_whole 38 = .ok (.aload_n 0, 1) := by decide +kernel
theorem dX11_whole_39 : decode cX11_whole 39 = .ok (.getfield 35, 3) := by decide +kernel
theorem dX11_whole_42 : decode cX11_whole 42 = .ok (.getfield 120, 3) := by decide +kernel
theorem dX11_whole_45 : decode cX11_whole 45 = .ok (.iload_n 1, 1) := by decide +kernel
theorem dX11_whole_46 : decode cX11_whole 46 = .ok (.aaload, 1) := by decide +kernel
theorem dX11_whole_47 : decode cX11_whole 47 = .ok (.getfield 334, 3) := by decide +kernel
theorem dX11_whole_50 : decode cX11_whole 50 = .ok (.iload_n 2, 1) := by decide +kernel
theorem dX11_whole_51 : decode cX11_whole 51 = .ok (.invokevirtual 356, 3) := by decide +kernel
theorem dX11_whole_54 : decode cX11_whole 54 = .ok (.ifCond .eq 7, 3) := by decide +kernel
theorem dX11_whole_57 : decode cX11_whole 57 = .ok (.iconst 1, 1) := by decide +kernel
theorem dX11_whole_58 : decode cX11_whole 58 = .ok (.goto 4, 3) := by decide +kernel
theorem dX11_whole_61 : decode cX11_whole 61 = .ok (.iconst 0, 1) := by decide +kernel
theorem dX11_whole_62 : decode cX11_whole 62 = .ok (.ireturn, 1) := by decide +kernel
theorem dX11_draw_0 : decode cX11_draw 0 = .ok (.iload_n 1, 1) := by decide +kernel
theorem dX11_draw_1 : decode cX11_draw 1 = .ok (.iconst 1, 1) := by decide +kernel
theorem dX11_draw_2 : decode cX11_draw 2 = .ok (.if_icmp .lt 9, 3) := by decide +kernel
theorem dX11_draw_5 : decode cX11_draw 5 = .ok (.iload_n 1, 1) := by decide +kernel
theorem dX11_draw_6 : decode cX11_draw 6 = .ok (.bipush 100, 2) := by decide +kernel
theorem dX11_draw_8 : decode cX11_draw 8 = .ok (.if_icmp .le 10, 3) := by decide +kernel
theorem dX11_draw_11 : decode cX11_draw 11 = .ok (.aload_n 0, 1) := by decide +kernel
theorem dX11_draw_12 : decode cX11_draw 12 = .ok (.bipush (-2), 2) := by decide +kernel
theorem dX11_draw_14 : decode cX11_draw 14 = .ok (.invokevirtual 71, 3) := by decide +kernel
theorem dX11_draw_17 : decode cX11_draw 17 = .ok (.ireturn, 1) := by decide +kernel
theorem dX11_draw_18 : decode cX11_draw 18 = .ok (.iconst 0, 1) := by decide +kernel
theorem dX11_draw_19 : decode cX11_draw 19 = .ok (.istore_n 2, 1) := by decide +kernel
theorem dX11_draw_20 : decode cX11_draw 20 = .ok (.iload_n 2, 1) := by decide +kernel
theorem dX11_draw_21 : decode cX11_draw 21 = .ok (.iload_n 1, 1) := by decide +kernel
theorem dX11_draw_22 : decode cX11_draw 22 = .ok (.if_icmp .ge 19, 3) := by decide +kernel
theorem dX11_draw_25 : decode cX11_draw 25 = .ok (.aload_n 0, 1) := by decide +kernel
theorem dX11_draw_26 : decode cX11_draw 26 = .ok (.getfield 35, 3) := by decide +kernel
theorem dX11_draw_29 : decode cX11_draw 29 = .ok (.getfield 360, 3) := by decide +kernel
theorem dX11_draw_32 : decode cX11_draw 32 = .ok (.invokevirtual 364, 3) := by decide +kernel
theorem dX11_draw_35 : decode cX11_draw 35 = .ok (.iinc 2 1, 3) := by decide +kernel
theorem dX11_draw_38 : decode cX11_draw 38 = .ok (.goto (-18), 3) := by decide +kernel
theorem dX11_draw_41 : decode cX11_draw 41 = .ok (.aload_n 0, 1) := by decide +kernel
theorem dX11_draw_42 : decode cX11_draw 42 = .ok (.getfield 35, 3) := by decide +kernel
theorem dX11_draw_45 : decode cX11_draw 45 = .ok (.getfield 360, 3) := by decide +kernel
theorem dX11_draw_48 : decode cX11_draw 48 = .ok (.invokevirtual 367, 3) := by decide +kernel
theorem dX11_draw_51 : decode cX11_draw 51 = .ok (.ireturn, 1) := by decide +kernel
theorem dX11_found_0 : decode cX11_found 0 = .ok (.iload_n 1, 1) := by decide +kernel
theorem dX11_found_1 : decode cX11_found 1 = .ok (.invokestatic 199, 3) := by decide +kernel
theorem dX11_found_4 : decode cX11_found 4 = .ok (.ifCond .eq 30, 3) := by decide +kernel
theorem dX11_found_7 : decode cX11_found 7 = .ok (.iload_n 2, 1) := by decide +kernel
theorem dX11_found_8 : decode cX11_found 8 = .ok (.invokestatic 199, 3) := by decide +kernel
theorem dX11_found_11 : decode cX11_found 11 = .ok (.ifCond .eq 23, 3) := by decide +kernel
theorem dX11_found_14 : decode cX11_found 14 = .ok (.aload_n 0, 1) := by decide +kernel
theorem dX11_found_15 : decode cX11_found 15 = .ok (.getfield 35, 3) := by decide +kernel
theorem dX11_found_18 : decode cX11_found 18 = .ok (.getfield 360, 3) := by decide +kernel
theorem dX11_found_21 : decode cX11_found 21 = .ok (.getfield 370, 3) := by decide +kernel
theorem dX11_found_24 : decode cX11_found 24 = .ok (.iload_n 1, 1) := by decide +kernel
theorem dX11_found_25 : decode cX11_found 25 = .ok (.bipush 8, 2) := by decide +kernel
theorem dX11_found_27 : decode cX11_found 27 = .ok (.imul, 1) := by decide +kernel
theorem dX11_found_28 : decode cX11_found 28 = .ok (.iload_n 2, 1) := by decide +kernel
theorem dX11_found_29 : decode cX11_found 29 = .ok (.iadd, 1) := by decide +kernel
theorem dX11_found_30 : decode cX11_found 30 = .ok (.iaload, 1) := by decide +kernel
theorem dX11_found_31 : decode cX11_found 31 = .ok (.goto 9, 3) := by decide +kernel
theorem dX11_found_34 : decode cX11_found 34 = .ok (.aload_n 0, 1) := by decide +kernel
theorem dX11_found_35 : decode cX11_found 35 = .ok (.bipush (-2), 2) := by decide +kernel
theorem dX11_found_37 : decode cX11_found 37 = .ok (.invokevirtual 71, 3) := by decide +kernel
theorem dX11_found_40 : decode cX11_found 40 = .ok (.ireturn, 1) := by decide +kernel
theorem dX11_seed_0 : decode cX11_seed 0 = .ok (.aload_n 0, 1) := by decide +kernel
theorem dX11_seed_1 : decode cX11_seed 1 = .ok (.getfield 35, 3) := by decide +kernel
theorem dX11_seed_4 : decode cX11_seed 4 = .ok (.getfield 360, 3) := by decide +kernel
theorem dX11_seed_7 : decode cX11_seed 7 = .ok (.getfield 373, 3) := by decide +kernel
theorem dX11_seed_10 : decode cX11_seed 10 = .ok (.istore_n 2, 1) := by decide +kernel
theorem dX11_seed_11 : decode cX11_seed 11 = .ok (.aload_n 0, 1) := by decide +kernel
theorem dX11_seed_12 : decode cX11_seed 12 = .ok (.getfield 35, 3) := by decide +kernel
theorem dX11_seed_15 : decode cX11_seed 15 = .ok (.getfield 360, 3) := by decide +kernel
theorem dX11_seed_18 : decode cX11_seed 18 = .ok (.iload_n 1, 1) := by decide +kernel
theorem dX11_seed_19 : decode cX11_seed 19 = .ok (.putfield 373, 3) := by decide +kernel
theorem dX11_seed_22 : decode cX11_seed 22 = .ok (.iload_n 2, 1) := by decide +kernel
theorem dX11_seed_23 : decode cX11_seed 23 = .ok (.ireturn, 1) := by decide +kernel
theorem dX11_begin_0 : decode cX11_begin 0 = .ok (.iload_n 1, 1) := by decide +kernel
theorem dX11_begin_1 : decode cX11_begin 1 = .ok (.invokestatic 132, 3) := by decide +kernel
theorem dX11_begin_4 : decode cX11_begin 4 = .ok (.ifCond .ne 10, 3) := by decide +kernel
theorem dX11_begin_7 : decode cX11_begin 7 = .ok (.aload_n 0, 1) := by decide +kernel
theorem dX11_begin_8 : decode cX11_begin 8 = .ok (.bipush (-2), 2) := by decide +kernel
theorem dX11_begin_10 : decode cX11_begin 10 = .ok (.invokevirtual 71, 3) := by decide +kernel
theorem dX11_begin_13 : decode cX11_begin 13 = .ok (.ireturn, 1) := by decide +kernel
theorem dX11_begin_14 : decode cX11_begin 14 = .ok (.aload_n 0, 1) := by decide +kernel
theorem dX11_begin_15 : decode cX11_begin 15 = .ok (.getfield 35, 3) := by decide +kernel
theorem dX11_begin_18 : decode cX11_begin 18 = .ok (.getfield 376, 3) := by decide +kernel
theorem dX11_begin_21 : decode cX11_begin 21 = .ok (.astore_n 2, 1) := by decide +kernel
theorem dX11_begin_22 : decode cX11_begin 22 = .ok (.aload_n 0, 1) := by decide +kernel
theorem dX11_begin_23 : decode cX11_begin 23 = .ok (.getfield 35, 3) := by decide +kernel
theorem dX11_begin_26 : decode cX11_begin 26 = .ok (.aload_n 2, 1) := by decide +kernel
theorem dX11_begin_27 : decode cX11_begin 27 = .ok (.getfield 217, 3) := by decide +kernel
theorem dX11_begin_30 : decode cX11_begin 30 = .ok (.iload_n 1, 1) := by decide +kernel
theorem dX11_begin_31 : decode cX11_begin 31 = .ok (.aload_n 0, 1) := by decide +kernel
theorem dX11_begin_32 : decode cX11_begin 32 = .ok (.getfield 35, 3) := by decide +kernel
theorem dX11_begin_35 : decode cX11_begin 35 = .ok (.iload_n 1, 1) := by decide +kernel
theorem dX11_begin_36 : decode cX11_begin 36 = .ok (.invokevirtual 221, 3) := by decide +kernel
theorem dX11_begin_39 : decode cX11_begin 39 = .ok (.invokevirtual 224, 3) := by decide +kernel
theorem dX11_begin_42 : decode cX11_begin 42 = .ok (.aload_n 2, 1) := by decide +kernel
theorem dX11_begin_43 : decode cX11_begin 43 = .ok (.iload_n 1, 1) := by decide +kernel
theorem dX11_begin_44 : decode cX11_begin 44 = .ok (.invokevirtual 379, 3) := by decide +kernel
theorem dX11_begin_47 : decode cX11_begin 47 = .ok (.aload_n 2, 1) := by decide +kernel
theorem dX11_begin_48 : decode cX11_begin 48 = .ok (.getfield 382, 3) := by decide +kernel
theorem dX11_begin_51 : decode cX11_begin 51 = .ok (.ireturn, 1) := by decide +kernel
theorem dX11_step_0 : decode cX11_step 0 = .ok (.iload_n 1, 1) := by decide +kernel
theorem dX11_step_1 : decode cX11_step 1 = .ok (.iconst 1, 1) := by decide +kernel
theorem dX11_step_2 : decode cX11_step 2 = .ok (.if_icmp .lt 10, 3) := by decide +kernel
theorem dX11_step_5 : decode cX11_step 5 = .ok (.iload_n 1, 1) := by decide +kernel
theorem dX11_step_6 : decode cX11_step 6 = .ok (.sipush 999, 3) := by decide +kernel
theorem dX11_step_9 : decode cX11_step 9 = .ok (.if_icmp .le 10, 3) := by decide +kernel
theorem dX11_step_12 : decode cX11_step 12 = .ok (.aload_n 0, 1) := by decide +kernel
theorem dX11_step_13 : decode cX11_step 13 = .ok (.bipush (-2), 2) := by decide +kernel
theorem dX11_step_15 : decode cX11_step 15 = .ok (.invokevirtual 71, 3) := by decide +kernel
theorem dX11_step_18 : decode cX11_step 18 = .ok (.ireturn, 1) := by decide +kernel
theorem dX11_step_19 : decode cX11_step 19 = .ok (.aload_n 0, 1) := by decide +kernel
theorem dX11_step_20 : decode cX11_step 20 = .ok (.getfield 35, 3) := by decide +kernel
theorem dX11_step_23 : decode cX11_step 23 = .ok (.getfield 376, 3) := by decide +kernel
theorem dX11_step_26 : decode cX11_step 26 = .ok (.astore_n 2, 1) := by decide +kernel
theorem dX11_step_27 : decode cX11_step 27 = .ok (.aload_n 2, 1) := by decide +kernel
theorem dX11_step_28 : decode cX11_step 28 = .ok (.getfield 384, 3) := by decide +kernel
theorem dX11_step_31 : decode cX11_step 31 = .ok (.iconst (-1), 1) := by decide +kernel
theorem dX11_step_32 : decode cX11_step 32 = .ok (.if_icmp .eq 10, 3) := by decide +kernel
theorem dX11_step_35 : decode cX11_step 35 = .ok (.aload_n 2, 1) := by decide +kernel
theorem dX11_step_36 : decode cX11_step 36 = .ok (.getfield 385, 3) := by decide +kernel
theorem dX11_step_39 : decode cX11_step 39 = .ok (.ifCond .eq 10, 3) := by decide +kernel
theorem dX11_step_42 : decode cX11_step 42 = .ok (.aload_n 0, 1) := by decide +kernel
theorem dX11_step_43 : decode cX11_step 43 = .ok (.bipush (-5), 2) := by decide +kernel
theorem dX11_step_45 : decode cX11_step 45 = .ok (.invokevirtual 71, 3) := by decide +kernel
theorem dX11_step_48 : decode cX11_step 48 = .ok (.ireturn, 1) := by decide +kernel
theorem dX11_step_49 : decode cX11_step 49 = .ok (.aload_n 2, 1) := by decide +kernel
theorem dX11_step_50 : decode cX11_step 50 = .ok (.getfield 250, 3) := by decide +kernel
theorem dX11_step_53 : decode cX11_step 53 = .ok (.istore_n 3, 1) := by decide +kernel
theorem dX11_step_54 : decode cX11_step 54 = .ok (.aload_n 2, 1) := by decide +kernel
theorem dX11_step_55 : decode cX11_step 55 = .ok (.iload_n 1, 1) := by decide +kernel
theorem dX11_step_56 : decode cX11_step 56 = .ok (.invokevirtual 388, 3) := by decide +kernel
theorem dX11_step_59 : decode cX11_step 59 = .ok (.pop, 1) := by decide +kernel
theorem dX11_step_60 : decode cX11_step 60 = .ok (.aload_n 2, 1) := by decide +kernel
theorem dX11_step_61 : decode cX11_step 61 = .ok (.getfield 250, 3) := by decide +kernel
theorem dX11_step_64 : decode cX11_step 64 = .ok (.iload_n 3, 1) := by decide +kernel
theorem dX11_step_65 : decode cX11_step 65 = .ok (.isub, 1) := by decide +kernel
theorem dX11_step_66 : decode cX11_step 66 = .ok (.ireturn, 1) := by decide +kernel
theorem dX11_search_0 : decode cX11_search 0 = .ok (.iload_n 1, 1) := by decide +kernel
theorem dX11_search_1 : decode cX11_search 1 = .ok (.ifCond .lt 8, 3) := by decide +kernel
theorem dX11_search_4 : decode cX11_search 4 = .ok (.iload_n 1, 1) := by decide +kernel
theorem dX11_search_5 : decode cX11_search 5 = .ok (.iconst 4, 1) := by decide +kernel
theorem dX11_search_6 : decode cX11_search 6 = .ok (.if_icmp .le 10, 3) := by decide +kernel
theorem dX11_search_9 : decode cX11_search 9 = .ok (.aload_n 0, 1) := by decide +kernel
theorem dX11_search_10 : decode cX11_search 10 = .ok (.bipush (-2), 2) := by decide +kernel
theorem dX11_search_12 : decode cX11_search 12 = .ok (.invokevirtual 71, 3) := by decide +kernel
theorem dX11_search_15 : decode cX11_search 15 = .ok (.ireturn, 1) := by decide +kernel
theorem dX11_search_16 : decode cX11_search 16 = .ok (.aload_n 0, 1) := by decide +kernel
theorem dX11_search_17 : decode cX11_search 17 = .ok (.getfield 35, 3) := by decide +kernel
theorem dX11_search_20 : decode cX11_search 20 = .ok (.getfield 376, 3) := by decide +kernel
theorem dX11_search_23 : decode cX11_search 23 = .ok (.astore_n 2, 1) := by decide +kernel
theorem dX11_search_24 : decode cX11_search 24 = .ok (.aload_n 2, 1) := by decide +kernel
theorem dX11_search_25 : decode cX11_search 25 = .ok (.getfield 384, 3) := by decide +kernel
theorem dX11_search_28 : decode cX11_search 28 = .ok (.iconst (-1), 1) := by decide +kernel
theorem dX11_search_29 : decode cX11_search 29 = .ok (.if_icmp .ne 10, 3) := by decide +kernel
theorem dX11_search_32 : decode cX11_search 32 = .ok (.aload_n 0, 1) := by decide +kernel
theorem dX11_search_33 : decode cX11_search 33 = .ok (.bipush (-5), 2) := by decide +kernel
theorem dX11_search_35 : decode cX11_search 35 = .ok (.invokevirtual 71, 3) := by decide +kernel
theorem dX11_search_38 : decode cX11_search 38 = .ok (.ireturn, 1) := by decide +kernel
theorem dX11_search_39 : decode cX11_search 39 = .ok (.iload_n 1, 1) := by decide +kernel
theorem dX11_search_40 : decode cX11_search 40 = .ok (.tableswitch 52 0 3 #[32, 37, 42, 47], 32) := by decide +kernel
theorem dX11_search_72 : decode cX11_search 72 = .ok (.aload_n 2, 1) := by decide +kernel
theorem dX11_search_73 : decode cX11_search 73 = .ok (.getfield 384, 3) := by decide +kernel
theorem dX11_search_76 : decode cX11_search 76 = .ok (.ireturn, 1) := by decide +kernel
theorem dX11_search_77 : decode cX11_search 77 = .ok (.aload_n 2, 1) := by decide +kernel
theorem dX11_search_78 : decode cX11_search 78 = .ok (.getfield 250, 3) := by decide +kernel
theorem dX11_search_81 : decode cX11_search 81 = .ok (.ireturn, 1) := by decide +kernel
theorem dX11_search_82 : decode cX11_search 82 = .ok (.aload_n 2, 1) := by decide +kernel
theorem dX11_search_83 : decode cX11_search 83 = .ok (.getfield 253, 3) := by decide +kernel
theorem dX11_search_86 : decode cX11_search 86 = .ok (.ireturn, 1) := by decide +kernel
theorem dX11_search_87 : decode cX11_search 87 = .ok (.aload_n 2, 1) := by decide +kernel
theorem dX11_search_88 : decode cX11_search 88 = .ok (.getfield 385, 3) := by decide +kernel
theorem dX11_search_91 : decode cX11_search 91 = .ok (.ireturn, 1) := by decide +kernel
theorem dX11_search_92 : decode cX11_search 92 = .ok (.aload_n 2, 1) := by decide +kernel
theorem dX11_search_93 : decode cX11_search 93 = .ok (.getfield 391, 3) := by decide +kernel
theorem dX11_search_96 : decode cX11_search 96 = .ok (.ireturn, 1) := by decide +kernel
theorem dX11_image_0 : decode cX11_image 0 = .ok (.aload_n 0, 1) := by decide +kernel
theorem dX11_image_1 : decode cX11_image 1 = .ok (.getfield 39, 3) := by decide +kernel
theorem dX11_image_4 : decode cX11_image 4 = .ok (.aload_n 0, 1) := by decide +kernel
theorem dX11_image_5 : decode cX11_image 5 = .ok (.getfield 35, 3) := by decide +kernel
theorem dX11_image_8 : decode cX11_image 8 = .ok (.invokevirtual 394, 3) := by decide +kernel
theorem dX11_image_11 : decode cX11_image 11 = .ok (.aload_n 0, 1) := by decide +kernel
theorem dX11_image_12 : decode cX11_image 12 = .ok (.iconst 1, 1) := by decide +kernel
theorem dX11_image_13 : decode cX11_image 13 = .ok (.putfield 42, 3) := by decide +kernel
theorem dX11_image_16 : decode cX11_image 16 = .ok (.iconst 1, 1) := by decide +kernel
theorem dX11_image_17 : decode cX11_image 17 = .ok (.ireturn, 1) := by decide +kernel
theorem dX11_back_0 : decode cX11_back 0 = .ok (.aload_n 0, 1) := by decide +kernel
theorem dX11_back_1 : decode cX11_back 1 = .ok (.getfield 42, 3) := by decide +kernel
theorem dX11_back_4 : decode cX11_back 4 = .ok (.ifCond .ne 10, 3) := by decide +kernel
theorem dX11_back_7 : decode cX11_back 7 = .ok (.aload_n 0, 1) := by decide +kernel
theorem dX11_back_8 : decode cX11_back 8 = .ok (.bipush (-5), 2) := by decide +kernel
theorem dX11_back_10 : decode cX11_back 10 = .ok (.invokevirtual 71, 3) := by decide +kernel
theorem dX11_back_13 : decode cX11_back 13 = .ok (.ireturn, 1) := by decide +kernel
theorem dX11_back_14 : decode cX11_back 14 = .ok (.aload_n 0, 1) := by decide +kernel
theorem dX11_back_15 : decode cX11_back 15 = .ok (.getfield 35, 3) := by decide +kernel
theorem dX11_back_18 : decode cX11_back 18 = .ok (.aload_n 0, 1) := by decide +kernel
theorem dX11_back_19 : decode cX11_back 19 = .ok (.getfield 39, 3) := by decide +kernel
theorem dX11_back_22 : decode cX11_back 22 = .ok (.invokevirtual 394, 3) := by decide +kernel
theorem dX11_back_25 : decode cX11_back 25 = .ok (.iconst 0, 1) := by decide +kernel
theorem dX11_back_26 : decode cX11_back 26 = .ok (.istore_n 1, 1) := by decide +kernel
theorem dX11_back_27 : decode cX11_back 27 = .ok (.iload_n 1, 1) := by decide +kernel
theorem dX11_back_28 : decode cX11_back 28 = .ok (.bipush 8, 2) := by decide +kernel
theorem dX11_back_30 : decode cX11_back 30 = .ok (.if_icmp .ge 50, 3) := by decide +kernel
theorem dX11_back_33 : decode cX11_back 33 = .ok (.aload_n 0, 1) := by decide +kernel
theorem dX11_back_34 : decode cX11_back 34 = .ok (.getfield 11, 3) := by decide +kernel
theorem dX11_back_37 : decode cX11_back 37 = .ok (.iload_n 1, 1) := by decide +kernel
theorem dX11_back_38 : decode cX11_back 38 = .ok (.aaload, 1) := by decide +kernel
theorem dX11_back_39 : decode cX11_back 39 = .ok (.invokevirtual 79, 3) := by decide +kernel
theorem dX11_back_42 : decode cX11_back 42 = .ok (.ifCond .eq 32, 3) := by decide +kernel
theorem dX11_back_45 : decode cX11_back 45 = .ok (.aload_n 0, 1) := by decide +kernel
theorem dX11_back_46 : decode cX11_back 46 = .ok (.getfield 35, 3) := by decide +kernel
theorem dX11_back_49 : decode cX11_back 49 = .ok (.aload_n 0, 1) := by decide +kernel
theorem dX11_back_50 : decode cX11_back 50 = .ok (.getfield 11, 3) := by decide +kernel
theorem dX11_back_53 : decode cX11_back 53 = .ok (.iload_n 1, 1) := by decide +kernel
theorem dX11_back_54 : decode cX11_back 54 = .ok (.aaload, 1) := by decide +kernel
theorem dX11_back_55 : decode cX11_back 55 = .ok (.getfield 111, 3) := by decide +kernel
theorem dX11_back_58 : decode cX11_back 58 = .ok (.invokevirtual 114, 3) := by decide +kernel
theorem dX11_back_61 : decode cX11_back 61 = .ok (.ifCond .ne 13, 3) := by decide +kernel
theorem dX11_back_64 : decode cX11_back 64 = .ok (.aload_n 0, 1) := by decide +kernel
theorem dX11_back_65 : decode cX11_back 65 = .ok (.getfield 11, 3) := by decide +kernel
theorem dX11_back_68 : decode cX11_back 68 = .ok (.iload_n 1, 1) := by decide +kernel
theorem dX11_back_69 : decode cX11_back 69 = .ok (.aaload, 1) := by decide +kernel
theorem dX11_back_70 : decode cX11_back 70 = .ok (.iconst (-1), 1) := by decide +kernel
theorem dX11_back_71 : decode cX11_back 71 = .ok (.invokevirtual 116, 3) := by decide +kernel
theorem dX11_back_74 : decode cX11_back 74 = .ok (.iinc 1 1, 3) := by decide +kernel
theorem dX11_back_77 : decode cX11_back 77 = .ok (.goto (-50), 3) := by decide +kernel
theorem dX11_back_80 : decode cX11_back 80 = .ok (.iconst 1, 1) := by decide +kernel
theorem dX11_back_81 : decode cX11_back 81 = .ok (.ireturn, 1) := by decide +kernel
theorem dX11_status_0 : decode cX11_status 0 = .ok (.iload_n 1, 1) := by decide +kernel
theorem dX11_status_1 : decode cX11_status 1 = .ok (.bipush 12, 2) := by decide +kernel
theorem dX11_status_3 : decode cX11_status 3 = .ok (.if_icmp .lt 19, 3) := by decide +kernel
theorem dX11_status_6 : decode cX11_status 6 = .ok (.iload_n 1, 1) := by decide +kernel
theorem dX11_status_7 : decode cX11_status 7 = .ok (.bipush 16, 2) := by decide +kernel
theorem dX11_status_9 : decode cX11_status 9 = .ok (.if_icmp .gt 13, 3) := by decide +kernel
theorem dX11_status_12 : decode cX11_status 12 = .ok (.aload_n 0, 1) := by decide +kernel
theorem dX11_status_13 : decode cX11_status 13 = .ok (.getfield 46, 3) := by decide +kernel
theorem dX11_status_16 : decode cX11_status 16 = .ok (.iload_n 1, 1) := by decide +kernel
theorem dX11_status_17 : decode cX11_status 17 = .ok (.bipush 12, 2) := by decide +kernel
theorem dX11_status_19 : decode cX11_status 19 = .ok (.isub, 1) := by decide +kernel
theorem dX11_status_20 : decode cX11_status 20 = .ok (.iaload, 1) := by decide +kernel
theorem dX11_status_21 : decode cX11_status 21 = .ok (.ireturn, 1) := by decide +kernel
theorem dX11_status_22 : decode cX11_status 22 = .ok (.iload_n 1, 1) := by decide +kernel
theorem dX11_status_23 : decode cX11_status 23 = .ok (.tableswitch 73 0 4 #[33, 41, 49, 57, 68], 33) := by decide +kernel
theorem dX11_status_56 : decode cX11_status 56 = .ok (.aload_n 0, 1) := by decide +kernel
theorem dX11_status_57 : decode cX11_status 57 = .ok (.getfield 35, 3) := by decide +kernel
theorem dX11_status_60 : decode cX11_status 60 = .ok (.getfield 135, 3) := by decide +kernel
theorem dX11_status_63 : decode cX11_status 63 = .ok (.ireturn, 1) := by decide +kernel
theorem dX11_status_64 : decode cX11_status 64 = .ok (.aload_n 0, 1) := by decide +kernel
theorem dX11_status_65 : decode cX11_status 65 = .ok (.getfield 35, 3) := by decide +kernel
theorem dX11_status_68 : decode cX11_status 68 = .ok (.getfield 158, 3) := by decide +kernel
theorem dX11_status_71 : decode cX11_status 71 = .ok (.ireturn, 1) := by decide +kernel
theorem dX11_status_72 : decode cX11_status 72 = .ok (.aload_n 0, 1) := by decide +kernel
theorem dX11_status_73 : decode cX11_status 73 = .ok (.getfield 19, 3) := by decide +kernel
theorem dX11_status_76 : decode cX11_status 76 = .ok (.getfield 154, 3) := by decide +kernel
theorem dX11_status_79 : decode cX11_status 79 = .ok (.ireturn, 1) := by decide +kernel
theorem dX11_status_80 : decode cX11_status 80 = .ok (.aload_n 0, 1) := by decide +kernel
theorem dX11_status_81 : decode cX11_status 81 = .ok (.getfield 35, 3) := by decide +kernel
theorem dX11_status_84 : decode cX11_status 84 = .ok (.getfield 360, 3) := by decide +kernel
theorem dX11_status_87 : decode cX11_status 87 = .ok (.getfield 373, 3) := by decide +kernel
theorem dX11_status_90 : decode cX11_status 90 = .ok (.ireturn, 1) := by decide +kernel
theorem dX11_status_91 : decode cX11_status 91 = .ok (.aload_n 0, 1) := by decide +kernel
theorem dX11_status_92 : decode cX11_status 92 = .ok (.invokevirtual 398, 3) := by decide +kernel
theorem dX11_status_95 : decode cX11_status 95 = .ok (.ireturn, 1) := by decide +kernel
theorem dX11_status_96 : decode cX11_status 96 = .ok (.iconst (-1), 1) := by decide +kernel
theorem dX11_status_97 : decode cX11_status 97 = .ok (.ireturn, 1) := by decide +kernel
theorem dX11_heldShelves_0 : decode cX11_heldShelves 0 = .ok (.iconst 0, 1) := by decide +kernel
theorem dX11_heldShelves_1 : decode cX11_heldShelves 1 = .ok (.istore_n 1, 1) := by decide +kernel
theorem dX11_heldShelves_2 : decode cX11_heldShelves 2 = .ok (.iconst 0, 1) := by decide +kernel
theorem dX11_heldShelves_3 : decode cX11_heldShelves 3 = .ok (.istore_n 2, 1) := by decide +kernel
theorem dX11_heldShelves_4 : decode cX11_heldShelves 4 = .ok (.iload_n 2, 1) := by decide +kernel
theorem dX11_heldShelves_5 : decode cX11_heldShelves 5 = .ok (.bipush 8, 2) := by decide +kernel
theorem dX11_heldShelves_7 : decode cX11_heldShelves 7 = .ok (.if_icmp .ge 36, 3) := by decide +kernel
theorem dX11_heldShelves_10 : decode cX11_heldShelves 10 = .ok (.aload_n 0, 1) := by decide +kernel
theorem dX11_heldShelves_11 : decode cX11_heldShelves 11 = .ok (.getfield 11, 3) := by decide +kernel
theorem dX11_heldShelves_14 : decode cX11_heldShelves 14 = .ok (.iload_n 2, 1) := by decide +kernel
theorem dX11_heldShelves_15 : decode cX11_heldShelves 15 = .ok (.aaload, 1) := by decide +kernel
theorem dX11_heldShelves_16 : decode cX11_heldShelves 16 = .ok (.invokevirtual 79, 3) := by decide +kernel
theorem dX11_heldShelves_19 : decode cX11_heldShelves 19 = .ok (.ifCond .ne 15, 3) := by decide +kernel
theorem dX11_heldShelves_22 : decode cX11_heldShelves 22 = .ok (.aload_n 0, 1) := by decide +kernel
theorem dX11_heldShelves_23 : decode cX11_heldShelves 23 = .ok (.getfield 11, 3) := by decide +kernel
theorem dX11_heldShelves_26 : decode cX11_heldShelves 26 = .ok (.iload_n 2, 1) := by decide +kernel
theorem dX11_heldShelves_27 : decode cX11_heldShelves 27 = .ok (.aaload, 1) := by decide +kernel
theorem dX11_heldShelves_28 : decode cX11_heldShelves 28 = .ok (.invokevirtual 83, 3) := by decide +kernel
theorem dX11_heldShelves_31 : decode cX11_heldShelves 31 = .ok (.ifCond .eq 6, 3) := by decide +kernel
theorem dX11_heldShelves_34 : decode cX11_heldShelves 34 = .ok (.iinc 1 1, 3) := by decide +kernel
theorem dX11_heldShelves_37 : decode cX11_heldShelves 37 = .ok (.iinc 2 1, 3) := by decide +kernel
theorem dX11_heldShelves_40 : decode cX11_heldShelves 40 = .ok (.goto (-36), 3) := by decide +kernel
theorem dX11_heldShelves_43 : decode cX11_heldShelves 43 = .ok (.iload_n 1, 1) := by decide +kernel
theorem dX11_heldShelves_44 : decode cX11_heldShelves 44 = .ok (.ireturn, 1) := by decide +kernel
theorem dX11_refuse_0 : decode cX11_refuse 0 = .ok (.bipush (-2), 2) := by decide +kernel
theorem dX11_refuse_2 : decode cX11_refuse 2 = .ok (.iload_n 1, 1) := by decide +kernel
theorem dX11_refuse_3 : decode cX11_refuse 3 = .ok (.isub, 1) := by decide +kernel
theorem dX11_refuse_4 : decode cX11_refuse 4 = .ok (.istore_n 2, 1) := by decide +kernel
theorem dX11_refuse_5 : decode cX11_refuse 5 = .ok (.iload_n 2, 1) := by decide +kernel
theorem dX11_refuse_6 : decode cX11_refuse 6 = .ok (.ifCond .lt 22, 3) := by decide +kernel
theorem dX11_refuse_9 : decode cX11_refuse 9 = .ok (.iload_n 2, 1) := by decide +kernel
theorem dX11_refuse_10 : decode cX11_refuse 10 = .ok (.aload_n 0, 1) := by decide +kernel
theorem dX11_refuse_11 : decode cX11_refuse 11 = .ok (.getfield 46, 3) := by decide +kernel
theorem dX11_refuse_14 : decode cX11_refuse 14 = .ok (.arraylength, 1) := by decide +kernel
theorem dX11_refuse_15 : decode cX11_refuse 15 = .ok (.if_icmp .ge 13, 3) := by decide +kernel
theorem dX11_refuse_18 : decode cX11_refuse 18 = .ok (.aload_n 0, 1) := by decide +kernel
theorem dX11_refuse_19 : decode cX11_refuse 19 = .ok (.getfield 46, 3) := by decide +kernel
theorem dX11_refuse_22 : decode cX11_refuse 22 = .ok (.iload_n 2, 1) := by decide +kernel
theorem dX11_refuse_23 : decode cX11_refuse 23 = .ok (.dup2, 1) := by decide +kernel
theorem dX11_refuse_24 : decode cX11_refuse 24 = .ok (.iaload, 1) := by decide +kernel
theorem dX11_refuse_25 : decode cX11_refuse 25 = .ok (.iconst 1, 1) := by decide +kernel
theorem dX11_refuse_26 : decode cX11_refuse 26 = .ok (.iadd, 1) := by decide +kernel
theorem dX11_refuse_27 : decode cX11_refuse 27 = .ok (.iastore, 1) := by decide +kernel
theorem dX11_refuse_28 : decode cX11_refuse 28 = .ok (.iload_n 1, 1) := by decide +kernel
theorem dX11_refuse_29 : decode cX11_refuse 29 = .ok (.ireturn, 1) := by decide +kernel
theorem dX11_isShelf_0 : decode cX11_isShelf 0 = .ok (.iload_n 0, 1) := by decide +kernel
theorem dX11_isShelf_1 : decode cX11_isShelf 1 = .ok (.ifCond .lt 13, 3) := by decide +kernel
theorem dX11_isShelf_4 : decode cX11_isShelf 4 = .ok (.iload_n 0, 1) := by decide +kernel
theorem dX11_isShelf_5 : decode cX11_isShelf 5 = .ok (.bipush 8, 2) := by decide +kernel
theorem dX11_isShelf_7 : decode cX11_isShelf 7 = .ok (.if_icmp .ge 7, 3) := by decide +kernel
theorem dX11_isShelf_10 : decode cX11_isShelf 10 = .ok (.iconst 1, 1) := by decide +kernel
theorem dX11_isShelf_11 : decode cX11_isShelf 11 = .ok (.goto 4, 3) := by decide +kernel
theorem dX11_isShelf_14 : decode cX11_isShelf 14 = .ok (.iconst 0, 1) := by decide +kernel
theorem dX11_isShelf_15 : decode cX11_isShelf 15 = .ok (.ireturn, 1) := by decide +kernel
theorem dX11_isYear_0 : decode cX11_isYear 0 = .ok (.iload_n 0, 1) := by decide +kernel
theorem dX11_isYear_1 : decode cX11_isYear 1 = .ok (.ifCond .lt 14, 3) := by decide +kernel
theorem dX11_isYear_4 : decode cX11_isYear 4 = .ok (.iload_n 0, 1) := by decide +kernel
theorem dX11_isYear_5 : decode cX11_isYear 5 = .ok (.sipush 999, 3) := by decide +kernel
theorem dX11_isYear_8 : decode cX11_isYear 8 = .ok (.if_icmp .gt 7, 3) := by decide +kernel
theorem dX11_isYear_11 : decode cX11_isYear 11 = .ok (.iconst 1, 1) := by decide +kernel
theorem dX11_isYear_12 : decode cX11_isYear 12 = .ok (.goto 4, 3) := by decide +kernel
theorem dX11_isYear_15 : decode cX11_isYear 15 = .ok (.iconst 0, 1) := by decide +kernel
theorem dX11_isYear_16 : decode cX11_isYear 16 = .ok (.ireturn, 1) := by decide +kernel
theorem dX11_isWay_0 : decode cX11_isWay 0 = .ok (.iload_n 0, 1) := by decide +kernel
theorem dX11_isWay_1 : decode cX11_isWay 1 = .ok (.ifCond .lt 13, 3) := by decide +kernel
theorem dX11_isWay_4 : decode cX11_isWay 4 = .ok (.iload_n 0, 1) := by decide +kernel
theorem dX11_isWay_5 : decode cX11_isWay 5 = .ok (.bipush 8, 2) := by decide +kernel
theorem dX11_isWay_7 : decode cX11_isWay 7 = .ok (.if_icmp .ge 7, 3) := by decide +kernel
theorem dX11_isWay_10 : decode cX11_isWay 10 = .ok (.iconst 1, 1) := by decide +kernel
theorem dX11_isWay_11 : decode cX11_isWay 11 = .ok (.goto 4, 3) := by decide +kernel
theorem dX11_isWay_14 : decode cX11_isWay 14 = .ok (.iconst 0, 1) := by decide +kernel
theorem dX11_isWay_15 : decode cX11_isWay 15 = .ok (.ireturn, 1) := by decide +kernel
theorem dX11_isSet_0 : decode cX11_isSet 0 = .ok (.iload_n 0, 1) := by decide +kernel
theorem dX11_isSet_1 : decode cX11_isSet 1 = .ok (.ifCond .le 14, 3) := by decide +kernel
theorem dX11_isSet_4 : decode cX11_isSet 4 = .ok (.iload_n 0, 1) := by decide +kernel
theorem dX11_isSet_5 : decode cX11_isSet 5 = .ok (.sipush 255, 3) := by decide +kernel
theorem dX11_isSet_8 : decode cX11_isSet 8 = .ok (.if_icmp .gt 7, 3) := by decide +kernel
theorem dX11_isSet_11 : decode cX11_isSet 11 = .ok (.iconst 1, 1) := by decide +kernel
theorem dX11_isSet_12 : decode cX11_isSet 12 = .ok (.goto 4, 3) := by decide +kernel
theorem dX11_isSet_15 : decode cX11_isSet 15 = .ok (.iconst 0, 1) := by decide +kernel
theorem dX11_isSet_16 : decode cX11_isSet 16 = .ok (.ireturn, 1) := by decide +kernel
theorem dX11_isOrder_0 : decode cX11_isOrder 0 = .ok (.iload_n 0, 1) := by decide +kernel
theorem dX11_isOrder_1 : decode cX11_isOrder 1 = .ok (.ifCond .lt 12, 3) := by decide +kernel
theorem dX11_isOrder_4 : decode cX11_isOrder 4 = .ok (.iload_n 0, 1) := by decide +kernel
theorem dX11_isOrder_5 : decode cX11_isOrder 5 = .ok (.iconst 3, 1) := by decide +kernel
theorem dX11_isOrder_6 : decode cX11_isOrder 6 = .ok (.if_icmp .ge 7, 3) := by decide +kernel
theorem dX11_isOrder_9 : decode cX11_isOrder 9 = .ok (.iconst 1, 1) := by decide +kernel
theorem dX11_isOrder_10 : decode cX11_isOrder 10 = .ok (.goto 4, 3) := by decide +kernel
theorem dX11_isOrder_13 : decode cX11_isOrder 13 = .ok (.iconst 0, 1) := by decide +kernel
theorem dX11_isOrder_14 : decode cX11_isOrder 14 = .ok (.ireturn, 1) := by decide +kernel
theorem dX11_areTwo_0 : decode cX11_areTwo 0 = .ok (.aload_n 0, 1) := by decide +kernel
theorem dX11_areTwo_1 : decode cX11_areTwo 1 = .ok (.getfield 35, 3) := by decide +kernel
theorem dX11_areTwo_4 : decode cX11_areTwo 4 = .ok (.iload_n 1, 1) := by decide +kernel
theorem dX11_areTwo_5 : decode cX11_areTwo 5 = .ok (.invokevirtual 114, 3) := by decide +kernel
theorem dX11_areTwo_8 : decode cX11_areTwo 8 = .ok (.ifCond .eq 23, 3) := by decide +kernel
theorem dX11_areTwo_11 : decode cX11_areTwo 11 = .ok (.aload_n 0, 1) := by decide +kernel
theorem dX11_areTwo_12 : decode cX11_areTwo 12 = .ok (.getfield 35, 3) := by decide +kernel
theorem dX11_areTwo_15 : decode cX11_areTwo 15 = .ok (.iload_n 2, 1) := by decide +kernel
theorem dX11_areTwo_16 : decode cX11_areTwo 16 = .ok (.invokevirtual 114, 3) := by decide +kernel
theorem dX11_areTwo_19 : decode cX11_areTwo 19 = .ok (.ifCond .eq 12, 3) := by decide +kernel
theorem dX11_areTwo_22 : decode cX11_areTwo 22 = .ok (.iload_n 1, 1) := by decide +kernel
theorem dX11_areTwo_23 : decode cX11_areTwo 23 = .ok (.iload_n 2, 1) := by decide +kernel
theorem dX11_areTwo_24 : decode cX11_areTwo 24 = .ok (.if_icmp .eq 7, 3) := by decide +kernel
theorem dX11_areTwo_27 : decode cX11_areTwo 27 = .ok (.iconst 1, 1) := by decide +kernel
theorem dX11_areTwo_28 : decode cX11_areTwo 28 = .ok (.goto 4, 3) := by decide +kernel
theorem dX11_areTwo_31 : decode cX11_areTwo 31 = .ok (.iconst 0, 1) := by decide +kernel
theorem dX11_areTwo_32 : decode cX11_areTwo 32 = .ok (.ireturn, 1) := by decide +kernel
theorem dX11_searched_0 : decode cX11_searched 0 = .ok (.aload_n 0, 1) := by decide +kernel
theorem dX11_searched_1 : decode cX11_searched 1 = .ok (.getfield 35, 3) := by decide +kernel
theorem dX11_searched_4 : decode cX11_searched 4 = .ok (.aload_n 0, 1) := by decide +kernel
theorem dX11_searched_5 : decode cX11_searched 5 = .ok (.getfield 53, 3) := by decide +kernel
theorem dX11_searched_8 : decode cX11_searched 8 = .ok (.getfield 217, 3) := by decide +kernel
theorem dX11_searched_11 : decode cX11_searched 11 = .ok (.iload_n 1, 1) := by decide +kernel
theorem dX11_searched_12 : decode cX11_searched 12 = .ok (.aload_n 0, 1) := by decide +kernel
theorem dX11_searched_13 : decode cX11_searched 13 = .ok (.getfield 35, 3) := by decide +kernel
theorem dX11_searched_16 : decode cX11_searched 16 = .ok (.iload_n 1, 1) := by decide +kernel
theorem dX11_searched_17 : decode cX11_searched 17 = .ok (.invokevirtual 221, 3) := by decide +kernel
theorem dX11_searched_20 : decode cX11_searched 20 = .ok (.invokevirtual 224, 3) := by decide +kernel
theorem dX11_searched_23 : decode cX11_searched 23 = .ok (.aload_n 0, 1) := by decide +kernel
theorem dX11_searched_24 : decode cX11_searched 24 = .ok (.getfield 53, 3) := by decide +kernel
theorem dX11_searched_27 : decode cX11_searched 27 = .ok (.iload_n 1, 1) := by decide +kernel
theorem dX11_searched_28 : decode cX11_searched 28 = .ok (.invokevirtual 379, 3) := by decide +kernel
theorem dX11_searched_31 : decode cX11_searched 31 = .ok (.aload_n 0, 1) := by decide +kernel
theorem dX11_searched_32 : decode cX11_searched 32 = .ok (.getfield 53, 3) := by decide +kernel
theorem dX11_searched_35 : decode cX11_searched 35 = .ok (.sipush 20000, 3) := by decide +kernel
theorem dX11_searched_38 : decode cX11_searched 38 = .ok (.invokevirtual 388, 3) := by decide +kernel
theorem dX11_searched_41 : decode cX11_searched 41 = .ok (.ireturn, 1) := by decide +kernel
theorem dX11_possible_0 : decode cX11_possible 0 = .ok (.aload_n 0, 1) := by decide +kernel
theorem dX11_possible_1 : decode cX11_possible 1 = .ok (.getfield 35, 3) := by decide +kernel
theorem dX11_possible_4 : decode cX11_possible 4 = .ok (.iload_n 3, 1) := by decide +kernel
theorem dX11_possible_5 : decode cX11_possible 5 = .ok (.invokevirtual 221, 3) := by decide +kernel
theorem dX11_possible_8 : decode cX11_possible 8 = .ok (.istore 4, 2) := by decide +kernel
theorem dX11_possible_10 : decode cX11_possible 10 = .ok (.aload_n 0, 1) := by decide +kernel
theorem dX11_possible_11 : decode cX11_possible 11 = .ok (.getfield 35, 3) := by decide +kernel
theorem dX11_possible_14 : decode cX11_possible 14 = .ok (.aload_n 0, 1) := by decide +kernel
theorem dX11_possible_15 : decode cX11_possible 15 = .ok (.getfield 53, 3) := by decide +kernel
theorem dX11_possible_18 : decode cX11_possible 18 = .ok (.getfield 217, 3) := by decide +kernel
theorem dX11_possible_21 : decode cX11_possible 21 = .ok (.iload_n 3, 1) := by decide +kernel
theorem dX11_possible_22 : decode cX11_possible 22 = .ok (.iload 4, 2) := by decide +kernel
theorem dX11_possible_24 : decode cX11_possible 24 = .ok (.invokevirtual 224, 3) := by decide +kernel
theorem dX11_possible_27 : decode cX11_possible 27 = .ok (.aload_n 0, 1) := by decide +kernel
theorem dX11_possible_28 : decode cX11_possible 28 = .ok (.getfield 53, 3) := by decide +kernel
theorem dX11_possible_31 : decode cX11_possible 31 = .ok (.getfield 217, 3) := by decide +kernel
theorem dX11_possible_34 : decode cX11_possible 34 = .ok (.getfield 228, 3) := by decide +kernel
theorem dX11_possible_37 : decode cX11_possible 37 = .ok (.iload_n 1, 1) := by decide +kernel
theorem dX11_possible_38 : decode cX11_possible 38 = .ok (.bipush 10, 2) := by decide +kernel
theorem dX11_possible_40 : decode cX11_possible 40 = .ok (.imul, 1) := by decide +kernel
theorem dX11_possible_41 : decode cX11_possible 41 = .ok (.iload_n 2, 1) := by decide +kernel
theorem dX11_possible_42 : decode cX11_possible 42 = .ok (.iadd, 1) := by decide +kernel
theorem dX11_possible_43 : decode cX11_possible 43 = .ok (.iaload, 1) := by decide +kernel
theorem dX11_possible_44 : decode cX11_possible 44 = .ok (.istore 5, 2) := by decide +kernel
theorem dX11_possible_46 : decode cX11_possible 46 = .ok (.iconst 0, 1) := by decide +kernel
theorem dX11_possible_47 : decode cX11_possible 47 = .ok (.istore 6, 2) := by decide +kernel
theorem dX11_possible_49 : decode cX11_possible 49 = .ok (.iconst 0, 1) := by decide +kernel
theorem dX11_possible_50 : decode cX11_possible 50 = .ok (.istore 7, 2) := by decide +kernel
theorem dX11_possible_52 : decode cX11_possible 52 = .ok (.iload 7, 2) := by decide +kernel
theorem dX11_possible_54 : decode cX11_possible 54 = .ok (.bipush 8, 2) := by decide +kernel
theorem dX11_possible_56 : decode cX11_possible 56 = .ok (.if_icmp .ge 100, 3) := by decide +kernel
theorem dX11_possible_59 : decode cX11_possible 59 = .ok (.iload 5, 2) := by decide +kernel
theorem dX11_possible_61 : decode cX11_possible 61 = .ok (.iload 7, 2) := by decide +kernel
theorem dX11_possible_63 : decode cX11_possible 63 = .ok (.ishr, 1) := by decide +kernel
theorem dX11_possible_64 : decode cX11_possible 64 = .ok (.iconst 1, 1) := by decide +kernel
theorem dX11_possible_65 : decode cX11_possible 65 = .ok (.iand, 1) := by decide +kernel
theorem dX11_possible_66 : decode cX11_possible 66 = .ok (.ifCond .eq 84, 3) := by decide +kernel
theorem dX11_possible_69 : decode cX11_possible 69 = .ok (.aload_n 0, 1) := by decide +kernel
theorem dX11_possible_70 : decode cX11_possible 70 = .ok (.getfield 35, 3) := by decide +kernel
theorem dX11_possible_73 : decode cX11_possible 73 = .ok (.aload_n 0, 1) := by decide +kernel
theorem dX11_possible_74 : decode cX11_possible 74 = .ok (.getfield 53, 3) := by decide +kernel
theorem dX11_possible_77 : decode cX11_possible 77 = .ok (.getfield 217, 3) := by decide +kernel
theorem dX11_possible_80 : decode cX11_possible 80 = .ok (.iload_n 3, 1) := by decide +kernel
theorem dX11_possible_81 : decode cX11_possible 81 = .ok (.iload 4, 2) := by decide +kernel
theorem dX11_possible_83 : decode cX11_possible 83 = .ok (.invokevirtual 224, 3) := by decide +kernel
theorem dX11_possible_86 : decode cX11_possible 86 = .ok (.aload_n 0, 1) := by decide +kernel
theorem dX11_possible_87 : decode cX11_possible 87 = .ok (.getfield 53, 3) := by decide +kernel
theorem dX11_possible_90 : decode cX11_possible 90 = .ok (.getfield 217, 3) := by decide +kernel
theorem dX11_possible_93 : decode cX11_possible 93 = .ok (.iload_n 1, 1) := by decide +kernel
theorem dX11_possible_94 : decode cX11_possible 94 = .ok (.iload_n 2, 1) := by decide +kernel
theorem dX11_possible_95 : decode cX11_possible 95 = .ok (.iconst 1, 1) := by decide +kernel
theorem dX11_possible_96 : decode cX11_possible 96 = .ok (.iload 7, 2) := by decide +kernel
theorem dX11_possible_98 : decode cX11_possible 98 = .ok (.ishl, 1) := by decide +kernel
theorem dX11_possible_99 : decode cX11_possible 99 = .ok (.invokevirtual 401, 3) := by decide +kernel
theorem dX11_possible_102 : decode cX11_possible 102 = .ok (.aload_n 0, 1) := by decide +kernel
theorem dX11_possible_103 : decode cX11_possible 103 = .ok (.getfield 53, 3) := by decide +kernel
theorem dX11_possible_106 : decode cX11_possible 106 = .ok (.iload_n 3, 1) := by decide +kernel
theorem dX11_possible_107 : decode cX11_possible 107 = .ok (.invokevirtual 379, 3) := by decide +kernel
theorem dX11_possible_110 : decode cX11_possible 110 = .ok (.aload_n 0, 1) := by decide +kernel
theorem dX11_possible_111 : decode cX11_possible 111 = .ok (.getfield 53, 3) := by decide +kernel
theorem dX11_possible_114 : decode cX11_possible 114 = .ok (.sipush 20000, 3) := by decide +kernel
theorem dX11_possible_117 : decode cX11_possible 117 = .ok (.invokevirtual 388, 3) := by decide +kernel
theorem dX11_possible_120 : decode cX11_possible 120 = .ok (.istore 8, 2) := by decide +kernel
theorem dX11_possible_122 : decode cX11_possible 122 = .ok (.iload 8, 2) := by decide +kernel
theorem dX11_possible_124 : decode cX11_possible 124 = .ok (.iconst 3, 1) := by decide +kernel
theorem dX11_possible_125 : decode cX11_possible 125 = .ok (.if_icmp .ne 6, 3) := by decide +kernel
theorem dX11_possible_128 : decode cX11_possible 128 = .ok (.bipush (-5), 2) := by decide +kernel
theorem dX11_possible_130 : decode cX11_possible 130 = .ok (.ireturn, 1) := by decide +kernel
theorem dX11_possible_131 : decode cX11_possible 131 = .ok (.iload 6, 2) := by decide +kernel
theorem dX11_possible_133 : decode cX11_possible 133 = .ok (.iload 8, 2) := by decide +kernel
theorem dX11_possible_135 : decode cX11_possible 135 = .ok (.iconst 1, 1) := by decide +kernel
theorem dX11_possible_136 : decode cX11_possible 136 = .ok (.if_icmp .ne 10, 3) := by decide +kernel
theorem dX11_possible_139 : decode cX11_possible 139 = .ok (.iconst 1, 1) := by decide +kernel
theorem dX11_possible_140 : decode cX11_possible 140 = .ok (.iload 7, 2) := by decide +kernel
theorem dX11_possible_142 : decode cX11_possible 142 = .ok (.ishl, 1) := by decide +kernel
theorem dX11_possible_143 : decode cX11_possible 143 = .ok (.goto 4, 3) := by decide +kernel
theorem dX11_possible_146 : decode cX11_possible 146 = .ok (.iconst 0, 1) := by decide +kernel
theorem dX11_possible_147 : decode cX11_possible 147 = .ok (.ior, 1) := by decide +kernel
theorem dX11_possible_148 : decode cX11_possible 148 = .ok (.istore 6, 2) := by decide +kernel
theorem dX11_possible_150 : decode cX11_possible 150 = .ok (.iinc 7 1, 3) := by decide +kernel
theorem dX11_possible_153 : decode cX11_possible 153 = .ok (.goto (-101), 3) := by decide +kernel
theorem dX11_possible_156 : decode cX11_possible 156 = .ok (.iload 6, 2) := by decide +kernel
theorem dX11_possible_158 : decode cX11_possible 158 = .ok (.ireturn, 1) := by decide +kernel
theorem dX11_tallyTellings_0 : decode cX11_tallyTellings 0 = .ok (.aload_n 0, 1) := by decide +kernel
theorem dX11_tallyTellings_1 : decode cX11_tallyTellings 1 = .ok (.getfield 35, 3) := by decide +kernel
theorem dX11_tallyTellings_4 : decode cX11_tallyTellings 4 = .ok (.getfield 135, 3) := by decide +kernel
theorem dX11_tallyTellings_7 : decode cX11_tallyTellings 7 = .ok (.iconst 2, 1) := by decide +kernel
theorem dX11_tallyTellings_8 : decode cX11_tallyTellings 8 = .ok (.if_icmp .lt 14, 3) := by decide +kernel
theorem dX11_tallyTellings_11 : decode cX11_tallyTellings 11 = .ok (.aload_n 0, 1) := by decide +kernel
theorem dX11_tallyTellings_12 : decode cX11_tallyTellings 12 = .ok (.getfield 35, 3) := by decide +kernel
theorem dX11_tallyTellings_15 : decode cX11_tallyTellings 15 = .ok (.getfield 135, 3) := by decide +kernel
theorem dX11_tallyTellings_18 : decode cX11_tallyTellings 18 = .ok (.iconst 4, 1) := by decide +kernel
theorem dX11_tallyTellings_19 : decode cX11_tallyTellings 19 = .ok (.if_icmp .le 5, 3) := by decide +kernel
theorem dX11_tallyTellings_22 : decode cX11_tallyTellings 22 = .ok (.iconst 0, 1) := by decide +kernel
theorem dX11_tallyTellings_23 : decode cX11_tallyTellings 23 = .ok (.ireturn, 1) := by decide +kernel
theorem dX11_tallyTellings_24 : decode cX11_tallyTellings 24 = .ok (.iconst 0, 1) := by decide +kernel
theorem dX11_tallyTellings_25 : decode cX11_tallyTellings 25 = .ok (.istore_n 2, 1) := by decide +kernel
theorem dX11_tallyTellings_26 : decode cX11_tallyTellings 26 = .ok (.iload_n 2, 1) := by decide +kernel
theorem dX11_tallyTellings_27 : decode cX11_tallyTellings 27 = .ok (.aload_n 0, 1) := by decide +kernel
theorem dX11_tallyTellings_28 : decode cX11_tallyTellings 28 = .ok (.getfield 64, 3) := by decide +kernel
theorem dX11_tallyTellings_31 : decode cX11_tallyTellings 31 = .ok (.arraylength, 1) := by decide +kernel
theorem dX11_tallyTellings_32 : decode cX11_tallyTellings 32 = .ok (.if_icmp .ge 16, 3) := by decide +kernel
theorem dX11_tallyTellings_35 : decode cX11_tallyTellings 35 = .ok (.aload_n 0, 1) := by decide +kernel
theorem dX11_tallyTellings_36 : decode cX11_tallyTellings 36 = .ok (.getfield 64, 3) := by decide +kernel
theorem dX11_tallyTellings_39 : decode cX11_tallyTellings 39 = .ok (.iload_n 2, 1) := by decide +kernel
theorem dX11_tallyTellings_40 : decode cX11_tallyTellings 40 = .ok (.iconst 0, 1) := by decide +kernel
theorem dX11_tallyTellings_41 : decode cX11_tallyTellings 41 = .ok (.iastore, 1) := by decide +kernel
theorem dX11_tallyTellings_42 : decode cX11_tallyTellings 42 = .ok (.iinc 2 1, 3) := by decide +kernel
theorem dX11_tallyTellings_45 : decode cX11_tallyTellings 45 = .ok (.goto (-19), 3) := by decide +kernel
theorem dX11_tallyTellings_48 : decode cX11_tallyTellings 48 = .ok (.aload_n 0, 1) := by decide +kernel
theorem dX11_tallyTellings_49 : decode cX11_tallyTellings 49 = .ok (.iload_n 1, 1) := by decide +kernel
theorem dX11_tallyTellings_50 : decode cX11_tallyTellings 50 = .ok (.invokevirtual 247, 3) := by decide +kernel
theorem dX11_tallyTellings_53 : decode cX11_tallyTellings 53 = .ok (.istore_n 2, 1) := by decide +kernel
theorem dX11_tallyTellings_54 : decode cX11_tallyTellings 54 = .ok (.iconst 0, 1) := by decide +kernel
theorem dX11_tallyTellings_55 : decode cX11_tallyTellings 55 = .ok (.istore_n 3, 1) := by decide +kernel
theorem dX11_tallyTellings_56 : decode cX11_tallyTellings 56 = .ok (.iload_n 3, 1) := by decide +kernel
theorem dX11_tallyTellings_57 : decode cX11_tallyTellings 57 = .ok (.sipush 20000, 3) := by decide +kernel
theorem dX11_tallyTellings_60 : decode cX11_tallyTellings 60 = .ok (.if_icmp .ge 88, 3) := by decide +kernel
theorem dX11_tallyTellings_63 : decode cX11_tallyTellings 63 = .ok (.iload_n 2, 1) := by decide +kernel
theorem dX11_tallyTellings_64 : decode cX11_tallyTellings 64 = .ok (.iconst 1, 1) := by decide +kernel
theorem dX11_tallyTellings_65 : decode cX11_tallyTellings 65 = .ok (.if_icmp .ne 83, 3) := by decide +kernel
theorem dX11_tallyTellings_68 : decode cX11_tallyTellings 68 = .ok (.iconst 0, 1) := by decide +kernel
theorem dX11_tallyTellings_69 : decode cX11_tallyTellings 69 = .ok (.istore 4, 2) := by decide +kernel
theorem dX11_tallyTellings_71 : decode cX11_tallyTellings 71 = .ok (.iload 4, 2) := by decide +kernel
theorem dX11_tallyTellings_73 : decode cX11_tallyTellings 73 = .ok (.aload_n 0, 1) := by decide +kernel
theorem dX11_tallyTellings_74 : decode cX11_tallyTellings 74 = .ok (.getfield 53, 3) := by decide +kernel
theorem dX11_tallyTellings_77 : decode cX11_tallyTellings 77 = .ok (.getfield 382, 3) := by decide +kernel
theorem dX11_tallyTellings_80 : decode cX11_tallyTellings 80 = .ok (.if_icmp .ge 54, 3) := by decide +kernel
theorem dX11_tallyTellings_83 : decode cX11_tallyTellings 83 = .ok (.aload_n 0, 1) := by decide +kernel
theorem dX11_tallyTellings_84 : decode cX11_tallyTellings 84 = .ok (.getfield 53, 3) := by decide +kernel
theorem dX11_tallyTellings_87 : decode cX11_tallyTellings 87 = .ok (.getfield 217, 3) := by decide +kernel
theorem dX11_tallyTellings_90 : decode cX11_tallyTellings 90 = .ok (.getfield 228, 3) := by decide +kernel
theorem dX11_tallyTellings_93 : decode cX11_tallyTellings 93 = .ok (.getstatic 237, 3) := by decide +kernel
theorem dX11_tallyTellings_96 : decode cX11_tallyTellings 96 = .ok (.iload 4, 2) := by decide +kernel
theorem dX11_tallyTellings_98 : decode cX11_tallyTellings 98 = .ok (.iaload, 1) := by decide +kernel
theorem dX11_tallyTellings_99 : decode cX11_tallyTellings 99 = .ok (.iaload, 1) := by decide +kernel
theorem dX11_tallyTellings_100 : decode cX11_tallyTellings 100 = .ok (.invokestatic 256, 3) := by decide +kernel
theorem dX11_tallyTellings_103 : decode cX11_tallyTellings 103 = .ok (.istore 5, 2) := by decide +kernel
theorem dX11_tallyTellings_105 : decode cX11_tallyTellings 105 = .ok (.iload 5, 2) := by decide +kernel
theorem dX11_tallyTellings_107 : decode cX11_tallyTellings 107 = .ok (.iconst (-1), 1) := by decide +kernel
theorem dX11_tallyTellings_108 : decode cX11_tallyTellings 108 = .ok (.if_icmp .eq 20, 3) := by decide +kernel
theorem dX11_tallyTellings_111 : decode cX11_tallyTellings 111 = .ok (.aload_n 0, 1) := by decide +kernel
theorem dX11_tallyTellings_112 : decode cX11_tallyTellings 112 = .ok (.getfield 64, 3) := by decide +kernel
theorem dX11_tallyTellings_115 : decode cX11_tallyTellings 115 = .ok (.iload 4, 2) := by decide +kernel
theorem dX11_tallyTellings_117 : decode cX11_tallyTellings 117 = .ok (.bipush 8, 2) := by decide +kernel
theorem dX11_tallyTellings_119 : decode cX11_tallyTellings 119 = .ok (.imul, 1) := by decide +kernel
theorem dX11_tallyTellings_120 : decode cX11_tallyTellings 120 = .ok (.iload 5, 2) := by decide +kernel
theorem dX11_tallyTellings_122 : decode cX11_tallyTellings 122 = .ok (.iadd, 1) := by decide +kernel
theorem dX11_tallyTellings_123 : decode cX11_tallyTellings 123 = .ok (.dup2, 1) := by decide +kernel
theorem dX11_tallyTellings_124 : decode cX11_tallyTellings 124 = .ok (.iaload, 1) := by decide +kernel
theorem dX11_tallyTellings_125 : decode cX11_tallyTellings 125 = .ok (.iconst 1, 1) := by decide +kernel
theorem dX11_tallyTellings_126 : decode cX11_tallyTellings 126 = .ok (.iadd, 1) := by decide +kernel
theorem dX11_tallyTellings_127 : decode cX11_tallyTellings 127 = .ok (.iastore, 1) := by decide +kernel
theorem dX11_tallyTellings_128 : decode cX11_tallyTellings 128 = .ok (.iinc 4 1, 3) := by decide +kernel
theorem dX11_tallyTellings_131 : decode cX11_tallyTellings 131 = .ok (.goto (-60), 3) := by decide +kernel
theorem dX11_tallyTellings_134 : decode cX11_tallyTellings 134 = .ok (.aload_n 0, 1) := by decide +kernel
theorem dX11_tallyTellings_135 : decode cX11_tallyTellings 135 = .ok (.getfield 53, 3) := by decide +kernel
theorem dX11_tallyTellings_138 : decode cX11_tallyTellings 138 = .ok (.invokevirtual 259, 3) := by decide +kernel
theorem dX11_tallyTellings_141 : decode cX11_tallyTellings 141 = .ok (.istore_n 2, 1) := by decide +kernel
theorem dX11_tallyTellings_142 : decode cX11_tallyTellings 142 = .ok (.iinc 3 1, 3) := by decide +kernel
theorem dX11_tallyTellings_145 : decode cX11_tallyTellings 145 = .ok (.goto (-89), 3) := by decide +kernel
theorem dX11_tallyTellings_148 : decode cX11_tallyTellings 148 = .ok (.iload_n 2, 1) := by decide +kernel
theorem dX11_tallyTellings_149 : decode cX11_tallyTellings 149 = .ok (.iconst 2, 1) := by decide +kernel
theorem dX11_tallyTellings_150 : decode cX11_tallyTellings 150 = .ok (.if_icmp .ne 7, 3) := by decide +kernel
theorem dX11_tallyTellings_153 : decode cX11_tallyTellings 153 = .ok (.iconst 1, 1) := by decide +kernel
theorem dX11_tallyTellings_154 : decode cX11_tallyTellings 154 = .ok (.goto 4, 3) := by decide +kernel
theorem dX11_tallyTellings_157 : decode cX11_tallyTellings 157 = .ok (.iconst 0, 1) := by decide +kernel
theorem dX11_tallyTellings_158 : decode cX11_tallyTellings 158 = .ok (.ireturn, 1) := by decide +kernel
theorem dX11_bestPair_0 : decode cX11_bestPair 0 = .ok (.iconst 0, 1) := by decide +kernel
theorem dX11_bestPair_1 : decode cX11_bestPair 1 = .ok (.istore_n 1, 1) := by decide +kernel
theorem dX11_bestPair_2 : decode cX11_bestPair 2 = .ok (.iconst 1, 1) := by decide +kernel
theorem dX11_bestPair_3 : decode cX11_bestPair 3 = .ok (.istore_n 2, 1) := by decide +kernel
theorem dX11_bestPair_4 : decode cX11_bestPair 4 = .ok (.iload_n 2, 1) := by decide +kernel
theorem dX11_bestPair_5 : decode cX11_bestPair 5 = .ok (.aload_n 0, 1) := by decide +kernel
theorem dX11_bestPair_6 : decode cX11_bestPair 6 = .ok (.getfield 53, 3) := by decide +kernel
theorem dX11_bestPair_9 : decode cX11_bestPair 9 = .ok (.getfield 382, 3) := by decide +kernel
theorem dX11_bestPair_12 : decode cX11_bestPair 12 = .ok (.if_icmp .ge 24, 3) := by decide +kernel
theorem dX11_bestPair_15 : decode cX11_bestPair 15 = .ok (.aload_n 0, 1) := by decide +kernel
theorem dX11_bestPair_16 : decode cX11_bestPair 16 = .ok (.iload_n 2, 1) := by decide +kernel
theorem dX11_bestPair_17 : decode cX11_bestPair 17 = .ok (.invokevirtual 293, 3) := by decide +kernel
theorem dX11_bestPair_20 : decode cX11_bestPair 20 = .ok (.aload_n 0, 1) := by decide +kernel
theorem dX11_bestPair_21 : decode cX11_bestPair 21 = .ok (.iload_n 1, 1) := by decide +kernel
theorem dX11_bestPair_22 : decode cX11_bestPair 22 = .ok (.invokevirtual 293, 3) := by decide +kernel
theorem dX11_bestPair_25 : decode cX11_bestPair 25 = .ok (.if_icmp .ge 5, 3) := by decide +kernel
theorem dX11_bestPair_28 : decode cX11_bestPair 28 = .ok (.iload_n 2, 1) := by decide +kernel
theorem dX11_bestPair_29 : decode cX11_bestPair 29 = .ok (.istore_n 1, 1) := by decide +kernel
theorem dX11_bestPair_30 : decode cX11_bestPair 30 = .ok (.iinc 2 1, 3) := by decide +kernel
theorem dX11_bestPair_33 : decode cX11_bestPair 33 = .ok (.goto (-29), 3) := by decide +kernel
theorem dX11_bestPair_36 : decode cX11_bestPair 36 = .ok (.iload_n 1, 1) := by decide +kernel
theorem dX11_bestPair_37 : decode cX11_bestPair 37 = .ok (.ireturn, 1) := by decide +kernel
theorem dX11_greatestOf_0 : decode cX11_greatestOf 0 = .ok (.iconst 0, 1) := by decide +kernel
theorem dX11_greatestOf_1 : decode cX11_greatestOf 1 = .ok (.istore_n 2, 1) := by decide +kernel
theorem dX11_greatestOf_2 : decode cX11_greatestOf 2 = .ok (.iconst 0, 1) := by decide +kernel
theorem dX11_greatestOf_3 : decode cX11_greatestOf 3 = .ok (.istore_n 3, 1) := by decide +kernel
theorem dX11_greatestOf_4 : decode cX11_greatestOf 4 = .ok (.iload_n 3, 1) := by decide +kernel
theorem dX11_greatestOf_5 : decode cX11_greatestOf 5 = .ok (.bipush 8, 2) := by decide +kernel
theorem dX11_greatestOf_7 : decode cX11_greatestOf 7 = .ok (.if_icmp .ge 25, 3) := by decide +kernel
theorem dX11_greatestOf_10 : decode cX11_greatestOf 10 = .ok (.iload_n 2, 1) := by decide +kernel
theorem dX11_greatestOf_11 : decode cX11_greatestOf 11 = .ok (.aload_n 0, 1) := by decide +kernel
theorem dX11_greatestOf_12 : decode cX11_greatestOf 12 = .ok (.getfield 64, 3) := by decide +kernel
theorem dX11_greatestOf_15 : decode cX11_greatestOf 15 = .ok (.iload_n 1, 1) := by decide +kernel
theorem dX11_greatestOf_16 : decode cX11_greatestOf 16 = .ok (.bipush 8, 2) := by decide +kernel
theorem dX11_greatestOf_18 : decode cX11_greatestOf 18 = .ok (.imul, 1) := by decide +kernel
theorem dX11_greatestOf_19 : decode cX11_greatestOf 19 = .ok (.iload_n 3, 1) := by decide +kernel
theorem dX11_greatestOf_20 : decode cX11_greatestOf 20 = .ok (.iadd, 1) := by decide +kernel
theorem dX11_greatestOf_21 : decode cX11_greatestOf 21 = .ok (.iaload, 1) := by decide +kernel
theorem dX11_greatestOf_22 : decode cX11_greatestOf 22 = .ok (.invokestatic 405, 3) := by decide +kernel
theorem dX11_greatestOf_25 : decode cX11_greatestOf 25 = .ok (.istore_n 2, 1) := by decide +kernel
theorem dX11_greatestOf_26 : decode cX11_greatestOf 26 = .ok (.iinc 3 1, 3) := by decide +kernel
theorem dX11_greatestOf_29 : decode cX11_greatestOf 29 = .ok (.goto (-25), 3) := by decide +kernel
theorem dX11_greatestOf_32 : decode cX11_greatestOf 32 = .ok (.iload_n 2, 1) := by decide +kernel
theorem dX11_greatestOf_33 : decode cX11_greatestOf 33 = .ok (.ireturn, 1) := by decide +kernel
theorem dX12_init_0 : decode cX12_init 0 = .ok (.aload_n 0, 1) := by decide +kernel
theorem dX12_init_1 : decode cX12_init 1 = .ok (.invokespecial 1, 3) := by decide +kernel
theorem dX12_init_4 : decode cX12_init 4 = .ok (.aload_n 0, 1) := by decide +kernel
theorem dX12_init_5 : decode cX12_init 5 = .ok (.bipush 8, 2) := by decide +kernel
theorem dX12_init_7 : decode cX12_init 7 = .ok (.newarray .int, 2) := by decide +kernel
theorem dX12_init_9 : decode cX12_init 9 = .ok (.putfield 7, 3) := by decide +kernel
theorem dX12_init_12 : decode cX12_init 12 = .ok (.aload_n 0, 1) := by decide +kernel
theorem dX12_init_13 : decode cX12_init 13 = .ok (.bipush 8, 2) := by decide +kernel
theorem dX12_init_15 : decode cX12_init 15 = .ok (.newarray .int, 2) := by decide +kernel
theorem dX12_init_17 : decode cX12_init 17 = .ok (.putfield 13, 3) := by decide +kernel
theorem dX12_init_20 : decode cX12_init 20 = .ok (.aload_n 0, 1) := by decide +kernel
theorem dX12_init_21 : decode cX12_init 21 = .ok (.bipush 8, 2) := by decide +kernel
theorem dX12_init_23 : decode cX12_init 23 = .ok (.newarray .int, 2) := by decide +kernel
theorem dX12_init_25 : decode cX12_init 25 = .ok (.putfield 16, 3) := by decide +kernel
theorem dX12_init_28 : decode cX12_init 28 = .ok (.aload_n 0, 1) := by decide +kernel
theorem dX12_init_29 : decode cX12_init 29 = .ok (.bipush 8, 2) := by decide +kernel
theorem dX12_init_31 : decode cX12_init 31 = .ok (.bipush 64, 2) := by decide +kernel
theorem dX12_init_33 : decode cX12_init 33 = .ok (.multianewarray 19 2, 4) := by decide +kernel
theorem dX12_init_37 : decode cX12_init 37 = .ok (.putfield 21, 3) := by decide +kernel
theorem dX12_init_40 : decode cX12_init 40 = .ok (.aload_n 0, 1) := by decide +kernel
theorem dX12_init_41 : decode cX12_init 41 = .ok (.bipush 8, 2) := by decide +kernel
theorem dX12_init_43 : decode cX12_init 43 = .ok (.newarray .int, 2) := by decide +kernel
theorem dX12_init_45 : decode cX12_init 45 = .ok (.putfield 24, 3) := by decide +kernel
theorem dX12_init_48 : decode cX12_init 48 = .ok (.aload_n 0, 1) := by decide +kernel
theorem dX12_init_49 : decode cX12_init 49 = .ok (.bipush 64, 2) := by decide +kernel
theorem dX12_init_51 : decode cX12_init 51 = .ok (.newarray .long, 2) := by decide +kernel
theorem dX12_init_53 : decode cX12_init 53 = .ok (.putfield 27, 3) := by decide +kernel
theorem dX12_init_56 : decode cX12_init 56 = .ok (.aload_n 0, 1) := by decide +kernel
theorem dX12_init_57 : decode cX12_init 57 = .ok (.bipush 80, 2) := by decide +kernel
theorem dX12_init_59 : decode cX12_init 59 = .ok (.newarray .int, 2) := by decide +kernel
theorem dX12_init_61 : decode cX12_init 61 = .ok (.putfield 31, 3) := by decide +kernel
theorem dX12_init_64 : decode cX12_init 64 = .ok (.aload_n 0, 1) := by decide +kernel
theorem dX12_init_65 : decode cX12_init 65 = .ok (.bipush 8, 2) := by decide +kernel
theorem dX12_init_67 : decode cX12_init 67 = .ok (.newarray .int, 2) := by decide +kernel
theorem dX12_init_69 : decode cX12_init 69 = .ok (.putfield 34, 3) := by decide +kernel
theorem dX12_init_72 : decode cX12_init 72 = .ok (.aload_n 0, 1) := by decide +kernel
theorem dX12_init_73 : decode cX12_init 73 = .ok (.bipush 10, 2) := by decide +kernel
theorem dX12_init_75 : decode cX12_init 75 = .ok (.newarray .int, 2) := by decide +kernel
theorem dX12_init_77 : decode cX12_init 77 = .ok (.putfield 37, 3) := by decide +kernel
theorem dX12_init_80 : decode cX12_init 80 = .ok (.aload_n 0, 1) := by decide +kernel
theorem dX12_init_81 : decode cX12_init 81 = .ok (.bipush 10, 2) := by decide +kernel
theorem dX12_init_83 : decode cX12_init 83 = .ok (.newarray .int, 2) := by decide +kernel
theorem dX12_init_85 : decode cX12_init 85 = .ok (.putfield 40, 3) := by decide +kernel
theorem dX12_init_88 : decode cX12_init 88 = .ok (.aload_n 0, 1) := by decide +kernel
theorem dX12_init_89 : decode cX12_init 89 = .ok (.bipush 10, 2) := by decide +kernel
theorem dX12_init_91 : decode cX12_init 91 = .ok (.newarray .int, 2) := by decide +kernel
theorem dX12_init_93 : decode cX12_init 93 = .ok (.putfield 43, 3) := by decide +kernel
theorem dX12_init_96 : decode cX12_init 96 = .ok (.aload_n 0, 1) := by decide +kernel
theorem dX12_init_97 : decode cX12_init 97 = .ok (.bipush 10, 2) := by decide +kernel
theorem dX12_init_99 : decode cX12_init 99 = .ok (.newarray .int, 2) := by decide +kernel
theorem dX12_init_101 : decode cX12_init 101 = .ok (.putfield 46, 3) := by decide +kernel
theorem dX12_init_104 : decode cX12_init 104 = .ok (.aload_n 0, 1) := by decide +kernel
theorem dX12_init_105 : decode cX12_init 105 = .ok (.bipush 10, 2) := by decide +kernel
theorem dX12_init_107 : decode cX12_init 107 = .ok (.newarray .long, 2) := by decide +kernel
theorem dX12_init_109 : decode cX12_init 109 = .ok (.putfield 49, 3) := by decide +kernel
theorem dX12_init_112 : decode cX12_init 112 = .ok (.aload_n 0, 1) := by decide +kernel
theorem dX12_init_113 : decode cX12_init 113 = .ok (.bipush 24, 2) := by decide +kernel
theorem dX12_init_115 : decode cX12_init 115 = .ok (.newarray .int, 2) := by decide +kernel
theorem dX12_init_117 : decode cX12_init 117 = .ok (.putfield 52, 3) := by decide +kernel
theorem dX12_init_120 : decode cX12_init 120 = .ok (.aload_n 0, 1) := by decide +kernel
theorem dX12_init_121 : decode cX12_init 121 = .ok (.bipush 24, 2) := by decide +kernel
theorem dX12_init_123 : decode cX12_init 123 = .ok (.newarray .int, 2) := by decide +kernel
theorem dX12_init_125 : decode cX12_init 125 = .ok (.putfield 55, 3) := by decide +kernel
theorem dX12_init_128 : decode cX12_init 128 = .ok (.aload_n 0, 1) := by decide +kernel
theorem dX12_init_129 : decode cX12_init 129 = .ok (.bipush 24, 2) := by decide +kernel
theorem dX12_init_131 : decode cX12_init 131 = .ok (.newarray .int, 2) := by decide +kernel
theorem dX12_init_133 : decode cX12_init 133 = .ok (.putfield 58, 3) := by decide +kernel
theorem dX12_init_136 : decode cX12_init 136 = .ok (.aload_n 0, 1) := by decide +kernel
theorem dX12_init_137 : decode cX12_init 137 = .ok (.bipush 24, 2) := by decide +kernel
theorem dX12_init_139 : decode cX12_init 139 = .ok (.newarray .int, 2) := by decide +kernel
theorem dX12_init_141 : decode cX12_init 141 = .ok (.putfield 61, 3) := by decide +kernel
theorem dX12_init_144 : decode cX12_init 144 = .ok (.aload_n 0, 1) := by decide +kernel
theorem dX12_init_145 : decode cX12_init 145 = .ok (.bipush 24, 2) := by decide +kernel
theorem dX12_init_147 : decode cX12_init 147 = .ok (.newarray .int, 2) := by decide +kernel
theorem dX12_init_149 : decode cX12_init 149 = .ok (.putfield 64, 3) := by decide +kernel
theorem dX12_init_152 : decode cX12_init 152 = .ok (.aload_n 0, 1) := by decide +kernel
theorem dX12_init_153 : decode cX12_init 153 = .ok (.bipush 24, 2) := by decide +kernel
theorem dX12_init_155 : decode cX12_init 155 = .ok (.newarray .int, 2) := by decide +kernel
theorem dX12_init_157 : decode cX12_init 157 = .ok (.putfield 67, 3) := by decide +kernel
theorem dX12_init_160 : decode cX12_init 160 = .ok (.aload_n 0, 1) := by decide +kernel
theorem dX12_init_161 : decode cX12_init 161 = .ok (.bipush 24, 2) := by decide +kernel
theorem dX12_init_163 : decode cX12_init 163 = .ok (.newarray .int, 2) := by decide +kernel
theorem dX12_init_165 : decode cX12_init 165 = .ok (.putfield 70, 3) := by decide +kernel
theorem dX12_init_168 : decode cX12_init 168 = .ok (.aload_n 0, 1) := by decide +kernel
theorem dX12_init_169 : decode cX12_init 169 = .ok (.bipush 24, 2) := by decide +kernel
theorem dX12_init_171 : decode cX12_init 171 = .ok (.newarray .int, 2) := by decide +kernel
theorem dX12_init_173 : decode cX12_init 173 = .ok (.putfield 73, 3) := by decide +kernel
theorem dX12_init_176 : decode cX12_init 176 = .ok (.aload_n 0, 1) := by decide +kernel
theorem dX12_init_177 : decode cX12_init 177 = .ok (.bipush 24, 2) := by decide +kernel
theorem dX12_init_179 : decode cX12_init 179 = .ok (.newarray .int, 2) := by decide +kernel
theorem dX12_init_181 : decode cX12_init 181 = .ok (.putfield 76, 3) := by decide +kernel
theorem dX12_init_184 : decode cX12_init 184 = .ok (.aload_n 0, 1) := by decide +kernel
theorem dX12_init_185 : decode cX12_init 185 = .ok (.iconst 4, 1) := by decide +kernel
theorem dX12_init_186 : decode cX12_init 186 = .ok (.newarray .int, 2) := by decide +kernel
theorem dX12_init_188 : decode cX12_init 188 = .ok (.dup, 1) := by decide +kernel
theorem dX12_init_189 : decode cX12_init 189 = .ok (.iconst 0, 1) := by decide +kernel
theorem dX12_init_190 : decode cX12_init 190 = .ok (.iconst (-1), 1) := by decide +kernel
theorem dX12_init_191 : decode cX12_init 191 = .ok (.iastore, 1) := by decide +kernel
theorem dX12_init_192 : decode cX12_init 192 = .ok (.dup, 1) := by decide +kernel
theorem dX12_init_193 : decode cX12_init 193 = .ok (.iconst 1, 1) := by decide +kernel
theorem dX12_init_194 : decode cX12_init 194 = .ok (.iconst (-1), 1) := by decide +kernel
theorem dX12_init_195 : decode cX12_init 195 = .ok (.iastore, 1) := by decide +kernel
theorem dX12_init_196 : decode cX12_init 196 = .ok (.dup, 1) := by decide +kernel
theorem dX12_init_197 : decode cX12_init 197 = .ok (.iconst 2, 1) := by decide +kernel
theorem dX12_init_198 : decode cX12_init 198 = .ok (.iconst (-1), 1) := by decide +kernel
theorem dX12_init_199 : decode cX12_init 199 = .ok (.iastore, 1) := by decide +kernel
theorem dX12_init_200 : decode cX12_init 200 = .ok (.dup, 1) := by decide +kernel
theorem dX12_init_201 : decode cX12_init 201 = .ok (.iconst 3, 1) := by decide +kernel
theorem dX12_init_202 : decode cX12_init 202 = .ok (.iconst (-1), 1) := by decide +kernel
theorem dX12_init_203 : decode cX12_init 203 = .ok (.iastore, 1) := by decide +kernel
theorem dX12_init_204 : decode cX12_init 204 = .ok (.putfield 79, 3) := by decide +kernel
theorem dX12_init_207 : decode cX12_init 207 = .ok (.aload_n 0, 1) := by decide +kernel
theorem dX12_init_208 : decode cX12_init 208 = .ok (.bipush 64, 2) := by decide +kernel
theorem dX12_init_210 : decode cX12_init 210 = .ok (.newarray .int, 2) := by decide +kernel
theorem dX12_init_212 : decode cX12_init 212 = .ok (.putfield 82, 3) := by decide +kernel
theorem dX12_init_215 : decode cX12_init 215 = .ok (.aload_n 0, 1) := by decide +kernel
theorem dX12_init_216 : decode cX12_init 216 = .ok (.iconst 1, 1) := by decide +kernel
theorem dX12_init_217 : decode cX12_init 217 = .ok (.putfield 85, 3) := by decide +kernel
theorem dX12_init_220 : decode cX12_init 220 = .ok (.aload_n 0, 1) := by decide +kernel
theorem dX12_init_221 : decode cX12_init 221 = .ok (.bipush 100, 2) := by decide +kernel
theorem dX12_init_223 : decode cX12_init 223 = .ok (.newarray .int, 2) := by decide +kernel
theorem dX12_init_225 : decode cX12_init 225 = .ok (.putfield 89, 3) := by decide +kernel
theorem dX12_init_228 : decode cX12_init 228 = .ok (.aload_n 0, 1) := by decide +kernel
theorem dX12_init_229 : decode cX12_init 229 = .ok (.bipush 100, 2) := by decide +kernel
theorem dX12_init_231 : decode cX12_init 231 = .ok (.newarray .int, 2) := by decide +kernel
theorem dX12_init_233 : decode cX12_init 233 = .ok (.putfield 92, 3) := by decide +kernel
theorem dX12_init_236 : decode cX12_init 236 = .ok (.aload_n 0, 1) := by decide +kernel
theorem dX12_init_237 : decode cX12_init 237 = .ok (.bipush 46, 2) := by decide +kernel
theorem dX12_init_239 : decode cX12_init 239 = .ok (.bipush 100, 2) := by decide +kernel
theorem dX12_init_241 : decode cX12_init 241 = .ok (.multianewarray 95 2, 4) := by decide +kernel
theorem dX12_init_245 : decode cX12_init 245 = .ok (.putfield 97, 3) := by decide +kernel
theorem dX12_init_248 : decode cX12_init 248 = .ok (.aload_n 0, 1) := by decide +kernel
theorem dX12_init_249 : decode cX12_init 249 = .ok (.bipush 45, 2) := by decide +kernel
theorem dX12_init_251 : decode cX12_init 251 = .ok (.newarray .int, 2) := by decide +kernel
theorem dX12_init_253 : decode cX12_init 253 = .ok (.putfield 100, 3) := by decide +kernel
theorem dX12_init_256 : decode cX12_init 256 = .ok (.aload_n 0, 1) := by decide +kernel
theorem dX12_init_257 : decode cX12_init 257 = .ok (.bipush 8, 2) := by decide +kernel
theorem dX12_init_259 : decode cX12_init 259 = .ok (.anewarray 103, 3) := by decide +kernel
theorem dX12_init_262 : decode cX12_init 262 = .ok (.dup, 1) := by decide +kernel
theorem dX12_init_263 : decode cX12_init 263 = .ok (.iconst 0, 1) := by decide +kernel
theorem dX12_init_264 : decode cX12_init 264 = .ok (.ldc 105, 2) := by decide +kernel
theorem dX12_init_266 : decode cX12_init 266 = .ok (.aastore, 1) := by decide +kernel
theorem dX12_init_267 : decode cX12_init 267 = .ok (.dup, 1) := by decide +kernel
theorem dX12_init_268 : decode cX12_init 268 = .ok (.iconst 1, 1) := by decide +kernel
theorem dX12_init_269 : decode cX12_init 269 = .ok (.ldc 107, 2) := by decide +kernel
theorem dX12_init_271 : decode cX12_init 271 = .ok (.aastore, 1) := by decide +kernel
theorem dX12_init_272 : decode cX12_init 272 = .ok (.dup, 1) := by decide +kernel
theorem dX12_init_273 : decode cX12_init 273 = .ok (.iconst 2, 1) := by decide +kernel
theorem dX12_init_274 : decode cX12_init 274 = .ok (.ldc 109, 2) := by decide +kernel
theorem dX12_init_276 : decode cX12_init 276 = .ok (.aastore, 1) := by decide +kernel
theorem dX12_init_277 : decode cX12_init 277 = .ok (.dup, 1) := by decide +kernel
theorem dX12_init_278 : decode cX12_init 278 = .ok (.iconst 3, 1) := by decide +kernel
theorem dX12_init_279 : decode cX12_init 279 = .ok (.ldc 111, 2) := by decide +kernel
theorem dX12_init_281 : decode cX12_init 281 = .ok (.aastore, 1) := by decide +kernel
theorem dX12_init_282 : decode cX12_init 282 = .ok (.dup, 1) := by decide +kernel
theorem dX12_init_283 : decode cX12_init 283 = .ok (.iconst 4, 1) := by decide +kernel
theorem dX12_init_284 : decode cX12_init 284 = .ok (.ldc 113, 2) := by decide +kernel
theorem dX12_init_286 : decode cX12_init 286 = .ok (.aastore, 1) := by decide +kernel
theorem dX12_init_287 : decode cX12_init 287 = .ok (.dup, 1) := by decide +kernel
theorem dX12_init_288 : decode cX12_init 288 = .ok (.iconst 5, 1) := by decide +kernel
theorem dX12_init_289 : decode cX12_init 289 = .ok (.ldc 115, 2) := by decide +kernel
theorem dX12_init_291 : decode cX12_init 291 = .ok (.aastore, 1) := by decide +kernel
theorem dX12_init_292 : decode cX12_init 292 = .ok (.dup, 1) := by decide +kernel
theorem dX12_init_293 : decode cX12_init 293 = .ok (.bipush 6, 2) := by decide +kernel
theorem dX12_init_295 : decode cX12_init 295 = .ok (.ldc 117, 2) := by decide +kernel
theorem dX12_init_297 : decode cX12_init 297 = .ok (.aastore, 1) := by decide +kernel
theorem dX12_init_298 : decode cX12_init 298 = .ok (.dup, 1) := by decide +kernel
theorem dX12_init_299 : decode cX12_init 299 = .ok (.bipush 7, 2) := by decide +kernel
theorem dX12_init_301 : decode cX12_init 301 = .ok (.ldc 119, 2) := by decide +kernel
theorem dX12_init_303 : decode cX12_init 303 = .ok (.aastore, 1) := by decide +kernel
theorem dX12_init_304 : decode cX12_init 304 = .ok (.putfield 121, 3) := by decide +kernel
theorem dX12_init_307 : decode cX12_init 307 = .ok (.aload_n 0, 1) := by decide +kernel
theorem dX12_init_308 : decode cX12_init 308 = .ok (.iconst 3, 1) := by decide +kernel
theorem dX12_init_309 : decode cX12_init 309 = .ok (.anewarray 103, 3) := by decide +kernel
theorem dX12_init_312 : decode cX12_init 312 = .ok (.dup, 1) := by decide +kernel
theorem dX12_init_313 : decode cX12_init 313 = .ok (.iconst 0, 1) := by decide +kernel
theorem dX12_init_314 : decode cX12_init 314 = .ok (.ldc 125, 2) := by decide +kernel
theorem dX12_init_316 : decode cX12_init 316 = .ok (.aastore, 1) := by decide +kernel
theorem dX12_init_317 : decode cX12_init 317 = .ok (.dup, 1) := by decide +kernel
theorem dX12_init_318 : decode cX12_init 318 = .ok (.iconst 1, 1) := by decide +kernel
theorem dX12_init_319 : decode cX12_init 319 = .ok (.ldc 127, 2) := by decide +kernel
theorem dX12_init_321 : decode cX12_init 321 = .ok (.aastore, 1) := by decide +kernel
theorem dX12_init_322 : decode cX12_init 322 = .ok (.dup, 1) := by decide +kernel
theorem dX12_init_323 : decode cX12_init 323 = .ok (.iconst 2, 1) := by decide +kernel
theorem dX12_init_324 : decode cX12_init 324 = .ok (.ldc 129, 2) := by decide +kernel
theorem dX12_init_326 : decode cX12_init 326 = .ok (.aastore, 1) := by decide +kernel
theorem dX12_init_327 : decode cX12_init 327 = .ok (.putfield 131, 3) := by decide +kernel
theorem dX12_init_330 : decode cX12_init 330 = .ok (.aload_n 0, 1) := by decide +kernel
theorem dX12_init_331 : decode cX12_init 331 = .ok (.sipush 2048, 3) := by decide +kernel
theorem dX12_init_334 : decode cX12_init 334 = .ok (.newarray .int, 2) := by decide +kernel
theorem dX12_init_336 : decode cX12_init 336 = .ok (.putfield 134, 3) := by decide +kernel
theorem dX12_init_339 : decode cX12_init 339 = .ok (.aload_n 0, 1) := by decide +kernel
theorem dX12_init_340 : decode cX12_init 340 = .ok (.bipush 8, 2) := by decide +kernel
theorem dX12_init_342 : decode cX12_init 342 = .ok (.newarray .int, 2) := by decide +kernel
theorem dX12_init_344 : decode cX12_init 344 = .ok (.putfield 137, 3) := by decide +kernel
theorem dX12_init_347 : decode cX12_init 347 = .ok (.aload_n 0, 1) := by decide +kernel
theorem dX12_init_348 : decode cX12_init 348 = .ok (.sipush 256, 3) := by decide +kernel
theorem dX12_init_351 : decode cX12_init 351 = .ok (.newarray .int, 2) := by decide +kernel
theorem dX12_init_353 : decode cX12_init 353 = .ok (.putfield 140, 3) := by decide +kernel
theorem dX12_init_356 : decode cX12_init 356 = .ok (.aload_n 0, 1) := by decide +kernel
theorem dX12_init_357 : decode cX12_init 357 = .ok (.bipush 48, 2) := by decide +kernel
theorem dX12_init_359 : decode cX12_init 359 = .ok (.newarray .int, 2) := by decide +kernel
theorem dX12_init_361 : decode cX12_init 361 = .ok (.putfield 143, 3) := by decide +kernel
theorem dX12_init_364 : decode cX12_init 364 = .ok (.aload_n 0, 1) := by decide +kernel
theorem dX12_init_365 : decode cX12_init 365 = .ok (.bipush 10, 2) := by decide +kernel
theorem dX12_init_367 : decode cX12_init 367 = .ok (.newarray .int, 2) := by decide +kernel
theorem dX12_init_369 : decode cX12_init 369 = .ok (.putfield 146, 3) := by decide +kernel
theorem dX12_init_372 : decode cX12_init 372 = .ok (.aload_n 0, 1) := by decide +kernel
theorem dX12_init_373 : decode cX12_init 373 = .ok (.new 8, 3) := by decide +kernel
theorem dX12_init_376 : decode cX12_init 376 = .ok (.dup, 1) := by decide +kernel
theorem dX12_init_377 : decode cX12_init 377 = .ok (.iconst 1, 1) := by decide +kernel
theorem dX12_init_378 : decode cX12_init 378 = .ok (.invokespecial 149, 3) := by decide +kernel
theorem dX12_init_381 : decode cX12_init 381 = .ok (.putfield 152, 3) := by decide +kernel
theorem dX12_init_384 : decode cX12_init 384 = .ok (.return_, 1) := by decide +kernel
theorem dX12_init__0 : decode cX12_init_ 0 = .ok (.aload_n 0, 1) := by decide +kernel
theorem dX12_init__1 : decode cX12_init_ 1 = .ok (.invokespecial 1, 3) := by decide +kernel
theorem dX12_init__4 : decode cX12_init_ 4 = .ok (.aload_n 0, 1) := by decide +kernel
theorem dX12_init__5 : decode cX12_init_ 5 = .ok (.bipush 8, 2) := by decide +kernel
theorem dX12_init__7 : decode cX12_init_ 7 = .ok (.newarray .int, 2) := by decide +kernel
theorem dX12_init__9 : decode cX12_init_ 9 = .ok (.putfield 7, 3) := by decide +kernel
theorem dX12_init__12 : decode cX12_init_ 12 = .ok (.aload_n 0, 1) := by decide +kernel
theorem dX12_init__13 : decode cX12_init_ 13 = .ok (.bipush 8, 2) := by decide +kernel
theorem dX12_init__15 : decode cX12_init_ 15 = .ok (.newarray .int, 2) := by decide +kernel
theorem dX12_init__17 : decode cX12_init_ 17 = .ok (.putfield 13, 3) := by decide +kernel
theorem dX12_init__20 : decode cX12_init_ 20 = .ok (.aload_n 0, 1) := by decide +kernel
theorem dX12_init__21 : decode cX12_init_ 21 = .ok (.bipush 8, 2) := by decide +kernel
theorem dX12_init__23 : decode cX12_init_ 23 = .ok (.newarray .int, 2) := by decide +kernel
theorem dX12_init__25 : decode cX12_init_ 25 = .ok (.putfield 16, 3) := by decide +kernel
theorem dX12_init__28 : decode cX12_init_ 28 = .ok (.aload_n 0, 1) := by decide +kernel
theorem dX12_init__29 : decode cX12_init_ 29 = .ok (.bipush 8, 2) := by decide +kernel
theorem dX12_init__31 : decode cX12_init_ 31 = .ok (.bipush 64, 2) := by decide +kernel
theorem dX12_init__33 : decode cX12_init_ 33 = .ok (.multianewarray 19 2, 4) := by decide +kernel
theorem dX12_init__37 : decode cX12_init_ 37 = .ok (.putfield 21, 3) := by decide +kernel
theorem dX12_init__40 : decode cX12_init_ 40 = .ok (.aload_n 0, 1) := by decide +kernel
theorem dX12_init__41 : decode cX12_init_ 41 = .ok (.bipush 8, 2) := by decide +kernel
theorem dX12_init__43 : decode cX12_init_ 43 = .ok (.newarray .int, 2) := by decide +kernel
theorem dX12_init__45 : decode cX12_init_ 45 = .ok (.putfield 24, 3) := by decide +kernel
theorem dX12_init__48 : decode cX12_init_ 48 = .ok (.aload_n 0, 1) := by decide +kernel
theorem dX12_init__49 : decode cX12_init_ 49 = .ok (.bipush 64, 2) := by decide +kernel
theorem dX12_init__51 : decode cX12_init_ 51 = .ok (.newarray .long, 2) := by decide +kernel
theorem dX12_init__53 : decode cX12_init_ 53 = .ok (.putfield 27, 3) := by decide +kernel
theorem dX12_init__56 : decode cX12_init_ 56 = .ok (.aload_n 0, 1) := by decide +kernel
theorem dX12_init__57 : decode cX12_init_ 57 = .ok (.bipush 80, 2) := by decide +kernel
theorem dX12_init__59 : decode cX12_init_ 59 = .ok (.newarray .int, 2) := by decide +kernel
theorem dX12_init__61 : decode cX12_init_ 61 = .ok (.putfield 31, 3) := by decide +kernel
theorem dX12_init__64 : decode cX12_init_ 64 = .ok (.aload_n 0, 1) := by decide +kernel
theorem dX12_init__65 : decode cX12_init_ 65 = .ok (.bipush 8, 2) := by decide +kernel
theorem dX12_init__67 : decode cX12_init_ 67 = .ok (.newarray .int, 2) := by decide +kernel
theorem dX12_init__69 : decode cX12_init_ 69 = .ok (.putfield 34, 3) := by decide +kernel
theorem dX12_init__72 : decode cX12_init_ 72 = .ok (.aload_n 0, 1) := by decide +kernel
theorem dX12_init__73 : decode cX12_init_ 73 = .ok (.bipush 10, 2) := by decide +kernel
theorem dX12_init__75 : decode cX12_init_ 75 = .ok (.newarray .int, 2) := by decide +kernel
theorem dX12_init__77 : decode cX12_init_ 77 = .ok (.putfield 37, 3) := by decide +kernel
theorem dX12_init__80 : decode cX12_init_ 80 = .ok (.aload_n 0, 1) := by decide +kernel
theorem dX12_init__81 : decode cX12_init_ 81 = .ok (.bipush 10, 2) := by decide +kernel
theorem dX12_init__83 : decode cX12_init_ 83 = .ok (.newarray .int, 2) := by decide +kernel
theorem dX12_init__85 : decode cX12_init_ 85 = .ok (.putfield 40, 3) := by decide +kernel
theorem dX12_init__88 : decode cX12_init_ 88 = .ok (.aload_n 0, 1) := by decide +kernel
theorem dX12_init__89 : decode cX12_init_ 89 = .ok (.bipush 10, 2) := by decide +kernel
theorem dX12_init__91 : decode cX12_init_ 91 = .ok (.newarray .int, 2) := by decide +kernel
theorem dX12_init__93 : decode cX12_init_ 93 = .ok (.putfield 43, 3) := by decide +kernel
theorem dX12_init__96 : decode cX12_init_ 96 = .ok (.aload_n 0, 1) := by decide +kernel
theorem dX12_init__97 : decode cX12_init_ 97 = .ok (.bipush 10, 2) := by decide +kernel
theorem dX12_init__99 : decode cX12_init_ 99 = .ok (.newarray .int, 2) := by decide +kernel
theorem dX12_init__101 : decode cX12_init_ 101 = .ok (.putfield 46, 3) := by decide +kernel
theorem dX12_init__104 : decode cX12_init_ 104 = .ok (.aload_n 0, 1) := by decide +kernel
theorem dX12_init__105 : decode cX12_init_ 105 = .ok (.bipush 10, 2) := by decide +kernel
theorem dX12_init__107 : decode cX12_init_ 107 = .ok (.newarray .long, 2) := by decide +kernel
theorem dX12_init__109 : decode cX12_init_ 109 = .ok (.putfield 49, 3) := by decide +kernel
theorem dX12_init__112 : decode cX12_init_ 112 = .ok (.aload_n 0, 1) := by decide +kernel
theorem dX12_init__113 : decode cX12_init_ 113 = .ok (.bipush 24, 2) := by decide +kernel
theorem dX12_init__115 : decode cX12_init_ 115 = .ok (.newarray .int, 2) := by decide +kernel
theorem dX12_init__117 : decode cX12_init_ 117 = .ok (.putfield 52, 3) := by decide +kernel
theorem dX12_init__120 : decode cX12_init_ 120 = .ok (.aload_n 0, 1) := by decide +kernel
theorem dX12_init__121 : decode cX12_init_ 121 = .ok (.bipush 24, 2) := by decide +kernel
theorem dX12_init__123 : decode cX12_init_ 123 = .ok (.newarray .int, 2) := by decide +kernel
theorem dX12_init__125 : decode cX12_init_ 125 = .ok (.putfield 55, 3) := by decide +kernel
theorem dX12_init__128 : decode cX12_init_ 128 = .ok (.aload_n 0, 1) := by decide +kernel
theorem dX12_init__129 : decode cX12_init_ 129 = .ok (.bipush 24, 2) := by decide +kernel
theorem dX12_init__131 : decode cX12_init_ 131 = .ok (.newarray .int, 2) := by decide +kernel
theorem dX12_init__133 : decode cX12_init_ 133 = .ok (.putfield 58, 3) := by decide +kernel
theorem dX12_init__136 : decode cX12_init_ 136 = .ok (.aload_n 0, 1) := by decide +kernel
theorem dX12_init__137 : decode cX12_init_ 137 = .ok (.bipush 24, 2) := by decide +kernel
theorem dX12_init__139 : decode cX12_init_ 139 = .ok (.newarray .int, 2) := by decide +kernel
theorem dX12_init__141 : decode cX12_init_ 141 = .ok (.putfield 61, 3) := by decide +kernel
theorem dX12_init__144 : decode cX12_init_ 144 = .ok (.aload_n 0, 1) := by decide +kernel
theorem dX12_init__145 : decode cX12_init_ 145 = .ok (.bipush 24, 2) := by decide +kernel
theorem dX12_init__147 : decode cX12_init_ 147 = .ok (.newarray .int, 2) := by decide +kernel
theorem dX12_init__149 : decode cX12_init_ 149 = .ok (.putfield 64, 3) := by decide +kernel
theorem dX12_init__152 : decode cX12_init_ 152 = .ok (.aload_n 0, 1) := by decide +kernel
theorem dX12_init__153 : decode cX12_init_ 153 = .ok (.bipush 24, 2) := by decide +kernel
theorem dX12_init__155 : decode cX12_init_ 155 = .ok (.newarray .int, 2) := by decide +kernel
theorem dX12_init__157 : decode cX12_init_ 157 = .ok (.putfield 67, 3) := by decide +kernel
theorem dX12_init__160 : decode cX12_init_ 160 = .ok (.aload_n 0, 1) := by decide +kernel
theorem dX12_init__161 : decode cX12_init_ 161 = .ok (.bipush 24, 2) := by decide +kernel
theorem dX12_init__163 : decode cX12_init_ 163 = .ok (.newarray .int, 2) := by decide +kernel
theorem dX12_init__165 : decode cX12_init_ 165 = .ok (.putfield 70, 3) := by decide +kernel
theorem dX12_init__168 : decode cX12_init_ 168 = .ok (.aload_n 0, 1) := by decide +kernel
theorem dX12_init__169 : decode cX12_init_ 169 = .ok (.bipush 24, 2) := by decide +kernel
theorem dX12_init__171 : decode cX12_init_ 171 = .ok (.newarray .int, 2) := by decide +kernel
theorem dX12_init__173 : decode cX12_init_ 173 = .ok (.putfield 73, 3) := by decide +kernel
theorem dX12_init__176 : decode cX12_init_ 176 = .ok (.aload_n 0, 1) := by decide +kernel
theorem dX12_init__177 : decode cX12_init_ 177 = .ok (.bipush 24, 2) := by decide +kernel
theorem dX12_init__179 : decode cX12_init_ 179 = .ok (.newarray .int, 2) := by decide +kernel
theorem dX12_init__181 : decode cX12_init_ 181 = .ok (.putfield 76, 3) := by decide +kernel
theorem dX12_init__184 : decode cX12_init_ 184 = .ok (.aload_n 0, 1) := by decide +kernel
theorem dX12_init__185 : decode cX12_init_ 185 = .ok (.iconst 4, 1) := by decide +kernel
theorem dX12_init__186 : decode cX12_init_ 186 = .ok (.newarray .int, 2) := by decide +kernel
theorem dX12_init__188 : decode cX12_init_ 188 = .ok (.dup, 1) := by decide +kernel
theorem dX12_init__189 : decode cX12_init_ 189 = .ok (.iconst 0, 1) := by decide +kernel
theorem dX12_init__190 : decode cX12_init_ 190 = .ok (.iconst (-1), 1) := by decide +kernel
theorem dX12_init__191 : decode cX12_init_ 191 = .ok (.iastore, 1) := by decide +kernel
theorem dX12_init__192 : decode cX12_init_ 192 = .ok (.dup, 1) := by decide +kernel
theorem dX12_init__193 : decode cX12_init_ 193 = .ok (.iconst 1, 1) := by decide +kernel
theorem dX12_init__194 : decode cX12_init_ 194 = .ok (.iconst (-1), 1) := by decide +kernel
theorem dX12_init__195 : decode cX12_init_ 195 = .ok (.iastore, 1) := by decide +kernel
theorem dX12_init__196 : decode cX12_init_ 196 = .ok (.dup, 1) := by decide +kernel
theorem dX12_init__197 : decode cX12_init_ 197 = .ok (.iconst 2, 1) := by decide +kernel
theorem dX12_init__198 : decode cX12_init_ 198 = .ok (.iconst (-1), 1) := by decide +kernel
theorem dX12_init__199 : decode cX12_init_ 199 = .ok (.iastore, 1) := by decide +kernel
theorem dX12_init__200 : decode cX12_init_ 200 = .ok (.dup, 1) := by decide +kernel
theorem dX12_init__201 : decode cX12_init_ 201 = .ok (.iconst 3, 1) := by decide +kernel
theorem dX12_init__202 : decode cX12_init_ 202 = .ok (.iconst (-1), 1) := by decide +kernel
theorem dX12_init__203 : decode cX12_init_ 203 = .ok (.iastore, 1) := by decide +kernel
theorem dX12_init__204 : decode cX12_init_ 204 = .ok (.putfield 79, 3) := by decide +kernel
theorem dX12_init__207 : decode cX12_init_ 207 = .ok (.aload_n 0, 1) := by decide +kernel
theorem dX12_init__208 : decode cX12_init_ 208 = .ok (.bipush 64, 2) := by decide +kernel
theorem dX12_init__210 : decode cX12_init_ 210 = .ok (.newarray .int, 2) := by decide +kernel
theorem dX12_init__212 : decode cX12_init_ 212 = .ok (.putfield 82, 3) := by decide +kernel
theorem dX12_init__215 : decode cX12_init_ 215 = .ok (.aload_n 0, 1) := by decide +kernel
theorem dX12_init__216 : decode cX12_init_ 216 = .ok (.iconst 1, 1) := by decide +kernel
theorem dX12_init__217 : decode cX12_init_ 217 = .ok (.putfield 85, 3) := by decide +kernel
theorem dX12_init__220 : decode cX12_init_ 220 = .ok (.aload_n 0, 1) := by decide +kernel
theorem dX12_init__221 : decode cX12_init_ 221 = .ok (.bipush 100, 2) := by decide +kernel
theorem dX12_init__223 : decode cX12_init_ 223 = .ok (.newarray .int, 2) := by decide +kernel
theorem dX12_init__225 : decode cX12_init_ 225 = .ok (.putfield 89, 3) := by decide +kernel
theorem dX12_init__228 : decode cX12_init_ 228 = .ok (.aload_n 0, 1) := by decide +kernel
theorem dX12_init__229 : decode cX12_init_ 229 = .ok (.bipush 100, 2) := by decide +kernel
theorem dX12_init__231 : decode cX12_init_ 231 = .ok (.newarray .int, 2) := by decide +kernel
theorem dX12_init__233 : decode cX12_init_ 233 = .ok (.putfield 92, 3) := by decide +kernel
theorem dX12_init__236 : decode cX12_init_ 236 = .ok (.aload_n 0, 1) := by decide +kernel
theorem dX12_init__237 : decode cX12_init_ 237 = .ok (.bipush 46, 2) := by decide +kernel
theorem dX12_init__239 : decode cX12_init_ 239 = .ok (.bipush 100, 2) := by decide +kernel
theorem dX12_init__241 : decode cX12_init_ 241 = .ok (.multianewarray 95 2, 4) := by decide +kernel
theorem dX12_init__245 : decode cX12_init_ 245 = .ok (.putfield 97, 3) := by decide +kernel
theorem dX12_init__248 : decode cX12_init_ 248 = .ok (.aload_n 0, 1) := by decide +kernel
theorem dX12_init__249 : decode cX12_init_ 249 = .ok (.bipush 45, 2) := by decide +kernel
theorem dX12_init__251 : decode cX12_init_ 251 = .ok (.newarray .int, 2) := by decide +kernel
theorem dX12_init__253 : decode cX12_init_ 253 = .ok (.putfield 100, 3) := by decide +kernel
theorem dX12_init__256 : decode cX12_init_ 256 = .ok (.aload_n 0, 1) := by decide +kernel
theorem dX12_init__257 : decode cX12_init_ 257 = .ok (.bipush 8, 2) := by decide +kernel
theorem dX12_init__259 : decode cX12_init_ 259 = .ok (.anewarray 103, 3) := by decide +kernel
theorem dX12_init__262 : decode cX12_init_ 262 = .ok (.dup, 1) := by decide +kernel
theorem dX12_init__263 : decode cX12_init_ 263 = .ok (.iconst 0, 1) := by decide +kernel
theorem dX12_init__264 : decode cX12_init_ 264 = .ok (.ldc 105, 2) := by decide +kernel
theorem dX12_init__266 : decode cX12_init_ 266 = .ok (.aastore, 1) := by decide +kernel
theorem dX12_init__267 : decode cX12_init_ 267 = .ok (.dup, 1) := by decide +kernel
theorem dX12_init__268 : decode cX12_init_ 268 = .ok (.iconst 1, 1) := by decide +kernel
theorem dX12_init__269 : decode cX12_init_ 269 = .ok (.ldc 107, 2) := by decide +kernel
theorem dX12_init__271 : decode cX12_init_ 271 = .ok (.aastore, 1) := by decide +kernel
theorem dX12_init__272 : decode cX12_init_ 272 = .ok (.dup, 1) := by decide +kernel
theorem dX12_init__273 : decode cX12_init_ 273 = .ok (.iconst 2, 1) := by decide +kernel
theorem dX12_init__274 : decode cX12_init_ 274 = .ok (.ldc 109, 2) := by decide +kernel
theorem dX12_init__276 : decode cX12_init_ 276 = .ok (.aastore, 1) := by decide +kernel
theorem dX12_init__277 : decode cX12_init_ 277 = .ok (.dup, 1) := by decide +kernel
theorem dX12_init__278 : decode cX12_init_ 278 = .ok (.iconst 3, 1) := by decide +kernel
theorem dX12_init__279 : decode cX12_init_ 279 = .ok (.ldc 111, 2) := by decide +kernel
theorem dX12_init__281 : decode cX12_init_ 281 = .ok (.aastore, 1) := by decide +kernel
theorem dX12_init__282 : decode cX12_init_ 282 = .ok (.dup, 1) := by decide +kernel
theorem dX12_init__283 : decode cX12_init_ 283 = .ok (.iconst 4, 1) := by decide +kernel
theorem dX12_init__284 : decode cX12_init_ 284 = .ok (.ldc 113, 2) := by decide +kernel
theorem dX12_init__286 : decode cX12_init_ 286 = .ok (.aastore, 1) := by decide +kernel
theorem dX12_init__287 : decode cX12_init_ 287 = .ok (.dup, 1) := by decide +kernel
theorem dX12_init__288 : decode cX12_init_ 288 = .ok (.iconst 5, 1) := by decide +kernel
theorem dX12_init__289 : decode cX12_init_ 289 = .ok (.ldc 115, 2) := by decide +kernel
theorem dX12_init__291 : decode cX12_init_ 291 = .ok (.aastore, 1) := by decide +kernel
theorem dX12_init__292 : decode cX12_init_ 292 = .ok (.dup, 1) := by decide +kernel
theorem dX12_init__293 : decode cX12_init_ 293 = .ok (.bipush 6, 2) := by decide +kernel
theorem dX12_init__295 : decode cX12_init_ 295 = .ok (.ldc 117, 2) := by decide +kernel
theorem dX12_init__297 : decode cX12_init_ 297 = .ok (.aastore, 1) := by decide +kernel
theorem dX12_init__298 : decode cX12_init_ 298 = .ok (.dup, 1) := by decide +kernel
theorem dX12_init__299 : decode cX12_init_ 299 = .ok (.bipush 7, 2) := by decide +kernel
theorem dX12_init__301 : decode cX12_init_ 301 = .ok (.ldc 119, 2) := by decide +kernel
theorem dX12_init__303 : decode cX12_init_ 303 = .ok (.aastore, 1) := by decide +kernel
theorem dX12_init__304 : decode cX12_init_ 304 = .ok (.putfield 121, 3) := by decide +kernel
theorem dX12_init__307 : decode cX12_init_ 307 = .ok (.aload_n 0, 1) := by decide +kernel
theorem dX12_init__308 : decode cX12_init_ 308 = .ok (.iconst 3, 1) := by decide +kernel
theorem dX12_init__309 : decode cX12_init_ 309 = .ok (.anewarray 103, 3) := by decide +kernel
theorem dX12_init__312 : decode cX12_init_ 312 = .ok (.dup, 1) := by decide +kernel
theorem dX12_init__313 : decode cX12_init_ 313 = .ok (.iconst 0, 1) := by decide +kernel
theorem dX12_init__314 : decode cX12_init_ 314 = .ok (.ldc 125, 2) := by decide +kernel
theorem dX12_init__316 : decode cX12_init_ 316 = .ok (.aastore, 1) := by decide +kernel
theorem dX12_init__317 : decode cX12_init_ 317 = .ok (.dup, 1) := by decide +kernel
theorem dX12_init__318 : decode cX12_init_ 318 = .ok (.iconst 1, 1) := by decide +kernel
theorem dX12_init__319 : decode cX12_init_ 319 = .ok (.ldc 127, 2) := by decide +kernel
theorem dX12_init__321 : decode cX12_init_ 321 = .ok (.aastore, 1) := by decide +kernel
theorem dX12_init__322 : decode cX12_init_ 322 = .ok (.dup, 1) := by decide +kernel
theorem dX12_init__323 : decode cX12_init_ 323 = .ok (.iconst 2, 1) := by decide +kernel
theorem dX12_init__324 : decode cX12_init_ 324 = .ok (.ldc 129, 2) := by decide +kernel
theorem dX12_init__326 : decode cX12_init_ 326 = .ok (.aastore, 1) := by decide +kernel
theorem dX12_init__327 : decode cX12_init_ 327 = .ok (.putfield 131, 3) := by decide +kernel
theorem dX12_init__330 : decode cX12_init_ 330 = .ok (.aload_n 0, 1) := by decide +kernel
theorem dX12_init__331 : decode cX12_init_ 331 = .ok (.sipush 2048, 3) := by decide +kernel
theorem dX12_init__334 : decode cX12_init_ 334 = .ok (.newarray .int, 2) := by decide +kernel
theorem dX12_init__336 : decode cX12_init_ 336 = .ok (.putfield 134, 3) := by decide +kernel
theorem dX12_init__339 : decode cX12_init_ 339 = .ok (.aload_n 0, 1) := by decide +kernel
theorem dX12_init__340 : decode cX12_init_ 340 = .ok (.bipush 8, 2) := by decide +kernel
theorem dX12_init__342 : decode cX12_init_ 342 = .ok (.newarray .int, 2) := by decide +kernel
theorem dX12_init__344 : decode cX12_init_ 344 = .ok (.putfield 137, 3) := by decide +kernel
theorem dX12_init__347 : decode cX12_init_ 347 = .ok (.aload_n 0, 1) := by decide +kernel
theorem dX12_init__348 : decode cX12_init_ 348 = .ok (.sipush 256, 3) := by decide +kernel
theorem dX12_init__351 : decode cX12_init_ 351 = .ok (.newarray .int, 2) := by decide +kernel
theorem dX12_init__353 : decode cX12_init_ 353 = .ok (.putfield 140, 3) := by decide +kernel
theorem dX12_init__356 : decode cX12_init_ 356 = .ok (.aload_n 0, 1) := by decide +kernel
theorem dX12_init__357 : decode cX12_init_ 357 = .ok (.bipush 48, 2) := by decide +kernel
theorem dX12_init__359 : decode cX12_init_ 359 = .ok (.newarray .int, 2) := by decide +kernel
theorem dX12_init__361 : decode cX12_init_ 361 = .ok (.putfield 143, 3) := by decide +kernel
theorem dX12_init__364 : decode cX12_init_ 364 = .ok (.aload_n 0, 1) := by decide +kernel
theorem dX12_init__365 : decode cX12_init_ 365 = .ok (.bipush 10, 2) := by decide +kernel
theorem dX12_init__367 : decode cX12_init_ 367 = .ok (.newarray .int, 2) := by decide +kernel
theorem dX12_init__369 : decode cX12_init_ 369 = .ok (.putfield 146, 3) := by decide +kernel
theorem dX12_init__372 : decode cX12_init_ 372 = .ok (.aload_n 0, 1) := by decide +kernel
theorem dX12_init__373 : decode cX12_init_ 373 = .ok (.aconst_null, 1) := by decide +kernel
theorem dX12_init__374 : decode cX12_init_ 374 = .ok (.putfield 152, 3) := by decide +kernel
theorem dX12_init__377 : decode cX12_init_ 377 = .ok (.return_, 1) := by decide +kernel
theorem dX12_refuse_0 : decode cX12_refuse 0 = .ok (.aload_n 0, 1) := by decide +kernel
theorem dX12_refuse_1 : decode cX12_refuse 1 = .ok (.getfield 34, 3) := by decide +kernel
theorem dX12_refuse_4 : decode cX12_refuse 4 = .ok (.iload_n 1, 1) := by decide +kernel
theorem dX12_refuse_5 : decode cX12_refuse 5 = .ok (.ineg, 1) := by decide +kernel
theorem dX12_refuse_6 : decode cX12_refuse 6 = .ok (.dup2, 1) := by decide +kernel
theorem dX12_refuse_7 : decode cX12_refuse 7 = .ok (.iaload, 1) := by decide +kernel
theorem dX12_refuse_8 : decode cX12_refuse 8 = .ok (.iconst 1, 1) := by decide +kernel
theorem dX12_refuse_9 : decode cX12_refuse 9 = .ok (.iadd, 1) := by decide +kernel
theorem dX12_refuse_10 : decode cX12_refuse 10 = .ok (.iastore, 1) := by decide +kernel
theorem dX12_refuse_11 : decode cX12_refuse 11 = .ok (.iload_n 1, 1) := by decide +kernel
theorem dX12_refuse_12 : decode cX12_refuse 12 = .ok (.ireturn, 1) := by decide +kernel
theorem dX12_in_0 : decode cX12_in 0 = .ok (.lload_n 0, 1) := by decide +kernel
theorem dX12_in_1 : decode cX12_in 1 = .ok (.lload_n 2, 1) := by decide +kernel
theorem dX12_in_2 : decode cX12_in 2 = .ok (.lcmp, 1) := by decide +kernel
theorem dX12_in_3 : decode cX12_in 3 = .ok (.ifCond .lt 14, 3) := by decide +kernel
theorem dX12_in_6 : decode cX12_in 6 = .ok (.lload_n 0, 1) := by decide +kernel
theorem dX12_in_7 : decode cX12_in 7 = .ok (.lload 4, 2) := by decide +kernel
theorem dX12_in_9 : decode cX12_in 9 = .ok (.lcmp, 1) := by decide +kernel
theorem dX12_in_10 : decode cX12_in 10 = .ok (.ifCond .gt 7, 3) := by decide +kernel
theorem dX12_in_13 : decode cX12_in 13 = .ok (.iconst 1, 1) := by decide +kernel
theorem dX12_in_14 : decode cX12_in 14 = .ok (.goto 4, 3) := by decide +kernel
theorem dX12_in_17 : decode cX12_in 17 = .ok (.iconst 0, 1) := by decide +kernel
theorem dX12_in_18 : decode cX12_in 18 = .ok (.ireturn, 1) := by decide +kernel
theorem dX12_isField_0 : decode cX12_isField 0 = .ok (.iload_n 1, 1) := by decide +kernel
theorem dX12_isField_1 : decode cX12_isField 1 = .ok (.i2l, 1) := by decide +kernel
theorem dX12_isField_2 : decode cX12_isField 2 = .ok (.lconst 0, 1) := by decide +kernel
theorem dX12_isField_3 : decode cX12_isField 3 = .ok (.aload_n 0, 1) := by decide +kernel
theorem dX12_isField_4 : decode cX12_isField 4 = .ok (.getfield 156, 3) := by decide +kernel
theorem dX12_isField_7 : decode cX12_isField 7 = .ok (.iconst 1, 1) := by decide +kernel
theorem dX12_isField_8 : decode cX12_isField 8 = .ok (.isub, 1) := by decide +kernel
theorem dX12_isField_9 : decode cX12_isField 9 = .ok (.i2l, 1) := by decide +kernel
theorem dX12_isField_10 : decode cX12_isField 10 = .ok (.invokestatic 159, 3) := by decide +kernel
theorem dX12_isField_13 : decode cX12_isField 13 = .ok (.ireturn, 1) := by decide +kernel
theorem dX12_areTwo_0 : decode cX12_areTwo 0 = .ok (.aload_n 0, 1) := by decide +kernel
theorem dX12_areTwo_1 : decode cX12_areTwo 1 = .ok (.iload_n 1, 1) := by decide +kernel
theorem dX12_areTwo_2 : decode cX12_areTwo 2 = .ok (.invokevirtual 163, 3) := by decide +kernel
theorem dX12_areTwo_5 : decode cX12_areTwo 5 = .ok (.ifCond .eq 20, 3) := by decide +kernel
theorem dX12_areTwo_8 : decode cX12_areTwo 8 = .ok (.aload_n 0, 1) := by decide +kernel
theorem dX12_areTwo_9 : decode cX12_areTwo 9 = .ok (.iload_n 2, 1) := by decide +kernel
theorem dX12_areTwo_10 : decode cX12_areTwo 10 = .ok (.invokevirtual 163, 3) := by decide +kernel
theorem dX12_areTwo_13 : decode cX12_areTwo 13 = .ok (.ifCond .eq 12, 3) := by decide +kernel
theorem dX12_areTwo_16 : decode cX12_areTwo 16 = .ok (.iload_n 1, 1) := by decide +kernel
theorem dX12_areTwo_17 : decode cX12_areTwo 17 = .ok (.iload_n 2, 1) := by decide +kernel
theorem dX12_areTwo_18 : decode cX12_areTwo 18 = .ok (.if_icmp .eq 7, 3) := by decide +kernel
theorem dX12_areTwo_21 : decode cX12_areTwo 21 = .ok (.iconst 1, 1) := by decide +kernel
theorem dX12_areTwo_22 : decode cX12_areTwo 22 = .ok (.goto 4, 3) := by decide +kernel
theorem dX12_areTwo_25 : decode cX12_areTwo 25 = .ok (.iconst 0, 1) := by decide +kernel
theorem dX12_areTwo_26 : decode cX12_areTwo 26 = .ok (.ireturn, 1) := by decide +kernel
theorem dX12_isYear_0 : decode cX12_isYear 0 = .ok (.iload_n 0, 1) := by decide +kernel
theorem dX12_isYear_1 : decode cX12_isYear 1 = .ok (.i2l, 1) := by decide +kernel
theorem dX12_isYear_2 : decode cX12_isYear 2 = .ok (.lconst 0, 1) := by decide +kernel
theorem dX12_isYear_3 : decode cX12_isYear 3 = .ok (.ldc2_w 167, 3) := by decide +kernel
theorem dX12_isYear_6 : decode cX12_isYear 6 = .ok (.invokestatic 159, 3) := by decide +kernel
theorem dX12_isYear_9 : decode cX12_isYear 9 = .ok (.ireturn, 1) := by decide +kernel
theorem dX12_isSet_0 : decode cX12_isSet 0 = .ok (.iload_n 0, 1) := by decide +kernel
theorem dX12_isSet_1 : decode cX12_isSet 1 = .ok (.i2l, 1) := by decide +kernel
theorem dX12_isSet_2 : decode cX12_isSet 2 = .ok (.lconst 1, 1) := by decide +kernel
theorem dX12_isSet_3 : decode cX12_isSet 3 = .ok (.ldc2_w 169, 3) := by decide +kernel
theorem dX12_isSet_6 : decode cX12_isSet 6 = .ok (.invokestatic 159, 3) := by decide +kernel
theorem dX12_isSet_9 : decode cX12_isSet 9 = .ok (.ireturn, 1) := by decide +kernel
theorem dX12_isWay_0 : decode cX12_isWay 0 = .ok (.iload_n 0, 1) := by decide +kernel
theorem dX12_isWay_1 : decode cX12_isWay 1 = .ok (.i2l, 1) := by decide +kernel
theorem dX12_isWay_2 : decode cX12_isWay 2 = .ok (.lconst 0, 1) := by decide +kernel
theorem dX12_isWay_3 : decode cX12_isWay 3 = .ok (.ldc2_w 171, 3) := by decide +kernel
theorem dX12_isWay_6 : decode cX12_isWay 6 = .ok (.invokestatic 159, 3) := by decide +kernel
theorem dX12_isWay_9 : decode cX12_isWay 9 = .ok (.ireturn, 1) := by decide +kernel
theorem dX12_row_0 : decode cX12_row 0 = .ok (.iload_n 1, 1) := by decide +kernel
theorem dX12_row_1 : decode cX12_row 1 = .ok (.i2l, 1) := by decide +kernel
theorem dX12_row_2 : decode cX12_row 2 = .ok (.lconst 0, 1) := by decide +kernel
theorem dX12_row_3 : decode cX12_row 3 = .ok (.ldc2_w 171, 3) := by decide +kernel
theorem dX12_row_6 : decode cX12_row 6 = .ok (.invokestatic 159, 3) := by decide +kernel
theorem dX12_row_9 : decode cX12_row 9 = .ok (.ifCond .eq 27, 3) := by decide +kernel
theorem dX12_row_12 : decode cX12_row 12 = .ok (.iload_n 2, 1) := by decide +kernel
theorem dX12_row_13 : decode cX12_row 13 = .ok (.i2l, 1) := by decide +kernel
theorem dX12_row_14 : decode cX12_row 14 = .ok (.lconst 0, 1) := by decide +kernel
theorem dX12_row_15 : decode cX12_row 15 = .ok (.ldc2_w 173, 3) := by decide +kernel
theorem dX12_row_18 : decode cX12_row 18 = .ok (.invokestatic 159, 3) := by decide +kernel
theorem dX12_row_21 : decode cX12_row 21 = .ok (.ifCond .eq 15, 3) := by decide +kernel
theorem dX12_row_24 : decode cX12_row 24 = .ok (.iload_n 3, 1) := by decide +kernel
theorem dX12_row_25 : decode cX12_row 25 = .ok (.i2l, 1) := by decide +kernel
theorem dX12_row_26 : decode cX12_row 26 = .ok (.lconst 0, 1) := by decide +kernel
theorem dX12_row_27 : decode cX12_row 27 = .ok (.ldc2_w 175, 3) := by decide +kernel
theorem dX12_row_30 : decode cX12_row 30 = .ok (.invokestatic 159, 3) := by decide +kernel
theorem dX12_row_33 : decode cX12_row 33 = .ok (.ifCond .ne 10, 3) := by decide +kernel
theorem dX12_row_36 : decode cX12_row 36 = .ok (.aload_n 0, 1) := by decide +kernel
theorem dX12_row_37 : decode cX12_row 37 = .ok (.bipush (-2), 2) := by decide +kernel
theorem dX12_row_39 : decode cX12_row 39 = .ok (.invokevirtual 177, 3) := by decide +kernel
theorem dX12_row_42 : decode cX12_row 42 = .ok (.ireturn, 1) := by decide +kernel
theorem dX12_row_43 : decode cX12_row 43 = .ok (.aload_n 0, 1) := by decide +kernel
theorem dX12_row_44 : decode cX12_row 44 = .ok (.getfield 7, 3) := by decide +kernel
theorem dX12_row_47 : decode cX12_row 47 = .ok (.iload_n 1, 1) := by decide +kernel
theorem dX12_row_48 : decode cX12_row 48 = .ok (.iconst 1, 1) := by decide +kernel
theorem dX12_row_49 : decode cX12_row 49 = .ok (.iastore, 1) := by decide +kernel
theorem dX12_row_50 : decode cX12_row 50 = .ok (.aload_n 0, 1) := by decide +kernel
theorem dX12_row_51 : decode cX12_row 51 = .ok (.getfield 13, 3) := by decide +kernel
theorem dX12_row_54 : decode cX12_row 54 = .ok (.iload_n 1, 1) := by decide +kernel
theorem dX12_row_55 : decode cX12_row 55 = .ok (.iload_n 2, 1) := by decide +kernel
theorem dX12_row_56 : decode cX12_row 56 = .ok (.iastore, 1) := by decide +kernel
theorem dX12_row_57 : decode cX12_row 57 = .ok (.aload_n 0, 1) := by decide +kernel
theorem dX12_row_58 : decode cX12_row 58 = .ok (.getfield 16, 3) := by decide +kernel
theorem dX12_row_61 : decode cX12_row 61 = .ok (.iload_n 1, 1) := by decide +kernel
theorem dX12_row_62 : decode cX12_row 62 = .ok (.iload_n 3, 1) := by decide +kernel
theorem dX12_row_63 : decode cX12_row 63 = .ok (.iastore, 1) := by decide +kernel
theorem dX12_row_64 : decode cX12_row 64 = .ok (.iconst 0, 1) := by decide +kernel
theorem dX12_row_65 : decode cX12_row 65 = .ok (.istore 4, 2) := by decide +kernel
theorem dX12_row_67 : decode cX12_row 67 = .ok (.iload 4, 2) := by decide +kernel
theorem dX12_row_69 : decode cX12_row 69 = .ok (.bipush 64, 2) := by decide +kernel
theorem dX12_row_71 : decode cX12_row 71 = .ok (.if_icmp .ge 19, 3) := by decide +kernel
theorem dX12_row_74 : decode cX12_row 74 = .ok (.aload_n 0, 1) := by decide +kernel
theorem dX12_row_75 : decode cX12_row 75 = .ok (.getfield 21, 3) := by decide +kernel
theorem dX12_row_78 : decode cX12_row 78 = .ok (.iload_n 1, 1) := by decide +kernel
theorem dX12_row_79 : decode cX12_row 79 = .ok (.aaload, 1) := by decide +kernel
theorem dX12_row_80 : decode cX12_row 80 = .ok (.iload 4, 2) := by decide +kernel
theorem dX12_row_82 : decode cX12_row 82 = .ok (.lconst 0, 1) := by decide +kernel
theorem dX12_row_83 : decode cX12_row 83 = .ok (.lastore, 1) := by decide +kernel
theorem dX12_row_84 : decode cX12_row 84 = .ok (.iinc 4 1, 3) := by decide +kernel
theorem dX12_row_87 : decode cX12_row 87 = .ok (.goto (-20), 3) := by decide +kernel
theorem dX12_row_90 : decode cX12_row 90 = .ok (.iconst 1, 1) := by decide +kernel
theorem dX12_row_91 : decode cX12_row 91 = .ok (.ireturn, 1) := by decide +kernel
theorem dX12_fit_0 : decode cX12_fit 0 = .ok (.iload_n 0, 1) := by decide +kernel
theorem dX12_fit_1 : decode cX12_fit 1 = .ok (.tableswitch 47 0 3 #[31, 36, 41, 45], 31) := by decide +kernel
theorem dX12_fit_32 : decode cX12_fit 32 = .ok (.lload_n 1, 1) := by decide +kernel
theorem dX12_fit_33 : decode cX12_fit 33 = .ok (.l2i, 1) := by decide +kernel
theorem dX12_fit_34 : decode cX12_fit 34 = .ok (.i2b, 1) := by decide +kernel
theorem dX12_fit_35 : decode cX12_fit 35 = .ok (.i2l, 1) := by decide +kernel
theorem dX12_fit_36 : decode cX12_fit 36 = .ok (.lreturn, 1) := by decide +kernel
theorem dX12_fit_37 : decode cX12_fit 37 = .ok (.lload_n 1, 1) := by decide +kernel
theorem dX12_fit_38 : decode cX12_fit 38 = .ok (.l2i, 1) := by decide +kernel
theorem dX12_fit_39 : decode cX12_fit 39 = .ok (.i2s, 1) := by decide +kernel
theorem dX12_fit_40 : decode cX12_fit 40 = .ok (.i2l, 1) := by decide +kernel
theorem dX12_fit_41 : decode cX12_fit 41 = .ok (.lreturn, 1) := by decide +kernel
theorem dX12_fit_42 : decode cX12_fit 42 = .ok (.lload_n 1, 1) := by decide +kernel
theorem dX12_fit_43 : decode cX12_fit 43 = .ok (.l2i, 1) := by decide +kernel
theorem dX12_fit_44 : decode cX12_fit 44 = .ok (.i2l, 1) := by decide +kernel
theorem dX12_fit_45 : decode cX12_fit 45 = .ok (.lreturn, 1) := by decide +kernel
theorem dX12_fit_46 : decode cX12_fit 46 = .ok (.lload_n 1, 1) := by decide +kernel
theorem dX12_fit_47 : decode cX12_fit 47 = .ok (.lreturn, 1) := by decide +kernel
theorem dX12_fit_48 : decode cX12_fit 48 = .ok (.lload_n 1, 1) := by decide +kernel
theorem dX12_fit_49 : decode cX12_fit 49 = .ok (.lconst 0, 1) := by decide +kernel
theorem dX12_fit_50 : decode cX12_fit 50 = .ok (.lcmp, 1) := by decide +kernel
theorem dX12_fit_51 : decode cX12_fit 51 = .ok (.ifCond .eq 7, 3) := by decide +kernel
theorem dX12_fit_54 : decode cX12_fit 54 = .ok (.lconst 1, 1) := by decide +kernel
theorem dX12_fit_55 : decode cX12_fit 55 = .ok (.goto 4, 3) := by decide +kernel
theorem dX12_fit_58 : decode cX12_fit 58 = .ok (.lconst 0, 1) := by decide +kernel
theorem dX12_fit_59 : decode cX12_fit 59 = .ok (.lreturn, 1) := by decide +kernel
theorem dX12_set_0 : decode cX12_set 0 = .ok (.iload_n 1, 1) := by decide +kernel
theorem dX12_set_1 : decode cX12_set 1 = .ok (.i2l, 1) := by decide +kernel
theorem dX12_set_2 : decode cX12_set 2 = .ok (.lconst 0, 1) := by decide +kernel
theorem dX12_set_3 : decode cX12_set 3 = .ok (.ldc2_w 171, 3) := by decide +kernel
theorem dX12_set_6 : decode cX12_set 6 = .ok (.invokestatic 159, 3) := by decide +kernel
theorem dX12_set_9 : decode cX12_set 9 = .ok (.ifCond .ne 10, 3) := by decide +kernel
theorem dX12_set_12 : decode cX12_set 12 = .ok (.aload_n 0, 1) := by decide +kernel
theorem dX12_set_13 : decode cX12_set 13 = .ok (.bipush (-2), 2) := by decide +kernel
theorem dX12_set_15 : decode cX12_set 15 = .ok (.invokevirtual 177, 3) := by decide +kernel
theorem dX12_set_18 : decode cX12_set 18 = .ok (.ireturn, 1) := by decide +kernel
theorem dX12_set_19 : decode cX12_set 19 = .ok (.aload_n 0, 1) := by decide +kernel
theorem dX12_set_20 : decode cX12_set 20 = .ok (.getfield 7, 3) := by decide +kernel
theorem dX12_set_23 : decode cX12_set 23 = .ok (.iload_n 1, 1) := by decide +kernel
theorem dX12_set_24 : decode cX12_set 24 = .ok (.iaload, 1) := by decide +kernel
theorem dX12_set_25 : decode cX12_set 25 = .ok (.iconst 2, 1) := by decide +kernel
theorem dX12_set_26 : decode cX12_set 26 = .ok (.if_icmp .ne 10, 3) := by decide +kernel
theorem dX12_set_29 : decode cX12_set 29 = .ok (.aload_n 0, 1) := by decide +kernel
theorem dX12_set_30 : decode cX12_set 30 = .ok (.bipush (-3), 2) := by decide +kernel
theorem dX12_set_32 : decode cX12_set 32 = .ok (.invokevirtual 177, 3) := by decide +kernel
theorem dX12_set_35 : decode cX12_set 35 = .ok (.ireturn, 1) := by decide +kernel
theorem dX12_set_36 : decode cX12_set 36 = .ok (.aload_n 0, 1) := by decide +kernel
theorem dX12_set_37 : decode cX12_set 37 = .ok (.getfield 7, 3) := by decide +kernel
theorem dX12_set_40 : decode cX12_set 40 = .ok (.iload_n 1, 1) := by decide +kernel
theorem dX12_set_41 : decode cX12_set 41 = .ok (.iaload, 1) := by decide +kernel
theorem dX12_set_42 : decode cX12_set 42 = .ok (.ifCond .ne 10, 3) := by decide +kernel
theorem dX12_set_45 : decode cX12_set 45 = .ok (.aload_n 0, 1) := by decide +kernel
theorem dX12_set_46 : decode cX12_set 46 = .ok (.bipush (-4), 2) := by decide +kernel
theorem dX12_set_48 : decode cX12_set 48 = .ok (.invokevirtual 177, 3) := by decide +kernel
theorem dX12_set_51 : decode cX12_set 51 = .ok (.ireturn, 1) := by decide +kernel
theorem dX12_set_52 : decode cX12_set 52 = .ok (.iload_n 2, 1) := by decide +kernel
theorem dX12_set_53 : decode cX12_set 53 = .ok (.i2l, 1) := by decide +kernel
theorem dX12_set_54 : decode cX12_set 54 = .ok (.lconst 0, 1) := by decide +kernel
theorem dX12_set_55 : decode cX12_set 55 = .ok (.aload_n 0, 1) := by decide +kernel
theorem dX12_set_56 : decode cX12_set 56 = .ok (.getfield 16, 3) := by decide +kernel
theorem dX12_set_59 : decode cX12_set 59 = .ok (.iload_n 1, 1) := by decide +kernel
theorem dX12_set_60 : decode cX12_set 60 = .ok (.iaload, 1) := by decide +kernel
theorem dX12_set_61 : decode cX12_set 61 = .ok (.iconst 1, 1) := by decide +kernel
theorem dX12_set_62 : decode cX12_set 62 = .ok (.isub, 1) := by decide +kernel
theorem dX12_set_63 : decode cX12_set 63 = .ok (.i2l, 1) := by decide +kernel
theorem dX12_set_64 : decode cX12_set 64 = .ok (.invokestatic 159, 3) := by decide +kernel
theorem dX12_set_67 : decode cX12_set 67 = .ok (.ifCond .ne 10, 3) := by decide +kernel
theorem dX12_set_70 : decode cX12_set 70 = .ok (.aload_n 0, 1) := by decide +kernel
theorem dX12_set_71 : decode cX12_set 71 = .ok (.bipush (-2), 2) := by decide +kernel
theorem dX12_set_73 : decode cX12_set 73 = .ok (.invokevirtual 177, 3) := by decide +kernel
theorem dX12_set_76 : decode cX12_set 76 = .ok (.ireturn, 1) := by decide +kernel
theorem dX12_set_77 : decode cX12_set 77 = .ok (.aload_n 0, 1) := by decide +kernel
theorem dX12_set_78 : decode cX12_set 78 = .ok (.getfield 21, 3) := by decide +kernel
theorem dX12_set_81 : decode cX12_set 81 = .ok (.iload_n 1, 1) := by decide +kernel
theorem dX12_set_82 : decode cX12_set 82 = .ok (.aaload, 1) := by decide +kernel
theorem dX12_set_83 : decode cX12_set 83 = .ok (.iload_n 2, 1) := by decide +kernel
theorem dX12_set_84 : decode cX12_set 84 = .ok (.aload_n 0, 1) := by decide +kernel
theorem dX12_set_85 : decode cX12_set 85 = .ok (.getfield 13, 3) := by decide +kernel
theorem dX12_set_88 : decode cX12_set 88 = .ok (.iload_n 1, 1) := by decide +kernel
theorem dX12_set_89 : decode cX12_set 89 = .ok (.iaload, 1) := by decide +kernel
theorem dX12_set_90 : decode cX12_set 90 = .ok (.lload_n 3, 1) := by decide +kernel
theorem dX12_set_91 : decode cX12_set 91 = .ok (.invokestatic 181, 3) := by decide +kernel
theorem dX12_set_94 : decode cX12_set 94 = .ok (.lastore, 1) := by decide +kernel
theorem dX12_set_95 : decode cX12_set 95 = .ok (.iconst 1, 1) := by decide +kernel
theorem dX12_set_96 : decode cX12_set 96 = .ok (.ireturn, 1) := by decide +kernel
theorem dX12_copy_0 : decode cX12_copy 0 = .ok (.iload_n 1, 1) := by decide +kernel
theorem dX12_copy_1 : decode cX12_copy 1 = .ok (.i2l, 1) := by decide +kernel
theorem dX12_copy_2 : decode cX12_copy 2 = .ok (.lconst 0, 1) := by decide +kernel
theorem dX12_copy_3 : decode cX12_copy 3 = .ok (.ldc2_w 171, 3) := by decide +kernel
theorem dX12_copy_6 : decode cX12_copy 6 = .ok (.invokestatic 159, 3) := by decide +kernel
theorem dX12_copy_9 : decode cX12_copy 9 = .ok (.ifCond .eq 15, 3) := by decide +kernel
theorem dX12_copy_12 : decode cX12_copy 12 = .ok (.iload_n 2, 1) := by decide +kernel
theorem dX12_copy_13 : decode cX12_copy 13 = .ok (.i2l, 1) := by decide +kernel
theorem dX12_copy_14 : decode cX12_copy 14 = .ok (.lconst 0, 1) := by decide +kernel
theorem dX12_copy_15 : decode cX12_copy 15 = .ok (.ldc2_w 171, 3) := by decide +kernel
theorem dX12_copy_18 : decode cX12_copy 18 = .ok (.invokestatic 159, 3) := by decide +kernel
theorem dX12_copy_21 : decode cX12_copy 21 = .ok (.ifCond .ne 10, 3) := by decide +kernel
theorem dX12_copy_24 : decode cX12_copy 24 = .ok (.aload_n 0, 1) := by decide +kernel
theorem dX12_copy_25 : decode cX12_copy 25 = .ok (.bipush (-2), 2) := by decide +kernel
theorem dX12_copy_27 : decode cX12_copy 27 = .ok (.invokevirtual 177, 3) := by decide +kernel
theorem dX12_copy_30 : decode cX12_copy 30 = .ok (.ireturn, 1) := by decide +kernel
theorem dX12_copy_31 : decode cX12_copy 31 = .ok (.aload_n 0, 1) := by decide +kernel
theorem dX12_copy_32 : decode cX12_copy 32 = .ok (.getfield 7, 3) := by decide +kernel
theorem dX12_copy_35 : decode cX12_copy 35 = .ok (.iload_n 1, 1) := by decide +kernel
theorem dX12_copy_36 : decode cX12_copy 36 = .ok (.iaload, 1) := by decide +kernel
theorem dX12_copy_37 : decode cX12_copy 37 = .ok (.iconst 2, 1) := by decide +kernel
theorem dX12_copy_38 : decode cX12_copy 38 = .ok (.if_icmp .eq 48, 3) := by decide +kernel
theorem dX12_copy_41 : decode cX12_copy 41 = .ok (.aload_n 0, 1) := by decide +kernel
theorem dX12_copy_42 : decode cX12_copy 42 = .ok (.getfield 7, 3) := by decide +kernel
theorem dX12_copy_45 : decode cX12_copy 45 = .ok (.iload_n 2, 1) := by decide +kernel
theorem dX12_copy_46 : decode cX12_copy 46 = .ok (.iaload, 1) := by decide +kernel
theorem dX12_copy_47 : decode cX12_copy 47 = .ok (.iconst 2, 1) := by decide +kernel
theorem dX12_copy_48 : decode cX12_copy 48 = .ok (.if_icmp .eq 38, 3) := by decide +kernel
theorem dX12_copy_51 : decode cX12_copy 51 = .ok (.aload_n 0, 1) := by decide +kernel
theorem dX12_copy_52 : decode cX12_copy 52 = .ok (.getfield 7, 3) := by decide +kernel
theorem dX12_copy_55 : decode cX12_copy 55 = .ok (.iload_n 1, 1) := by decide +kernel
theorem dX12_copy_56 : decode cX12_copy 56 = .ok (.iaload, 1) := by decide +kernel
theorem dX12_copy_57 : decode cX12_copy 57 = .ok (.iconst 1, 1) := by decide +kernel
theorem dX12_copy_58 : decode cX12_copy 58 = .ok (.if_icmp .ne 35, 3) := by decide +kernel
theorem dX12_copy_61 : decode cX12_copy 61 = .ok (.aload_n 0, 1) := by decide +kernel
theorem dX12_copy_62 : decode cX12_copy 62 = .ok (.getfield 7, 3) := by decide +kernel
theorem dX12_copy_65 : decode cX12_copy 65 = .ok (.iload_n 2, 1) := by decide +kernel
theorem dX12_copy_66 : decode cX12_copy 66 = .ok (.iaload, 1) := by decide +kernel
theorem dX12_copy_67 : decode cX12_copy 67 = .ok (.iconst 1, 1) := by decide +kernel
theorem dX12_copy_68 : decode cX12_copy 68 = .ok (.if_icmp .ne 25, 3) := by decide +kernel
theorem dX12_copy_71 : decode cX12_copy 71 = .ok (.aload_n 0, 1) := by decide +kernel
theorem dX12_copy_72 : decode cX12_copy 72 = .ok (.getfield 13, 3) := by decide +kernel
theorem dX12_copy_75 : decode cX12_copy 75 = .ok (.iload_n 1, 1) := by decide +kernel
theorem dX12_copy_76 : decode cX12_copy 76 = .ok (.iaload, 1) := by decide +kernel
theorem dX12_copy_77 : decode cX12_copy 77 = .ok (.aload_n 0, 1) := by decide +kernel
theorem dX12_copy_78 : decode cX12_copy 78 = .ok (.getfield 13, 3) := by decide +kernel
theorem dX12_copy_81 : decode cX12_copy 81 = .ok (.iload_n 2, 1) := by decide +kernel
theorem dX12_copy_82 : decode cX12_copy 82 = .ok (.iaload, 1) := by decide +kernel
theorem dX12_copy_83 : decode cX12_copy 83 = .ok (.if_icmp .eq 10, 3) := by decide +kernel
theorem dX12_copy_86 : decode cX12_copy 86 = .ok (.aload_n 0, 1) := by decide +kernel
theorem dX12_copy_87 : decode cX12_copy 87 = .ok (.bipush (-3), 2) := by decide +kernel
theorem dX12_copy_89 : decode cX12_copy 89 = .ok (.invokevirtual 177, 3) := by decide +kernel
theorem dX12_copy_92 : decode cX12_copy 92 = .ok (.ireturn, 1) := by decide +kernel
theorem dX12_copy_93 : decode cX12_copy 93 = .ok (.aload_n 0, 1) := by decide +kernel
theorem dX12_copy_94 : decode cX12_copy 94 = .ok (.getfield 7, 3) := by decide +kernel
theorem dX12_copy_97 : decode cX12_copy 97 = .ok (.iload_n 1, 1) := by decide +kernel
theorem dX12_copy_98 : decode cX12_copy 98 = .ok (.iaload, 1) := by decide +kernel
theorem dX12_copy_99 : decode cX12_copy 99 = .ok (.ifCond .eq 12, 3) := by decide +kernel
theorem dX12_copy_102 : decode cX12_copy 102 = .ok (.aload_n 0, 1) := by decide +kernel
theorem dX12_copy_103 : decode cX12_copy 103 = .ok (.getfield 7, 3) := by decide +kernel
theorem dX12_copy_106 : decode cX12_copy 106 = .ok (.iload_n 2, 1) := by decide +kernel
theorem dX12_copy_107 : decode cX12_copy 107 = .ok (.iaload, 1) := by decide +kernel
theorem dX12_copy_108 : decode cX12_copy 108 = .ok (.ifCond .ne 10, 3) := by decide +kernel
theorem dX12_copy_111 : decode cX12_copy 111 = .ok (.aload_n 0, 1) := by decide +kernel
theorem dX12_copy_112 : decode cX12_copy 112 = .ok (.bipush (-4), 2) := by decide +kernel
theorem dX12_copy_114 : decode cX12_copy 114 = .ok (.invokevirtual 177, 3) := by decide +kernel
theorem dX12_copy_117 : decode cX12_copy 117 = .ok (.ireturn, 1) := by decide +kernel
theorem dX12_copy_118 : decode cX12_copy 118 = .ok (.iload 5, 2) := by decide +kernel
theorem dX12_copy_120 : decode cX12_copy 120 = .ok (.ifCond .lt 61, 3) := by decide +kernel
theorem dX12_copy_123 : decode cX12_copy 123 = .ok (.iload_n 3, 1) := by decide +kernel
theorem dX12_copy_124 : decode cX12_copy 124 = .ok (.ifCond .lt 57, 3) := by decide +kernel
theorem dX12_copy_127 : decode cX12_copy 127 = .ok (.iload 4, 2) := by decide +kernel
theorem dX12_copy_129 : decode cX12_copy 129 = .ok (.ifCond .lt 52, 3) := by decide +kernel
theorem dX12_copy_132 : decode cX12_copy 132 = .ok (.iload 5, 2) := by decide +kernel
theorem dX12_copy_134 : decode cX12_copy 134 = .ok (.aload_n 0, 1) := by decide +kernel
theorem dX12_copy_135 : decode cX12_copy 135 = .ok (.getfield 16, 3) := by decide +kernel
theorem dX12_copy_138 : decode cX12_copy 138 = .ok (.iload_n 1, 1) := by decide +kernel
theorem dX12_copy_139 : decode cX12_copy 139 = .ok (.iaload, 1) := by decide +kernel
theorem dX12_copy_140 : decode cX12_copy 140 = .ok (.if_icmp .gt 41, 3) := by decide +kernel
theorem dX12_copy_143 : decode cX12_copy 143 = .ok (.iload 5, 2) := by decide +kernel
theorem dX12_copy_145 : decode cX12_copy 145 = .ok (.aload_n 0, 1) := by decide +kernel
theorem dX12_copy_146 : decode cX12_copy 146 = .ok (.getfield 16, 3) := by decide +kernel
theorem dX12_copy_149 : decode cX12_copy 149 = .ok (.iload_n 2, 1) := by decide +kernel
theorem dX12_copy_150 : decode cX12_copy 150 = .ok (.iaload, 1) := by decide +kernel
theorem dX12_copy_151 : decode cX12_copy 151 = .ok (.if_icmp .gt 30, 3) := by decide +kernel
theorem dX12_copy_154 : decode cX12_copy 154 = .ok (.iload_n 3, 1) := by decide +kernel
theorem dX12_copy_155 : decode cX12_copy 155 = .ok (.aload_n 0, 1) := by decide +kernel
theorem dX12_copy_156 : decode cX12_copy 156 = .ok (.getfield 16, 3) := by decide +kernel
theorem dX12_copy_159 : decode cX12_copy 159 = .ok (.iload_n 1, 1) := by decide +kernel
theorem dX12_copy_160 : decode cX12_copy 160 = .ok (.iaload, 1) := by decide +kernel
theorem dX12_copy_161 : decode cX12_copy 161 = .ok (.iload 5, 2) := by decide +kernel
theorem dX12_copy_163 : decode cX12_copy 163 = .ok (.isub, 1) := by decide +kernel
theorem dX12_copy_164 : decode cX12_copy 164 = .ok (.if_icmp .gt 17, 3) := by decide +kernel
theorem dX12_copy_167 : decode cX12_copy 167 = .ok (.iload 4, 2) := by decide +kernel
theorem dX12_copy_169 : decode cX12_copy 169 = .ok (.aload_n 0, 1) := by decide +kernel
theorem dX12_copy_170 : decode cX12_copy 170 = .ok (.getfield 16, 3) := by decide +kernel
theorem dX12_copy_173 : decode cX12_copy 173 = .ok (.iload_n 2, 1) := by decide +kernel
theorem dX12_copy_174 : decode cX12_copy 174 = .ok (.iaload, 1) := by decide +kernel
theorem dX12_copy_175 : decode cX12_copy 175 = .ok (.iload 5, 2) := by decide +kernel
theorem dX12_copy_177 : decode cX12_copy 177 = .ok (.isub, 1) := by decide +kernel
theorem dX12_copy_178 : decode cX12_copy 178 = .ok (.if_icmp .le 10, 3) := by decide +kernel
theorem dX12_copy_181 : decode cX12_copy 181 = .ok (.aload_n 0, 1) := by decide +kernel
theorem dX12_copy_182 : decode cX12_copy 182 = .ok (.bipush (-2), 2) := by decide +kernel
theorem dX12_copy_184 : decode cX12_copy 184 = .ok (.invokevirtual 177, 3) := by decide +kernel
theorem dX12_copy_187 : decode cX12_copy 187 = .ok (.ireturn, 1) := by decide +kernel
theorem dX12_copy_188 : decode cX12_copy 188 = .ok (.iconst 0, 1) := by decide +kernel
theorem dX12_copy_189 : decode cX12_copy 189 = .ok (.istore 6, 2) := by decide +kernel
theorem dX12_copy_191 : decode cX12_copy 191 = .ok (.iload 6, 2) := by decide +kernel
theorem dX12_copy_193 : decode cX12_copy 193 = .ok (.iload 5, 2) := by decide +kernel
theorem dX12_copy_195 : decode cX12_copy 195 = .ok (.if_icmp .ge 27, 3) := by decide +kernel
theorem dX12_copy_198 : decode cX12_copy 198 = .ok (.aload_n 0, 1) := by decide +kernel
theorem dX12_copy_199 : decode cX12_copy 199 = .ok (.getfield 27, 3) := by decide +kernel
theorem dX12_copy_202 : decode cX12_copy 202 = .ok (.iload 6, 2) := by decide +kernel
theorem dX12_copy_204 : decode cX12_copy 204 = .ok (.aload_n 0, 1) := by decide +kernel
theorem dX12_copy_205 : decode cX12_copy 205 = .ok (.getfield 21, 3) := by decide +kernel
theorem dX12_copy_208 : decode cX12_copy 208 = .ok (.iload_n 1, 1) := by decide +kernel
theorem dX12_copy_209 : decode cX12_copy 209 = .ok (.aaload, 1) := by decide +kernel
theorem dX12_copy_210 : decode cX12_copy 210 = .ok (.iload_n 3, 1) := by decide +kernel
theorem dX12_copy_211 : decode cX12_copy 211 = .ok (.iload 6, 2) := by decide +kernel
theorem dX12_copy_213 : decode cX12_copy 213 = .ok (.iadd, 1) := by decide +kernel
theorem dX12_copy_214 : decode cX12_copy 214 = .ok (.laload, 1) := by decide +kernel
theorem dX12_copy_215 : decode cX12_copy 215 = .ok (.lastore, 1) := by decide +kernel
theorem dX12_copy_216 : decode cX12_copy 216 = .ok (.iinc 6 1, 3) := by decide +kernel
theorem dX12_copy_219 : decode cX12_copy 219 = .ok (.goto (-28), 3) := by decide +kernel
theorem dX12_copy_222 : decode cX12_copy 222 = .ok (.iconst 0, 1) := by decide +kernel
theorem dX12_copy_223 : decode cX12_copy 223 = .ok (.istore 6, 2) := by decide +kernel
theorem dX12_copy_225 : decode cX12_copy 225 = .ok (.iload 6, 2) := by decide +kernel
theorem dX12_copy_227 : decode cX12_copy 227 = .ok (.iload 5, 2) := by decide +kernel
theorem dX12_copy_229 : decode cX12_copy 229 = .ok (.if_icmp .ge 28, 3) := by decide +kernel
theorem dX12_copy_232 : decode cX12_copy 232 = .ok (.aload_n 0, 1) := by decide +kernel
theorem dX12_copy_233 : decode cX12_copy 233 = .ok (.getfield 21, 3) := by decide +kernel
theorem dX12_copy_236 : decode cX12_copy 236 = .ok (.iload_n 2, 1) := by decide +kernel
theorem dX12_copy_237 : decode cX12_copy 237 = .ok (.aaload, 1) := by decide +kernel
theorem dX12_copy_238 : decode cX12_copy 238 = .ok (.iload 4, 2) := by decide +kernel
theorem dX12_copy_240 : decode cX12_copy 240 = .ok (.iload 6, 2) := by decide +kernel
theorem dX12_copy_242 : decode cX12_copy 242 = .ok (.iadd, 1) := by decide +kernel
theorem dX12_copy_243 : decode cX12_copy 243 = .ok (.aload_n 0, 1) := by decide +kernel
theorem dX12_copy_244 : decode cX12_copy 244 = .ok (.getfield 27, 3) := by decide +kernel
theorem dX12_copy_247 : decode cX12_copy 247 = .ok (.iload 6, 2) := by decide +kernel
theorem dX12_copy_249 : decode cX12_copy 249 = .ok (.laload, 1) := by decide +kernel
theorem dX12_copy_250 : decode cX12_copy 250 = .ok (.lastore, 1) := by decide +kernel
theorem dX12_copy_251 : decode cX12_copy 251 = .ok (.iinc 6 1, 3) := by decide +kernel
theorem dX12_copy_254 : decode cX12_copy 254 = .ok (.goto (-29), 3) := by decide +kernel
theorem dX12_copy_257 : decode cX12_copy 257 = .ok (.iload 5, 2) := by decide +kernel
theorem dX12_copy_259 : decode cX12_copy 259 = .ok (.ireturn, 1) := by decide +kernel
theorem dX12_element_0 : decode cX12_element 0 = .ok (.iload_n 1, 1) := by decide +kernel
theorem dX12_element_1 : decode cX12_element 1 = .ok (.i2l, 1) := by decide +kernel
theorem dX12_element_2 : decode cX12_element 2 = .ok (.lconst 0, 1) := by decide +kernel
theorem dX12_element_3 : decode cX12_element 3 = .ok (.ldc2_w 171, 3) := by decide +kernel
theorem dX12_element_6 : decode cX12_element 6 = .ok (.invokestatic 159, 3) := by decide +kernel
theorem dX12_element_9 : decode cX12_element 9 = .ok (.ifCond .eq 42, 3) := by decide +kernel
theorem dX12_element_12 : decode cX12_element 12 = .ok (.aload_n 0, 1) := by decide +kernel
theorem dX12_element_13 : decode cX12_element 13 = .ok (.getfield 7, 3) := by decide +kernel
theorem dX12_element_16 : decode cX12_element 16 = .ok (.iload_n 1, 1) := by decide +kernel
theorem dX12_element_17 : decode cX12_element 17 = .ok (.iaload, 1) := by decide +kernel
theorem dX12_element_18 : decode cX12_element 18 = .ok (.iconst 1, 1) := by decide +kernel
theorem dX12_element_19 : decode cX12_element 19 = .ok (.if_icmp .ne 32, 3) := by decide +kernel
theorem dX12_element_22 : decode cX12_element 22 = .ok (.iload_n 2, 1) := by decide +kernel
theorem dX12_element_23 : decode cX12_element 23 = .ok (.i2l, 1) := by decide +kernel
theorem dX12_element_24 : decode cX12_element 24 = .ok (.lconst 0, 1) := by decide +kernel
theorem dX12_element_25 : decode cX12_element 25 = .ok (.aload_n 0, 1) := by decide +kernel
theorem dX12_element_26 : decode cX12_element 26 = .ok (.getfield 16, 3) := by decide +kernel
theorem dX12_element_29 : decode cX12_element 29 = .ok (.iload_n 1, 1) := by decide +kernel
theorem dX12_element_30 : decode cX12_element 30 = .ok (.iaload, 1) := by decide +kernel
theorem dX12_element_31 : decode cX12_element 31 = .ok (.iconst 1, 1) := by decide +kernel
theorem dX12_element_32 : decode cX12_element 32 = .ok (.isub, 1) := by decide +kernel
theorem dX12_element_33 : decode cX12_element 33 = .ok (.i2l, 1) := by decide +kernel
theorem dX12_element_34 : decode cX12_element 34 = .ok (.invokestatic 159, 3) := by decide +kernel
theorem dX12_element_37 : decode cX12_element 37 = .ok (.ifCond .eq 14, 3) := by decide +kernel
theorem dX12_element_40 : decode cX12_element 40 = .ok (.aload_n 0, 1) := by decide +kernel
theorem dX12_element_41 : decode cX12_element 41 = .ok (.getfield 21, 3) := by decide +kernel
theorem dX12_element_44 : decode cX12_element 44 = .ok (.iload_n 1, 1) := by decide +kernel
theorem dX12_element_45 : decode cX12_element 45 = .ok (.aaload, 1) := by decide +kernel
theorem dX12_element_46 : decode cX12_element 46 = .ok (.iload_n 2, 1) := by decide +kernel
theorem dX12_element_47 : decode cX12_element 47 = .ok (.laload, 1) := by decide +kernel
theorem dX12_element_48 : decode cX12_element 48 = .ok (.goto 4, 3) := by decide +kernel
theorem dX12_element_51 : decode cX12_element 51 = .ok (.lconst 0, 1) := by decide +kernel
theorem dX12_element_52 : decode cX12_element 52 = .ok (.lreturn, 1) := by decide +kernel
theorem dX12_holds_0 : decode cX12_holds 0 = .ok (.iload_n 1, 1) := by decide +kernel
theorem dX12_holds_1 : decode cX12_holds 1 = .ok (.i2l, 1) := by decide +kernel
theorem dX12_holds_2 : decode cX12_holds 2 = .ok (.lconst 0, 1) := by decide +kernel
theorem dX12_holds_3 : decode cX12_holds 3 = .ok (.ldc2_w 171, 3) := by decide +kernel
theorem dX12_holds_6 : decode cX12_holds 6 = .ok (.invokestatic 159, 3) := by decide +kernel
theorem dX12_holds_9 : decode cX12_holds 9 = .ok (.ifCond .eq 12, 3) := by decide +kernel
theorem dX12_holds_12 : decode cX12_holds 12 = .ok (.aload_n 0, 1) := by decide +kernel
theorem dX12_holds_13 : decode cX12_holds 13 = .ok (.getfield 7, 3) := by decide +kernel
theorem dX12_holds_16 : decode cX12_holds 16 = .ok (.iload_n 1, 1) := by decide +kernel
theorem dX12_holds_17 : decode cX12_holds 17 = .ok (.iaload, 1) := by decide +kernel
theorem dX12_holds_18 : decode cX12_holds 18 = .ok (.ifCond .ne 5, 3) := by decide +kernel
theorem dX12_holds_21 : decode cX12_holds 21 = .ok (.iconst (-1), 1) := by decide +kernel
theorem dX12_holds_22 : decode cX12_holds 22 = .ok (.ireturn, 1) := by decide +kernel
theorem dX12_holds_23 : decode cX12_holds 23 = .ok (.aload_n 0, 1) := by decide +kernel
theorem dX12_holds_24 : decode cX12_holds 24 = .ok (.getfield 7, 3) := by decide +kernel
theorem dX12_holds_27 : decode cX12_holds 27 = .ok (.iload_n 1, 1) := by decide +kernel
theorem dX12_holds_28 : decode cX12_holds 28 = .ok (.iaload, 1) := by decide +kernel
theorem dX12_holds_29 : decode cX12_holds 29 = .ok (.iconst 1, 1) := by decide +kernel
theorem dX12_holds_30 : decode cX12_holds 30 = .ok (.if_icmp .ne 12, 3) := by decide +kernel
theorem dX12_holds_33 : decode cX12_holds 33 = .ok (.aload_n 0, 1) := by decide +kernel
theorem dX12_holds_34 : decode cX12_holds 34 = .ok (.getfield 13, 3) := by decide +kernel
theorem dX12_holds_37 : decode cX12_holds 37 = .ok (.iload_n 1, 1) := by decide +kernel
theorem dX12_holds_38 : decode cX12_holds 38 = .ok (.iaload, 1) := by decide +kernel
theorem dX12_holds_39 : decode cX12_holds 39 = .ok (.goto 12, 3) := by decide +kernel
theorem dX12_holds_42 : decode cX12_holds 42 = .ok (.bipush 10, 2) := by decide +kernel
theorem dX12_holds_44 : decode cX12_holds 44 = .ok (.aload_n 0, 1) := by decide +kernel
theorem dX12_holds_45 : decode cX12_holds 45 = .ok (.getfield 24, 3) := by decide +kernel
theorem dX12_holds_48 : decode cX12_holds 48 = .ok (.iload_n 1, 1) := by decide +kernel
theorem dX12_holds_49 : decode cX12_holds 49 = .ok (.iaload, 1) := by decide +kernel
theorem dX12_holds_50 : decode cX12_holds 50 = .ok (.iadd, 1) := by decide +kernel
theorem dX12_holds_51 : decode cX12_holds 51 = .ok (.ireturn, 1) := by decide +kernel
theorem dX12_show_0 : decode cX12_show 0 = .ok (.iload_n 1, 1) := by decide +kernel
theorem dX12_show_1 : decode cX12_show 1 = .ok (.i2l, 1) := by decide +kernel
theorem dX12_show_2 : decode cX12_show 2 = .ok (.lconst 0, 1) := by decide +kernel
theorem dX12_show_3 : decode cX12_show 3 = .ok (.ldc2_w 171, 3) := by decide +kernel
theorem dX12_show_6 : decode cX12_show 6 = .ok (.invokestatic 159, 3) := by decide +kernel
theorem dX12_show_9 : decode cX12_show 9 = .ok (.ifCond .eq 16, 3) := by decide +kernel
theorem dX12_show_12 : decode cX12_show 12 = .ok (.iload_n 2, 1) := by decide +kernel
theorem dX12_show_13 : decode cX12_show 13 = .ok (.iconst (-1), 1) := by decide +kernel
theorem dX12_show_14 : decode cX12_show 14 = .ok (.if_icmp .eq 18, 3) := by decide +kernel
theorem dX12_show_17 : decode cX12_show 17 = .ok (.aload_n 0, 1) := by decide +kernel
theorem dX12_show_18 : decode cX12_show 18 = .ok (.iload_n 2, 1) := by decide +kernel
theorem dX12_show_19 : decode cX12_show 19 = .ok (.invokevirtual 163, 3) := by decide +kernel
theorem dX12_show_22 : decode cX12_show 22 = .ok (.ifCond .ne 10, 3) := by decide +kernel
theorem dX12_show_25 : decode cX12_show 25 = .ok (.aload_n 0, 1) := by decide +kernel
theorem dX12_show_26 : decode cX12_show 26 = .ok (.bipush (-2), 2) := by decide +kernel
theorem dX12_show_28 : decode cX12_show 28 = .ok (.invokevirtual 177, 3) := by decide +kernel
theorem dX12_show_31 : decode cX12_show 31 = .ok (.ireturn, 1) := by decide +kernel
theorem dX12_show_32 : decode cX12_show 32 = .ok (.aload_n 0, 1) := by decide +kernel
theorem dX12_show_33 : decode cX12_show 33 = .ok (.getfield 7, 3) := by decide +kernel
theorem dX12_show_36 : decode cX12_show 36 = .ok (.iload_n 1, 1) := by decide +kernel
theorem dX12_show_37 : decode cX12_show 37 = .ok (.iload_n 2, 1) := by decide +kernel
theorem dX12_show_38 : decode cX12_show 38 = .ok (.iconst (-1), 1) := by decide +kernel
theorem dX12_show_39 : decode cX12_show 39 = .ok (.if_icmp .ne 7, 3) := by decide +kernel
theorem dX12_show_42 : decode cX12_show 42 = .ok (.iconst 0, 1) := by decide +kernel
theorem dX12_show_43 : decode cX12_show 43 = .ok (.goto 4, 3) := by decide +kernel
theorem dX12_show_46 : decode cX12_show 46 = .ok (.iconst 2, 1) := by decide +kernel
theorem dX12_show_47 : decode cX12_show 47 = .ok (.iastore, 1) := by decide +kernel
theorem dX12_show_48 : decode cX12_show 48 = .ok (.aload_n 0, 1) := by decide +kernel
theorem dX12_show_49 : decode cX12_show 49 = .ok (.getfield 24, 3) := by decide +kernel
theorem dX12_show_52 : decode cX12_show 52 = .ok (.iload_n 1, 1) := by decide +kernel
theorem dX12_show_53 : decode cX12_show 53 = .ok (.iload_n 2, 1) := by decide +kernel
theorem dX12_show_54 : decode cX12_show 54 = .ok (.iastore, 1) := by decide +kernel
theorem dX12_show_55 : decode cX12_show 55 = .ok (.iconst 1, 1) := by decide +kernel
theorem dX12_show_56 : decode cX12_show 56 = .ok (.ireturn, 1) := by decide +kernel
theorem dX12_isUnder_0 : decode cX12_isUnder 0 = .ok (.iload_n 1, 1) := by decide +kernel
theorem dX12_isUnder_1 : decode cX12_isUnder 1 = .ok (.ifCond .eq 23, 3) := by decide +kernel
theorem dX12_isUnder_4 : decode cX12_isUnder 4 = .ok (.iload_n 0, 1) := by decide +kernel
theorem dX12_isUnder_5 : decode cX12_isUnder 5 = .ok (.iload_n 1, 1) := by decide +kernel
theorem dX12_isUnder_6 : decode cX12_isUnder 6 = .ok (.if_icmp .eq 18, 3) := by decide +kernel
theorem dX12_isUnder_9 : decode cX12_isUnder 9 = .ok (.iload_n 0, 1) := by decide +kernel
theorem dX12_isUnder_10 : decode cX12_isUnder 10 = .ok (.iconst 4, 1) := by decide +kernel
theorem dX12_isUnder_11 : decode cX12_isUnder 11 = .ok (.if_icmp .eq 17, 3) := by decide +kernel
theorem dX12_isUnder_14 : decode cX12_isUnder 14 = .ok (.iload_n 1, 1) := by decide +kernel
theorem dX12_isUnder_15 : decode cX12_isUnder 15 = .ok (.iconst 4, 1) := by decide +kernel
theorem dX12_isUnder_16 : decode cX12_isUnder 16 = .ok (.if_icmp .eq 12, 3) := by decide +kernel
theorem dX12_isUnder_19 : decode cX12_isUnder 19 = .ok (.iload_n 0, 1) := by decide +kernel
theorem dX12_isUnder_20 : decode cX12_isUnder 20 = .ok (.iload_n 1, 1) := by decide +kernel
theorem dX12_isUnder_21 : decode cX12_isUnder 21 = .ok (.if_icmp .le 7, 3) := by decide +kernel
theorem dX12_isUnder_24 : decode cX12_isUnder 24 = .ok (.iconst 1, 1) := by decide +kernel
theorem dX12_isUnder_25 : decode cX12_isUnder 25 = .ok (.goto 4, 3) := by decide +kernel
theorem dX12_isUnder_28 : decode cX12_isUnder 28 = .ok (.iconst 0, 1) := by decide +kernel
theorem dX12_isUnder_29 : decode cX12_isUnder 29 = .ok (.ireturn, 1) := by decide +kernel
theorem dX12_rowOf_0 : decode cX12_rowOf 0 = .ok (.iload_n 0, 1) := by decide +kernel
theorem dX12_rowOf_1 : decode cX12_rowOf 1 = .ok (.bipush 8, 2) := by decide +kernel
theorem dX12_rowOf_3 : decode cX12_rowOf 3 = .ok (.idiv, 1) := by decide +kernel
theorem dX12_rowOf_4 : decode cX12_rowOf 4 = .ok (.ireturn, 1) := by decide +kernel
theorem dX12_columnOf_0 : decode cX12_columnOf 0 = .ok (.iload_n 0, 1) := by decide +kernel
theorem dX12_columnOf_1 : decode cX12_columnOf 1 = .ok (.bipush 8, 2) := by decide +kernel
theorem dX12_columnOf_3 : decode cX12_columnOf 3 = .ok (.irem, 1) := by decide +kernel
theorem dX12_columnOf_4 : decode cX12_columnOf 4 = .ok (.ireturn, 1) := by decide +kernel
theorem dX12_isRim_0 : decode cX12_isRim 0 = .ok (.iload_n 0, 1) := by decide +kernel
theorem dX12_isRim_1 : decode cX12_isRim 1 = .ok (.invokestatic 185, 3) := by decide +kernel
theorem dX12_isRim_4 : decode cX12_isRim 4 = .ok (.ifCond .eq 28, 3) := by decide +kernel
theorem dX12_isRim_7 : decode cX12_isRim 7 = .ok (.iload_n 0, 1) := by decide +kernel
theorem dX12_isRim_8 : decode cX12_isRim 8 = .ok (.invokestatic 185, 3) := by decide +kernel
theorem dX12_isRim_11 : decode cX12_isRim 11 = .ok (.bipush 7, 2) := by decide +kernel
theorem dX12_isRim_13 : decode cX12_isRim 13 = .ok (.if_icmp .eq 19, 3) := by decide +kernel
theorem dX12_isRim_16 : decode cX12_isRim 16 = .ok (.iload_n 0, 1) := by decide +kernel
theorem dX12_isRim_17 : decode cX12_isRim 17 = .ok (.invokestatic 188, 3) := by decide +kernel
theorem dX12_isRim_20 : decode cX12_isRim 20 = .ok (.ifCond .eq 12, 3) := by decide +kernel
theorem dX12_isRim_23 : decode cX12_isRim 23 = .ok (.iload_n 0, 1) := by decide +kernel
theorem dX12_isRim_24 : decode cX12_isRim 24 = .ok (.invokestatic 188, 3) := by decide +kernel
theorem dX12_isRim_27 : decode cX12_isRim 27 = .ok (.bipush 7, 2) := by decide +kernel
theorem dX12_isRim_29 : decode cX12_isRim 29 = .ok (.if_icmp .ne 7, 3) := by decide +kernel
theorem dX12_isRim_32 : decode cX12_isRim 32 = .ok (.iconst 1, 1) := by decide +kernel
theorem dX12_isRim_33 : decode cX12_isRim 33 = .ok (.goto 4, 3) := by decide +kernel
theorem dX12_isRim_36 : decode cX12_isRim 36 = .ok (.iconst 0, 1) := by decide +kernel
theorem dX12_isRim_37 : decode cX12_isRim 37 = .ok (.ireturn, 1) := by decide +kernel
theorem dX12_count_0 : decode cX12_count 0 = .ok (.iconst 0, 1) := by decide +kernel
theorem dX12_count_1 : decode cX12_count 1 = .ok (.istore_n 2, 1) := by decide +kernel
theorem dX12_count_2 : decode cX12_count 2 = .ok (.iconst 0, 1) := by decide +kernel
theorem dX12_count_3 : decode cX12_count 3 = .ok (.istore_n 3, 1) := by decide +kernel
theorem dX12_count_4 : decode cX12_count 4 = .ok (.iload_n 3, 1) := by decide +kernel
theorem dX12_count_5 : decode cX12_count 5 = .ok (.bipush 64, 2) := by decide +kernel
theorem dX12_count_7 : decode cX12_count 7 = .ok (.if_icmp .ge 27, 3) := by decide +kernel
theorem dX12_count_10 : decode cX12_count 10 = .ok (.iload_n 2, 1) := by decide +kernel
theorem dX12_count_11 : decode cX12_count 11 = .ok (.lload_n 0, 1) := by decide +kernel
theorem dX12_count_12 : decode cX12_count 12 = .ok (.iload_n 3, 1) := by decide +kernel
theorem dX12_count_13 : decode cX12_count 13 = .ok (.lshr, 1) := by decide +kernel
theorem dX12_count_14 : decode cX12_count 14 = .ok (.lconst 1, 1) := by decide +kernel
theorem dX12_count_15 : decode cX12_count 15 = .ok (.land, 1) := by decide +kernel
theorem dX12_count_16 : decode cX12_count 16 = .ok (.lconst 0, 1) := by decide +kernel
theorem dX12_count_17 : decode cX12_count 17 = .ok (.lcmp, 1) := by decide +kernel
theorem dX12_count_18 : decode cX12_count 18 = .ok (.ifCond .eq 7, 3) := by decide +kernel
theorem dX12_count_21 : decode cX12_count 21 = .ok (.iconst 1, 1) := by decide +kernel
theorem dX12_count_22 : decode cX12_count 22 = .ok (.goto 4, 3) := by decide +kernel
theorem dX12_count_25 : decode cX12_count 25 = .ok (.iconst 0, 1) := by decide +kernel
theorem dX12_count_26 : decode cX12_count 26 = .ok (.iadd, 1) := by decide +kernel
theorem dX12_count_27 : decode cX12_count 27 = .ok (.istore_n 2, 1) := by decide +kernel
theorem dX12_count_28 : decode cX12_count 28 = .ok (.iinc 3 1, 3) := by decide +kernel
theorem dX12_count_31 : decode cX12_count 31 = .ok (.goto (-27), 3) := by decide +kernel
theorem dX12_count_34 : decode cX12_count 34 = .ok (.iload_n 2, 1) := by decide +kernel
theorem dX12_count_35 : decode cX12_count 35 = .ok (.ireturn, 1) := by decide +kernel
theorem dX12_says_0 : decode cX12_says 0 = .ok (.iload_n 1, 1) := by decide +kernel
theorem dX12_says_1 : decode cX12_says 1 = .ok (.i2l, 1) := by decide +kernel
theorem dX12_says_2 : decode cX12_says 2 = .ok (.lconst 0, 1) := by decide +kernel
theorem dX12_says_3 : decode cX12_says 3 = .ok (.ldc2_w 171, 3) := by decide +kernel
theorem dX12_says_6 : decode cX12_says 6 = .ok (.invokestatic 159, 3) := by decide +kernel
theorem dX12_says_9 : decode cX12_says 9 = .ok (.ifCond .eq 15, 3) := by decide +kernel
theorem dX12_says_12 : decode cX12_says 12 = .ok (.iload_n 2, 1) := by decide +kernel
theorem dX12_says_13 : decode cX12_says 13 = .ok (.i2l, 1) := by decide +kernel
theorem dX12_says_14 : decode cX12_says 14 = .ok (.lconst 0, 1) := by decide +kernel
theorem dX12_says_15 : decode cX12_says 15 = .ok (.ldc2_w 173, 3) := by decide +kernel
theorem dX12_says_18 : decode cX12_says 18 = .ok (.invokestatic 159, 3) := by decide +kernel
theorem dX12_says_21 : decode cX12_says 21 = .ok (.ifCond .ne 10, 3) := by decide +kernel
theorem dX12_says_24 : decode cX12_says 24 = .ok (.aload_n 0, 1) := by decide +kernel
theorem dX12_says_25 : decode cX12_says 25 = .ok (.bipush (-2), 2) := by decide +kernel
theorem dX12_says_27 : decode cX12_says 27 = .ok (.invokevirtual 177, 3) := by decide +kernel
theorem dX12_says_30 : decode cX12_says 30 = .ok (.ireturn, 1) := by decide +kernel
theorem dX12_says_31 : decode cX12_says 31 = .ok (.aload_n 0, 1) := by decide +kernel
theorem dX12_says_32 : decode cX12_says 32 = .ok (.getfield 7, 3) := by decide +kernel
theorem dX12_says_35 : decode cX12_says 35 = .ok (.iload_n 1, 1) := by decide +kernel
theorem dX12_says_36 : decode cX12_says 36 = .ok (.iaload, 1) := by decide +kernel
theorem dX12_says_37 : decode cX12_says 37 = .ok (.iconst 1, 1) := by decide +kernel
theorem dX12_says_38 : decode cX12_says 38 = .ok (.if_icmp .eq 31, 3) := by decide +kernel
theorem dX12_says_41 : decode cX12_says 41 = .ok (.aload_n 0, 1) := by decide +kernel
theorem dX12_says_42 : decode cX12_says 42 = .ok (.getfield 7, 3) := by decide +kernel
theorem dX12_says_45 : decode cX12_says 45 = .ok (.iload_n 1, 1) := by decide +kernel
theorem dX12_says_46 : decode cX12_says 46 = .ok (.iaload, 1) := by decide +kernel
theorem dX12_says_47 : decode cX12_says 47 = .ok (.iconst 2, 1) := by decide +kernel
theorem dX12_says_48 : decode cX12_says 48 = .ok (.if_icmp .ne 28, 3) := by decide +kernel
theorem dX12_says_51 : decode cX12_says 51 = .ok (.aload_n 0, 1) := by decide +kernel
theorem dX12_says_52 : decode cX12_says 52 = .ok (.getfield 37, 3) := by decide +kernel
theorem dX12_says_55 : decode cX12_says 55 = .ok (.aload_n 0, 1) := by decide +kernel
theorem dX12_says_56 : decode cX12_says 56 = .ok (.getfield 24, 3) := by decide +kernel
theorem dX12_says_59 : decode cX12_says 59 = .ok (.iload_n 1, 1) := by decide +kernel
theorem dX12_says_60 : decode cX12_says 60 = .ok (.iaload, 1) := by decide +kernel
theorem dX12_says_61 : decode cX12_says 61 = .ok (.iaload, 1) := by decide +kernel
theorem dX12_says_62 : decode cX12_says 62 = .ok (.iload_n 2, 1) := by decide +kernel
theorem dX12_says_63 : decode cX12_says 63 = .ok (.invokestatic 191, 3) := by decide +kernel
theorem dX12_says_66 : decode cX12_says 66 = .ok (.ifCond .ne 10, 3) := by decide +kernel
theorem dX12_says_69 : decode cX12_says 69 = .ok (.aload_n 0, 1) := by decide +kernel
theorem dX12_says_70 : decode cX12_says 70 = .ok (.bipush (-3), 2) := by decide +kernel
theorem dX12_says_72 : decode cX12_says 72 = .ok (.invokevirtual 177, 3) := by decide +kernel
theorem dX12_says_75 : decode cX12_says 75 = .ok (.ireturn, 1) := by decide +kernel
theorem dX12_says_76 : decode cX12_says 76 = .ok (.aload_n 0, 1) := by decide +kernel
theorem dX12_says_77 : decode cX12_says 77 = .ok (.getfield 7, 3) := by decide +kernel
theorem dX12_says_80 : decode cX12_says 80 = .ok (.iload_n 1, 1) := by decide +kernel
theorem dX12_says_81 : decode cX12_says 81 = .ok (.iaload, 1) := by decide +kernel
theorem dX12_says_82 : decode cX12_says 82 = .ok (.ifCond .ne 10, 3) := by decide +kernel
theorem dX12_says_85 : decode cX12_says 85 = .ok (.aload_n 0, 1) := by decide +kernel
theorem dX12_says_86 : decode cX12_says 86 = .ok (.bipush (-4), 2) := by decide +kernel
theorem dX12_says_88 : decode cX12_says 88 = .ok (.invokevirtual 177, 3) := by decide +kernel
theorem dX12_says_91 : decode cX12_says 91 = .ok (.ireturn, 1) := by decide +kernel
theorem dX12_says_92 : decode cX12_says 92 = .ok (.aload_n 0, 1) := by decide +kernel
theorem dX12_says_93 : decode cX12_says 93 = .ok (.getfield 24, 3) := by decide +kernel
theorem dX12_says_96 : decode cX12_says 96 = .ok (.iload_n 1, 1) := by decide +kernel
theorem dX12_says_97 : decode cX12_says 97 = .ok (.iaload, 1) := by decide +kernel
theorem dX12_says_98 : decode cX12_says 98 = .ok (.istore_n 3, 1) := by decide +kernel
theorem dX12_says_99 : decode cX12_says 99 = .ok (.iload_n 2, 1) := by decide +kernel
theorem dX12_says_100 : decode cX12_says 100 = .ok (.tableswitch 142 0 3 #[32, 34, 44, 100], 32) := by decide +kernel
theorem dX12_says_132 : decode cX12_says 132 = .ok (.iload_n 3, 1) := by decide +kernel
theorem dX12_says_133 : decode cX12_says 133 = .ok (.ireturn, 1) := by decide +kernel
theorem dX12_says_134 : decode cX12_says 134 = .ok (.aload_n 0, 1) := by decide +kernel
theorem dX12_says_135 : decode cX12_says 135 = .ok (.getfield 49, 3) := by decide +kernel
theorem dX12_says_138 : decode cX12_says 138 = .ok (.iload_n 3, 1) := by decide +kernel
theorem dX12_says_139 : decode cX12_says 139 = .ok (.laload, 1) := by decide +kernel
theorem dX12_says_140 : decode cX12_says 140 = .ok (.invokestatic 195, 3) := by decide +kernel
theorem dX12_says_143 : decode cX12_says 143 = .ok (.ireturn, 1) := by decide +kernel
theorem dX12_says_144 : decode cX12_says 144 = .ok (.iconst 0, 1) := by decide +kernel
theorem dX12_says_145 : decode cX12_says 145 = .ok (.istore 4, 2) := by decide +kernel
theorem dX12_says_147 : decode cX12_says 147 = .ok (.iconst 0, 1) := by decide +kernel
theorem dX12_says_148 : decode cX12_says 148 = .ok (.istore 5, 2) := by decide +kernel
theorem dX12_says_150 : decode cX12_says 150 = .ok (.iload 5, 2) := by decide +kernel
theorem dX12_says_152 : decode cX12_says 152 = .ok (.bipush 64, 2) := by decide +kernel
theorem dX12_says_154 : decode cX12_says 154 = .ok (.if_icmp .ge 43, 3) := by decide +kernel
theorem dX12_says_157 : decode cX12_says 157 = .ok (.iload 4, 2) := by decide +kernel
theorem dX12_says_159 : decode cX12_says 159 = .ok (.aload_n 0, 1) := by decide +kernel
theorem dX12_says_160 : decode cX12_says 160 = .ok (.getfield 49, 3) := by decide +kernel
theorem dX12_says_163 : decode cX12_says 163 = .ok (.iload_n 3, 1) := by decide +kernel
theorem dX12_says_164 : decode cX12_says 164 = .ok (.laload, 1) := by decide +kernel
theorem dX12_says_165 : decode cX12_says 165 = .ok (.iload 5, 2) := by decide +kernel
theorem dX12_says_167 : decode cX12_says 167 = .ok (.lshr, 1) := by decide +kernel
theorem dX12_says_168 : decode cX12_says 168 = .ok (.lconst 1, 1) := by decide +kernel
theorem dX12_says_169 : decode cX12_says 169 = .ok (.land, 1) := by decide +kernel
theorem dX12_says_170 : decode cX12_says 170 = .ok (.lconst 0, 1) := by decide +kernel
theorem dX12_says_171 : decode cX12_says 171 = .ok (.lcmp, 1) := by decide +kernel
theorem dX12_says_172 : decode cX12_says 172 = .ok (.ifCond .eq 15, 3) := by decide +kernel
theorem dX12_says_175 : decode cX12_says 175 = .ok (.iload 5, 2) := by decide +kernel
theorem dX12_says_177 : decode cX12_says 177 = .ok (.invokestatic 199, 3) := by decide +kernel
theorem dX12_says_180 : decode cX12_says 180 = .ok (.ifCond .eq 7, 3) := by decide +kernel
theorem dX12_says_183 : decode cX12_says 183 = .ok (.iconst 1, 1) := by decide +kernel
theorem dX12_says_184 : decode cX12_says 184 = .ok (.goto 4, 3) := by decide +kernel
theorem dX12_says_187 : decode cX12_says 187 = .ok (.iconst 0, 1) := by decide +kernel
theorem dX12_says_188 : decode cX12_says 188 = .ok (.iadd, 1) := by decide +kernel
theorem dX12_says_189 : decode cX12_says 189 = .ok (.istore 4, 2) := by decide +kernel
theorem dX12_says_191 : decode cX12_says 191 = .ok (.iinc 5 1, 3) := by decide +kernel
theorem dX12_says_194 : decode cX12_says 194 = .ok (.goto (-44), 3) := by decide +kernel
theorem dX12_says_197 : decode cX12_says 197 = .ok (.iload 4, 2) := by decide +kernel
theorem dX12_says_199 : decode cX12_says 199 = .ok (.ireturn, 1) := by decide +kernel
theorem dX12_says_200 : decode cX12_says 200 = .ok (.aload_n 0, 1) := by decide +kernel
theorem dX12_says_201 : decode cX12_says 201 = .ok (.getfield 49, 3) := by decide +kernel
theorem dX12_says_204 : decode cX12_says 204 = .ok (.iload_n 3, 1) := by decide +kernel
theorem dX12_says_205 : decode cX12_says 205 = .ok (.laload, 1) := by decide +kernel
theorem dX12_says_206 : decode cX12_says 206 = .ok (.lconst 0, 1) := by decide +kernel
theorem dX12_says_207 : decode cX12_says 207 = .ok (.lcmp, 1) := by decide +kernel
theorem dX12_says_208 : decode cX12_says 208 = .ok (.ifCond .ne 7, 3) := by decide +kernel
theorem dX12_says_211 : decode cX12_says 211 = .ok (.iconst (-1), 1) := by decide +kernel
theorem dX12_says_212 : decode cX12_says 212 = .ok (.goto 29, 3) := by decide +kernel
theorem dX12_says_215 : decode cX12_says 215 = .ok (.bipush 100, 2) := by decide +kernel
theorem dX12_says_217 : decode cX12_says 217 = .ok (.aload_n 0, 1) := by decide +kernel
theorem dX12_says_218 : decode cX12_says 218 = .ok (.getfield 49, 3) := by decide +kernel
theorem dX12_says_221 : decode cX12_says 221 = .ok (.iload_n 3, 1) := by decide +kernel
theorem dX12_says_222 : decode cX12_says 222 = .ok (.laload, 1) := by decide +kernel
theorem dX12_says_223 : decode cX12_says 223 = .ok (.iconst 1, 1) := by decide +kernel
theorem dX12_says_224 : decode cX12_says 224 = .ok (.iconst 1, 1) := by decide +kernel
theorem dX12_says_225 : decode cX12_says 225 = .ok (.invokestatic 202, 3) := by decide +kernel
theorem dX12_says_228 : decode cX12_says 228 = .ok (.imul, 1) := by decide +kernel
theorem dX12_says_229 : decode cX12_says 229 = .ok (.aload_n 0, 1) := by decide +kernel
theorem dX12_says_230 : decode cX12_says 230 = .ok (.getfield 49, 3) := by decide +kernel
theorem dX12_says_233 : decode cX12_says 233 = .ok (.iload_n 3, 1) := by decide +kernel
theorem dX12_says_234 : decode cX12_says 234 = .ok (.laload, 1) := by decide +kernel
theorem dX12_says_235 : decode cX12_says 235 = .ok (.iconst 0, 1) := by decide +kernel
theorem dX12_says_236 : decode cX12_says 236 = .ok (.iconst 1, 1) := by decide +kernel
theorem dX12_says_237 : decode cX12_says 237 = .ok (.invokestatic 202, 3) := by decide +kernel
theorem dX12_says_240 : decode cX12_says 240 = .ok (.iadd, 1) := by decide +kernel
theorem dX12_says_241 : decode cX12_says 241 = .ok (.ireturn, 1) := by decide +kernel
theorem dX12_says_242 : decode cX12_says 242 = .ok (.aload_n 0, 1) := by decide +kernel
theorem dX12_says_243 : decode cX12_says 243 = .ok (.getfield 46, 3) := by decide +kernel
theorem dX12_says_246 : decode cX12_says 246 = .ok (.iload_n 3, 1) := by decide +kernel
theorem dX12_says_247 : decode cX12_says 247 = .ok (.iaload, 1) := by decide +kernel
theorem dX12_says_248 : decode cX12_says 248 = .ok (.ireturn, 1) := by decide +kernel
theorem dX12_edgeOf_0 : decode cX12_edgeOf 0 = .ok (.iconst (-1), 1) := by decide +kernel
theorem dX12_edgeOf_1 : decode cX12_edgeOf 1 = .ok (.istore 4, 2) := by decide +kernel
theorem dX12_edgeOf_3 : decode cX12_edgeOf 3 = .ok (.iconst 0, 1) := by decide +kernel
theorem dX12_edgeOf_4 : decode cX12_edgeOf 4 = .ok (.istore 5, 2) := by decide +kernel
theorem dX12_edgeOf_6 : decode cX12_edgeOf 6 = .ok (.iload 5, 2) := by decide +kernel
theorem dX12_edgeOf_8 : decode cX12_edgeOf 8 = .ok (.bipush 64, 2) := by decide +kernel
theorem dX12_edgeOf_10 : decode cX12_edgeOf 10 = .ok (.if_icmp .ge 75, 3) := by decide +kernel
theorem dX12_edgeOf_13 : decode cX12_edgeOf 13 = .ok (.lload_n 0, 1) := by decide +kernel
theorem dX12_edgeOf_14 : decode cX12_edgeOf 14 = .ok (.iload 5, 2) := by decide +kernel
theorem dX12_edgeOf_16 : decode cX12_edgeOf 16 = .ok (.lshr, 1) := by decide +kernel
theorem dX12_edgeOf_17 : decode cX12_edgeOf 17 = .ok (.lconst 1, 1) := by decide +kernel
theorem dX12_edgeOf_18 : decode cX12_edgeOf 18 = .ok (.land, 1) := by decide +kernel
theorem dX12_edgeOf_19 : decode cX12_edgeOf 19 = .ok (.lconst 0, 1) := by decide +kernel
theorem dX12_edgeOf_20 : decode cX12_edgeOf 20 = .ok (.lcmp, 1) := by decide +kernel
theorem dX12_edgeOf_21 : decode cX12_edgeOf 21 = .ok (.ifCond .eq 58, 3) := by decide +kernel
theorem dX12_edgeOf_24 : decode cX12_edgeOf 24 = .ok (.iload_n 2, 1) := by decide +kernel
theorem dX12_edgeOf_25 : decode cX12_edgeOf 25 = .ok (.ifCond .eq 11, 3) := by decide +kernel
theorem dX12_edgeOf_28 : decode cX12_edgeOf 28 = .ok (.iload 5, 2) := by decide +kernel
theorem dX12_edgeOf_30 : decode cX12_edgeOf 30 = .ok (.invokestatic 185, 3) := by decide +kernel
theorem dX12_edgeOf_33 : decode cX12_edgeOf 33 = .ok (.goto 8, 3) := by decide +kernel
theorem dX12_edgeOf_36 : decode cX12_edgeOf 36 = .ok (.iload 5, 2) := by decide +kernel
theorem dX12_edgeOf_38 : decode cX12_edgeOf 38 = .ok (.invokestatic 188, 3) := by decide +kernel
theorem dX12_edgeOf_41 : decode cX12_edgeOf 41 = .ok (.istore 6, 2) := by decide +kernel
theorem dX12_edgeOf_43 : decode cX12_edgeOf 43 = .ok (.iload 4, 2) := by decide +kernel
theorem dX12_edgeOf_45 : decode cX12_edgeOf 45 = .ok (.iconst (-1), 1) := by decide +kernel
theorem dX12_edgeOf_46 : decode cX12_edgeOf 46 = .ok (.if_icmp .eq 24, 3) := by decide +kernel
theorem dX12_edgeOf_49 : decode cX12_edgeOf 49 = .ok (.iload_n 3, 1) := by decide +kernel
theorem dX12_edgeOf_50 : decode cX12_edgeOf 50 = .ok (.ifCond .eq 13, 3) := by decide +kernel
theorem dX12_edgeOf_53 : decode cX12_edgeOf 53 = .ok (.iload 6, 2) := by decide +kernel
theorem dX12_edgeOf_55 : decode cX12_edgeOf 55 = .ok (.iload 4, 2) := by decide +kernel
theorem dX12_edgeOf_57 : decode cX12_edgeOf 57 = .ok (.if_icmp .ge 18, 3) := by decide +kernel
theorem dX12_edgeOf_60 : decode cX12_edgeOf 60 = .ok (.goto 10, 3) := by decide +kernel
theorem dX12_edgeOf_63 : decode cX12_edgeOf 63 = .ok (.iload 6, 2) := by decide +kernel
theorem dX12_edgeOf_65 : decode cX12_edgeOf 65 = .ok (.iload 4, 2) := by decide +kernel
theorem dX12_edgeOf_67 : decode cX12_edgeOf 67 = .ok (.if_icmp .le 8, 3) := by decide +kernel
theorem dX12_edgeOf_70 : decode cX12_edgeOf 70 = .ok (.iload 6, 2) := by decide +kernel
theorem dX12_edgeOf_72 : decode cX12_edgeOf 72 = .ok (.goto 5, 3) := by decide +kernel
theorem dX12_edgeOf_75 : decode cX12_edgeOf 75 = .ok (.iload 4, 2) := by decide +kernel
theorem dX12_edgeOf_77 : decode cX12_edgeOf 77 = .ok (.istore 4, 2) := by decide +kernel
theorem dX12_edgeOf_79 : decode cX12_edgeOf 79 = .ok (.iinc 5 1, 3) := by decide +kernel
theorem dX12_edgeOf_82 : decode cX12_edgeOf 82 = .ok (.goto (-76), 3) := by decide +kernel
theorem dX12_edgeOf_85 : decode cX12_edgeOf 85 = .ok (.iload 4, 2) := by decide +kernel
theorem dX12_edgeOf_87 : decode cX12_edgeOf 87 = .ok (.ireturn, 1) := by decide +kernel
theorem dX12_newField_0 : decode cX12_newField 0 = .ok (.aload_n 0, 1) := by decide +kernel
theorem dX12_newField_1 : decode cX12_newField 1 = .ok (.getfield 37, 3) := by decide +kernel
theorem dX12_newField_4 : decode cX12_newField 4 = .ok (.aload_n 0, 1) := by decide +kernel
theorem dX12_newField_5 : decode cX12_newField 5 = .ok (.getfield 156, 3) := by decide +kernel
theorem dX12_newField_8 : decode cX12_newField 8 = .ok (.iload_n 1, 1) := by decide +kernel
theorem dX12_newField_9 : decode cX12_newField 9 = .ok (.iastore, 1) := by decide +kernel
theorem dX12_newField_10 : decode cX12_newField 10 = .ok (.aload_n 0, 1) := by decide +kernel
theorem dX12_newField_11 : decode cX12_newField 11 = .ok (.getfield 40, 3) := by decide +kernel
theorem dX12_newField_14 : decode cX12_newField 14 = .ok (.aload_n 0, 1) := by decide +kernel
theorem dX12_newField_15 : decode cX12_newField 15 = .ok (.getfield 156, 3) := by decide +kernel
theorem dX12_newField_18 : decode cX12_newField 18 = .ok (.iload_n 2, 1) := by decide +kernel
theorem dX12_newField_19 : decode cX12_newField 19 = .ok (.iastore, 1) := by decide +kernel
theorem dX12_newField_20 : decode cX12_newField 20 = .ok (.aload_n 0, 1) := by decide +kernel
theorem dX12_newField_21 : decode cX12_newField 21 = .ok (.getfield 43, 3) := by decide +kernel
theorem dX12_newField_24 : decode cX12_newField 24 = .ok (.aload_n 0, 1) := by decide +kernel
theorem dX12_newField_25 : decode cX12_newField 25 = .ok (.getfield 156, 3) := by decide +kernel
theorem dX12_newField_28 : decode cX12_newField 28 = .ok (.iconst (-1), 1) := by decide +kernel
theorem dX12_newField_29 : decode cX12_newField 29 = .ok (.iastore, 1) := by decide +kernel
theorem dX12_newField_30 : decode cX12_newField 30 = .ok (.aload_n 0, 1) := by decide +kernel
theorem dX12_newField_31 : decode cX12_newField 31 = .ok (.getfield 46, 3) := by decide +kernel
theorem dX12_newField_34 : decode cX12_newField 34 = .ok (.aload_n 0, 1) := by decide +kernel
theorem dX12_newField_35 : decode cX12_newField 35 = .ok (.getfield 156, 3) := by decide +kernel
theorem dX12_newField_38 : decode cX12_newField 38 = .ok (.iconst (-1), 1) := by decide +kernel
theorem dX12_newField_39 : decode cX12_newField 39 = .ok (.iastore, 1) := by decide +kernel
theorem dX12_newField_40 : decode cX12_newField 40 = .ok (.aload_n 0, 1) := by decide +kernel
theorem dX12_newField_41 : decode cX12_newField 41 = .ok (.getfield 49, 3) := by decide +kernel
theorem dX12_newField_44 : decode cX12_newField 44 = .ok (.aload_n 0, 1) := by decide +kernel
theorem dX12_newField_45 : decode cX12_newField 45 = .ok (.getfield 156, 3) := by decide +kernel
theorem dX12_newField_48 : decode cX12_newField 48 = .ok (.lconst 0, 1) := by decide +kernel
theorem dX12_newField_49 : decode cX12_newField 49 = .ok (.lastore, 1) := by decide +kernel
theorem dX12_newField_50 : decode cX12_newField 50 = .ok (.aload_n 0, 1) := by decide +kernel
theorem dX12_newField_51 : decode cX12_newField 51 = .ok (.dup, 1) := by decide +kernel
theorem dX12_newField_52 : decode cX12_newField 52 = .ok (.getfield 156, 3) := by decide +kernel
theorem dX12_newField_55 : decode cX12_newField 55 = .ok (.iconst 1, 1) := by decide +kernel
theorem dX12_newField_56 : decode cX12_newField 56 = .ok (.iadd, 1) := by decide +kernel
theorem dX12_newField_57 : decode cX12_newField 57 = .ok (.putfield 156, 3) := by decide +kernel
theorem dX12_newField_60 : decode cX12_newField 60 = .ok (.aload_n 0, 1) := by decide +kernel
theorem dX12_newField_61 : decode cX12_newField 61 = .ok (.iconst 0, 1) := by decide +kernel
theorem dX12_newField_62 : decode cX12_newField 62 = .ok (.putfield 206, 3) := by decide +kernel
theorem dX12_newField_65 : decode cX12_newField 65 = .ok (.return_, 1) := by decide +kernel
theorem dX12_field_0 : decode cX12_field 0 = .ok (.iload_n 1, 1) := by decide +kernel
theorem dX12_field_1 : decode cX12_field 1 = .ok (.i2l, 1) := by decide +kernel
theorem dX12_field_2 : decode cX12_field 2 = .ok (.lconst 0, 1) := by decide +kernel
theorem dX12_field_3 : decode cX12_field 3 = .ok (.ldc2_w 210, 3) := by decide +kernel
theorem dX12_field_6 : decode cX12_field 6 = .ok (.invokestatic 159, 3) := by decide +kernel
theorem dX12_field_9 : decode cX12_field 9 = .ok (.ifCond .eq 10, 3) := by decide +kernel
theorem dX12_field_12 : decode cX12_field 12 = .ok (.iload_n 2, 1) := by decide +kernel
theorem dX12_field_13 : decode cX12_field 13 = .ok (.invokestatic 212, 3) := by decide +kernel
theorem dX12_field_16 : decode cX12_field 16 = .ok (.ifCond .ne 10, 3) := by decide +kernel
theorem dX12_field_19 : decode cX12_field 19 = .ok (.aload_n 0, 1) := by decide +kernel
theorem dX12_field_20 : decode cX12_field 20 = .ok (.bipush (-2), 2) := by decide +kernel
theorem dX12_field_22 : decode cX12_field 22 = .ok (.invokevirtual 177, 3) := by decide +kernel
theorem dX12_field_25 : decode cX12_field 25 = .ok (.ireturn, 1) := by decide +kernel
theorem dX12_field_26 : decode cX12_field 26 = .ok (.aload_n 0, 1) := by decide +kernel
theorem dX12_field_27 : decode cX12_field 27 = .ok (.getfield 156, 3) := by decide +kernel
theorem dX12_field_30 : decode cX12_field 30 = .ok (.bipush 10, 2) := by decide +kernel
theorem dX12_field_32 : decode cX12_field 32 = .ok (.if_icmp .ne 10, 3) := by decide +kernel
theorem dX12_field_35 : decode cX12_field 35 = .ok (.aload_n 0, 1) := by decide +kernel
theorem dX12_field_36 : decode cX12_field 36 = .ok (.bipush (-6), 2) := by decide +kernel
theorem dX12_field_38 : decode cX12_field 38 = .ok (.invokevirtual 177, 3) := by decide +kernel
theorem dX12_field_41 : decode cX12_field 41 = .ok (.ireturn, 1) := by decide +kernel
theorem dX12_field_42 : decode cX12_field 42 = .ok (.aload_n 0, 1) := by decide +kernel
theorem dX12_field_43 : decode cX12_field 43 = .ok (.iload_n 1, 1) := by decide +kernel
theorem dX12_field_44 : decode cX12_field 44 = .ok (.iload_n 2, 1) := by decide +kernel
theorem dX12_field_45 : decode cX12_field 45 = .ok (.invokevirtual 215, 3) := by decide +kernel
theorem dX12_field_48 : decode cX12_field 48 = .ok (.aload_n 0, 1) := by decide +kernel
theorem dX12_field_49 : decode cX12_field 49 = .ok (.getfield 156, 3) := by decide +kernel
theorem dX12_field_52 : decode cX12_field 52 = .ok (.iconst 1, 1) := by decide +kernel
theorem dX12_field_53 : decode cX12_field 53 = .ok (.isub, 1) := by decide +kernel
theorem dX12_field_54 : decode cX12_field 54 = .ok (.ireturn, 1) := by decide +kernel
theorem dX12_fieldOf_0 : decode cX12_fieldOf 0 = .ok (.aload_n 0, 1) := by decide +kernel
theorem dX12_fieldOf_1 : decode cX12_fieldOf 1 = .ok (.iload_n 1, 1) := by decide +kernel
theorem dX12_fieldOf_2 : decode cX12_fieldOf 2 = .ok (.invokevirtual 163, 3) := by decide +kernel
theorem dX12_fieldOf_5 : decode cX12_fieldOf 5 = .ok (.ifCond .eq 15, 3) := by decide +kernel
theorem dX12_fieldOf_8 : decode cX12_fieldOf 8 = .ok (.iload_n 2, 1) := by decide +kernel
theorem dX12_fieldOf_9 : decode cX12_fieldOf 9 = .ok (.i2l, 1) := by decide +kernel
theorem dX12_fieldOf_10 : decode cX12_fieldOf 10 = .ok (.lconst 0, 1) := by decide +kernel
theorem dX12_fieldOf_11 : decode cX12_fieldOf 11 = .ok (.ldc2_w 210, 3) := by decide +kernel
theorem dX12_fieldOf_14 : decode cX12_fieldOf 14 = .ok (.invokestatic 159, 3) := by decide +kernel
theorem dX12_fieldOf_17 : decode cX12_fieldOf 17 = .ok (.ifCond .ne 10, 3) := by decide +kernel
theorem dX12_fieldOf_20 : decode cX12_fieldOf 20 = .ok (.aload_n 0, 1) := by decide +kernel
theorem dX12_fieldOf_21 : decode cX12_fieldOf 21 = .ok (.bipush (-2), 2) := by decide +kernel
theorem dX12_fieldOf_23 : decode cX12_fieldOf 23 = .ok (.invokevirtual 177, 3) := by decide +kernel
theorem dX12_fieldOf_26 : decode cX12_fieldOf 26 = .ok (.ireturn, 1) := by decide +kernel
theorem dX12_fieldOf_27 : decode cX12_fieldOf 27 = .ok (.iload_n 2, 1) := by decide +kernel
theorem dX12_fieldOf_28 : decode cX12_fieldOf 28 = .ok (.tableswitch 49 0 2 #[28, 35, 42], 28) := by decide +kernel
theorem dX12_fieldOf_56 : decode cX12_fieldOf 56 = .ok (.aload_n 0, 1) := by decide +kernel
theorem dX12_fieldOf_57 : decode cX12_fieldOf 57 = .ok (.getfield 37, 3) := by decide +kernel
theorem dX12_fieldOf_60 : decode cX12_fieldOf 60 = .ok (.iload_n 1, 1) := by decide +kernel
theorem dX12_fieldOf_61 : decode cX12_fieldOf 61 = .ok (.iaload, 1) := by decide +kernel
theorem dX12_fieldOf_62 : decode cX12_fieldOf 62 = .ok (.ireturn, 1) := by decide +kernel
theorem dX12_fieldOf_63 : decode cX12_fieldOf 63 = .ok (.aload_n 0, 1) := by decide +kernel
theorem dX12_fieldOf_64 : decode cX12_fieldOf 64 = .ok (.getfield 40, 3) := by decide +kernel
theorem dX12_fieldOf_67 : decode cX12_fieldOf 67 = .ok (.iload_n 1, 1) := by decide +kernel
theorem dX12_fieldOf_68 : decode cX12_fieldOf 68 = .ok (.iaload, 1) := by decide +kernel
theorem dX12_fieldOf_69 : decode cX12_fieldOf 69 = .ok (.ireturn, 1) := by decide +kernel
theorem dX12_fieldOf_70 : decode cX12_fieldOf 70 = .ok (.aload_n 0, 1) := by decide +kernel
theorem dX12_fieldOf_71 : decode cX12_fieldOf 71 = .ok (.getfield 43, 3) := by decide +kernel
theorem dX12_fieldOf_74 : decode cX12_fieldOf 74 = .ok (.iload_n 1, 1) := by decide +kernel
theorem dX12_fieldOf_75 : decode cX12_fieldOf 75 = .ok (.iaload, 1) := by decide +kernel
theorem dX12_fieldOf_76 : decode cX12_fieldOf 76 = .ok (.ireturn, 1) := by decide +kernel
theorem dX12_fieldOf_77 : decode cX12_fieldOf 77 = .ok (.aload_n 0, 1) := by decide +kernel
theorem dX12_fieldOf_78 : decode cX12_fieldOf 78 = .ok (.getfield 46, 3) := by decide +kernel
theorem dX12_fieldOf_81 : decode cX12_fieldOf 81 = .ok (.iload_n 1, 1) := by decide +kernel
theorem dX12_fieldOf_82 : decode cX12_fieldOf 82 = .ok (.iaload, 1) := by decide +kernel
theorem dX12_fieldOf_83 : decode cX12_fieldOf 83 = .ok (.ireturn, 1) := by decide +kernel
theorem dX12_part_0 : decode cX12_part 0 = .ok (.aload_n 0, 1) := by decide +kernel
theorem dX12_part_1 : decode cX12_part 1 = .ok (.iload_n 1, 1) := by decide +kernel
theorem dX12_part_2 : decode cX12_part 2 = .ok (.invokevirtual 163, 3) := by decide +kernel
theorem dX12_part_5 : decode cX12_part 5 = .ok (.ifCond .eq 20, 3) := by decide +kernel
theorem dX12_part_8 : decode cX12_part 8 = .ok (.iload_n 2, 1) := by decide +kernel
theorem dX12_part_9 : decode cX12_part 9 = .ok (.invokestatic 212, 3) := by decide +kernel
theorem dX12_part_12 : decode cX12_part 12 = .ok (.ifCond .eq 13, 3) := by decide +kernel
theorem dX12_part_15 : decode cX12_part 15 = .ok (.iload_n 2, 1) := by decide +kernel
theorem dX12_part_16 : decode cX12_part 16 = .ok (.aload_n 0, 1) := by decide +kernel
theorem dX12_part_17 : decode cX12_part 17 = .ok (.getfield 40, 3) := by decide +kernel
theorem dX12_part_20 : decode cX12_part 20 = .ok (.iload_n 1, 1) := by decide +kernel
theorem dX12_part_21 : decode cX12_part 21 = .ok (.iaload, 1) := by decide +kernel
theorem dX12_part_22 : decode cX12_part 22 = .ok (.if_icmp .ge 10, 3) := by decide +kernel
theorem dX12_part_25 : decode cX12_part 25 = .ok (.aload_n 0, 1) := by decide +kernel
theorem dX12_part_26 : decode cX12_part 26 = .ok (.bipush (-2), 2) := by decide +kernel
theorem dX12_part_28 : decode cX12_part 28 = .ok (.invokevirtual 177, 3) := by decide +kernel
theorem dX12_part_31 : decode cX12_part 31 = .ok (.ireturn, 1) := by decide +kernel
theorem dX12_part_32 : decode cX12_part 32 = .ok (.aload_n 0, 1) := by decide +kernel
theorem dX12_part_33 : decode cX12_part 33 = .ok (.getfield 37, 3) := by decide +kernel
theorem dX12_part_36 : decode cX12_part 36 = .ok (.iload_n 1, 1) := by decide +kernel
theorem dX12_part_37 : decode cX12_part 37 = .ok (.iaload, 1) := by decide +kernel
theorem dX12_part_38 : decode cX12_part 38 = .ok (.iconst 4, 1) := by decide +kernel
theorem dX12_part_39 : decode cX12_part 39 = .ok (.if_icmp .ne 10, 3) := by decide +kernel
theorem dX12_part_42 : decode cX12_part 42 = .ok (.aload_n 0, 1) := by decide +kernel
theorem dX12_part_43 : decode cX12_part 43 = .ok (.bipush (-5), 2) := by decide +kernel
theorem dX12_part_45 : decode cX12_part 45 = .ok (.invokevirtual 177, 3) := by decide +kernel
theorem dX12_part_48 : decode cX12_part 48 = .ok (.ireturn, 1) := by decide +kernel
theorem dX12_part_49 : decode cX12_part 49 = .ok (.aload_n 0, 1) := by decide +kernel
theorem dX12_part_50 : decode cX12_part 50 = .ok (.getfield 156, 3) := by decide +kernel
theorem dX12_part_53 : decode cX12_part 53 = .ok (.bipush 8, 2) := by decide +kernel
theorem dX12_part_55 : decode cX12_part 55 = .ok (.if_icmp .le 10, 3) := by decide +kernel
theorem dX12_part_58 : decode cX12_part 58 = .ok (.aload_n 0, 1) := by decide +kernel
theorem dX12_part_59 : decode cX12_part 59 = .ok (.bipush (-6), 2) := by decide +kernel
theorem dX12_part_61 : decode cX12_part 61 = .ok (.invokevirtual 177, 3) := by decide +kernel
theorem dX12_part_64 : decode cX12_part 64 = .ok (.ireturn, 1) := by decide +kernel
theorem dX12_part_65 : decode cX12_part 65 = .ok (.aload_n 0, 1) := by decide +kernel
theorem dX12_part_66 : decode cX12_part 66 = .ok (.getfield 156, 3) := by decide +kernel
theorem dX12_part_69 : decode cX12_part 69 = .ok (.istore_n 3, 1) := by decide +kernel
theorem dX12_part_70 : decode cX12_part 70 = .ok (.aload_n 0, 1) := by decide +kernel
theorem dX12_part_71 : decode cX12_part 71 = .ok (.aload_n 0, 1) := by decide +kernel
theorem dX12_part_72 : decode cX12_part 72 = .ok (.getfield 37, 3) := by decide +kernel
theorem dX12_part_75 : decode cX12_part 75 = .ok (.iload_n 1, 1) := by decide +kernel
theorem dX12_part_76 : decode cX12_part 76 = .ok (.iaload, 1) := by decide +kernel
theorem dX12_part_77 : decode cX12_part 77 = .ok (.iload_n 2, 1) := by decide +kernel
theorem dX12_part_78 : decode cX12_part 78 = .ok (.invokevirtual 215, 3) := by decide +kernel
theorem dX12_part_81 : decode cX12_part 81 = .ok (.aload_n 0, 1) := by decide +kernel
theorem dX12_part_82 : decode cX12_part 82 = .ok (.aload_n 0, 1) := by decide +kernel
theorem dX12_part_83 : decode cX12_part 83 = .ok (.getfield 37, 3) := by decide +kernel
theorem dX12_part_86 : decode cX12_part 86 = .ok (.iload_n 1, 1) := by decide +kernel
theorem dX12_part_87 : decode cX12_part 87 = .ok (.iaload, 1) := by decide +kernel
theorem dX12_part_88 : decode cX12_part 88 = .ok (.iload_n 2, 1) := by decide +kernel
theorem dX12_part_89 : decode cX12_part 89 = .ok (.invokevirtual 215, 3) := by decide +kernel
theorem dX12_part_92 : decode cX12_part 92 = .ok (.aload_n 0, 1) := by decide +kernel
theorem dX12_part_93 : decode cX12_part 93 = .ok (.getfield 37, 3) := by decide +kernel
theorem dX12_part_96 : decode cX12_part 96 = .ok (.iload_n 1, 1) := by decide +kernel
theorem dX12_part_97 : decode cX12_part 97 = .ok (.iconst 4, 1) := by decide +kernel
theorem dX12_part_98 : decode cX12_part 98 = .ok (.iastore, 1) := by decide +kernel
theorem dX12_part_99 : decode cX12_part 99 = .ok (.aload_n 0, 1) := by decide +kernel
theorem dX12_part_100 : decode cX12_part 100 = .ok (.iconst 0, 1) := by decide +kernel
theorem dX12_part_101 : decode cX12_part 101 = .ok (.putfield 206, 3) := by decide +kernel
theorem dX12_part_104 : decode cX12_part 104 = .ok (.aload_n 0, 1) := by decide +kernel
theorem dX12_part_105 : decode cX12_part 105 = .ok (.getfield 43, 3) := by decide +kernel
theorem dX12_part_108 : decode cX12_part 108 = .ok (.iload_n 1, 1) := by decide +kernel
theorem dX12_part_109 : decode cX12_part 109 = .ok (.iload_n 2, 1) := by decide +kernel
theorem dX12_part_110 : decode cX12_part 110 = .ok (.iastore, 1) := by decide +kernel
theorem dX12_part_111 : decode cX12_part 111 = .ok (.aload_n 0, 1) := by decide +kernel
theorem dX12_part_112 : decode cX12_part 112 = .ok (.getfield 46, 3) := by decide +kernel
theorem dX12_part_115 : decode cX12_part 115 = .ok (.iload_n 1, 1) := by decide +kernel
theorem dX12_part_116 : decode cX12_part 116 = .ok (.iload_n 3, 1) := by decide +kernel
theorem dX12_part_117 : decode cX12_part 117 = .ok (.iastore, 1) := by decide +kernel
theorem dX12_part_118 : decode cX12_part 118 = .ok (.iload_n 3, 1) := by decide +kernel
theorem dX12_part_119 : decode cX12_part 119 = .ok (.ireturn, 1) := by decide +kernel
theorem dX12_feed_0 : decode cX12_feed 0 = .ok (.iload_n 2, 1) := by decide +kernel
theorem dX12_feed_1 : decode cX12_feed 1 = .ok (.i2l, 1) := by decide +kernel
theorem dX12_feed_2 : decode cX12_feed 2 = .ok (.lconst 1, 1) := by decide +kernel
theorem dX12_feed_3 : decode cX12_feed 3 = .ok (.ldc2_w 173, 3) := by decide +kernel
theorem dX12_feed_6 : decode cX12_feed 6 = .ok (.invokestatic 159, 3) := by decide +kernel
theorem dX12_feed_9 : decode cX12_feed 9 = .ok (.ifCond .ne 10, 3) := by decide +kernel
theorem dX12_feed_12 : decode cX12_feed 12 = .ok (.aload_n 0, 1) := by decide +kernel
theorem dX12_feed_13 : decode cX12_feed 13 = .ok (.bipush (-2), 2) := by decide +kernel
theorem dX12_feed_15 : decode cX12_feed 15 = .ok (.invokevirtual 177, 3) := by decide +kernel
theorem dX12_feed_18 : decode cX12_feed 18 = .ok (.ireturn, 1) := by decide +kernel
theorem dX12_feed_19 : decode cX12_feed 19 = .ok (.iload_n 2, 1) := by decide +kernel
theorem dX12_feed_20 : decode cX12_feed 20 = .ok (.bipush 80, 2) := by decide +kernel
theorem dX12_feed_22 : decode cX12_feed 22 = .ok (.aload_n 0, 1) := by decide +kernel
theorem dX12_feed_23 : decode cX12_feed 23 = .ok (.getfield 219, 3) := by decide +kernel
theorem dX12_feed_26 : decode cX12_feed 26 = .ok (.isub, 1) := by decide +kernel
theorem dX12_feed_27 : decode cX12_feed 27 = .ok (.if_icmp .le 10, 3) := by decide +kernel
theorem dX12_feed_30 : decode cX12_feed 30 = .ok (.aload_n 0, 1) := by decide +kernel
theorem dX12_feed_31 : decode cX12_feed 31 = .ok (.bipush (-6), 2) := by decide +kernel
theorem dX12_feed_33 : decode cX12_feed 33 = .ok (.invokevirtual 177, 3) := by decide +kernel
theorem dX12_feed_36 : decode cX12_feed 36 = .ok (.ireturn, 1) := by decide +kernel
theorem dX12_feed_37 : decode cX12_feed 37 = .ok (.iload_n 2, 1) := by decide +kernel
theorem dX12_feed_38 : decode cX12_feed 38 = .ok (.iconst 1, 1) := by decide +kernel
theorem dX12_feed_39 : decode cX12_feed 39 = .ok (.isub, 1) := by decide +kernel
theorem dX12_feed_40 : decode cX12_feed 40 = .ok (.istore_n 3, 1) := by decide +kernel
theorem dX12_feed_41 : decode cX12_feed 41 = .ok (.iload_n 3, 1) := by decide +kernel
theorem dX12_feed_42 : decode cX12_feed 42 = .ok (.ifCond .lt 35, 3) := by decide +kernel
theorem dX12_feed_45 : decode cX12_feed 45 = .ok (.aload_n 0, 1) := by decide +kernel
theorem dX12_feed_46 : decode cX12_feed 46 = .ok (.getfield 31, 3) := by decide +kernel
theorem dX12_feed_49 : decode cX12_feed 49 = .ok (.aload_n 0, 1) := by decide +kernel
theorem dX12_feed_50 : decode cX12_feed 50 = .ok (.dup, 1) := by decide +kernel
theorem dX12_feed_51 : decode cX12_feed 51 = .ok (.getfield 219, 3) := by decide +kernel
theorem dX12_feed_54 : decode cX12_feed 54 = .ok (.dup_x1, 1) := by decide +kernel
theorem dX12_feed_55 : decode cX12_feed 55 = .ok (.iconst 1, 1) := by decide +kernel
theorem dX12_feed_56 : decode cX12_feed 56 = .ok (.iadd, 1) := by decide +kernel
theorem dX12_feed_57 : decode cX12_feed 57 = .ok (.putfield 219, 3) := by decide +kernel
theorem dX12_feed_60 : decode cX12_feed 60 = .ok (.iload_n 1, 1) := by decide +kernel
theorem dX12_feed_61 : decode cX12_feed 61 = .ok (.bipush 8, 2) := by decide +kernel
theorem dX12_feed_63 : decode cX12_feed 63 = .ok (.iload_n 3, 1) := by decide +kernel
theorem dX12_feed_64 : decode cX12_feed 64 = .ok (.imul, 1) := by decide +kernel
theorem dX12_feed_65 : decode cX12_feed 65 = .ok (.ishr, 1) := by decide +kernel
theorem dX12_feed_66 : decode cX12_feed 66 = .ok (.sipush 255, 3) := by decide +kernel
theorem dX12_feed_69 : decode cX12_feed 69 = .ok (.iand, 1) := by decide +kernel
theorem dX12_feed_70 : decode cX12_feed 70 = .ok (.iastore, 1) := by decide +kernel
theorem dX12_feed_71 : decode cX12_feed 71 = .ok (.iinc 3 (-1), 3) := by decide +kernel
theorem dX12_feed_74 : decode cX12_feed 74 = .ok (.goto (-33), 3) := by decide +kernel
theorem dX12_feed_77 : decode cX12_feed 77 = .ok (.aload_n 0, 1) := by decide +kernel
theorem dX12_feed_78 : decode cX12_feed 78 = .ok (.getfield 219, 3) := by decide +kernel
theorem dX12_feed_81 : decode cX12_feed 81 = .ok (.ireturn, 1) := by decide +kernel
theorem dX12_wipe_0 : decode cX12_wipe 0 = .ok (.aload_n 0, 1) := by decide +kernel
theorem dX12_wipe_1 : decode cX12_wipe 1 = .ok (.getfield 219, 3) := by decide +kernel
theorem dX12_wipe_4 : decode cX12_wipe 4 = .ok (.istore_n 1, 1) := by decide +kernel
theorem dX12_wipe_5 : decode cX12_wipe 5 = .ok (.aload_n 0, 1) := by decide +kernel
theorem dX12_wipe_6 : decode cX12_wipe 6 = .ok (.iconst 0, 1) := by decide +kernel
theorem dX12_wipe_7 : decode cX12_wipe 7 = .ok (.putfield 219, 3) := by decide +kernel
theorem dX12_wipe_10 : decode cX12_wipe 10 = .ok (.iload_n 1, 1) := by decide +kernel
theorem dX12_wipe_11 : decode cX12_wipe 11 = .ok (.ireturn, 1) := by decide +kernel
theorem dX12_isLetter_0 : decode cX12_isLetter 0 = .ok (.iload_n 0, 1) := by decide +kernel
theorem dX12_isLetter_1 : decode cX12_isLetter 1 = .ok (.bipush 97, 2) := by decide +kernel
theorem dX12_isLetter_3 : decode cX12_isLetter 3 = .ok (.if_icmp .lt 13, 3) := by decide +kernel
theorem dX12_isLetter_6 : decode cX12_isLetter 6 = .ok (.iload_n 0, 1) := by decide +kernel
theorem dX12_isLetter_7 : decode cX12_isLetter 7 = .ok (.bipush 122, 2) := by decide +kernel
theorem dX12_isLetter_9 : decode cX12_isLetter 9 = .ok (.if_icmp .gt 7, 3) := by decide +kernel
theorem dX12_isLetter_12 : decode cX12_isLetter 12 = .ok (.iconst 1, 1) := by decide +kernel
theorem dX12_isLetter_13 : decode cX12_isLetter 13 = .ok (.goto 4, 3) := by decide +kernel
theorem dX12_isLetter_16 : decode cX12_isLetter 16 = .ok (.iconst 0, 1) := by decide +kernel
theorem dX12_isLetter_17 : decode cX12_isLetter 17 = .ok (.ireturn, 1) := by decide +kernel
theorem dX12_isDigit_0 : decode cX12_isDigit 0 = .ok (.iload_n 0, 1) := by decide +kernel
theorem dX12_isDigit_1 : decode cX12_isDigit 1 = .ok (.bipush 48, 2) := by decide +kernel
theorem dX12_isDigit_3 : decode cX12_isDigit 3 = .ok (.if_icmp .lt 13, 3) := by decide +kernel
theorem dX12_isDigit_6 : decode cX12_isDigit 6 = .ok (.iload_n 0, 1) := by decide +kernel
theorem dX12_isDigit_7 : decode cX12_isDigit 7 = .ok (.bipush 57, 2) := by decide +kernel
theorem dX12_isDigit_9 : decode cX12_isDigit 9 = .ok (.if_icmp .gt 7, 3) := by decide +kernel
theorem dX12_isDigit_12 : decode cX12_isDigit 12 = .ok (.iconst 1, 1) := by decide +kernel
theorem dX12_isDigit_13 : decode cX12_isDigit 13 = .ok (.goto 4, 3) := by decide +kernel
theorem dX12_isDigit_16 : decode cX12_isDigit 16 = .ok (.iconst 0, 1) := by decide +kernel
theorem dX12_isDigit_17 : decode cX12_isDigit 17 = .ok (.ireturn, 1) := by decide +kernel
theorem dX12_look_0 : decode cX12_look 0 = .ok (.aload_n 0, 1) := by decide +kernel
theorem dX12_look_1 : decode cX12_look 1 = .ok (.getfield 222, 3) := by decide +kernel
theorem dX12_look_4 : decode cX12_look 4 = .ok (.aload_n 0, 1) := by decide +kernel
theorem dX12_look_5 : decode cX12_look 5 = .ok (.getfield 219, 3) := by decide +kernel
theorem dX12_look_8 : decode cX12_look 8 = .ok (.if_icmp .ge 30, 3) := by decide +kernel
theorem dX12_look_11 : decode cX12_look 11 = .ok (.aload_n 0, 1) := by decide +kernel
theorem dX12_look_12 : decode cX12_look 12 = .ok (.getfield 31, 3) := by decide +kernel
theorem dX12_look_15 : decode cX12_look 15 = .ok (.aload_n 0, 1) := by decide +kernel
theorem dX12_look_16 : decode cX12_look 16 = .ok (.getfield 222, 3) := by decide +kernel
theorem dX12_look_19 : decode cX12_look 19 = .ok (.iaload, 1) := by decide +kernel
theorem dX12_look_20 : decode cX12_look 20 = .ok (.bipush 32, 2) := by decide +kernel
theorem dX12_look_22 : decode cX12_look 22 = .ok (.if_icmp .ne 16, 3) := by decide +kernel
theorem dX12_look_25 : decode cX12_look 25 = .ok (.aload_n 0, 1) := by decide +kernel
theorem dX12_look_26 : decode cX12_look 26 = .ok (.dup, 1) := by decide +kernel
theorem dX12_look_27 : decode cX12_look 27 = .ok (.getfield 222, 3) := by decide +kernel
theorem dX12_look_30 : decode cX12_look 30 = .ok (.iconst 1, 1) := by decide +kernel
theorem dX12_look_31 : decode cX12_look 31 = .ok (.iadd, 1) := by decide +kernel
theorem dX12_look_32 : decode cX12_look 32 = .ok (.putfield 222, 3) := by decide +kernel
theorem dX12_look_35 : decode cX12_look 35 = .ok (.goto (-35), 3) := by decide +kernel
theorem dX12_look_38 : decode cX12_look 38 = .ok (.aload_n 0, 1) := by decide +kernel
theorem dX12_look_39 : decode cX12_look 39 = .ok (.aload_n 0, 1) := by decide +kernel
theorem dX12_look_40 : decode cX12_look 40 = .ok (.getfield 222, 3) := by decide +kernel
theorem dX12_look_43 : decode cX12_look 43 = .ok (.putfield 225, 3) := by decide +kernel
theorem dX12_look_46 : decode cX12_look 46 = .ok (.aload_n 0, 1) := by decide +kernel
theorem dX12_look_47 : decode cX12_look 47 = .ok (.lconst 0, 1) := by decide +kernel
theorem dX12_look_48 : decode cX12_look 48 = .ok (.putfield 228, 3) := by decide +kernel
theorem dX12_look_51 : decode cX12_look 51 = .ok (.aload_n 0, 1) := by decide +kernel
theorem dX12_look_52 : decode cX12_look 52 = .ok (.getfield 222, 3) := by decide +kernel
theorem dX12_look_55 : decode cX12_look 55 = .ok (.aload_n 0, 1) := by decide +kernel
theorem dX12_look_56 : decode cX12_look 56 = .ok (.getfield 219, 3) := by decide +kernel
theorem dX12_look_59 : decode cX12_look 59 = .ok (.if_icmp .ne 11, 3) := by decide +kernel
theorem dX12_look_62 : decode cX12_look 62 = .ok (.aload_n 0, 1) := by decide +kernel
theorem dX12_look_63 : decode cX12_look 63 = .ok (.iconst 0, 1) := by decide +kernel
theorem dX12_look_64 : decode cX12_look 64 = .ok (.putfield 232, 3) := by decide +kernel
theorem dX12_look_67 : decode cX12_look 67 = .ok (.goto 231, 3) := by decide +kernel
theorem dX12_look_70 : decode cX12_look 70 = .ok (.aload_n 0, 1) := by decide +kernel
theorem dX12_look_71 : decode cX12_look 71 = .ok (.getfield 31, 3) := by decide +kernel
theorem dX12_look_74 : decode cX12_look 74 = .ok (.aload_n 0, 1) := by decide +kernel
theorem dX12_look_75 : decode cX12_look 75 = .ok (.getfield 222, 3) := by decide +kernel
theorem dX12_look_78 : decode cX12_look 78 = .ok (.iaload, 1) := by decide +kernel
theorem dX12_look_79 : decode cX12_look 79 = .ok (.invokestatic 235, 3) := by decide +kernel
theorem dX12_look_82 : decode cX12_look 82 = .ok (.ifCond .eq 96, 3) := by decide +kernel
theorem dX12_look_85 : decode cX12_look 85 = .ok (.aload_n 0, 1) := by decide +kernel
theorem dX12_look_86 : decode cX12_look 86 = .ok (.iconst 1, 1) := by decide +kernel
theorem dX12_look_87 : decode cX12_look 87 = .ok (.putfield 232, 3) := by decide +kernel
theorem dX12_look_90 : decode cX12_look 90 = .ok (.aload_n 0, 1) := by decide +kernel
theorem dX12_look_91 : decode cX12_look 91 = .ok (.getfield 222, 3) := by decide +kernel
theorem dX12_look_94 : decode cX12_look 94 = .ok (.aload_n 0, 1) := by decide +kernel
theorem dX12_look_95 : decode cX12_look 95 = .ok (.getfield 219, 3) := by decide +kernel
theorem dX12_look_98 : decode cX12_look 98 = .ok (.if_icmp .ge 200, 3) := by decide +kernel
theorem dX12_look_101 : decode cX12_look 101 = .ok (.aload_n 0, 1) := by decide +kernel
theorem dX12_look_102 : decode cX12_look 102 = .ok (.getfield 31, 3) := by decide +kernel
theorem dX12_look_105 : decode cX12_look 105 = .ok (.aload_n 0, 1) := by decide +kernel
theorem dX12_look_106 : decode cX12_look 106 = .ok (.getfield 222, 3) := by decide +kernel
theorem dX12_look_109 : decode cX12_look 109 = .ok (.iaload, 1) := by decide +kernel
theorem dX12_look_110 : decode cX12_look 110 = .ok (.invokestatic 235, 3) := by decide +kernel
theorem dX12_look_113 : decode cX12_look 113 = .ok (.ifCond .eq 185, 3) := by decide +kernel
theorem dX12_look_116 : decode cX12_look 116 = .ok (.aload_n 0, 1) := by decide +kernel
theorem dX12_look_117 : decode cX12_look 117 = .ok (.aload_n 0, 1) := by decide +kernel
theorem dX12_look_118 : decode cX12_look 118 = .ok (.getfield 222, 3) := by decide +kernel
theorem dX12_look_121 : decode cX12_look 121 = .ok (.aload_n 0, 1) := by decide +kernel
theorem dX12_look_122 : decode cX12_look 122 = .ok (.getfield 225, 3) := by decide +kernel
theorem dX12_look_125 : decode cX12_look 125 = .ok (.isub, 1) := by decide +kernel
theorem dX12_look_126 : decode cX12_look 126 = .ok (.bipush 8, 2) := by decide +kernel
theorem dX12_look_128 : decode cX12_look 128 = .ok (.if_icmp .ge 31, 3) := by decide +kernel
theorem dX12_look_131 : decode cX12_look 131 = .ok (.aload_n 0, 1) := by decide +kernel
theorem dX12_look_132 : decode cX12_look 132 = .ok (.getfield 228, 3) := by decide +kernel
theorem dX12_look_135 : decode cX12_look 135 = .ok (.ldc2_w 238, 3) := by decide +kernel
theorem dX12_look_138 : decode cX12_look 138 = .ok (.lmul, 1) := by decide +kernel
theorem dX12_look_139 : decode cX12_look 139 = .ok (.aload_n 0, 1) := by decide +kernel
theorem dX12_look_140 : decode cX12_look 140 = .ok (.getfield 31, 3) := by decide +kernel
theorem dX12_look_143 : decode cX12_look 143 = .ok (.aload_n 0, 1) := by decide +kernel
theorem dX12_look_144 : decode cX12_look 144 = .ok (.getfield 222, 3) := by decide +kernel
theorem dX12_look_147 : decode cX12_look 147 = .ok (.iaload, 1) := by decide +kernel
theorem dX12_look_148 : decode cX12_look 148 = .ok (.i2l, 1) := by decide +kernel
theorem dX12_look_149 : decode cX12_look 149 = .ok (.ladd, 1) := by decide +kernel
theorem dX12_look_150 : decode cX12_look 150 = .ok (.ldc2_w 240, 3) := by decide +kernel
theorem dX12_look_153 : decode cX12_look 153 = .ok (.lsub, 1) := by decide +kernel
theorem dX12_look_154 : decode cX12_look 154 = .ok (.lconst 1, 1) := by decide +kernel
theorem dX12_look_155 : decode cX12_look 155 = .ok (.ladd, 1) := by decide +kernel
theorem dX12_look_156 : decode cX12_look 156 = .ok (.goto 6, 3) := by decide +kernel
theorem dX12_look_159 : decode cX12_look 159 = .ok (.ldc2_w 242, 3) := by decide +kernel
theorem dX12_look_162 : decode cX12_look 162 = .ok (.putfield 228, 3) := by decide +kernel
theorem dX12_look_165 : decode cX12_look 165 = .ok (.aload_n 0, 1) := by decide +kernel
theorem dX12_look_166 : decode cX12_look 166 = .ok (.dup, 1) := by decide +kernel
theorem dX12_look_167 : decode cX12_look 167 = .ok (.getfield 222, 3) := by decide +kernel
theorem dX12_look_170 : decode cX12_look 170 = .ok (.iconst 1, 1) := by decide +kernel
theorem dX12_look_171 : decode cX12_look 171 = .ok (.iadd, 1) := by decide +kernel
theorem dX12_look_172 : decode cX12_look 172 = .ok (.putfield 222, 3) := by decide +kernel
theorem dX12_look_175 : decode cX12_look 175 = .ok (.goto (-85), 3) := by decide +kernel
theorem dX12_look_178 : decode cX12_look 178 = .ok (.aload_n 0, 1) := by decide +kernel
theorem dX12_look_179 : decode cX12_look 179 = .ok (.getfield 31, 3) := by decide +kernel
theorem dX12_look_182 : decode cX12_look 182 = .ok (.aload_n 0, 1) := by decide +kernel
theorem dX12_look_183 : decode cX12_look 183 = .ok (.getfield 222, 3) := by decide +kernel
theorem dX12_look_186 : decode cX12_look 186 = .ok (.iaload, 1) := by decide +kernel
theorem dX12_look_187 : decode cX12_look 187 = .ok (.invokestatic 244, 3) := by decide +kernel
theorem dX12_look_190 : decode cX12_look 190 = .ok (.ifCond .eq 93, 3) := by decide +kernel
theorem dX12_look_193 : decode cX12_look 193 = .ok (.aload_n 0, 1) := by decide +kernel
theorem dX12_look_194 : decode cX12_look 194 = .ok (.iconst 2, 1) := by decide +kernel
theorem dX12_look_195 : decode cX12_look 195 = .ok (.putfield 232, 3) := by decide +kernel
theorem dX12_look_198 : decode cX12_look 198 = .ok (.aload_n 0, 1) := by decide +kernel
theorem dX12_look_199 : decode cX12_look 199 = .ok (.getfield 222, 3) := by decide +kernel
theorem dX12_look_202 : decode cX12_look 202 = .ok (.aload_n 0, 1) := by decide +kernel
theorem dX12_look_203 : decode cX12_look 203 = .ok (.getfield 219, 3) := by decide +kernel
theorem dX12_look_206 : decode cX12_look 206 = .ok (.if_icmp .ge 92, 3) := by decide +kernel
theorem dX12_look_209 : decode cX12_look 209 = .ok (.aload_n 0, 1) := by decide +kernel
theorem dX12_look_210 : decode cX12_look 210 = .ok (.getfield 31, 3) := by decide +kernel
theorem dX12_look_213 : decode cX12_look 213 = .ok (.aload_n 0, 1) := by decide +kernel
theorem dX12_look_214 : decode cX12_look 214 = .ok (.getfield 222, 3) := by decide +kernel
theorem dX12_look_217 : decode cX12_look 217 = .ok (.iaload, 1) := by decide +kernel
theorem dX12_look_218 : decode cX12_look 218 = .ok (.invokestatic 244, 3) := by decide +kernel
theorem dX12_look_221 : decode cX12_look 221 = .ok (.ifCond .eq 77, 3) := by decide +kernel
theorem dX12_look_224 : decode cX12_look 224 = .ok (.aload_n 0, 1) := by decide +kernel
theorem dX12_look_225 : decode cX12_look 225 = .ok (.aload_n 0, 1) := by decide +kernel
theorem dX12_look_226 : decode cX12_look 226 = .ok (.getfield 222, 3) := by decide +kernel
theorem dX12_look_229 : decode cX12_look 229 = .ok (.aload_n 0, 1) := by decide +kernel
theorem dX12_look_230 : decode cX12_look 230 = .ok (.getfield 225, 3) := by decide +kernel
theorem dX12_look_233 : decode cX12_look 233 = .ok (.isub, 1) := by decide +kernel
theorem dX12_look_234 : decode cX12_look 234 = .ok (.iconst 3, 1) := by decide +kernel
theorem dX12_look_235 : decode cX12_look 235 = .ok (.if_icmp .ge 29, 3) := by decide +kernel
theorem dX12_look_238 : decode cX12_look 238 = .ok (.aload_n 0, 1) := by decide +kernel
theorem dX12_look_239 : decode cX12_look 239 = .ok (.getfield 228, 3) := by decide +kernel
theorem dX12_look_242 : decode cX12_look 242 = .ok (.ldc2_w 247, 3) := by decide +kernel
theorem dX12_look_245 : decode cX12_look 245 = .ok (.lmul, 1) := by decide +kernel
theorem dX12_look_246 : decode cX12_look 246 = .ok (.aload_n 0, 1) := by decide +kernel
theorem dX12_look_247 : decode cX12_look 247 = .ok (.getfield 31, 3) := by decide +kernel
theorem dX12_look_250 : decode cX12_look 250 = .ok (.aload_n 0, 1) := by decide +kernel
theorem dX12_look_251 : decode cX12_look 251 = .ok (.getfield 222, 3) := by decide +kernel
theorem dX12_look_254 : decode cX12_look 254 = .ok (.iaload, 1) := by decide +kernel
theorem dX12_look_255 : decode cX12_look 255 = .ok (.i2l, 1) := by decide +kernel
theorem dX12_look_256 : decode cX12_look 256 = .ok (.ladd, 1) := by decide +kernel
theorem dX12_look_257 : decode cX12_look 257 = .ok (.ldc2_w 249, 3) := by decide +kernel
theorem dX12_look_260 : decode cX12_look 260 = .ok (.lsub, 1) := by decide +kernel
theorem dX12_look_261 : decode cX12_look 261 = .ok (.goto 6, 3) := by decide +kernel
theorem dX12_look_264 : decode cX12_look 264 = .ok (.ldc2_w 251, 3) := by decide +kernel
theorem dX12_look_267 : decode cX12_look 267 = .ok (.putfield 228, 3) := by decide +kernel
theorem dX12_look_270 : decode cX12_look 270 = .ok (.aload_n 0, 1) := by decide +kernel
theorem dX12_look_271 : decode cX12_look 271 = .ok (.dup, 1) := by decide +kernel
theorem dX12_look_272 : decode cX12_look 272 = .ok (.getfield 222, 3) := by decide +kernel
theorem dX12_look_275 : decode cX12_look 275 = .ok (.iconst 1, 1) := by decide +kernel
theorem dX12_look_276 : decode cX12_look 276 = .ok (.iadd, 1) := by decide +kernel
theorem dX12_look_277 : decode cX12_look 277 = .ok (.putfield 222, 3) := by decide +kernel
theorem dX12_look_280 : decode cX12_look 280 = .ok (.goto (-82), 3) := by decide +kernel
theorem dX12_look_283 : decode cX12_look 283 = .ok (.aload_n 0, 1) := by decide +kernel
theorem dX12_look_284 : decode cX12_look 284 = .ok (.iconst 3, 1) := by decide +kernel
theorem dX12_look_285 : decode cX12_look 285 = .ok (.putfield 232, 3) := by decide +kernel
theorem dX12_look_288 : decode cX12_look 288 = .ok (.aload_n 0, 1) := by decide +kernel
theorem dX12_look_289 : decode cX12_look 289 = .ok (.dup, 1) := by decide +kernel
theorem dX12_look_290 : decode cX12_look 290 = .ok (.getfield 222, 3) := by decide +kernel
theorem dX12_look_293 : decode cX12_look 293 = .ok (.iconst 1, 1) := by decide +kernel
theorem dX12_look_294 : decode cX12_look 294 = .ok (.iadd, 1) := by decide +kernel
theorem dX12_look_295 : decode cX12_look 295 = .ok (.putfield 222, 3) := by decide +kernel
theorem dX12_look_298 : decode cX12_look 298 = .ok (.return_, 1) := by decide +kernel
theorem dX12_wrong_0 : decode cX12_wrong 0 = .ok (.aload_n 0, 1) := by decide +kernel
theorem dX12_wrong_1 : decode cX12_wrong 1 = .ok (.aload_n 0, 1) := by decide +kernel
theorem dX12_wrong_2 : decode cX12_wrong 2 = .ok (.getfield 225, 3) := by decide +kernel
theorem dX12_wrong_5 : decode cX12_wrong 5 = .ok (.putfield 253, 3) := by decide +kernel
theorem dX12_wrong_8 : decode cX12_wrong 8 = .ok (.iconst 0, 1) := by decide +kernel
theorem dX12_wrong_9 : decode cX12_wrong 9 = .ok (.ireturn, 1) := by decide +kernel
theorem dX12_letters_0 : decode cX12_letters 0 = .ok (.lconst 0, 1) := by decide +kernel
theorem dX12_letters_1 : decode cX12_letters 1 = .ok (.lstore_n 1, 1) := by decide +kernel
theorem dX12_letters_2 : decode cX12_letters 2 = .ok (.iconst 0, 1) := by decide +kernel
theorem dX12_letters_3 : decode cX12_letters 3 = .ok (.istore_n 3, 1) := by decide +kernel
theorem dX12_letters_4 : decode cX12_letters 4 = .ok (.iload_n 3, 1) := by decide +kernel
theorem dX12_letters_5 : decode cX12_letters 5 = .ok (.aload_n 0, 1) := by decide +kernel
theorem dX12_letters_6 : decode cX12_letters 6 = .ok (.invokevirtual 256, 3) := by decide +kernel
theorem dX12_letters_9 : decode cX12_letters 9 = .ok (.if_icmp .ge 28, 3) := by decide +kernel
theorem dX12_letters_12 : decode cX12_letters 12 = .ok (.lload_n 1, 1) := by decide +kernel
theorem dX12_letters_13 : decode cX12_letters 13 = .ok (.ldc2_w 238, 3) := by decide +kernel
theorem dX12_letters_16 : decode cX12_letters 16 = .ok (.lmul, 1) := by decide +kernel
theorem dX12_letters_17 : decode cX12_letters 17 = .ok (.aload_n 0, 1) := by decide +kernel
theorem dX12_letters_18 : decode cX12_letters 18 = .ok (.iload_n 3, 1) := by decide +kernel
theorem dX12_letters_19 : decode cX12_letters 19 = .ok (.invokevirtual 260, 3) := by decide +kernel
theorem dX12_letters_22 : decode cX12_letters 22 = .ok (.i2l, 1) := by decide +kernel
theorem dX12_letters_23 : decode cX12_letters 23 = .ok (.ladd, 1) := by decide +kernel
theorem dX12_letters_24 : decode cX12_letters 24 = .ok (.ldc2_w 240, 3) := by decide +kernel
theorem dX12_letters_27 : decode cX12_letters 27 = .ok (.lsub, 1) := by decide +kernel
theorem dX12_letters_28 : decode cX12_letters 28 = .ok (.lconst 1, 1) := by decide +kernel
theorem dX12_letters_29 : decode cX12_letters 29 = .ok (.ladd, 1) := by decide +kernel
theorem dX12_letters_30 : decode cX12_letters 30 = .ok (.lstore_n 1, 1) := by decide +kernel
theorem dX12_letters_31 : decode cX12_letters 31 = .ok (.iinc 3 1, 3) := by decide +kernel
theorem dX12_letters_34 : decode cX12_letters 34 = .ok (.goto (-30), 3) := by decide +kernel
theorem dX12_letters_37 : decode cX12_letters 37 = .ok (.lload_n 1, 1) := by decide +kernel
theorem dX12_letters_38 : decode cX12_letters 38 = .ok (.lreturn, 1) := by decide +kernel
theorem dX12_isWord_0 : decode cX12_isWord 0 = .ok (.aload_n 0, 1) := by decide +kernel
theorem dX12_isWord_1 : decode cX12_isWord 1 = .ok (.getfield 232, 3) := by decide +kernel
theorem dX12_isWord_4 : decode cX12_isWord 4 = .ok (.iconst 1, 1) := by decide +kernel
theorem dX12_isWord_5 : decode cX12_isWord 5 = .ok (.if_icmp .ne 19, 3) := by decide +kernel
theorem dX12_isWord_8 : decode cX12_isWord 8 = .ok (.aload_n 0, 1) := by decide +kernel
theorem dX12_isWord_9 : decode cX12_isWord 9 = .ok (.getfield 228, 3) := by decide +kernel
theorem dX12_isWord_12 : decode cX12_isWord 12 = .ok (.aload_n 1, 1) := by decide +kernel
theorem dX12_isWord_13 : decode cX12_isWord 13 = .ok (.invokestatic 264, 3) := by decide +kernel
theorem dX12_isWord_16 : decode cX12_isWord 16 = .ok (.lcmp, 1) := by decide +kernel
theorem dX12_isWord_17 : decode cX12_isWord 17 = .ok (.ifCond .ne 7, 3) := by decide +kernel
theorem dX12_isWord_20 : decode cX12_isWord 20 = .ok (.iconst 1, 1) := by decide +kernel
theorem dX12_isWord_21 : decode cX12_isWord 21 = .ok (.goto 4, 3) := by decide +kernel
theorem dX12_isWord_24 : decode cX12_isWord 24 = .ok (.iconst 0, 1) := by decide +kernel
theorem dX12_isWord_25 : decode cX12_isWord 25 = .ok (.ireturn, 1) := by decide +kernel
theorem dX12_number_0 : decode cX12_number 0 = .ok (.aload_n 0, 1) := by decide +kernel
theorem dX12_number_1 : decode cX12_number 1 = .ok (.getfield 232, 3) := by decide +kernel
theorem dX12_number_4 : decode cX12_number 4 = .ok (.iconst 2, 1) := by decide +kernel
theorem dX12_number_5 : decode cX12_number 5 = .ok (.if_icmp .ne 17, 3) := by decide +kernel
theorem dX12_number_8 : decode cX12_number 8 = .ok (.aload_n 0, 1) := by decide +kernel
theorem dX12_number_9 : decode cX12_number 9 = .ok (.getfield 228, 3) := by decide +kernel
theorem dX12_number_12 : decode cX12_number 12 = .ok (.iload_n 1, 1) := by decide +kernel
theorem dX12_number_13 : decode cX12_number 13 = .ok (.i2l, 1) := by decide +kernel
theorem dX12_number_14 : decode cX12_number 14 = .ok (.iload_n 2, 1) := by decide +kernel
theorem dX12_number_15 : decode cX12_number 15 = .ok (.i2l, 1) := by decide +kernel
theorem dX12_number_16 : decode cX12_number 16 = .ok (.invokestatic 159, 3) := by decide +kernel
theorem dX12_number_19 : decode cX12_number 19 = .ok (.ifCond .ne 8, 3) := by decide +kernel
theorem dX12_number_22 : decode cX12_number 22 = .ok (.aload_n 0, 1) := by decide +kernel
theorem dX12_number_23 : decode cX12_number 23 = .ok (.invokevirtual 268, 3) := by decide +kernel
theorem dX12_number_26 : decode cX12_number 26 = .ok (.ireturn, 1) := by decide +kernel
theorem dX12_number_27 : decode cX12_number 27 = .ok (.aload_n 0, 1) := by decide +kernel
theorem dX12_number_28 : decode cX12_number 28 = .ok (.aload_n 0, 1) := by decide +kernel
theorem dX12_number_29 : decode cX12_number 29 = .ok (.getfield 228, 3) := by decide +kernel
theorem dX12_number_32 : decode cX12_number 32 = .ok (.l2i, 1) := by decide +kernel
theorem dX12_number_33 : decode cX12_number 33 = .ok (.putfield 272, 3) := by decide +kernel
theorem dX12_number_36 : decode cX12_number 36 = .ok (.aload_n 0, 1) := by decide +kernel
theorem dX12_number_37 : decode cX12_number 37 = .ok (.invokevirtual 275, 3) := by decide +kernel
theorem dX12_number_40 : decode cX12_number 40 = .ok (.iconst 1, 1) := by decide +kernel
theorem dX12_number_41 : decode cX12_number 41 = .ok (.ireturn, 1) := by decide +kernel
theorem dX12_one_0 : decode cX12_one 0 = .ok (.iconst 0, 1) := by decide +kernel
theorem dX12_one_1 : decode cX12_one 1 = .ok (.istore_n 2, 1) := by decide +kernel
theorem dX12_one_2 : decode cX12_one 2 = .ok (.iload_n 2, 1) := by decide +kernel
theorem dX12_one_3 : decode cX12_one 3 = .ok (.bipush 8, 2) := by decide +kernel
theorem dX12_one_5 : decode cX12_one 5 = .ok (.if_icmp .ge 40, 3) := by decide +kernel
theorem dX12_one_8 : decode cX12_one 8 = .ok (.aload_n 0, 1) := by decide +kernel
theorem dX12_one_9 : decode cX12_one 9 = .ok (.aload_n 0, 1) := by decide +kernel
theorem dX12_one_10 : decode cX12_one 10 = .ok (.getfield 121, 3) := by decide +kernel
theorem dX12_one_13 : decode cX12_one 13 = .ok (.iload_n 2, 1) := by decide +kernel
theorem dX12_one_14 : decode cX12_one 14 = .ok (.aaload, 1) := by decide +kernel
theorem dX12_one_15 : decode cX12_one 15 = .ok (.invokevirtual 278, 3) := by decide +kernel
theorem dX12_one_18 : decode cX12_one 18 = .ok (.ifCond .eq 21, 3) := by decide +kernel
theorem dX12_one_21 : decode cX12_one 21 = .ok (.aload_n 0, 1) := by decide +kernel
theorem dX12_one_22 : decode cX12_one 22 = .ok (.getfield 67, 3) := by decide +kernel
theorem dX12_one_25 : decode cX12_one 25 = .ok (.iload_n 1, 1) := by decide +kernel
theorem dX12_one_26 : decode cX12_one 26 = .ok (.dup2, 1) := by decide +kernel
theorem dX12_one_27 : decode cX12_one 27 = .ok (.iaload, 1) := by decide +kernel
theorem dX12_one_28 : decode cX12_one 28 = .ok (.iconst 1, 1) := by decide +kernel
theorem dX12_one_29 : decode cX12_one 29 = .ok (.iload_n 2, 1) := by decide +kernel
theorem dX12_one_30 : decode cX12_one 30 = .ok (.ishl, 1) := by decide +kernel
theorem dX12_one_31 : decode cX12_one 31 = .ok (.ior, 1) := by decide +kernel
theorem dX12_one_32 : decode cX12_one 32 = .ok (.iastore, 1) := by decide +kernel
theorem dX12_one_33 : decode cX12_one 33 = .ok (.aload_n 0, 1) := by decide +kernel
theorem dX12_one_34 : decode cX12_one 34 = .ok (.invokevirtual 275, 3) := by decide +kernel
theorem dX12_one_37 : decode cX12_one 37 = .ok (.iconst 1, 1) := by decide +kernel
theorem dX12_one_38 : decode cX12_one 38 = .ok (.ireturn, 1) := by decide +kernel
theorem dX12_one_39 : decode cX12_one 39 = .ok (.iinc 2 1, 3) := by decide +kernel
theorem dX12_one_42 : decode cX12_one 42 = .ok (.goto (-40), 3) := by decide +kernel
theorem dX12_one_45 : decode cX12_one 45 = .ok (.aload_n 0, 1) := by decide +kernel
theorem dX12_one_46 : decode cX12_one 46 = .ok (.ldc_w 282, 3) := by decide +kernel
theorem dX12_one_49 : decode cX12_one 49 = .ok (.invokevirtual 278, 3) := by decide +kernel
theorem dX12_one_52 : decode cX12_one 52 = .ok (.ifCond .eq 20, 3) := by decide +kernel
theorem dX12_one_55 : decode cX12_one 55 = .ok (.aload_n 0, 1) := by decide +kernel
theorem dX12_one_56 : decode cX12_one 56 = .ok (.getfield 67, 3) := by decide +kernel
theorem dX12_one_59 : decode cX12_one 59 = .ok (.iload_n 1, 1) := by decide +kernel
theorem dX12_one_60 : decode cX12_one 60 = .ok (.dup2, 1) := by decide +kernel
theorem dX12_one_61 : decode cX12_one 61 = .ok (.iaload, 1) := by decide +kernel
theorem dX12_one_62 : decode cX12_one 62 = .ok (.bipush 24, 2) := by decide +kernel
theorem dX12_one_64 : decode cX12_one 64 = .ok (.ior, 1) := by decide +kernel
theorem dX12_one_65 : decode cX12_one 65 = .ok (.iastore, 1) := by decide +kernel
theorem dX12_one_66 : decode cX12_one 66 = .ok (.aload_n 0, 1) := by decide +kernel
theorem dX12_one_67 : decode cX12_one 67 = .ok (.invokevirtual 275, 3) := by decide +kernel
theorem dX12_one_70 : decode cX12_one 70 = .ok (.iconst 1, 1) := by decide +kernel
theorem dX12_one_71 : decode cX12_one 71 = .ok (.ireturn, 1) := by decide +kernel
theorem dX12_one_72 : decode cX12_one 72 = .ok (.aload_n 0, 1) := by decide +kernel
theorem dX12_one_73 : decode cX12_one 73 = .ok (.ldc_w 284, 3) := by decide +kernel
theorem dX12_one_76 : decode cX12_one 76 = .ok (.invokevirtual 278, 3) := by decide +kernel
theorem dX12_one_79 : decode cX12_one 79 = .ok (.ifCond .eq 35, 3) := by decide +kernel
theorem dX12_one_82 : decode cX12_one 82 = .ok (.aload_n 0, 1) := by decide +kernel
theorem dX12_one_83 : decode cX12_one 83 = .ok (.invokevirtual 275, 3) := by decide +kernel
theorem dX12_one_86 : decode cX12_one 86 = .ok (.aload_n 0, 1) := by decide +kernel
theorem dX12_one_87 : decode cX12_one 87 = .ok (.iconst 0, 1) := by decide +kernel
theorem dX12_one_88 : decode cX12_one 88 = .ok (.iconst 3, 1) := by decide +kernel
theorem dX12_one_89 : decode cX12_one 89 = .ok (.invokevirtual 286, 3) := by decide +kernel
theorem dX12_one_92 : decode cX12_one 92 = .ok (.ifCond .ne 5, 3) := by decide +kernel
theorem dX12_one_95 : decode cX12_one 95 = .ok (.iconst 0, 1) := by decide +kernel
theorem dX12_one_96 : decode cX12_one 96 = .ok (.ireturn, 1) := by decide +kernel
theorem dX12_one_97 : decode cX12_one 97 = .ok (.aload_n 0, 1) := by decide +kernel
theorem dX12_one_98 : decode cX12_one 98 = .ok (.getfield 70, 3) := by decide +kernel
theorem dX12_one_101 : decode cX12_one 101 = .ok (.iload_n 1, 1) := by decide +kernel
theorem dX12_one_102 : decode cX12_one 102 = .ok (.dup2, 1) := by decide +kernel
theorem dX12_one_103 : decode cX12_one 103 = .ok (.iaload, 1) := by decide +kernel
theorem dX12_one_104 : decode cX12_one 104 = .ok (.iconst 1, 1) := by decide +kernel
theorem dX12_one_105 : decode cX12_one 105 = .ok (.aload_n 0, 1) := by decide +kernel
theorem dX12_one_106 : decode cX12_one 106 = .ok (.getfield 272, 3) := by decide +kernel
theorem dX12_one_109 : decode cX12_one 109 = .ok (.ishl, 1) := by decide +kernel
theorem dX12_one_110 : decode cX12_one 110 = .ok (.ior, 1) := by decide +kernel
theorem dX12_one_111 : decode cX12_one 111 = .ok (.iastore, 1) := by decide +kernel
theorem dX12_one_112 : decode cX12_one 112 = .ok (.iconst 1, 1) := by decide +kernel
theorem dX12_one_113 : decode cX12_one 113 = .ok (.ireturn, 1) := by decide +kernel
theorem dX12_one_114 : decode cX12_one 114 = .ok (.aload_n 0, 1) := by decide +kernel
theorem dX12_one_115 : decode cX12_one 115 = .ok (.invokevirtual 268, 3) := by decide +kernel
theorem dX12_one_118 : decode cX12_one 118 = .ok (.ireturn, 1) := by decide +kernel
theorem dX12_ways_0 : decode cX12_ways 0 = .ok (.aload_n 0, 1) := by decide +kernel
theorem dX12_ways_1 : decode cX12_ways 1 = .ok (.ldc_w 288, 3) := by decide +kernel
theorem dX12_ways_4 : decode cX12_ways 4 = .ok (.invokevirtual 278, 3) := by decide +kernel
theorem dX12_ways_7 : decode cX12_ways 7 = .ok (.ifCond .eq 14, 3) := by decide +kernel
theorem dX12_ways_10 : decode cX12_ways 10 = .ok (.aload_n 0, 1) := by decide +kernel
theorem dX12_ways_11 : decode cX12_ways 11 = .ok (.getfield 73, 3) := by decide +kernel
theorem dX12_ways_14 : decode cX12_ways 14 = .ok (.iload_n 1, 1) := by decide +kernel
theorem dX12_ways_15 : decode cX12_ways 15 = .ok (.iconst 1, 1) := by decide +kernel
theorem dX12_ways_16 : decode cX12_ways 16 = .ok (.iastore, 1) := by decide +kernel
theorem dX12_ways_17 : decode cX12_ways 17 = .ok (.aload_n 0, 1) := by decide +kernel
theorem dX12_ways_18 : decode cX12_ways 18 = .ok (.invokevirtual 275, 3) := by decide +kernel
theorem dX12_ways_21 : decode cX12_ways 21 = .ok (.aload_n 0, 1) := by decide +kernel
theorem dX12_ways_22 : decode cX12_ways 22 = .ok (.iload_n 1, 1) := by decide +kernel
theorem dX12_ways_23 : decode cX12_ways 23 = .ok (.invokevirtual 289, 3) := by decide +kernel
theorem dX12_ways_26 : decode cX12_ways 26 = .ok (.ifCond .ne 5, 3) := by decide +kernel
theorem dX12_ways_29 : decode cX12_ways 29 = .ok (.iconst 0, 1) := by decide +kernel
theorem dX12_ways_30 : decode cX12_ways 30 = .ok (.ireturn, 1) := by decide +kernel
theorem dX12_ways_31 : decode cX12_ways 31 = .ok (.aload_n 0, 1) := by decide +kernel
theorem dX12_ways_32 : decode cX12_ways 32 = .ok (.ldc_w 292, 3) := by decide +kernel
theorem dX12_ways_35 : decode cX12_ways 35 = .ok (.invokevirtual 278, 3) := by decide +kernel
theorem dX12_ways_38 : decode cX12_ways 38 = .ok (.ifCond .eq 17, 3) := by decide +kernel
theorem dX12_ways_41 : decode cX12_ways 41 = .ok (.aload_n 0, 1) := by decide +kernel
theorem dX12_ways_42 : decode cX12_ways 42 = .ok (.invokevirtual 275, 3) := by decide +kernel
theorem dX12_ways_45 : decode cX12_ways 45 = .ok (.aload_n 0, 1) := by decide +kernel
theorem dX12_ways_46 : decode cX12_ways 46 = .ok (.iload_n 1, 1) := by decide +kernel
theorem dX12_ways_47 : decode cX12_ways 47 = .ok (.invokevirtual 289, 3) := by decide +kernel
theorem dX12_ways_50 : decode cX12_ways 50 = .ok (.ifCond .ne (-19), 3) := by decide +kernel
theorem dX12_ways_53 : decode cX12_ways 53 = .ok (.iconst 0, 1) := by decide +kernel
theorem dX12_ways_54 : decode cX12_ways 54 = .ok (.ireturn, 1) := by decide +kernel
theorem dX12_ways_55 : decode cX12_ways 55 = .ok (.iconst 1, 1) := by decide +kernel
theorem dX12_ways_56 : decode cX12_ways 56 = .ok (.ireturn, 1) := by decide +kernel
theorem dX12_read_0 : decode cX12_read 0 = .ok (.aload_n 0, 1) := by decide +kernel
theorem dX12_read_1 : decode cX12_read 1 = .ok (.getfield 67, 3) := by decide +kernel
theorem dX12_read_4 : decode cX12_read 4 = .ok (.iload_n 1, 1) := by decide +kernel
theorem dX12_read_5 : decode cX12_read 5 = .ok (.iconst 0, 1) := by decide +kernel
theorem dX12_read_6 : decode cX12_read 6 = .ok (.iastore, 1) := by decide +kernel
theorem dX12_read_7 : decode cX12_read 7 = .ok (.aload_n 0, 1) := by decide +kernel
theorem dX12_read_8 : decode cX12_read 8 = .ok (.getfield 70, 3) := by decide +kernel
theorem dX12_read_11 : decode cX12_read 11 = .ok (.iload_n 1, 1) := by decide +kernel
theorem dX12_read_12 : decode cX12_read 12 = .ok (.iconst 0, 1) := by decide +kernel
theorem dX12_read_13 : decode cX12_read 13 = .ok (.iastore, 1) := by decide +kernel
theorem dX12_read_14 : decode cX12_read 14 = .ok (.aload_n 0, 1) := by decide +kernel
theorem dX12_read_15 : decode cX12_read 15 = .ok (.getfield 73, 3) := by decide +kernel
theorem dX12_read_18 : decode cX12_read 18 = .ok (.iload_n 1, 1) := by decide +kernel
theorem dX12_read_19 : decode cX12_read 19 = .ok (.iconst 0, 1) := by decide +kernel
theorem dX12_read_20 : decode cX12_read 20 = .ok (.iastore, 1) := by decide +kernel
theorem dX12_read_21 : decode cX12_read 21 = .ok (.aload_n 0, 1) := by decide +kernel
theorem dX12_read_22 : decode cX12_read 22 = .ok (.getfield 64, 3) := by decide +kernel
theorem dX12_read_25 : decode cX12_read 25 = .ok (.iload_n 1, 1) := by decide +kernel
theorem dX12_read_26 : decode cX12_read 26 = .ok (.iconst (-1), 1) := by decide +kernel
theorem dX12_read_27 : decode cX12_read 27 = .ok (.iastore, 1) := by decide +kernel
theorem dX12_read_28 : decode cX12_read 28 = .ok (.aload_n 0, 1) := by decide +kernel
theorem dX12_read_29 : decode cX12_read 29 = .ok (.getfield 58, 3) := by decide +kernel
theorem dX12_read_32 : decode cX12_read 32 = .ok (.iload_n 1, 1) := by decide +kernel
theorem dX12_read_33 : decode cX12_read 33 = .ok (.iconst 0, 1) := by decide +kernel
theorem dX12_read_34 : decode cX12_read 34 = .ok (.iastore, 1) := by decide +kernel
theorem dX12_read_35 : decode cX12_read 35 = .ok (.aload_n 0, 1) := by decide +kernel
theorem dX12_read_36 : decode cX12_read 36 = .ok (.getfield 61, 3) := by decide +kernel
theorem dX12_read_39 : decode cX12_read 39 = .ok (.iload_n 1, 1) := by decide +kernel
theorem dX12_read_40 : decode cX12_read 40 = .ok (.iconst 1, 1) := by decide +kernel
theorem dX12_read_41 : decode cX12_read 41 = .ok (.iastore, 1) := by decide +kernel
theorem dX12_read_42 : decode cX12_read 42 = .ok (.aload_n 0, 1) := by decide +kernel
theorem dX12_read_43 : decode cX12_read 43 = .ok (.getfield 76, 3) := by decide +kernel
theorem dX12_read_46 : decode cX12_read 46 = .ok (.iload_n 1, 1) := by decide +kernel
theorem dX12_read_47 : decode cX12_read 47 = .ok (.iconst 0, 1) := by decide +kernel
theorem dX12_read_48 : decode cX12_read 48 = .ok (.iastore, 1) := by decide +kernel
theorem dX12_read_49 : decode cX12_read 49 = .ok (.aload_n 0, 1) := by decide +kernel
theorem dX12_read_50 : decode cX12_read 50 = .ok (.iconst 0, 1) := by decide +kernel
theorem dX12_read_51 : decode cX12_read 51 = .ok (.putfield 222, 3) := by decide +kernel
theorem dX12_read_54 : decode cX12_read 54 = .ok (.aload_n 0, 1) := by decide +kernel
theorem dX12_read_55 : decode cX12_read 55 = .ok (.invokevirtual 275, 3) := by decide +kernel
theorem dX12_read_58 : decode cX12_read 58 = .ok (.aload_n 0, 1) := by decide +kernel
theorem dX12_read_59 : decode cX12_read 59 = .ok (.iconst 0, 1) := by decide +kernel
theorem dX12_read_60 : decode cX12_read 60 = .ok (.aload_n 0, 1) := by decide +kernel
theorem dX12_read_61 : decode cX12_read 61 = .ok (.getfield 156, 3) := by decide +kernel
theorem dX12_read_64 : decode cX12_read 64 = .ok (.iconst 1, 1) := by decide +kernel
theorem dX12_read_65 : decode cX12_read 65 = .ok (.isub, 1) := by decide +kernel
theorem dX12_read_66 : decode cX12_read 66 = .ok (.invokevirtual 286, 3) := by decide +kernel
theorem dX12_read_69 : decode cX12_read 69 = .ok (.ifCond .ne 5, 3) := by decide +kernel
theorem dX12_read_72 : decode cX12_read 72 = .ok (.iconst 0, 1) := by decide +kernel
theorem dX12_read_73 : decode cX12_read 73 = .ok (.ireturn, 1) := by decide +kernel
theorem dX12_read_74 : decode cX12_read 74 = .ok (.aload_n 0, 1) := by decide +kernel
theorem dX12_read_75 : decode cX12_read 75 = .ok (.getfield 52, 3) := by decide +kernel
theorem dX12_read_78 : decode cX12_read 78 = .ok (.iload_n 1, 1) := by decide +kernel
theorem dX12_read_79 : decode cX12_read 79 = .ok (.aload_n 0, 1) := by decide +kernel
theorem dX12_read_80 : decode cX12_read 80 = .ok (.getfield 272, 3) := by decide +kernel
theorem dX12_read_83 : decode cX12_read 83 = .ok (.iastore, 1) := by decide +kernel
theorem dX12_read_84 : decode cX12_read 84 = .ok (.iconst 0, 1) := by decide +kernel
theorem dX12_read_85 : decode cX12_read 85 = .ok (.istore_n 2, 1) := by decide +kernel
theorem dX12_read_86 : decode cX12_read 86 = .ok (.iload_n 2, 1) := by decide +kernel
theorem dX12_read_87 : decode cX12_read 87 = .ok (.iconst 3, 1) := by decide +kernel
theorem dX12_read_88 : decode cX12_read 88 = .ok (.if_icmp .ge 29, 3) := by decide +kernel
theorem dX12_read_91 : decode cX12_read 91 = .ok (.aload_n 0, 1) := by decide +kernel
theorem dX12_read_92 : decode cX12_read 92 = .ok (.aload_n 0, 1) := by decide +kernel
theorem dX12_read_93 : decode cX12_read 93 = .ok (.getfield 131, 3) := by decide +kernel
theorem dX12_read_96 : decode cX12_read 96 = .ok (.iload_n 2, 1) := by decide +kernel
theorem dX12_read_97 : decode cX12_read 97 = .ok (.aaload, 1) := by decide +kernel
theorem dX12_read_98 : decode cX12_read 98 = .ok (.invokevirtual 278, 3) := by decide +kernel
theorem dX12_read_101 : decode cX12_read 101 = .ok (.ifCond .eq 10, 3) := by decide +kernel
theorem dX12_read_104 : decode cX12_read 104 = .ok (.aload_n 0, 1) := by decide +kernel
theorem dX12_read_105 : decode cX12_read 105 = .ok (.getfield 64, 3) := by decide +kernel
theorem dX12_read_108 : decode cX12_read 108 = .ok (.iload_n 1, 1) := by decide +kernel
theorem dX12_read_109 : decode cX12_read 109 = .ok (.iload_n 2, 1) := by decide +kernel
theorem dX12_read_110 : decode cX12_read 110 = .ok (.iastore, 1) := by decide +kernel
theorem dX12_read_111 : decode cX12_read 111 = .ok (.iinc 2 1, 3) := by decide +kernel
theorem dX12_read_114 : decode cX12_read 114 = .ok (.goto (-28), 3) := by decide +kernel
theorem dX12_read_117 : decode cX12_read 117 = .ok (.aload_n 0, 1) := by decide +kernel
theorem dX12_read_118 : decode cX12_read 118 = .ok (.getfield 64, 3) := by decide +kernel
theorem dX12_read_121 : decode cX12_read 121 = .ok (.iload_n 1, 1) := by decide +kernel
theorem dX12_read_122 : decode cX12_read 122 = .ok (.iaload, 1) := by decide +kernel
theorem dX12_read_123 : decode cX12_read 123 = .ok (.iconst (-1), 1) := by decide +kernel
theorem dX12_read_124 : decode cX12_read 124 = .ok (.if_icmp .eq 10, 3) := by decide +kernel
theorem dX12_read_127 : decode cX12_read 127 = .ok (.aload_n 0, 1) := by decide +kernel
theorem dX12_read_128 : decode cX12_read 128 = .ok (.invokevirtual 275, 3) := by decide +kernel
theorem dX12_read_131 : decode cX12_read 131 = .ok (.goto 13, 3) := by decide +kernel
theorem dX12_read_134 : decode cX12_read 134 = .ok (.aload_n 0, 1) := by decide +kernel
theorem dX12_read_135 : decode cX12_read 135 = .ok (.iload_n 1, 1) := by decide +kernel
theorem dX12_read_136 : decode cX12_read 136 = .ok (.invokevirtual 294, 3) := by decide +kernel
theorem dX12_read_139 : decode cX12_read 139 = .ok (.ifCond .ne 5, 3) := by decide +kernel
theorem dX12_read_142 : decode cX12_read 142 = .ok (.iconst 0, 1) := by decide +kernel
theorem dX12_read_143 : decode cX12_read 143 = .ok (.ireturn, 1) := by decide +kernel
theorem dX12_read_144 : decode cX12_read 144 = .ok (.aload_n 0, 1) := by decide +kernel
theorem dX12_read_145 : decode cX12_read 145 = .ok (.getfield 232, 3) := by decide +kernel
theorem dX12_read_148 : decode cX12_read 148 = .ok (.iconst 2, 1) := by decide +kernel
theorem dX12_read_149 : decode cX12_read 149 = .ok (.if_icmp .ne 23, 3) := by decide +kernel
theorem dX12_read_152 : decode cX12_read 152 = .ok (.aload_n 0, 1) := by decide +kernel
theorem dX12_read_153 : decode cX12_read 153 = .ok (.getfield 228, 3) := by decide +kernel
theorem dX12_read_156 : decode cX12_read 156 = .ok (.aload_n 0, 1) := by decide +kernel
theorem dX12_read_157 : decode cX12_read 157 = .ok (.getfield 52, 3) := by decide +kernel
theorem dX12_read_160 : decode cX12_read 160 = .ok (.iload_n 1, 1) := by decide +kernel
theorem dX12_read_161 : decode cX12_read 161 = .ok (.iaload, 1) := by decide +kernel
theorem dX12_read_162 : decode cX12_read 162 = .ok (.i2l, 1) := by decide +kernel
theorem dX12_read_163 : decode cX12_read 163 = .ok (.lcmp, 1) := by decide +kernel
theorem dX12_read_164 : decode cX12_read 164 = .ok (.ifCond .ne 8, 3) := by decide +kernel
theorem dX12_read_167 : decode cX12_read 167 = .ok (.aload_n 0, 1) := by decide +kernel
theorem dX12_read_168 : decode cX12_read 168 = .ok (.invokevirtual 268, 3) := by decide +kernel
theorem dX12_read_171 : decode cX12_read 171 = .ok (.ireturn, 1) := by decide +kernel
theorem dX12_read_172 : decode cX12_read 172 = .ok (.aload_n 0, 1) := by decide +kernel
theorem dX12_read_173 : decode cX12_read 173 = .ok (.iconst 0, 1) := by decide +kernel
theorem dX12_read_174 : decode cX12_read 174 = .ok (.aload_n 0, 1) := by decide +kernel
theorem dX12_read_175 : decode cX12_read 175 = .ok (.getfield 156, 3) := by decide +kernel
theorem dX12_read_178 : decode cX12_read 178 = .ok (.iconst 1, 1) := by decide +kernel
theorem dX12_read_179 : decode cX12_read 179 = .ok (.isub, 1) := by decide +kernel
theorem dX12_read_180 : decode cX12_read 180 = .ok (.invokevirtual 286, 3) := by decide +kernel
theorem dX12_read_183 : decode cX12_read 183 = .ok (.ifCond .ne 5, 3) := by decide +kernel
theorem dX12_read_186 : decode cX12_read 186 = .ok (.iconst 0, 1) := by decide +kernel
theorem dX12_read_187 : decode cX12_read 187 = .ok (.ireturn, 1) := by decide +kernel
theorem dX12_read_188 : decode cX12_read 188 = .ok (.aload_n 0, 1) := by decide +kernel
theorem dX12_read_189 : decode cX12_read 189 = .ok (.getfield 55, 3) := by decide +kernel
theorem dX12_read_192 : decode cX12_read 192 = .ok (.iload_n 1, 1) := by decide +kernel
theorem dX12_read_193 : decode cX12_read 193 = .ok (.aload_n 0, 1) := by decide +kernel
theorem dX12_read_194 : decode cX12_read 194 = .ok (.getfield 272, 3) := by decide +kernel
theorem dX12_read_197 : decode cX12_read 197 = .ok (.iastore, 1) := by decide +kernel
theorem dX12_read_198 : decode cX12_read 198 = .ok (.aload_n 0, 1) := by decide +kernel
theorem dX12_read_199 : decode cX12_read 199 = .ok (.ldc_w 297, 3) := by decide +kernel
theorem dX12_read_202 : decode cX12_read 202 = .ok (.invokevirtual 278, 3) := by decide +kernel
theorem dX12_read_205 : decode cX12_read 205 = .ok (.ifCond .eq 30, 3) := by decide +kernel
theorem dX12_read_208 : decode cX12_read 208 = .ok (.aload_n 0, 1) := by decide +kernel
theorem dX12_read_209 : decode cX12_read 209 = .ok (.invokevirtual 275, 3) := by decide +kernel
theorem dX12_read_212 : decode cX12_read 212 = .ok (.aload_n 0, 1) := by decide +kernel
theorem dX12_read_213 : decode cX12_read 213 = .ok (.iconst 0, 1) := by decide +kernel
theorem dX12_read_214 : decode cX12_read 214 = .ok (.sipush 999, 3) := by decide +kernel
theorem dX12_read_217 : decode cX12_read 217 = .ok (.invokevirtual 286, 3) := by decide +kernel
theorem dX12_read_220 : decode cX12_read 220 = .ok (.ifCond .ne 5, 3) := by decide +kernel
theorem dX12_read_223 : decode cX12_read 223 = .ok (.iconst 0, 1) := by decide +kernel
theorem dX12_read_224 : decode cX12_read 224 = .ok (.ireturn, 1) := by decide +kernel
theorem dX12_read_225 : decode cX12_read 225 = .ok (.aload_n 0, 1) := by decide +kernel
theorem dX12_read_226 : decode cX12_read 226 = .ok (.getfield 58, 3) := by decide +kernel
theorem dX12_read_229 : decode cX12_read 229 = .ok (.iload_n 1, 1) := by decide +kernel
theorem dX12_read_230 : decode cX12_read 230 = .ok (.aload_n 0, 1) := by decide +kernel
theorem dX12_read_231 : decode cX12_read 231 = .ok (.getfield 272, 3) := by decide +kernel
theorem dX12_read_234 : decode cX12_read 234 = .ok (.iastore, 1) := by decide +kernel
theorem dX12_read_235 : decode cX12_read 235 = .ok (.aload_n 0, 1) := by decide +kernel
theorem dX12_read_236 : decode cX12_read 236 = .ok (.ldc_w 299, 3) := by decide +kernel
theorem dX12_read_239 : decode cX12_read 239 = .ok (.invokevirtual 278, 3) := by decide +kernel
theorem dX12_read_242 : decode cX12_read 242 = .ok (.ifCond .eq 29, 3) := by decide +kernel
theorem dX12_read_245 : decode cX12_read 245 = .ok (.aload_n 0, 1) := by decide +kernel
theorem dX12_read_246 : decode cX12_read 246 = .ok (.invokevirtual 275, 3) := by decide +kernel
theorem dX12_read_249 : decode cX12_read 249 = .ok (.aload_n 0, 1) := by decide +kernel
theorem dX12_read_250 : decode cX12_read 250 = .ok (.iconst 1, 1) := by decide +kernel
theorem dX12_read_251 : decode cX12_read 251 = .ok (.bipush 99, 2) := by decide +kernel
theorem dX12_read_253 : decode cX12_read 253 = .ok (.invokevirtual 286, 3) := by decide +kernel
theorem dX12_read_256 : decode cX12_read 256 = .ok (.ifCond .ne 5, 3) := by decide +kernel
theorem dX12_read_259 : decode cX12_read 259 = .ok (.iconst 0, 1) := by decide +kernel
theorem dX12_read_260 : decode cX12_read 260 = .ok (.ireturn, 1) := by decide +kernel
theorem dX12_read_261 : decode cX12_read 261 = .ok (.aload_n 0, 1) := by decide +kernel
theorem dX12_read_262 : decode cX12_read 262 = .ok (.getfield 61, 3) := by decide +kernel
theorem dX12_read_265 : decode cX12_read 265 = .ok (.iload_n 1, 1) := by decide +kernel
theorem dX12_read_266 : decode cX12_read 266 = .ok (.aload_n 0, 1) := by decide +kernel
theorem dX12_read_267 : decode cX12_read 267 = .ok (.getfield 272, 3) := by decide +kernel
theorem dX12_read_270 : decode cX12_read 270 = .ok (.iastore, 1) := by decide +kernel
theorem dX12_read_271 : decode cX12_read 271 = .ok (.aload_n 0, 1) := by decide +kernel
theorem dX12_read_272 : decode cX12_read 272 = .ok (.getfield 232, 3) := by decide +kernel
theorem dX12_read_275 : decode cX12_read 275 = .ok (.ifCond .eq 10, 3) := by decide +kernel
theorem dX12_read_278 : decode cX12_read 278 = .ok (.aload_n 0, 1) := by decide +kernel
theorem dX12_read_279 : decode cX12_read 279 = .ok (.invokevirtual 268, 3) := by decide +kernel
theorem dX12_read_282 : decode cX12_read 282 = .ok (.ifCond .eq 7, 3) := by decide +kernel
theorem dX12_read_285 : decode cX12_read 285 = .ok (.iconst 1, 1) := by decide +kernel
theorem dX12_read_286 : decode cX12_read 286 = .ok (.goto 4, 3) := by decide +kernel
theorem dX12_read_289 : decode cX12_read 289 = .ok (.iconst 0, 1) := by decide +kernel
theorem dX12_read_290 : decode cX12_read 290 = .ok (.ireturn, 1) := by decide +kernel
theorem dX12_deed_0 : decode cX12_deed 0 = .ok (.aload_n 0, 1) := by decide +kernel
theorem dX12_deed_1 : decode cX12_deed 1 = .ok (.getfield 300, 3) := by decide +kernel
theorem dX12_deed_4 : decode cX12_deed 4 = .ok (.bipush 24, 2) := by decide +kernel
theorem dX12_deed_6 : decode cX12_deed 6 = .ok (.if_icmp .ne 10, 3) := by decide +kernel
theorem dX12_deed_9 : decode cX12_deed 9 = .ok (.aload_n 0, 1) := by decide +kernel
theorem dX12_deed_10 : decode cX12_deed 10 = .ok (.bipush (-6), 2) := by decide +kernel
theorem dX12_deed_12 : decode cX12_deed 12 = .ok (.invokevirtual 177, 3) := by decide +kernel
theorem dX12_deed_15 : decode cX12_deed 15 = .ok (.ireturn, 1) := by decide +kernel
theorem dX12_deed_16 : decode cX12_deed 16 = .ok (.aload_n 0, 1) := by decide +kernel
theorem dX12_deed_17 : decode cX12_deed 17 = .ok (.iconst 0, 1) := by decide +kernel
theorem dX12_deed_18 : decode cX12_deed 18 = .ok (.putfield 206, 3) := by decide +kernel
theorem dX12_deed_21 : decode cX12_deed 21 = .ok (.aload_n 0, 1) := by decide +kernel
theorem dX12_deed_22 : decode cX12_deed 22 = .ok (.aload_n 0, 1) := by decide +kernel
theorem dX12_deed_23 : decode cX12_deed 23 = .ok (.getfield 300, 3) := by decide +kernel
theorem dX12_deed_26 : decode cX12_deed 26 = .ok (.invokevirtual 303, 3) := by decide +kernel
theorem dX12_deed_29 : decode cX12_deed 29 = .ok (.istore_n 1, 1) := by decide +kernel
theorem dX12_deed_30 : decode cX12_deed 30 = .ok (.aload_n 0, 1) := by decide +kernel
theorem dX12_deed_31 : decode cX12_deed 31 = .ok (.iconst 0, 1) := by decide +kernel
theorem dX12_deed_32 : decode cX12_deed 32 = .ok (.putfield 219, 3) := by decide +kernel
theorem dX12_deed_35 : decode cX12_deed 35 = .ok (.iload_n 1, 1) := by decide +kernel
theorem dX12_deed_36 : decode cX12_deed 36 = .ok (.ifCond .ne 18, 3) := by decide +kernel
theorem dX12_deed_39 : decode cX12_deed 39 = .ok (.aload_n 0, 1) := by decide +kernel
theorem dX12_deed_40 : decode cX12_deed 40 = .ok (.bipush (-2), 2) := by decide +kernel
theorem dX12_deed_42 : decode cX12_deed 42 = .ok (.invokevirtual 177, 3) := by decide +kernel
theorem dX12_deed_45 : decode cX12_deed 45 = .ok (.pop, 1) := by decide +kernel
theorem dX12_deed_46 : decode cX12_deed 46 = .ok (.bipush (-20), 2) := by decide +kernel
theorem dX12_deed_48 : decode cX12_deed 48 = .ok (.aload_n 0, 1) := by decide +kernel
theorem dX12_deed_49 : decode cX12_deed 49 = .ok (.getfield 253, 3) := by decide +kernel
theorem dX12_deed_52 : decode cX12_deed 52 = .ok (.isub, 1) := by decide +kernel
theorem dX12_deed_53 : decode cX12_deed 53 = .ok (.ireturn, 1) := by decide +kernel
theorem dX12_deed_54 : decode cX12_deed 54 = .ok (.aload_n 0, 1) := by decide +kernel
theorem dX12_deed_55 : decode cX12_deed 55 = .ok (.dup, 1) := by decide +kernel
theorem dX12_deed_56 : decode cX12_deed 56 = .ok (.getfield 300, 3) := by decide +kernel
theorem dX12_deed_59 : decode cX12_deed 59 = .ok (.dup_x1, 1) := by decide +kernel
theorem dX12_deed_60 : decode cX12_deed 60 = .ok (.iconst 1, 1) := by decide +kernel
theorem dX12_deed_61 : decode cX12_deed 61 = .ok (.iadd, 1) := by decide +kernel
theorem dX12_deed_62 : decode cX12_deed 62 = .ok (.putfield 300, 3) := by decide +kernel
theorem dX12_deed_65 : decode cX12_deed 65 = .ok (.ireturn, 1) := by decide +kernel
theorem dX12_isDeed_0 : decode cX12_isDeed 0 = .ok (.iload_n 1, 1) := by decide +kernel
theorem dX12_isDeed_1 : decode cX12_isDeed 1 = .ok (.i2l, 1) := by decide +kernel
theorem dX12_isDeed_2 : decode cX12_isDeed 2 = .ok (.lconst 0, 1) := by decide +kernel
theorem dX12_isDeed_3 : decode cX12_isDeed 3 = .ok (.aload_n 0, 1) := by decide +kernel
theorem dX12_isDeed_4 : decode cX12_isDeed 4 = .ok (.getfield 300, 3) := by decide +kernel
theorem dX12_isDeed_7 : decode cX12_isDeed 7 = .ok (.iconst 1, 1) := by decide +kernel
theorem dX12_isDeed_8 : decode cX12_isDeed 8 = .ok (.isub, 1) := by decide +kernel
theorem dX12_isDeed_9 : decode cX12_isDeed 9 = .ok (.i2l, 1) := by decide +kernel
theorem dX12_isDeed_10 : decode cX12_isDeed 10 = .ok (.invokestatic 159, 3) := by decide +kernel
theorem dX12_isDeed_13 : decode cX12_isDeed 13 = .ok (.ireturn, 1) := by decide +kernel
theorem dX12_lets_0 : decode cX12_lets 0 = .ok (.aload_n 0, 1) := by decide +kernel
theorem dX12_lets_1 : decode cX12_lets 1 = .ok (.getfield 64, 3) := by decide +kernel
theorem dX12_lets_4 : decode cX12_lets 4 = .ok (.iload_n 1, 1) := by decide +kernel
theorem dX12_lets_5 : decode cX12_lets 5 = .ok (.iaload, 1) := by decide +kernel
theorem dX12_lets_6 : decode cX12_lets 6 = .ok (.ifCond .ne 5, 3) := by decide +kernel
theorem dX12_lets_9 : decode cX12_lets 9 = .ok (.iconst 3, 1) := by decide +kernel
theorem dX12_lets_10 : decode cX12_lets 10 = .ok (.ireturn, 1) := by decide +kernel
theorem dX12_lets_11 : decode cX12_lets 11 = .ok (.aload_n 0, 1) := by decide +kernel
theorem dX12_lets_12 : decode cX12_lets 12 = .ok (.getfield 64, 3) := by decide +kernel
theorem dX12_lets_15 : decode cX12_lets 15 = .ok (.iload_n 1, 1) := by decide +kernel
theorem dX12_lets_16 : decode cX12_lets 16 = .ok (.iaload, 1) := by decide +kernel
theorem dX12_lets_17 : decode cX12_lets 17 = .ok (.ifCond .le 6, 3) := by decide +kernel
theorem dX12_lets_20 : decode cX12_lets 20 = .ok (.bipush 103, 2) := by decide +kernel
theorem dX12_lets_22 : decode cX12_lets 22 = .ok (.ireturn, 1) := by decide +kernel
theorem dX12_lets_23 : decode cX12_lets 23 = .ok (.aload_n 0, 1) := by decide +kernel
theorem dX12_lets_24 : decode cX12_lets 24 = .ok (.getfield 67, 3) := by decide +kernel
theorem dX12_lets_27 : decode cX12_lets 27 = .ok (.iload_n 1, 1) := by decide +kernel
theorem dX12_lets_28 : decode cX12_lets 28 = .ok (.iaload, 1) := by decide +kernel
theorem dX12_lets_29 : decode cX12_lets 29 = .ok (.istore_n 2, 1) := by decide +kernel
theorem dX12_lets_30 : decode cX12_lets 30 = .ok (.iconst 0, 1) := by decide +kernel
theorem dX12_lets_31 : decode cX12_lets 31 = .ok (.istore_n 3, 1) := by decide +kernel
theorem dX12_lets_32 : decode cX12_lets 32 = .ok (.iload_n 3, 1) := by decide +kernel
theorem dX12_lets_33 : decode cX12_lets 33 = .ok (.iconst 4, 1) := by decide +kernel
theorem dX12_lets_34 : decode cX12_lets 34 = .ok (.if_icmp .ge 47, 3) := by decide +kernel
theorem dX12_lets_37 : decode cX12_lets 37 = .ok (.aload_n 0, 1) := by decide +kernel
theorem dX12_lets_38 : decode cX12_lets 38 = .ok (.getfield 70, 3) := by decide +kernel
theorem dX12_lets_41 : decode cX12_lets 41 = .ok (.iload_n 1, 1) := by decide +kernel
theorem dX12_lets_42 : decode cX12_lets 42 = .ok (.iaload, 1) := by decide +kernel
theorem dX12_lets_43 : decode cX12_lets 43 = .ok (.iload_n 3, 1) := by decide +kernel
theorem dX12_lets_44 : decode cX12_lets 44 = .ok (.ishr, 1) := by decide +kernel
theorem dX12_lets_45 : decode cX12_lets 45 = .ok (.iconst 1, 1) := by decide +kernel
theorem dX12_lets_46 : decode cX12_lets 46 = .ok (.iand, 1) := by decide +kernel
theorem dX12_lets_47 : decode cX12_lets 47 = .ok (.ifCond .eq 28, 3) := by decide +kernel
theorem dX12_lets_50 : decode cX12_lets 50 = .ok (.aload_n 0, 1) := by decide +kernel
theorem dX12_lets_51 : decode cX12_lets 51 = .ok (.getfield 79, 3) := by decide +kernel
theorem dX12_lets_54 : decode cX12_lets 54 = .ok (.iload_n 3, 1) := by decide +kernel
theorem dX12_lets_55 : decode cX12_lets 55 = .ok (.iaload, 1) := by decide +kernel
theorem dX12_lets_56 : decode cX12_lets 56 = .ok (.iconst (-1), 1) := by decide +kernel
theorem dX12_lets_57 : decode cX12_lets 57 = .ok (.if_icmp .ne 7, 3) := by decide +kernel
theorem dX12_lets_60 : decode cX12_lets 60 = .ok (.sipush 255, 3) := by decide +kernel
theorem dX12_lets_63 : decode cX12_lets 63 = .ok (.ireturn, 1) := by decide +kernel
theorem dX12_lets_64 : decode cX12_lets 64 = .ok (.iload_n 2, 1) := by decide +kernel
theorem dX12_lets_65 : decode cX12_lets 65 = .ok (.iconst 1, 1) := by decide +kernel
theorem dX12_lets_66 : decode cX12_lets 66 = .ok (.aload_n 0, 1) := by decide +kernel
theorem dX12_lets_67 : decode cX12_lets 67 = .ok (.getfield 79, 3) := by decide +kernel
theorem dX12_lets_70 : decode cX12_lets 70 = .ok (.iload_n 3, 1) := by decide +kernel
theorem dX12_lets_71 : decode cX12_lets 71 = .ok (.iaload, 1) := by decide +kernel
theorem dX12_lets_72 : decode cX12_lets 72 = .ok (.ishl, 1) := by decide +kernel
theorem dX12_lets_73 : decode cX12_lets 73 = .ok (.ior, 1) := by decide +kernel
theorem dX12_lets_74 : decode cX12_lets 74 = .ok (.istore_n 2, 1) := by decide +kernel
theorem dX12_lets_75 : decode cX12_lets 75 = .ok (.iinc 3 1, 3) := by decide +kernel
theorem dX12_lets_78 : decode cX12_lets 78 = .ok (.goto (-46), 3) := by decide +kernel
theorem dX12_lets_81 : decode cX12_lets 81 = .ok (.aload_n 0, 1) := by decide +kernel
theorem dX12_lets_82 : decode cX12_lets 82 = .ok (.getfield 73, 3) := by decide +kernel
theorem dX12_lets_85 : decode cX12_lets 85 = .ok (.iload_n 1, 1) := by decide +kernel
theorem dX12_lets_86 : decode cX12_lets 86 = .ok (.iaload, 1) := by decide +kernel
theorem dX12_lets_87 : decode cX12_lets 87 = .ok (.iconst 1, 1) := by decide +kernel
theorem dX12_lets_88 : decode cX12_lets 88 = .ok (.if_icmp .ne 13, 3) := by decide +kernel
theorem dX12_lets_91 : decode cX12_lets 91 = .ok (.sipush 255, 3) := by decide +kernel
theorem dX12_lets_94 : decode cX12_lets 94 = .ok (.iload_n 2, 1) := by decide +kernel
theorem dX12_lets_95 : decode cX12_lets 95 = .ok (.iconst (-1), 1) := by decide +kernel
theorem dX12_lets_96 : decode cX12_lets 96 = .ok (.ixor, 1) := by decide +kernel
theorem dX12_lets_97 : decode cX12_lets 97 = .ok (.iand, 1) := by decide +kernel
theorem dX12_lets_98 : decode cX12_lets 98 = .ok (.goto 4, 3) := by decide +kernel
theorem dX12_lets_101 : decode cX12_lets 101 = .ok (.iload_n 2, 1) := by decide +kernel
theorem dX12_lets_102 : decode cX12_lets 102 = .ok (.ireturn, 1) := by decide +kernel
theorem dX12_deedOf_0 : decode cX12_deedOf 0 = .ok (.aload_n 0, 1) := by decide +kernel
theorem dX12_deedOf_1 : decode cX12_deedOf 1 = .ok (.iload_n 1, 1) := by decide +kernel
theorem dX12_deedOf_2 : decode cX12_deedOf 2 = .ok (.invokevirtual 306, 3) := by decide +kernel
theorem dX12_deedOf_5 : decode cX12_deedOf 5 = .ok (.ifCond .eq 15, 3) := by decide +kernel
theorem dX12_deedOf_8 : decode cX12_deedOf 8 = .ok (.iload_n 2, 1) := by decide +kernel
theorem dX12_deedOf_9 : decode cX12_deedOf 9 = .ok (.i2l, 1) := by decide +kernel
theorem dX12_deedOf_10 : decode cX12_deedOf 10 = .ok (.lconst 0, 1) := by decide +kernel
theorem dX12_deedOf_11 : decode cX12_deedOf 11 = .ok (.ldc2_w 309, 3) := by decide +kernel
theorem dX12_deedOf_14 : decode cX12_deedOf 14 = .ok (.invokestatic 159, 3) := by decide +kernel
theorem dX12_deedOf_17 : decode cX12_deedOf 17 = .ok (.ifCond .ne 10, 3) := by decide +kernel
theorem dX12_deedOf_20 : decode cX12_deedOf 20 = .ok (.aload_n 0, 1) := by decide +kernel
theorem dX12_deedOf_21 : decode cX12_deedOf 21 = .ok (.bipush (-2), 2) := by decide +kernel
theorem dX12_deedOf_23 : decode cX12_deedOf 23 = .ok (.invokevirtual 177, 3) := by decide +kernel
theorem dX12_deedOf_26 : decode cX12_deedOf 26 = .ok (.ireturn, 1) := by decide +kernel
theorem dX12_deedOf_27 : decode cX12_deedOf 27 = .ok (.iload_n 2, 1) := by decide +kernel
theorem dX12_deedOf_28 : decode cX12_deedOf 28 = .ok (.tableswitch 81 0 5 #[40, 47, 54, 61, 68, 75], 40) := by decide +kernel
theorem dX12_deedOf_68 : decode cX12_deedOf 68 = .ok (.aload_n 0, 1) := by decide +kernel
theorem dX12_deedOf_69 : decode cX12_deedOf 69 = .ok (.getfield 52, 3) := by decide +kernel
theorem dX12_deedOf_72 : decode cX12_deedOf 72 = .ok (.iload_n 1, 1) := by decide +kernel
theorem dX12_deedOf_73 : decode cX12_deedOf 73 = .ok (.iaload, 1) := by decide +kernel
theorem dX12_deedOf_74 : decode cX12_deedOf 74 = .ok (.ireturn, 1) := by decide +kernel
theorem dX12_deedOf_75 : decode cX12_deedOf 75 = .ok (.aload_n 0, 1) := by decide +kernel
theorem dX12_deedOf_76 : decode cX12_deedOf 76 = .ok (.getfield 55, 3) := by decide +kernel
theorem dX12_deedOf_79 : decode cX12_deedOf 79 = .ok (.iload_n 1, 1) := by decide +kernel
theorem dX12_deedOf_80 : decode cX12_deedOf 80 = .ok (.iaload, 1) := by decide +kernel
theorem dX12_deedOf_81 : decode cX12_deedOf 81 = .ok (.ireturn, 1) := by decide +kernel
theorem dX12_deedOf_82 : decode cX12_deedOf 82 = .ok (.aload_n 0, 1) := by decide +kernel
theorem dX12_deedOf_83 : decode cX12_deedOf 83 = .ok (.getfield 58, 3) := by decide +kernel
theorem dX12_deedOf_86 : decode cX12_deedOf 86 = .ok (.iload_n 1, 1) := by decide +kernel
theorem dX12_deedOf_87 : decode cX12_deedOf 87 = .ok (.iaload, 1) := by decide +kernel
theorem dX12_deedOf_88 : decode cX12_deedOf 88 = .ok (.ireturn, 1) := by decide +kernel
theorem dX12_deedOf_89 : decode cX12_deedOf 89 = .ok (.aload_n 0, 1) := by decide +kernel
theorem dX12_deedOf_90 : decode cX12_deedOf 90 = .ok (.getfield 61, 3) := by decide +kernel
theorem dX12_deedOf_93 : decode cX12_deedOf 93 = .ok (.iload_n 1, 1) := by decide +kernel
theorem dX12_deedOf_94 : decode cX12_deedOf 94 = .ok (.iaload, 1) := by decide +kernel
theorem dX12_deedOf_95 : decode cX12_deedOf 95 = .ok (.ireturn, 1) := by decide +kernel
theorem dX12_deedOf_96 : decode cX12_deedOf 96 = .ok (.aload_n 0, 1) := by decide +kernel
theorem dX12_deedOf_97 : decode cX12_deedOf 97 = .ok (.getfield 64, 3) := by decide +kernel
theorem dX12_deedOf_100 : decode cX12_deedOf 100 = .ok (.iload_n 1, 1) := by decide +kernel
theorem dX12_deedOf_101 : decode cX12_deedOf 101 = .ok (.iaload, 1) := by decide +kernel
theorem dX12_deedOf_102 : decode cX12_deedOf 102 = .ok (.ireturn, 1) := by decide +kernel
theorem dX12_deedOf_103 : decode cX12_deedOf 103 = .ok (.aload_n 0, 1) := by decide +kernel
theorem dX12_deedOf_104 : decode cX12_deedOf 104 = .ok (.iload_n 1, 1) := by decide +kernel
theorem dX12_deedOf_105 : decode cX12_deedOf 105 = .ok (.invokevirtual 311, 3) := by decide +kernel
theorem dX12_deedOf_108 : decode cX12_deedOf 108 = .ok (.ireturn, 1) := by decide +kernel
theorem dX12_deedOf_109 : decode cX12_deedOf 109 = .ok (.aload_n 0, 1) := by decide +kernel
theorem dX12_deedOf_110 : decode cX12_deedOf 110 = .ok (.getfield 76, 3) := by decide +kernel
theorem dX12_deedOf_113 : decode cX12_deedOf 113 = .ok (.iload_n 1, 1) := by decide +kernel
theorem dX12_deedOf_114 : decode cX12_deedOf 114 = .ok (.iaload, 1) := by decide +kernel
theorem dX12_deedOf_115 : decode cX12_deedOf 115 = .ok (.ireturn, 1) := by decide +kernel
theorem dX12_drop_0 : decode cX12_drop 0 = .ok (.aload_n 0, 1) := by decide +kernel
theorem dX12_drop_1 : decode cX12_drop 1 = .ok (.iload_n 1, 1) := by decide +kernel
theorem dX12_drop_2 : decode cX12_drop 2 = .ok (.invokevirtual 306, 3) := by decide +kernel
theorem dX12_drop_5 : decode cX12_drop 5 = .ok (.ifCond .ne 10, 3) := by decide +kernel
theorem dX12_drop_8 : decode cX12_drop 8 = .ok (.aload_n 0, 1) := by decide +kernel
theorem dX12_drop_9 : decode cX12_drop 9 = .ok (.bipush (-2), 2) := by decide +kernel
theorem dX12_drop_11 : decode cX12_drop 11 = .ok (.invokevirtual 177, 3) := by decide +kernel
theorem dX12_drop_14 : decode cX12_drop 14 = .ok (.ireturn, 1) := by decide +kernel
theorem dX12_drop_15 : decode cX12_drop 15 = .ok (.aload_n 0, 1) := by decide +kernel
theorem dX12_drop_16 : decode cX12_drop 16 = .ok (.getfield 76, 3) := by decide +kernel
theorem dX12_drop_19 : decode cX12_drop 19 = .ok (.iload_n 1, 1) := by decide +kernel
theorem dX12_drop_20 : decode cX12_drop 20 = .ok (.iaload, 1) := by decide +kernel
theorem dX12_drop_21 : decode cX12_drop 21 = .ok (.istore_n 3, 1) := by decide +kernel
theorem dX12_drop_22 : decode cX12_drop 22 = .ok (.aload_n 0, 1) := by decide +kernel
theorem dX12_drop_23 : decode cX12_drop 23 = .ok (.getfield 76, 3) := by decide +kernel
theorem dX12_drop_26 : decode cX12_drop 26 = .ok (.iload_n 1, 1) := by decide +kernel
theorem dX12_drop_27 : decode cX12_drop 27 = .ok (.iload_n 2, 1) := by decide +kernel
theorem dX12_drop_28 : decode cX12_drop 28 = .ok (.ifCond .eq 7, 3) := by decide +kernel
theorem dX12_drop_31 : decode cX12_drop 31 = .ok (.iconst 1, 1) := by decide +kernel
theorem dX12_drop_32 : decode cX12_drop 32 = .ok (.goto 4, 3) := by decide +kernel
theorem dX12_drop_35 : decode cX12_drop 35 = .ok (.iconst 0, 1) := by decide +kernel
theorem dX12_drop_36 : decode cX12_drop 36 = .ok (.iastore, 1) := by decide +kernel
theorem dX12_drop_37 : decode cX12_drop 37 = .ok (.aload_n 0, 1) := by decide +kernel
theorem dX12_drop_38 : decode cX12_drop 38 = .ok (.iconst 0, 1) := by decide +kernel
theorem dX12_drop_39 : decode cX12_drop 39 = .ok (.putfield 206, 3) := by decide +kernel
theorem dX12_drop_42 : decode cX12_drop 42 = .ok (.iload_n 3, 1) := by decide +kernel
theorem dX12_drop_43 : decode cX12_drop 43 = .ok (.ireturn, 1) := by decide +kernel
theorem dX12_weigh_0 : decode cX12_weigh 0 = .ok (.aload_n 0, 1) := by decide +kernel
theorem dX12_weigh_1 : decode cX12_weigh 1 = .ok (.iload_n 1, 1) := by decide +kernel
theorem dX12_weigh_2 : decode cX12_weigh 2 = .ok (.invokevirtual 306, 3) := by decide +kernel
theorem dX12_weigh_5 : decode cX12_weigh 5 = .ok (.ifCond .eq 15, 3) := by decide +kernel
theorem dX12_weigh_8 : decode cX12_weigh 8 = .ok (.iload_n 2, 1) := by decide +kernel
theorem dX12_weigh_9 : decode cX12_weigh 9 = .ok (.i2l, 1) := by decide +kernel
theorem dX12_weigh_10 : decode cX12_weigh 10 = .ok (.lconst 1, 1) := by decide +kernel
theorem dX12_weigh_11 : decode cX12_weigh 11 = .ok (.ldc2_w 314, 3) := by decide +kernel
theorem dX12_weigh_14 : decode cX12_weigh 14 = .ok (.invokestatic 159, 3) := by decide +kernel
theorem dX12_weigh_17 : decode cX12_weigh 17 = .ok (.ifCond .ne 10, 3) := by decide +kernel
theorem dX12_weigh_20 : decode cX12_weigh 20 = .ok (.aload_n 0, 1) := by decide +kernel
theorem dX12_weigh_21 : decode cX12_weigh 21 = .ok (.bipush (-2), 2) := by decide +kernel
theorem dX12_weigh_23 : decode cX12_weigh 23 = .ok (.invokevirtual 177, 3) := by decide +kernel
theorem dX12_weigh_26 : decode cX12_weigh 26 = .ok (.ireturn, 1) := by decide +kernel
theorem dX12_weigh_27 : decode cX12_weigh 27 = .ok (.aload_n 0, 1) := by decide +kernel
theorem dX12_weigh_28 : decode cX12_weigh 28 = .ok (.getfield 61, 3) := by decide +kernel
theorem dX12_weigh_31 : decode cX12_weigh 31 = .ok (.iload_n 1, 1) := by decide +kernel
theorem dX12_weigh_32 : decode cX12_weigh 32 = .ok (.iaload, 1) := by decide +kernel
theorem dX12_weigh_33 : decode cX12_weigh 33 = .ok (.istore_n 3, 1) := by decide +kernel
theorem dX12_weigh_34 : decode cX12_weigh 34 = .ok (.aload_n 0, 1) := by decide +kernel
theorem dX12_weigh_35 : decode cX12_weigh 35 = .ok (.getfield 61, 3) := by decide +kernel
theorem dX12_weigh_38 : decode cX12_weigh 38 = .ok (.iload_n 1, 1) := by decide +kernel
theorem dX12_weigh_39 : decode cX12_weigh 39 = .ok (.iload_n 2, 1) := by decide +kernel
theorem dX12_weigh_40 : decode cX12_weigh 40 = .ok (.iastore, 1) := by decide +kernel
theorem dX12_weigh_41 : decode cX12_weigh 41 = .ok (.iload_n 3, 1) := by decide +kernel
theorem dX12_weigh_42 : decode cX12_weigh 42 = .ok (.ireturn, 1) := by decide +kernel
theorem dX12_mean_0 : decode cX12_mean 0 = .ok (.iload_n 1, 1) := by decide +kernel
theorem dX12_mean_1 : decode cX12_mean 1 = .ok (.i2l, 1) := by decide +kernel
theorem dX12_mean_2 : decode cX12_mean 2 = .ok (.lconst 0, 1) := by decide +kernel
theorem dX12_mean_3 : decode cX12_mean 3 = .ok (.ldc2_w 210, 3) := by decide +kernel
theorem dX12_mean_6 : decode cX12_mean 6 = .ok (.invokestatic 159, 3) := by decide +kernel
theorem dX12_mean_9 : decode cX12_mean 9 = .ok (.ifCond .eq 17, 3) := by decide +kernel
theorem dX12_mean_12 : decode cX12_mean 12 = .ok (.iload_n 2, 1) := by decide +kernel
theorem dX12_mean_13 : decode cX12_mean 13 = .ok (.i2l, 1) := by decide +kernel
theorem dX12_mean_14 : decode cX12_mean 14 = .ok (.ldc2_w 242, 3) := by decide +kernel
theorem dX12_mean_17 : decode cX12_mean 17 = .ok (.ldc2_w 171, 3) := by decide +kernel
theorem dX12_mean_20 : decode cX12_mean 20 = .ok (.invokestatic 159, 3) := by decide +kernel
theorem dX12_mean_23 : decode cX12_mean 23 = .ok (.ifCond .ne 10, 3) := by decide +kernel
theorem dX12_mean_26 : decode cX12_mean 26 = .ok (.aload_n 0, 1) := by decide +kernel
theorem dX12_mean_27 : decode cX12_mean 27 = .ok (.bipush (-2), 2) := by decide +kernel
theorem dX12_mean_29 : decode cX12_mean 29 = .ok (.invokevirtual 177, 3) := by decide +kernel
theorem dX12_mean_32 : decode cX12_mean 32 = .ok (.ireturn, 1) := by decide +kernel
theorem dX12_mean_33 : decode cX12_mean 33 = .ok (.aload_n 0, 1) := by decide +kernel
theorem dX12_mean_34 : decode cX12_mean 34 = .ok (.getfield 79, 3) := by decide +kernel
theorem dX12_mean_37 : decode cX12_mean 37 = .ok (.iload_n 1, 1) := by decide +kernel
theorem dX12_mean_38 : decode cX12_mean 38 = .ok (.iaload, 1) := by decide +kernel
theorem dX12_mean_39 : decode cX12_mean 39 = .ok (.istore_n 3, 1) := by decide +kernel
theorem dX12_mean_40 : decode cX12_mean 40 = .ok (.aload_n 0, 1) := by decide +kernel
theorem dX12_mean_41 : decode cX12_mean 41 = .ok (.getfield 79, 3) := by decide +kernel
theorem dX12_mean_44 : decode cX12_mean 44 = .ok (.iload_n 1, 1) := by decide +kernel
theorem dX12_mean_45 : decode cX12_mean 45 = .ok (.iload_n 2, 1) := by decide +kernel
theorem dX12_mean_46 : decode cX12_mean 46 = .ok (.iastore, 1) := by decide +kernel
theorem dX12_mean_47 : decode cX12_mean 47 = .ok (.aload_n 0, 1) := by decide +kernel
theorem dX12_mean_48 : decode cX12_mean 48 = .ok (.iconst 0, 1) := by decide +kernel
theorem dX12_mean_49 : decode cX12_mean 49 = .ok (.putfield 206, 3) := by decide +kernel
theorem dX12_mean_52 : decode cX12_mean 52 = .ok (.iload_n 3, 1) := by decide +kernel
theorem dX12_mean_53 : decode cX12_mean 53 = .ok (.ireturn, 1) := by decide +kernel
theorem dX12_turn_0 : decode cX12_turn 0 = .ok (.iload_n 0, 1) := by decide +kernel
theorem dX12_turn_1 : decode cX12_turn 1 = .ok (.sipush 135, 3) := by decide +kernel
theorem dX12_turn_4 : decode cX12_turn 4 = .ok (.iand, 1) := by decide +kernel
theorem dX12_turn_5 : decode cX12_turn 5 = .ok (.istore_n 1, 1) := by decide +kernel
theorem dX12_turn_6 : decode cX12_turn 6 = .ok (.iload_n 1, 1) := by decide +kernel
theorem dX12_turn_7 : decode cX12_turn 7 = .ok (.iload_n 0, 1) := by decide +kernel
theorem dX12_turn_8 : decode cX12_turn 8 = .ok (.bipush 8, 2) := by decide +kernel
theorem dX12_turn_10 : decode cX12_turn 10 = .ok (.iand, 1) := by decide +kernel
theorem dX12_turn_11 : decode cX12_turn 11 = .ok (.ifCond .eq 8, 3) := by decide +kernel
theorem dX12_turn_14 : decode cX12_turn 14 = .ok (.bipush 32, 2) := by decide +kernel
theorem dX12_turn_16 : decode cX12_turn 16 = .ok (.goto 4, 3) := by decide +kernel
theorem dX12_turn_19 : decode cX12_turn 19 = .ok (.iconst 0, 1) := by decide +kernel
theorem dX12_turn_20 : decode cX12_turn 20 = .ok (.ior, 1) := by decide +kernel
theorem dX12_turn_21 : decode cX12_turn 21 = .ok (.istore_n 1, 1) := by decide +kernel
theorem dX12_turn_22 : decode cX12_turn 22 = .ok (.iload_n 1, 1) := by decide +kernel
theorem dX12_turn_23 : decode cX12_turn 23 = .ok (.iload_n 0, 1) := by decide +kernel
theorem dX12_turn_24 : decode cX12_turn 24 = .ok (.bipush 32, 2) := by decide +kernel
theorem dX12_turn_26 : decode cX12_turn 26 = .ok (.iand, 1) := by decide +kernel
theorem dX12_turn_27 : decode cX12_turn 27 = .ok (.ifCond .eq 8, 3) := by decide +kernel
theorem dX12_turn_30 : decode cX12_turn 30 = .ok (.bipush 8, 2) := by decide +kernel
theorem dX12_turn_32 : decode cX12_turn 32 = .ok (.goto 4, 3) := by decide +kernel
theorem dX12_turn_35 : decode cX12_turn 35 = .ok (.iconst 0, 1) := by decide +kernel
theorem dX12_turn_36 : decode cX12_turn 36 = .ok (.ior, 1) := by decide +kernel
theorem dX12_turn_37 : decode cX12_turn 37 = .ok (.istore_n 1, 1) := by decide +kernel
theorem dX12_turn_38 : decode cX12_turn 38 = .ok (.iload_n 1, 1) := by decide +kernel
theorem dX12_turn_39 : decode cX12_turn 39 = .ok (.iload_n 0, 1) := by decide +kernel
theorem dX12_turn_40 : decode cX12_turn 40 = .ok (.bipush 16, 2) := by decide +kernel
theorem dX12_turn_42 : decode cX12_turn 42 = .ok (.iand, 1) := by decide +kernel
theorem dX12_turn_43 : decode cX12_turn 43 = .ok (.ifCond .eq 8, 3) := by decide +kernel
theorem dX12_turn_46 : decode cX12_turn 46 = .ok (.bipush 64, 2) := by decide +kernel
theorem dX12_turn_48 : decode cX12_turn 48 = .ok (.goto 4, 3) := by decide +kernel
theorem dX12_turn_51 : decode cX12_turn 51 = .ok (.iconst 0, 1) := by decide +kernel
theorem dX12_turn_52 : decode cX12_turn 52 = .ok (.ior, 1) := by decide +kernel
theorem dX12_turn_53 : decode cX12_turn 53 = .ok (.istore_n 1, 1) := by decide +kernel
theorem dX12_turn_54 : decode cX12_turn 54 = .ok (.iload_n 1, 1) := by decide +kernel
theorem dX12_turn_55 : decode cX12_turn 55 = .ok (.iload_n 0, 1) := by decide +kernel
theorem dX12_turn_56 : decode cX12_turn 56 = .ok (.bipush 64, 2) := by decide +kernel
theorem dX12_turn_58 : decode cX12_turn 58 = .ok (.iand, 1) := by decide +kernel
theorem dX12_turn_59 : decode cX12_turn 59 = .ok (.ifCond .eq 8, 3) := by decide +kernel
theorem dX12_turn_62 : decode cX12_turn 62 = .ok (.bipush 16, 2) := by decide +kernel
theorem dX12_turn_64 : decode cX12_turn 64 = .ok (.goto 4, 3) := by decide +kernel
theorem dX12_turn_67 : decode cX12_turn 67 = .ok (.iconst 0, 1) := by decide +kernel
theorem dX12_turn_68 : decode cX12_turn 68 = .ok (.ior, 1) := by decide +kernel
theorem dX12_turn_69 : decode cX12_turn 69 = .ok (.istore_n 1, 1) := by decide +kernel
theorem dX12_turn_70 : decode cX12_turn 70 = .ok (.iload_n 1, 1) := by decide +kernel
theorem dX12_turn_71 : decode cX12_turn 71 = .ok (.ireturn, 1) := by decide +kernel
theorem dX12_follows_0 : decode cX12_follows 0 = .ok (.iconst 0, 1) := by decide +kernel
theorem dX12_follows_1 : decode cX12_follows 1 = .ok (.istore_n 2, 1) := by decide +kernel
theorem dX12_follows_2 : decode cX12_follows 2 = .ok (.iconst 0, 1) := by decide +kernel
theorem dX12_follows_3 : decode cX12_follows 3 = .ok (.istore_n 3, 1) := by decide +kernel
theorem dX12_follows_4 : decode cX12_follows 4 = .ok (.iload_n 3, 1) := by decide +kernel
theorem dX12_follows_5 : decode cX12_follows 5 = .ok (.bipush 8, 2) := by decide +kernel
theorem dX12_follows_7 : decode cX12_follows 7 = .ok (.if_icmp .ge 60, 3) := by decide +kernel
theorem dX12_follows_10 : decode cX12_follows 10 = .ok (.iconst 0, 1) := by decide +kernel
theorem dX12_follows_11 : decode cX12_follows 11 = .ok (.istore 4, 2) := by decide +kernel
theorem dX12_follows_13 : decode cX12_follows 13 = .ok (.iload 4, 2) := by decide +kernel
theorem dX12_follows_15 : decode cX12_follows 15 = .ok (.bipush 8, 2) := by decide +kernel
theorem dX12_follows_17 : decode cX12_follows 17 = .ok (.if_icmp .ge 44, 3) := by decide +kernel
theorem dX12_follows_20 : decode cX12_follows 20 = .ok (.iload_n 2, 1) := by decide +kernel
theorem dX12_follows_21 : decode cX12_follows 21 = .ok (.iload_n 0, 1) := by decide +kernel
theorem dX12_follows_22 : decode cX12_follows 22 = .ok (.iload_n 3, 1) := by decide +kernel
theorem dX12_follows_23 : decode cX12_follows 23 = .ok (.ishr, 1) := by decide +kernel
theorem dX12_follows_24 : decode cX12_follows 24 = .ok (.iconst 1, 1) := by decide +kernel
theorem dX12_follows_25 : decode cX12_follows 25 = .ok (.iand, 1) := by decide +kernel
theorem dX12_follows_26 : decode cX12_follows 26 = .ok (.ifCond .eq 26, 3) := by decide +kernel
theorem dX12_follows_29 : decode cX12_follows 29 = .ok (.iload_n 1, 1) := by decide +kernel
theorem dX12_follows_30 : decode cX12_follows 30 = .ok (.iload 4, 2) := by decide +kernel
theorem dX12_follows_32 : decode cX12_follows 32 = .ok (.ishr, 1) := by decide +kernel
theorem dX12_follows_33 : decode cX12_follows 33 = .ok (.iconst 1, 1) := by decide +kernel
theorem dX12_follows_34 : decode cX12_follows 34 = .ok (.iand, 1) := by decide +kernel
theorem dX12_follows_35 : decode cX12_follows 35 = .ok (.ifCond .eq 17, 3) := by decide +kernel
theorem dX12_follows_38 : decode cX12_follows 38 = .ok (.getstatic 316, 3) := by decide +kernel
theorem dX12_follows_41 : decode cX12_follows 41 = .ok (.bipush 8, 2) := by decide +kernel
theorem dX12_follows_43 : decode cX12_follows 43 = .ok (.iload_n 3, 1) := by decide +kernel
theorem dX12_follows_44 : decode cX12_follows 44 = .ok (.imul, 1) := by decide +kernel
theorem dX12_follows_45 : decode cX12_follows 45 = .ok (.iload 4, 2) := by decide +kernel
theorem dX12_follows_47 : decode cX12_follows 47 = .ok (.iadd, 1) := by decide +kernel
theorem dX12_follows_48 : decode cX12_follows 48 = .ok (.iaload, 1) := by decide +kernel
theorem dX12_follows_49 : decode cX12_follows 49 = .ok (.goto 4, 3) := by decide +kernel
theorem dX12_follows_52 : decode cX12_follows 52 = .ok (.iconst 0, 1) := by decide +kernel
theorem dX12_follows_53 : decode cX12_follows 53 = .ok (.ior, 1) := by decide +kernel
theorem dX12_follows_54 : decode cX12_follows 54 = .ok (.istore_n 2, 1) := by decide +kernel
theorem dX12_follows_55 : decode cX12_follows 55 = .ok (.iinc 4 1, 3) := by decide +kernel
theorem dX12_follows_58 : decode cX12_follows 58 = .ok (.goto (-45), 3) := by decide +kernel
theorem dX12_follows_61 : decode cX12_follows 61 = .ok (.iinc 3 1, 3) := by decide +kernel
theorem dX12_follows_64 : decode cX12_follows 64 = .ok (.goto (-60), 3) := by decide +kernel
theorem dX12_follows_67 : decode cX12_follows 67 = .ok (.iload_n 2, 1) := by decide +kernel
theorem dX12_follows_68 : decode cX12_follows 68 = .ok (.ireturn, 1) := by decide +kernel
theorem dX12_turned_0 : decode cX12_turned 0 = .ok (.iload_n 1, 1) := by decide +kernel
theorem dX12_turned_1 : decode cX12_turned 1 = .ok (.invokestatic 319, 3) := by decide +kernel
theorem dX12_turned_4 : decode cX12_turned 4 = .ok (.ifCond .eq 10, 3) := by decide +kernel
theorem dX12_turned_7 : decode cX12_turned 7 = .ok (.iload_n 1, 1) := by decide +kernel
theorem dX12_turned_8 : decode cX12_turned 8 = .ok (.invokestatic 322, 3) := by decide +kernel
theorem dX12_turned_11 : decode cX12_turned 11 = .ok (.goto 9, 3) := by decide +kernel
theorem dX12_turned_14 : decode cX12_turned 14 = .ok (.aload_n 0, 1) := by decide +kernel
theorem dX12_turned_15 : decode cX12_turned 15 = .ok (.bipush (-2), 2) := by decide +kernel
theorem dX12_turned_17 : decode cX12_turned 17 = .ok (.invokevirtual 177, 3) := by decide +kernel
theorem dX12_turned_20 : decode cX12_turned 20 = .ok (.ireturn, 1) := by decide +kernel
theorem dX12_three_0 : decode cX12_three 0 = .ok (.iload_n 1, 1) := by decide +kernel
theorem dX12_three_1 : decode cX12_three 1 = .ok (.invokestatic 325, 3) := by decide +kernel
theorem dX12_three_4 : decode cX12_three 4 = .ok (.ifCond .eq 23, 3) := by decide +kernel
theorem dX12_three_7 : decode cX12_three 7 = .ok (.iload_n 2, 1) := by decide +kernel
theorem dX12_three_8 : decode cX12_three 8 = .ok (.invokestatic 325, 3) := by decide +kernel
theorem dX12_three_11 : decode cX12_three 11 = .ok (.ifCond .eq 16, 3) := by decide +kernel
theorem dX12_three_14 : decode cX12_three 14 = .ok (.getstatic 316, 3) := by decide +kernel
theorem dX12_three_17 : decode cX12_three 17 = .ok (.bipush 8, 2) := by decide +kernel
theorem dX12_three_19 : decode cX12_three 19 = .ok (.iload_n 1, 1) := by decide +kernel
theorem dX12_three_20 : decode cX12_three 20 = .ok (.imul, 1) := by decide +kernel
theorem dX12_three_21 : decode cX12_three 21 = .ok (.iload_n 2, 1) := by decide +kernel
theorem dX12_three_22 : decode cX12_three 22 = .ok (.iadd, 1) := by decide +kernel
theorem dX12_three_23 : decode cX12_three 23 = .ok (.iaload, 1) := by decide +kernel
theorem dX12_three_24 : decode cX12_three 24 = .ok (.goto 9, 3) := by decide +kernel
theorem dX12_three_27 : decode cX12_three 27 = .ok (.aload_n 0, 1) := by decide +kernel
theorem dX12_three_28 : decode cX12_three 28 = .ok (.bipush (-2), 2) := by decide +kernel
theorem dX12_three_30 : decode cX12_three 30 = .ok (.invokevirtual 177, 3) := by decide +kernel
theorem dX12_three_33 : decode cX12_three 33 = .ok (.ireturn, 1) := by decide +kernel
theorem dX12_follow_0 : decode cX12_follow 0 = .ok (.iload_n 1, 1) := by decide +kernel
theorem dX12_follow_1 : decode cX12_follow 1 = .ok (.invokestatic 319, 3) := by decide +kernel
theorem dX12_follow_4 : decode cX12_follow 4 = .ok (.ifCond .eq 18, 3) := by decide +kernel
theorem dX12_follow_7 : decode cX12_follow 7 = .ok (.iload_n 2, 1) := by decide +kernel
theorem dX12_follow_8 : decode cX12_follow 8 = .ok (.invokestatic 319, 3) := by decide +kernel
theorem dX12_follow_11 : decode cX12_follow 11 = .ok (.ifCond .eq 11, 3) := by decide +kernel
theorem dX12_follow_14 : decode cX12_follow 14 = .ok (.iload_n 1, 1) := by decide +kernel
theorem dX12_follow_15 : decode cX12_follow 15 = .ok (.iload_n 2, 1) := by decide +kernel
theorem dX12_follow_16 : decode cX12_follow 16 = .ok (.invokestatic 328, 3) := by decide +kernel
theorem dX12_follow_19 : decode cX12_follow 19 = .ok (.goto 9, 3) := by decide +kernel
theorem dX12_follow_22 : decode cX12_follow 22 = .ok (.aload_n 0, 1) := by decide +kernel
theorem dX12_follow_23 : decode cX12_follow 23 = .ok (.bipush (-2), 2) := by decide +kernel
theorem dX12_follow_25 : decode cX12_follow 25 = .ok (.invokevirtual 177, 3) := by decide +kernel
theorem dX12_follow_28 : decode cX12_follow 28 = .ok (.ireturn, 1) := by decide +kernel
theorem dX12_counts_0 : decode cX12_counts 0 = .ok (.aload_n 0, 1) := by decide +kernel
theorem dX12_counts_1 : decode cX12_counts 1 = .ok (.getfield 76, 3) := by decide +kernel
theorem dX12_counts_4 : decode cX12_counts 4 = .ok (.iload_n 1, 1) := by decide +kernel
theorem dX12_counts_5 : decode cX12_counts 5 = .ok (.iaload, 1) := by decide +kernel
theorem dX12_counts_6 : decode cX12_counts 6 = .ok (.ifCond .ne 17, 3) := by decide +kernel
theorem dX12_counts_9 : decode cX12_counts 9 = .ok (.aload_n 0, 1) := by decide +kernel
theorem dX12_counts_10 : decode cX12_counts 10 = .ok (.getfield 58, 3) := by decide +kernel
theorem dX12_counts_13 : decode cX12_counts 13 = .ok (.iload_n 1, 1) := by decide +kernel
theorem dX12_counts_14 : decode cX12_counts 14 = .ok (.iaload, 1) := by decide +kernel
theorem dX12_counts_15 : decode cX12_counts 15 = .ok (.iload_n 2, 1) := by decide +kernel
theorem dX12_counts_16 : decode cX12_counts 16 = .ok (.if_icmp .gt 7, 3) := by decide +kernel
theorem dX12_counts_19 : decode cX12_counts 19 = .ok (.iconst 1, 1) := by decide +kernel
theorem dX12_counts_20 : decode cX12_counts 20 = .ok (.goto 4, 3) := by decide +kernel
theorem dX12_counts_23 : decode cX12_counts 23 = .ok (.iconst 0, 1) := by decide +kernel
theorem dX12_counts_24 : decode cX12_counts 24 = .ok (.ireturn, 1) := by decide +kernel
theorem dX12_less_0 : decode cX12_less 0 = .ok (.aload_n 0, 1) := by decide +kernel
theorem dX12_less_1 : decode cX12_less 1 = .ok (.iload_n 1, 1) := by decide +kernel
theorem dX12_less_2 : decode cX12_less 2 = .ok (.bipush 10, 2) := by decide +kernel
theorem dX12_less_4 : decode cX12_less 4 = .ok (.imul, 1) := by decide +kernel
theorem dX12_less_5 : decode cX12_less 5 = .ok (.iload_n 2, 1) := by decide +kernel
theorem dX12_less_6 : decode cX12_less 6 = .ok (.iadd, 1) := by decide +kernel
theorem dX12_less_7 : decode cX12_less 7 = .ok (.dup2, 1) := by decide +kernel
theorem dX12_less_8 : decode cX12_less 8 = .ok (.iaload, 1) := by decide +kernel
theorem dX12_less_9 : decode cX12_less 9 = .ok (.iload_n 3, 1) := by decide +kernel
theorem dX12_less_10 : decode cX12_less 10 = .ok (.iand, 1) := by decide +kernel
theorem dX12_less_11 : decode cX12_less 11 = .ok (.iastore, 1) := by decide +kernel
theorem dX12_less_12 : decode cX12_less 12 = .ok (.aload_n 0, 1) := by decide +kernel
theorem dX12_less_13 : decode cX12_less 13 = .ok (.iload_n 2, 1) := by decide +kernel
theorem dX12_less_14 : decode cX12_less 14 = .ok (.bipush 10, 2) := by decide +kernel
theorem dX12_less_16 : decode cX12_less 16 = .ok (.imul, 1) := by decide +kernel
theorem dX12_less_17 : decode cX12_less 17 = .ok (.iload_n 1, 1) := by decide +kernel
theorem dX12_less_18 : decode cX12_less 18 = .ok (.iadd, 1) := by decide +kernel
theorem dX12_less_19 : decode cX12_less 19 = .ok (.dup2, 1) := by decide +kernel
theorem dX12_less_20 : decode cX12_less 20 = .ok (.iaload, 1) := by decide +kernel
theorem dX12_less_21 : decode cX12_less 21 = .ok (.iload_n 3, 1) := by decide +kernel
theorem dX12_less_22 : decode cX12_less 22 = .ok (.invokestatic 322, 3) := by decide +kernel
theorem dX12_less_25 : decode cX12_less 25 = .ok (.iand, 1) := by decide +kernel
theorem dX12_less_26 : decode cX12_less 26 = .ok (.iastore, 1) := by decide +kernel
theorem dX12_less_27 : decode cX12_less 27 = .ok (.return_, 1) := by decide +kernel
theorem dX12_makeSets_0 : decode cX12_makeSets 0 = .ok (.aload_n 0, 1) := by decide +kernel
theorem dX12_makeSets_1 : decode cX12_makeSets 1 = .ok (.iconst 0, 1) := by decide +kernel
theorem dX12_makeSets_2 : decode cX12_makeSets 2 = .ok (.putfield 206, 3) := by decide +kernel
theorem dX12_makeSets_5 : decode cX12_makeSets 5 = .ok (.iconst 0, 1) := by decide +kernel
theorem dX12_makeSets_6 : decode cX12_makeSets 6 = .ok (.istore 4, 2) := by decide +kernel
theorem dX12_makeSets_8 : decode cX12_makeSets 8 = .ok (.iload 4, 2) := by decide +kernel
theorem dX12_makeSets_10 : decode cX12_makeSets 10 = .ok (.aload_n 0, 1) := by decide +kernel
theorem dX12_makeSets_11 : decode cX12_makeSets 11 = .ok (.getfield 156, 3) := by decide +kernel
theorem dX12_makeSets_14 : decode cX12_makeSets 14 = .ok (.if_icmp .ge 53, 3) := by decide +kernel
theorem dX12_makeSets_17 : decode cX12_makeSets 17 = .ok (.iconst 0, 1) := by decide +kernel
theorem dX12_makeSets_18 : decode cX12_makeSets 18 = .ok (.istore 5, 2) := by decide +kernel
theorem dX12_makeSets_20 : decode cX12_makeSets 20 = .ok (.iload 5, 2) := by decide +kernel
theorem dX12_makeSets_22 : decode cX12_makeSets 22 = .ok (.aload_n 0, 1) := by decide +kernel
theorem dX12_makeSets_23 : decode cX12_makeSets 23 = .ok (.getfield 156, 3) := by decide +kernel
theorem dX12_makeSets_26 : decode cX12_makeSets 26 = .ok (.if_icmp .ge 35, 3) := by decide +kernel
theorem dX12_makeSets_29 : decode cX12_makeSets 29 = .ok (.aload_n 1, 1) := by decide +kernel
theorem dX12_makeSets_30 : decode cX12_makeSets 30 = .ok (.iload 4, 2) := by decide +kernel
theorem dX12_makeSets_32 : decode cX12_makeSets 32 = .ok (.bipush 10, 2) := by decide +kernel
theorem dX12_makeSets_34 : decode cX12_makeSets 34 = .ok (.imul, 1) := by decide +kernel
theorem dX12_makeSets_35 : decode cX12_makeSets 35 = .ok (.iload 5, 2) := by decide +kernel
theorem dX12_makeSets_37 : decode cX12_makeSets 37 = .ok (.iadd, 1) := by decide +kernel
theorem dX12_makeSets_38 : decode cX12_makeSets 38 = .ok (.iload 4, 2) := by decide +kernel
theorem dX12_makeSets_40 : decode cX12_makeSets 40 = .ok (.iload 5, 2) := by decide +kernel
theorem dX12_makeSets_42 : decode cX12_makeSets 42 = .ok (.if_icmp .ne 9, 3) := by decide +kernel
theorem dX12_makeSets_45 : decode cX12_makeSets 45 = .ok (.sipush 128, 3) := by decide +kernel
theorem dX12_makeSets_48 : decode cX12_makeSets 48 = .ok (.goto 6, 3) := by decide +kernel
theorem dX12_makeSets_51 : decode cX12_makeSets 51 = .ok (.sipush 255, 3) := by decide +kernel
theorem dX12_makeSets_54 : decode cX12_makeSets 54 = .ok (.iastore, 1) := by decide +kernel
theorem dX12_makeSets_55 : decode cX12_makeSets 55 = .ok (.iinc 5 1, 3) := by decide +kernel
theorem dX12_makeSets_58 : decode cX12_makeSets 58 = .ok (.goto (-38), 3) := by decide +kernel
theorem dX12_makeSets_61 : decode cX12_makeSets 61 = .ok (.iinc 4 1, 3) := by decide +kernel
theorem dX12_makeSets_64 : decode cX12_makeSets 64 = .ok (.goto (-56), 3) := by decide +kernel
theorem dX12_makeSets_67 : decode cX12_makeSets 67 = .ok (.iconst 0, 1) := by decide +kernel
theorem dX12_makeSets_68 : decode cX12_makeSets 68 = .ok (.istore 4, 2) := by decide +kernel
theorem dX12_makeSets_70 : decode cX12_makeSets 70 = .ok (.iload 4, 2) := by decide +kernel
theorem dX12_makeSets_72 : decode cX12_makeSets 72 = .ok (.aload_n 0, 1) := by decide +kernel
theorem dX12_makeSets_73 : decode cX12_makeSets 73 = .ok (.getfield 300, 3) := by decide +kernel
theorem dX12_makeSets_76 : decode cX12_makeSets 76 = .ok (.if_icmp .ge 52, 3) := by decide +kernel
theorem dX12_makeSets_79 : decode cX12_makeSets 79 = .ok (.aload_n 0, 1) := by decide +kernel
theorem dX12_makeSets_80 : decode cX12_makeSets 80 = .ok (.iload 4, 2) := by decide +kernel
theorem dX12_makeSets_82 : decode cX12_makeSets 82 = .ok (.iload_n 2, 1) := by decide +kernel
theorem dX12_makeSets_83 : decode cX12_makeSets 83 = .ok (.invokevirtual 332, 3) := by decide +kernel
theorem dX12_makeSets_86 : decode cX12_makeSets 86 = .ok (.ifCond .eq 36, 3) := by decide +kernel
theorem dX12_makeSets_89 : decode cX12_makeSets 89 = .ok (.iload_n 3, 1) := by decide +kernel
theorem dX12_makeSets_90 : decode cX12_makeSets 90 = .ok (.iload 4, 2) := by decide +kernel
theorem dX12_makeSets_92 : decode cX12_makeSets 92 = .ok (.ishr, 1) := by decide +kernel
theorem dX12_makeSets_93 : decode cX12_makeSets 93 = .ok (.iconst 1, 1) := by decide +kernel
theorem dX12_makeSets_94 : decode cX12_makeSets 94 = .ok (.iand, 1) := by decide +kernel
theorem dX12_makeSets_95 : decode cX12_makeSets 95 = .ok (.ifCond .eq 27, 3) := by decide +kernel
theorem dX12_makeSets_98 : decode cX12_makeSets 98 = .ok (.aload_n 1, 1) := by decide +kernel
theorem dX12_makeSets_99 : decode cX12_makeSets 99 = .ok (.aload_n 0, 1) := by decide +kernel
theorem dX12_makeSets_100 : decode cX12_makeSets 100 = .ok (.getfield 52, 3) := by decide +kernel
theorem dX12_makeSets_103 : decode cX12_makeSets 103 = .ok (.iload 4, 2) := by decide +kernel
theorem dX12_makeSets_105 : decode cX12_makeSets 105 = .ok (.iaload, 1) := by decide +kernel
theorem dX12_makeSets_106 : decode cX12_makeSets 106 = .ok (.aload_n 0, 1) := by decide +kernel
theorem dX12_makeSets_107 : decode cX12_makeSets 107 = .ok (.getfield 55, 3) := by decide +kernel
theorem dX12_makeSets_110 : decode cX12_makeSets 110 = .ok (.iload 4, 2) := by decide +kernel
theorem dX12_makeSets_112 : decode cX12_makeSets 112 = .ok (.iaload, 1) := by decide +kernel
theorem dX12_makeSets_113 : decode cX12_makeSets 113 = .ok (.aload_n 0, 1) := by decide +kernel
theorem dX12_makeSets_114 : decode cX12_makeSets 114 = .ok (.iload 4, 2) := by decide +kernel
theorem dX12_makeSets_116 : decode cX12_makeSets 116 = .ok (.invokevirtual 311, 3) := by decide +kernel
theorem dX12_makeSets_119 : decode cX12_makeSets 119 = .ok (.invokestatic 335, 3) := by decide +kernel
theorem dX12_makeSets_122 : decode cX12_makeSets 122 = .ok (.iinc 4 1, 3) := by decide +kernel
theorem dX12_makeSets_125 : decode cX12_makeSets 125 = .ok (.goto (-55), 3) := by decide +kernel
theorem dX12_makeSets_128 : decode cX12_makeSets 128 = .ok (.iconst 0, 1) := by decide +kernel
theorem dX12_makeSets_129 : decode cX12_makeSets 129 = .ok (.istore 4, 2) := by decide +kernel
theorem dX12_makeSets_131 : decode cX12_makeSets 131 = .ok (.iload 4, 2) := by decide +kernel
theorem dX12_makeSets_133 : decode cX12_makeSets 133 = .ok (.aload_n 0, 1) := by decide +kernel
theorem dX12_makeSets_134 : decode cX12_makeSets 134 = .ok (.getfield 156, 3) := by decide +kernel
theorem dX12_makeSets_137 : decode cX12_makeSets 137 = .ok (.if_icmp .ge 73, 3) := by decide +kernel
theorem dX12_makeSets_140 : decode cX12_makeSets 140 = .ok (.aload_n 0, 1) := by decide +kernel
theorem dX12_makeSets_141 : decode cX12_makeSets 141 = .ok (.getfield 37, 3) := by decide +kernel
theorem dX12_makeSets_144 : decode cX12_makeSets 144 = .ok (.iload 4, 2) := by decide +kernel
theorem dX12_makeSets_146 : decode cX12_makeSets 146 = .ok (.iaload, 1) := by decide +kernel
theorem dX12_makeSets_147 : decode cX12_makeSets 147 = .ok (.iconst 4, 1) := by decide +kernel
theorem dX12_makeSets_148 : decode cX12_makeSets 148 = .ok (.if_icmp .ne 56, 3) := by decide +kernel
theorem dX12_makeSets_151 : decode cX12_makeSets 151 = .ok (.aload_n 0, 1) := by decide +kernel
theorem dX12_makeSets_152 : decode cX12_makeSets 152 = .ok (.getfield 43, 3) := by decide +kernel
theorem dX12_makeSets_155 : decode cX12_makeSets 155 = .ok (.iload 4, 2) := by decide +kernel
theorem dX12_makeSets_157 : decode cX12_makeSets 157 = .ok (.iaload, 1) := by decide +kernel
theorem dX12_makeSets_158 : decode cX12_makeSets 158 = .ok (.iload_n 2, 1) := by decide +kernel
theorem dX12_makeSets_159 : decode cX12_makeSets 159 = .ok (.if_icmp .gt 45, 3) := by decide +kernel
theorem dX12_makeSets_162 : decode cX12_makeSets 162 = .ok (.aload_n 0, 1) := by decide +kernel
theorem dX12_makeSets_163 : decode cX12_makeSets 163 = .ok (.getfield 46, 3) := by decide +kernel
theorem dX12_makeSets_166 : decode cX12_makeSets 166 = .ok (.iload 4, 2) := by decide +kernel
theorem dX12_makeSets_168 : decode cX12_makeSets 168 = .ok (.iaload, 1) := by decide +kernel
theorem dX12_makeSets_169 : decode cX12_makeSets 169 = .ok (.istore 5, 2) := by decide +kernel
theorem dX12_makeSets_171 : decode cX12_makeSets 171 = .ok (.aload_n 1, 1) := by decide +kernel
theorem dX12_makeSets_172 : decode cX12_makeSets 172 = .ok (.iload 5, 2) := by decide +kernel
theorem dX12_makeSets_174 : decode cX12_makeSets 174 = .ok (.iload 4, 2) := by decide +kernel
theorem dX12_makeSets_176 : decode cX12_makeSets 176 = .ok (.bipush 24, 2) := by decide +kernel
theorem dX12_makeSets_178 : decode cX12_makeSets 178 = .ok (.invokestatic 335, 3) := by decide +kernel
theorem dX12_makeSets_181 : decode cX12_makeSets 181 = .ok (.aload_n 1, 1) := by decide +kernel
theorem dX12_makeSets_182 : decode cX12_makeSets 182 = .ok (.iload 5, 2) := by decide +kernel
theorem dX12_makeSets_184 : decode cX12_makeSets 184 = .ok (.iconst 1, 1) := by decide +kernel
theorem dX12_makeSets_185 : decode cX12_makeSets 185 = .ok (.iadd, 1) := by decide +kernel
theorem dX12_makeSets_186 : decode cX12_makeSets 186 = .ok (.iload 4, 2) := by decide +kernel
theorem dX12_makeSets_188 : decode cX12_makeSets 188 = .ok (.bipush 24, 2) := by decide +kernel
theorem dX12_makeSets_190 : decode cX12_makeSets 190 = .ok (.invokestatic 335, 3) := by decide +kernel
theorem dX12_makeSets_193 : decode cX12_makeSets 193 = .ok (.aload_n 1, 1) := by decide +kernel
theorem dX12_makeSets_194 : decode cX12_makeSets 194 = .ok (.iload 5, 2) := by decide +kernel
theorem dX12_makeSets_196 : decode cX12_makeSets 196 = .ok (.iload 5, 2) := by decide +kernel
theorem dX12_makeSets_198 : decode cX12_makeSets 198 = .ok (.iconst 1, 1) := by decide +kernel
theorem dX12_makeSets_199 : decode cX12_makeSets 199 = .ok (.iadd, 1) := by decide +kernel
theorem dX12_makeSets_200 : decode cX12_makeSets 200 = .ok (.iconst 3, 1) := by decide +kernel
theorem dX12_makeSets_201 : decode cX12_makeSets 201 = .ok (.invokestatic 335, 3) := by decide +kernel
theorem dX12_makeSets_204 : decode cX12_makeSets 204 = .ok (.iinc 4 1, 3) := by decide +kernel
theorem dX12_makeSets_207 : decode cX12_makeSets 207 = .ok (.goto (-76), 3) := by decide +kernel
theorem dX12_makeSets_210 : decode cX12_makeSets 210 = .ok (.return_, 1) := by decide +kernel
theorem dX12_followsOf_0 : decode cX12_followsOf 0 = .ok (.aload_n 0, 1) := by decide +kernel
theorem dX12_followsOf_1 : decode cX12_followsOf 1 = .ok (.getfield 339, 3) := by decide +kernel
theorem dX12_followsOf_4 : decode cX12_followsOf 4 = .ok (.ifCond .ne 60, 3) := by decide +kernel
theorem dX12_followsOf_7 : decode cX12_followsOf 7 = .ok (.aload_n 0, 1) := by decide +kernel
theorem dX12_followsOf_8 : decode cX12_followsOf 8 = .ok (.iconst 1, 1) := by decide +kernel
theorem dX12_followsOf_9 : decode cX12_followsOf 9 = .ok (.putfield 339, 3) := by decide +kernel
theorem dX12_followsOf_12 : decode cX12_followsOf 12 = .ok (.iconst 0, 1) := by decide +kernel
theorem dX12_followsOf_13 : decode cX12_followsOf 13 = .ok (.istore_n 3, 1) := by decide +kernel
theorem dX12_followsOf_14 : decode cX12_followsOf 14 = .ok (.iload_n 3, 1) := by decide +kernel
theorem dX12_followsOf_15 : decode cX12_followsOf 15 = .ok (.bipush 8, 2) := by decide +kernel
theorem dX12_followsOf_17 : decode cX12_followsOf 17 = .ok (.if_icmp .ge 47, 3) := by decide +kernel
theorem dX12_followsOf_20 : decode cX12_followsOf 20 = .ok (.iconst 0, 1) := by decide +kernel
theorem dX12_followsOf_21 : decode cX12_followsOf 21 = .ok (.istore 4, 2) := by decide +kernel
theorem dX12_followsOf_23 : decode cX12_followsOf 23 = .ok (.iload 4, 2) := by decide +kernel
theorem dX12_followsOf_25 : decode cX12_followsOf 25 = .ok (.sipush 256, 3) := by decide +kernel
theorem dX12_followsOf_28 : decode cX12_followsOf 28 = .ok (.if_icmp .ge 30, 3) := by decide +kernel
theorem dX12_followsOf_31 : decode cX12_followsOf 31 = .ok (.aload_n 0, 1) := by decide +kernel
theorem dX12_followsOf_32 : decode cX12_followsOf 32 = .ok (.getfield 134, 3) := by decide +kernel
theorem dX12_followsOf_35 : decode cX12_followsOf 35 = .ok (.sipush 256, 3) := by decide +kernel
theorem dX12_followsOf_38 : decode cX12_followsOf 38 = .ok (.iload_n 3, 1) := by decide +kernel
theorem dX12_followsOf_39 : decode cX12_followsOf 39 = .ok (.imul, 1) := by decide +kernel
theorem dX12_followsOf_40 : decode cX12_followsOf 40 = .ok (.iload 4, 2) := by decide +kernel
theorem dX12_followsOf_42 : decode cX12_followsOf 42 = .ok (.iadd, 1) := by decide +kernel
theorem dX12_followsOf_43 : decode cX12_followsOf 43 = .ok (.iconst 1, 1) := by decide +kernel
theorem dX12_followsOf_44 : decode cX12_followsOf 44 = .ok (.iload_n 3, 1) := by decide +kernel
theorem dX12_followsOf_45 : decode cX12_followsOf 45 = .ok (.ishl, 1) := by decide +kernel
theorem dX12_followsOf_46 : decode cX12_followsOf 46 = .ok (.iload 4, 2) := by decide +kernel
theorem dX12_followsOf_48 : decode cX12_followsOf 48 = .ok (.invokestatic 328, 3) := by decide +kernel
theorem dX12_followsOf_51 : decode cX12_followsOf 51 = .ok (.iastore, 1) := by decide +kernel
theorem dX12_followsOf_52 : decode cX12_followsOf 52 = .ok (.iinc 4 1, 3) := by decide +kernel
theorem dX12_followsOf_55 : decode cX12_followsOf 55 = .ok (.goto (-32), 3) := by decide +kernel
theorem dX12_followsOf_58 : decode cX12_followsOf 58 = .ok (.iinc 3 1, 3) := by decide +kernel
theorem dX12_followsOf_61 : decode cX12_followsOf 61 = .ok (.goto (-47), 3) := by decide +kernel
theorem dX12_followsOf_64 : decode cX12_followsOf 64 = .ok (.iconst 0, 1) := by decide +kernel
theorem dX12_followsOf_65 : decode cX12_followsOf 65 = .ok (.istore_n 3, 1) := by decide +kernel
theorem dX12_followsOf_66 : decode cX12_followsOf 66 = .ok (.iconst 0, 1) := by decide +kernel
theorem dX12_followsOf_67 : decode cX12_followsOf 67 = .ok (.istore 4, 2) := by decide +kernel
theorem dX12_followsOf_69 : decode cX12_followsOf 69 = .ok (.iload 4, 2) := by decide +kernel
theorem dX12_followsOf_71 : decode cX12_followsOf 71 = .ok (.bipush 8, 2) := by decide +kernel
theorem dX12_followsOf_73 : decode cX12_followsOf 73 = .ok (.if_icmp .ge 38, 3) := by decide +kernel
theorem dX12_followsOf_76 : decode cX12_followsOf 76 = .ok (.iload_n 3, 1) := by decide +kernel
theorem dX12_followsOf_77 : decode cX12_followsOf 77 = .ok (.iload_n 1, 1) := by decide +kernel
theorem dX12_followsOf_78 : decode cX12_followsOf 78 = .ok (.iload 4, 2) := by decide +kernel
theorem dX12_followsOf_80 : decode cX12_followsOf 80 = .ok (.ishr, 1) := by decide +kernel
theorem dX12_followsOf_81 : decode cX12_followsOf 81 = .ok (.iconst 1, 1) := by decide +kernel
theorem dX12_followsOf_82 : decode cX12_followsOf 82 = .ok (.iand, 1) := by decide +kernel
theorem dX12_followsOf_83 : decode cX12_followsOf 83 = .ok (.ifCond .eq 19, 3) := by decide +kernel
theorem dX12_followsOf_86 : decode cX12_followsOf 86 = .ok (.aload_n 0, 1) := by decide +kernel
theorem dX12_followsOf_87 : decode cX12_followsOf 87 = .ok (.getfield 134, 3) := by decide +kernel
theorem dX12_followsOf_90 : decode cX12_followsOf 90 = .ok (.sipush 256, 3) := by decide +kernel
theorem dX12_followsOf_93 : decode cX12_followsOf 93 = .ok (.iload 4, 2) := by decide +kernel
theorem dX12_followsOf_95 : decode cX12_followsOf 95 = .ok (.imul, 1) := by decide +kernel
theorem dX12_followsOf_96 : decode cX12_followsOf 96 = .ok (.iload_n 2, 1) := by decide +kernel
theorem dX12_followsOf_97 : decode cX12_followsOf 97 = .ok (.iadd, 1) := by decide +kernel
theorem dX12_followsOf_98 : decode cX12_followsOf 98 = .ok (.iaload, 1) := by decide +kernel
theorem dX12_followsOf_99 : decode cX12_followsOf 99 = .ok (.goto 4, 3) := by decide +kernel
theorem dX12_followsOf_102 : decode cX12_followsOf 102 = .ok (.iconst 0, 1) := by decide +kernel
theorem dX12_followsOf_103 : decode cX12_followsOf 103 = .ok (.ior, 1) := by decide +kernel
theorem dX12_followsOf_104 : decode cX12_followsOf 104 = .ok (.istore_n 3, 1) := by decide +kernel
theorem dX12_followsOf_105 : decode cX12_followsOf 105 = .ok (.iinc 4 1, 3) := by decide +kernel
theorem dX12_followsOf_108 : decode cX12_followsOf 108 = .ok (.goto (-39), 3) := by decide +kernel
theorem dX12_followsOf_111 : decode cX12_followsOf 111 = .ok (.iload_n 3, 1) := by decide +kernel
theorem dX12_followsOf_112 : decode cX12_followsOf 112 = .ok (.ireturn, 1) := by decide +kernel
theorem dX12_shrinkAll_0 : decode cX12_shrinkAll 0 = .ok (.iconst 1, 1) := by decide +kernel
theorem dX12_shrinkAll_1 : decode cX12_shrinkAll 1 = .ok (.istore_n 3, 1) := by decide +kernel
theorem dX12_shrinkAll_2 : decode cX12_shrinkAll 2 = .ok (.iload_n 3, 1) := by decide +kernel
theorem dX12_shrinkAll_3 : decode cX12_shrinkAll 3 = .ok (.ifCond .eq 139, 3) := by decide +kernel
theorem dX12_shrinkAll_6 : decode cX12_shrinkAll 6 = .ok (.iconst 0, 1) := by decide +kernel
theorem dX12_shrinkAll_7 : decode cX12_shrinkAll 7 = .ok (.istore_n 3, 1) := by decide +kernel
theorem dX12_shrinkAll_8 : decode cX12_shrinkAll 8 = .ok (.iconst 0, 1) := by decide +kernel
theorem dX12_shrinkAll_9 : decode cX12_shrinkAll 9 = .ok (.istore 4, 2) := by decide +kernel
theorem dX12_shrinkAll_11 : decode cX12_shrinkAll 11 = .ok (.iload 4, 2) := by decide +kernel
theorem dX12_shrinkAll_13 : decode cX12_shrinkAll 13 = .ok (.iload_n 2, 1) := by decide +kernel
theorem dX12_shrinkAll_14 : decode cX12_shrinkAll 14 = .ok (.if_icmp .ge 125, 3) := by decide +kernel
theorem dX12_shrinkAll_17 : decode cX12_shrinkAll 17 = .ok (.iconst 0, 1) := by decide +kernel
theorem dX12_shrinkAll_18 : decode cX12_shrinkAll 18 = .ok (.istore 5, 2) := by decide +kernel
theorem dX12_shrinkAll_20 : decode cX12_shrinkAll 20 = .ok (.iload 5, 2) := by decide +kernel
theorem dX12_shrinkAll_22 : decode cX12_shrinkAll 22 = .ok (.iload_n 2, 1) := by decide +kernel
theorem dX12_shrinkAll_23 : decode cX12_shrinkAll 23 = .ok (.if_icmp .ge 110, 3) := by decide +kernel
theorem dX12_shrinkAll_26 : decode cX12_shrinkAll 26 = .ok (.iconst 0, 1) := by decide +kernel
theorem dX12_shrinkAll_27 : decode cX12_shrinkAll 27 = .ok (.istore 6, 2) := by decide +kernel
theorem dX12_shrinkAll_29 : decode cX12_shrinkAll 29 = .ok (.iload 5, 2) := by decide +kernel
theorem dX12_shrinkAll_31 : decode cX12_shrinkAll 31 = .ok (.iload 4, 2) := by decide +kernel
theorem dX12_shrinkAll_33 : decode cX12_shrinkAll 33 = .ok (.if_icmp .eq 94, 3) := by decide +kernel
theorem dX12_shrinkAll_36 : decode cX12_shrinkAll 36 = .ok (.iload 6, 2) := by decide +kernel
theorem dX12_shrinkAll_38 : decode cX12_shrinkAll 38 = .ok (.iload_n 2, 1) := by decide +kernel
theorem dX12_shrinkAll_39 : decode cX12_shrinkAll 39 = .ok (.if_icmp .ge 88, 3) := by decide +kernel
theorem dX12_shrinkAll_42 : decode cX12_shrinkAll 42 = .ok (.iload 6, 2) := by decide +kernel
theorem dX12_shrinkAll_44 : decode cX12_shrinkAll 44 = .ok (.iload 5, 2) := by decide +kernel
theorem dX12_shrinkAll_46 : decode cX12_shrinkAll 46 = .ok (.if_icmp .eq 75, 3) := by decide +kernel
theorem dX12_shrinkAll_49 : decode cX12_shrinkAll 49 = .ok (.iload 6, 2) := by decide +kernel
theorem dX12_shrinkAll_51 : decode cX12_shrinkAll 51 = .ok (.iload 4, 2) := by decide +kernel
theorem dX12_shrinkAll_53 : decode cX12_shrinkAll 53 = .ok (.if_icmp .ne 6, 3) := by decide +kernel
theorem dX12_shrinkAll_56 : decode cX12_shrinkAll 56 = .ok (.goto 65, 3) := by decide +kernel
theorem dX12_shrinkAll_59 : decode cX12_shrinkAll 59 = .ok (.aload_n 1, 1) := by decide +kernel
theorem dX12_shrinkAll_60 : decode cX12_shrinkAll 60 = .ok (.iload 5, 2) := by decide +kernel
theorem dX12_shrinkAll_62 : decode cX12_shrinkAll 62 = .ok (.bipush 10, 2) := by decide +kernel
theorem dX12_shrinkAll_64 : decode cX12_shrinkAll 64 = .ok (.imul, 1) := by decide +kernel
theorem dX12_shrinkAll_65 : decode cX12_shrinkAll 65 = .ok (.iload 6, 2) := by decide +kernel
theorem dX12_shrinkAll_67 : decode cX12_shrinkAll 67 = .ok (.iadd, 1) := by decide +kernel
theorem dX12_shrinkAll_68 : decode cX12_shrinkAll 68 = .ok (.iaload, 1) := by decide +kernel
theorem dX12_shrinkAll_69 : decode cX12_shrinkAll 69 = .ok (.istore 7, 2) := by decide +kernel
theorem dX12_shrinkAll_71 : decode cX12_shrinkAll 71 = .ok (.iload 7, 2) := by decide +kernel
theorem dX12_shrinkAll_73 : decode cX12_shrinkAll 73 = .ok (.aload_n 0, 1) := by decide +kernel
theorem dX12_shrinkAll_74 : decode cX12_shrinkAll 74 = .ok (.aload_n 1, 1) := by decide +kernel
theorem dX12_shrinkAll_75 : decode cX12_shrinkAll 75 = .ok (.iload 5, 2) := by decide +kernel
theorem dX12_shrinkAll_77 : decode cX12_shrinkAll 77 = .ok (.bipush 10, 2) := by decide +kernel
theorem dX12_shrinkAll_79 : decode cX12_shrinkAll 79 = .ok (.imul, 1) := by decide +kernel
theorem dX12_shrinkAll_80 : decode cX12_shrinkAll 80 = .ok (.iload 4, 2) := by decide +kernel
theorem dX12_shrinkAll_82 : decode cX12_shrinkAll 82 = .ok (.iadd, 1) := by decide +kernel
theorem dX12_shrinkAll_83 : decode cX12_shrinkAll 83 = .ok (.iaload, 1) := by decide +kernel
theorem dX12_shrinkAll_84 : decode cX12_shrinkAll 84 = .ok (.aload_n 1, 1) := by decide +kernel
theorem dX12_shrinkAll_85 : decode cX12_shrinkAll 85 = .ok (.iload 4, 2) := by decide +kernel
theorem dX12_shrinkAll_87 : decode cX12_shrinkAll 87 = .ok (.bipush 10, 2) := by decide +kernel
theorem dX12_shrinkAll_89 : decode cX12_shrinkAll 89 = .ok (.imul, 1) := by decide +kernel
theorem dX12_shrinkAll_90 : decode cX12_shrinkAll 90 = .ok (.iload 6, 2) := by decide +kernel
theorem dX12_shrinkAll_92 : decode cX12_shrinkAll 92 = .ok (.iadd, 1) := by decide +kernel
theorem dX12_shrinkAll_93 : decode cX12_shrinkAll 93 = .ok (.iaload, 1) := by decide +kernel
theorem dX12_shrinkAll_94 : decode cX12_shrinkAll 94 = .ok (.invokevirtual 342, 3) := by decide +kernel
theorem dX12_shrinkAll_97 : decode cX12_shrinkAll 97 = .ok (.iand, 1) := by decide +kernel
theorem dX12_shrinkAll_98 : decode cX12_shrinkAll 98 = .ok (.istore 8, 2) := by decide +kernel
theorem dX12_shrinkAll_100 : decode cX12_shrinkAll 100 = .ok (.iload 8, 2) := by decide +kernel
theorem dX12_shrinkAll_102 : decode cX12_shrinkAll 102 = .ok (.iload 7, 2) := by decide +kernel
theorem dX12_shrinkAll_104 : decode cX12_shrinkAll 104 = .ok (.if_icmp .eq 17, 3) := by decide +kernel
theorem dX12_shrinkAll_107 : decode cX12_shrinkAll 107 = .ok (.aload_n 1, 1) := by decide +kernel
theorem dX12_shrinkAll_108 : decode cX12_shrinkAll 108 = .ok (.iload 5, 2) := by decide +kernel
theorem dX12_shrinkAll_110 : decode cX12_shrinkAll 110 = .ok (.bipush 10, 2) := by decide +kernel
theorem dX12_shrinkAll_112 : decode cX12_shrinkAll 112 = .ok (.imul, 1) := by decide +kernel
theorem dX12_shrinkAll_113 : decode cX12_shrinkAll 113 = .ok (.iload 6, 2) := by decide +kernel
theorem dX12_shrinkAll_115 : decode cX12_shrinkAll 115 = .ok (.iadd, 1) := by decide +kernel
theorem dX12_shrinkAll_116 : decode cX12_shrinkAll 116 = .ok (.iload 8, 2) := by decide +kernel
theorem dX12_shrinkAll_118 : decode cX12_shrinkAll 118 = .ok (.iastore, 1) := by decide +kernel
theorem dX12_shrinkAll_119 : decode cX12_shrinkAll 119 = .ok (.iconst 1, 1) := by decide +kernel
theorem dX12_shrinkAll_120 : decode cX12_shrinkAll 120 = .ok (.istore_n 3, 1) := by decide +kernel
theorem dX12_shrinkAll_121 : decode cX12_shrinkAll 121 = .ok (.iinc 6 1, 3) := by decide +kernel
theorem dX12_shrinkAll_124 : decode cX12_shrinkAll 124 = .ok (.goto (-95), 3) := by decide +kernel
theorem dX12_shrinkAll_127 : decode cX12_shrinkAll 127 = .ok (.iinc 5 1, 3) := by decide +kernel
theorem dX12_shrinkAll_130 : decode cX12_shrinkAll 130 = .ok (.goto (-110), 3) := by decide +kernel
theorem dX12_shrinkAll_133 : decode cX12_shrinkAll 133 = .ok (.iinc 4 1, 3) := by decide +kernel
theorem dX12_shrinkAll_136 : decode cX12_shrinkAll 136 = .ok (.goto (-125), 3) := by decide +kernel
theorem dX12_shrinkAll_139 : decode cX12_shrinkAll 139 = .ok (.goto (-137), 3) := by decide +kernel
theorem dX12_shrinkAll_142 : decode cX12_shrinkAll 142 = .ok (.aload_n 1, 1) := by decide +kernel
theorem dX12_shrinkAll_143 : decode cX12_shrinkAll 143 = .ok (.iload_n 2, 1) := by decide +kernel
theorem dX12_shrinkAll_144 : decode cX12_shrinkAll 144 = .ok (.invokestatic 345, 3) := by decide +kernel
theorem dX12_shrinkAll_147 : decode cX12_shrinkAll 147 = .ok (.ireturn, 1) := by decide +kernel
theorem dX12_isWhole_0 : decode cX12_isWhole 0 = .ok (.iconst 0, 1) := by decide +kernel
theorem dX12_isWhole_1 : decode cX12_isWhole 1 = .ok (.istore_n 2, 1) := by decide +kernel
theorem dX12_isWhole_2 : decode cX12_isWhole 2 = .ok (.iload_n 2, 1) := by decide +kernel
theorem dX12_isWhole_3 : decode cX12_isWhole 3 = .ok (.iload_n 1, 1) := by decide +kernel
theorem dX12_isWhole_4 : decode cX12_isWhole 4 = .ok (.if_icmp .ge 35, 3) := by decide +kernel
theorem dX12_isWhole_7 : decode cX12_isWhole 7 = .ok (.iconst 0, 1) := by decide +kernel
theorem dX12_isWhole_8 : decode cX12_isWhole 8 = .ok (.istore_n 3, 1) := by decide +kernel
theorem dX12_isWhole_9 : decode cX12_isWhole 9 = .ok (.iload_n 3, 1) := by decide +kernel
theorem dX12_isWhole_10 : decode cX12_isWhole 10 = .ok (.iload_n 1, 1) := by decide +kernel
theorem dX12_isWhole_11 : decode cX12_isWhole 11 = .ok (.if_icmp .ge 22, 3) := by decide +kernel
theorem dX12_isWhole_14 : decode cX12_isWhole 14 = .ok (.aload_n 0, 1) := by decide +kernel
theorem dX12_isWhole_15 : decode cX12_isWhole 15 = .ok (.iload_n 2, 1) := by decide +kernel
theorem dX12_isWhole_16 : decode cX12_isWhole 16 = .ok (.bipush 10, 2) := by decide +kernel
theorem dX12_isWhole_18 : decode cX12_isWhole 18 = .ok (.imul, 1) := by decide +kernel
theorem dX12_isWhole_19 : decode cX12_isWhole 19 = .ok (.iload_n 3, 1) := by decide +kernel
theorem dX12_isWhole_20 : decode cX12_isWhole 20 = .ok (.iadd, 1) := by decide +kernel
theorem dX12_isWhole_21 : decode cX12_isWhole 21 = .ok (.iaload, 1) := by decide +kernel
theorem dX12_isWhole_22 : decode cX12_isWhole 22 = .ok (.ifCond .ne 5, 3) := by decide +kernel
theorem dX12_isWhole_25 : decode cX12_isWhole 25 = .ok (.iconst 0, 1) := by decide +kernel
theorem dX12_isWhole_26 : decode cX12_isWhole 26 = .ok (.ireturn, 1) := by decide +kernel
theorem dX12_isWhole_27 : decode cX12_isWhole 27 = .ok (.iinc 3 1, 3) := by decide +kernel
theorem dX12_isWhole_30 : decode cX12_isWhole 30 = .ok (.goto (-21), 3) := by decide +kernel
theorem dX12_isWhole_33 : decode cX12_isWhole 33 = .ok (.iinc 2 1, 3) := by decide +kernel
theorem dX12_isWhole_36 : decode cX12_isWhole 36 = .ok (.goto (-34), 3) := by decide +kernel
theorem dX12_isWhole_39 : decode cX12_isWhole 39 = .ok (.iconst 1, 1) := by decide +kernel
theorem dX12_isWhole_40 : decode cX12_isWhole 40 = .ok (.ireturn, 1) := by decide +kernel
theorem dX12_ways__0 : decode cX12_ways_ 0 = .ok (.aload_n 0, 1) := by decide +kernel
theorem dX12_ways__1 : decode cX12_ways_ 1 = .ok (.iload_n 1, 1) := by decide +kernel
theorem dX12_ways__2 : decode cX12_ways_ 2 = .ok (.iload_n 2, 1) := by decide +kernel
theorem dX12_ways__3 : decode cX12_ways_ 3 = .ok (.invokevirtual 349, 3) := by decide +kernel
theorem dX12_ways__6 : decode cX12_ways_ 6 = .ok (.ifCond .eq 10, 3) := by decide +kernel
theorem dX12_ways__9 : decode cX12_ways_ 9 = .ok (.iload_n 3, 1) := by decide +kernel
theorem dX12_ways__10 : decode cX12_ways_ 10 = .ok (.invokestatic 212, 3) := by decide +kernel
theorem dX12_ways__13 : decode cX12_ways_ 13 = .ok (.ifCond .ne 10, 3) := by decide +kernel
theorem dX12_ways__16 : decode cX12_ways_ 16 = .ok (.aload_n 0, 1) := by decide +kernel
theorem dX12_ways__17 : decode cX12_ways_ 17 = .ok (.bipush (-2), 2) := by decide +kernel
theorem dX12_ways__19 : decode cX12_ways_ 19 = .ok (.invokevirtual 177, 3) := by decide +kernel
theorem dX12_ways__22 : decode cX12_ways_ 22 = .ok (.ireturn, 1) := by decide +kernel
theorem dX12_ways__23 : decode cX12_ways_ 23 = .ok (.aload_n 0, 1) := by decide +kernel
theorem dX12_ways__24 : decode cX12_ways_ 24 = .ok (.aload_n 0, 1) := by decide +kernel
theorem dX12_ways__25 : decode cX12_ways_ 25 = .ok (.getfield 97, 3) := by decide +kernel
theorem dX12_ways__28 : decode cX12_ways_ 28 = .ok (.iconst 0, 1) := by decide +kernel
theorem dX12_ways__29 : decode cX12_ways_ 29 = .ok (.aaload, 1) := by decide +kernel
theorem dX12_ways__30 : decode cX12_ways_ 30 = .ok (.iload_n 3, 1) := by decide +kernel
theorem dX12_ways__31 : decode cX12_ways_ 31 = .ok (.iconst (-1), 1) := by decide +kernel
theorem dX12_ways__32 : decode cX12_ways_ 32 = .ok (.invokevirtual 352, 3) := by decide +kernel
theorem dX12_ways__35 : decode cX12_ways_ 35 = .ok (.aload_n 0, 1) := by decide +kernel
theorem dX12_ways__36 : decode cX12_ways_ 36 = .ok (.getfield 97, 3) := by decide +kernel
theorem dX12_ways__39 : decode cX12_ways_ 39 = .ok (.iconst 0, 1) := by decide +kernel
theorem dX12_ways__40 : decode cX12_ways_ 40 = .ok (.aaload, 1) := by decide +kernel
theorem dX12_ways__41 : decode cX12_ways_ 41 = .ok (.iload_n 1, 1) := by decide +kernel
theorem dX12_ways__42 : decode cX12_ways_ 42 = .ok (.bipush 10, 2) := by decide +kernel
theorem dX12_ways__44 : decode cX12_ways_ 44 = .ok (.imul, 1) := by decide +kernel
theorem dX12_ways__45 : decode cX12_ways_ 45 = .ok (.iload_n 2, 1) := by decide +kernel
theorem dX12_ways__46 : decode cX12_ways_ 46 = .ok (.iadd, 1) := by decide +kernel
theorem dX12_ways__47 : decode cX12_ways_ 47 = .ok (.iaload, 1) := by decide +kernel
theorem dX12_ways__48 : decode cX12_ways_ 48 = .ok (.ireturn, 1) := by decide +kernel
theorem dX12_shrink_0 : decode cX12_shrink 0 = .ok (.iload_n 1, 1) := by decide +kernel
theorem dX12_shrink_1 : decode cX12_shrink 1 = .ok (.invokestatic 212, 3) := by decide +kernel
theorem dX12_shrink_4 : decode cX12_shrink 4 = .ok (.ifCond .ne 10, 3) := by decide +kernel
theorem dX12_shrink_7 : decode cX12_shrink 7 = .ok (.aload_n 0, 1) := by decide +kernel
theorem dX12_shrink_8 : decode cX12_shrink 8 = .ok (.bipush (-2), 2) := by decide +kernel
theorem dX12_shrink_10 : decode cX12_shrink 10 = .ok (.invokevirtual 177, 3) := by decide +kernel
theorem dX12_shrink_13 : decode cX12_shrink 13 = .ok (.ireturn, 1) := by decide +kernel
theorem dX12_shrink_14 : decode cX12_shrink 14 = .ok (.aload_n 0, 1) := by decide +kernel
theorem dX12_shrink_15 : decode cX12_shrink 15 = .ok (.aload_n 0, 1) := by decide +kernel
theorem dX12_shrink_16 : decode cX12_shrink 16 = .ok (.getfield 97, 3) := by decide +kernel
theorem dX12_shrink_19 : decode cX12_shrink 19 = .ok (.iconst 0, 1) := by decide +kernel
theorem dX12_shrink_20 : decode cX12_shrink 20 = .ok (.aaload, 1) := by decide +kernel
theorem dX12_shrink_21 : decode cX12_shrink 21 = .ok (.iload_n 1, 1) := by decide +kernel
theorem dX12_shrink_22 : decode cX12_shrink 22 = .ok (.iconst (-1), 1) := by decide +kernel
theorem dX12_shrink_23 : decode cX12_shrink 23 = .ok (.invokevirtual 352, 3) := by decide +kernel
theorem dX12_shrink_26 : decode cX12_shrink 26 = .ok (.aload_n 0, 1) := by decide +kernel
theorem dX12_shrink_27 : decode cX12_shrink 27 = .ok (.aload_n 0, 1) := by decide +kernel
theorem dX12_shrink_28 : decode cX12_shrink 28 = .ok (.getfield 97, 3) := by decide +kernel
theorem dX12_shrink_31 : decode cX12_shrink 31 = .ok (.iconst 1, 1) := by decide +kernel
theorem dX12_shrink_32 : decode cX12_shrink 32 = .ok (.aaload, 1) := by decide +kernel
theorem dX12_shrink_33 : decode cX12_shrink 33 = .ok (.iload_n 1, 1) := by decide +kernel
theorem dX12_shrink_34 : decode cX12_shrink 34 = .ok (.iconst (-1), 1) := by decide +kernel
theorem dX12_shrink_35 : decode cX12_shrink 35 = .ok (.invokevirtual 352, 3) := by decide +kernel
theorem dX12_shrink_38 : decode cX12_shrink 38 = .ok (.aload_n 0, 1) := by decide +kernel
theorem dX12_shrink_39 : decode cX12_shrink 39 = .ok (.aload_n 0, 1) := by decide +kernel
theorem dX12_shrink_40 : decode cX12_shrink 40 = .ok (.getfield 97, 3) := by decide +kernel
theorem dX12_shrink_43 : decode cX12_shrink 43 = .ok (.iconst 1, 1) := by decide +kernel
theorem dX12_shrink_44 : decode cX12_shrink 44 = .ok (.aaload, 1) := by decide +kernel
theorem dX12_shrink_45 : decode cX12_shrink 45 = .ok (.aload_n 0, 1) := by decide +kernel
theorem dX12_shrink_46 : decode cX12_shrink 46 = .ok (.getfield 156, 3) := by decide +kernel
theorem dX12_shrink_49 : decode cX12_shrink 49 = .ok (.invokevirtual 356, 3) := by decide +kernel
theorem dX12_shrink_52 : decode cX12_shrink 52 = .ok (.ifCond .ne 5, 3) := by decide +kernel
theorem dX12_shrink_55 : decode cX12_shrink 55 = .ok (.iconst (-1), 1) := by decide +kernel
theorem dX12_shrink_56 : decode cX12_shrink 56 = .ok (.ireturn, 1) := by decide +kernel
theorem dX12_shrink_57 : decode cX12_shrink 57 = .ok (.iconst 0, 1) := by decide +kernel
theorem dX12_shrink_58 : decode cX12_shrink 58 = .ok (.istore_n 2, 1) := by decide +kernel
theorem dX12_shrink_59 : decode cX12_shrink 59 = .ok (.iconst 0, 1) := by decide +kernel
theorem dX12_shrink_60 : decode cX12_shrink 60 = .ok (.istore_n 3, 1) := by decide +kernel
theorem dX12_shrink_61 : decode cX12_shrink 61 = .ok (.iload_n 3, 1) := by decide +kernel
theorem dX12_shrink_62 : decode cX12_shrink 62 = .ok (.aload_n 0, 1) := by decide +kernel
theorem dX12_shrink_63 : decode cX12_shrink 63 = .ok (.getfield 156, 3) := by decide +kernel
theorem dX12_shrink_66 : decode cX12_shrink 66 = .ok (.if_icmp .ge 63, 3) := by decide +kernel
theorem dX12_shrink_69 : decode cX12_shrink 69 = .ok (.iconst 0, 1) := by decide +kernel
theorem dX12_shrink_70 : decode cX12_shrink 70 = .ok (.istore 4, 2) := by decide +kernel
theorem dX12_shrink_72 : decode cX12_shrink 72 = .ok (.iload 4, 2) := by decide +kernel
theorem dX12_shrink_74 : decode cX12_shrink 74 = .ok (.iload_n 3, 1) := by decide +kernel
theorem dX12_shrink_75 : decode cX12_shrink 75 = .ok (.if_icmp .ge 48, 3) := by decide +kernel
theorem dX12_shrink_78 : decode cX12_shrink 78 = .ok (.iload_n 2, 1) := by decide +kernel
theorem dX12_shrink_79 : decode cX12_shrink 79 = .ok (.aload_n 0, 1) := by decide +kernel
theorem dX12_shrink_80 : decode cX12_shrink 80 = .ok (.getfield 97, 3) := by decide +kernel
theorem dX12_shrink_83 : decode cX12_shrink 83 = .ok (.iconst 0, 1) := by decide +kernel
theorem dX12_shrink_84 : decode cX12_shrink 84 = .ok (.aaload, 1) := by decide +kernel
theorem dX12_shrink_85 : decode cX12_shrink 85 = .ok (.iload 4, 2) := by decide +kernel
theorem dX12_shrink_87 : decode cX12_shrink 87 = .ok (.bipush 10, 2) := by decide +kernel
theorem dX12_shrink_89 : decode cX12_shrink 89 = .ok (.imul, 1) := by decide +kernel
theorem dX12_shrink_90 : decode cX12_shrink 90 = .ok (.iload_n 3, 1) := by decide +kernel
theorem dX12_shrink_91 : decode cX12_shrink 91 = .ok (.iadd, 1) := by decide +kernel
theorem dX12_shrink_92 : decode cX12_shrink 92 = .ok (.iaload, 1) := by decide +kernel
theorem dX12_shrink_93 : decode cX12_shrink 93 = .ok (.aload_n 0, 1) := by decide +kernel
theorem dX12_shrink_94 : decode cX12_shrink 94 = .ok (.getfield 97, 3) := by decide +kernel
theorem dX12_shrink_97 : decode cX12_shrink 97 = .ok (.iconst 1, 1) := by decide +kernel
theorem dX12_shrink_98 : decode cX12_shrink 98 = .ok (.aaload, 1) := by decide +kernel
theorem dX12_shrink_99 : decode cX12_shrink 99 = .ok (.iload 4, 2) := by decide +kernel
theorem dX12_shrink_101 : decode cX12_shrink 101 = .ok (.bipush 10, 2) := by decide +kernel
theorem dX12_shrink_103 : decode cX12_shrink 103 = .ok (.imul, 1) := by decide +kernel
theorem dX12_shrink_104 : decode cX12_shrink 104 = .ok (.iload_n 3, 1) := by decide +kernel
theorem dX12_shrink_105 : decode cX12_shrink 105 = .ok (.iadd, 1) := by decide +kernel
theorem dX12_shrink_106 : decode cX12_shrink 106 = .ok (.iaload, 1) := by decide +kernel
theorem dX12_shrink_107 : decode cX12_shrink 107 = .ok (.if_icmp .eq 7, 3) := by decide +kernel
theorem dX12_shrink_110 : decode cX12_shrink 110 = .ok (.iconst 1, 1) := by decide +kernel
theorem dX12_shrink_111 : decode cX12_shrink 111 = .ok (.goto 4, 3) := by decide +kernel
theorem dX12_shrink_114 : decode cX12_shrink 114 = .ok (.iconst 0, 1) := by decide +kernel
theorem dX12_shrink_115 : decode cX12_shrink 115 = .ok (.iadd, 1) := by decide +kernel
theorem dX12_shrink_116 : decode cX12_shrink 116 = .ok (.istore_n 2, 1) := by decide +kernel
theorem dX12_shrink_117 : decode cX12_shrink 117 = .ok (.iinc 4 1, 3) := by decide +kernel
theorem dX12_shrink_120 : decode cX12_shrink 120 = .ok (.goto (-48), 3) := by decide +kernel
theorem dX12_shrink_123 : decode cX12_shrink 123 = .ok (.iinc 3 1, 3) := by decide +kernel
theorem dX12_shrink_126 : decode cX12_shrink 126 = .ok (.goto (-65), 3) := by decide +kernel
theorem dX12_shrink_129 : decode cX12_shrink 129 = .ok (.iload_n 2, 1) := by decide +kernel
theorem dX12_shrink_130 : decode cX12_shrink 130 = .ok (.ireturn, 1) := by decide +kernel
theorem dX12_known_0 : decode cX12_known 0 = .ok (.aload_n 0, 1) := by decide +kernel
theorem dX12_known_1 : decode cX12_known 1 = .ok (.iload_n 1, 1) := by decide +kernel
theorem dX12_known_2 : decode cX12_known 2 = .ok (.iload_n 2, 1) := by decide +kernel
theorem dX12_known_3 : decode cX12_known 3 = .ok (.invokevirtual 349, 3) := by decide +kernel
theorem dX12_known_6 : decode cX12_known 6 = .ok (.ifCond .eq 10, 3) := by decide +kernel
theorem dX12_known_9 : decode cX12_known 9 = .ok (.iload_n 3, 1) := by decide +kernel
theorem dX12_known_10 : decode cX12_known 10 = .ok (.invokestatic 212, 3) := by decide +kernel
theorem dX12_known_13 : decode cX12_known 13 = .ok (.ifCond .ne 10, 3) := by decide +kernel
theorem dX12_known_16 : decode cX12_known 16 = .ok (.aload_n 0, 1) := by decide +kernel
theorem dX12_known_17 : decode cX12_known 17 = .ok (.bipush (-2), 2) := by decide +kernel
theorem dX12_known_19 : decode cX12_known 19 = .ok (.invokevirtual 177, 3) := by decide +kernel
theorem dX12_known_22 : decode cX12_known 22 = .ok (.ireturn, 1) := by decide +kernel
theorem dX12_known_23 : decode cX12_known 23 = .ok (.aload_n 0, 1) := by decide +kernel
theorem dX12_known_24 : decode cX12_known 24 = .ok (.aload_n 0, 1) := by decide +kernel
theorem dX12_known_25 : decode cX12_known 25 = .ok (.getfield 97, 3) := by decide +kernel
theorem dX12_known_28 : decode cX12_known 28 = .ok (.iconst 0, 1) := by decide +kernel
theorem dX12_known_29 : decode cX12_known 29 = .ok (.aaload, 1) := by decide +kernel
theorem dX12_known_30 : decode cX12_known 30 = .ok (.iload_n 3, 1) := by decide +kernel
theorem dX12_known_31 : decode cX12_known 31 = .ok (.iconst (-1), 1) := by decide +kernel
theorem dX12_known_32 : decode cX12_known 32 = .ok (.invokevirtual 352, 3) := by decide +kernel
theorem dX12_known_35 : decode cX12_known 35 = .ok (.aload_n 0, 1) := by decide +kernel
theorem dX12_known_36 : decode cX12_known 36 = .ok (.aload_n 0, 1) := by decide +kernel
theorem dX12_known_37 : decode cX12_known 37 = .ok (.getfield 97, 3) := by decide +kernel
theorem dX12_known_40 : decode cX12_known 40 = .ok (.iconst 0, 1) := by decide +kernel
theorem dX12_known_41 : decode cX12_known 41 = .ok (.aaload, 1) := by decide +kernel
theorem dX12_known_42 : decode cX12_known 42 = .ok (.aload_n 0, 1) := by decide +kernel
theorem dX12_known_43 : decode cX12_known 43 = .ok (.getfield 156, 3) := by decide +kernel
theorem dX12_known_46 : decode cX12_known 46 = .ok (.invokevirtual 356, 3) := by decide +kernel
theorem dX12_known_49 : decode cX12_known 49 = .ok (.ifCond .eq 19, 3) := by decide +kernel
theorem dX12_known_52 : decode cX12_known 52 = .ok (.aload_n 0, 1) := by decide +kernel
theorem dX12_known_53 : decode cX12_known 53 = .ok (.getfield 97, 3) := by decide +kernel
theorem dX12_known_56 : decode cX12_known 56 = .ok (.iconst 0, 1) := by decide +kernel
theorem dX12_known_57 : decode cX12_known 57 = .ok (.aaload, 1) := by decide +kernel
theorem dX12_known_58 : decode cX12_known 58 = .ok (.iload_n 1, 1) := by decide +kernel
theorem dX12_known_59 : decode cX12_known 59 = .ok (.bipush 10, 2) := by decide +kernel
theorem dX12_known_61 : decode cX12_known 61 = .ok (.imul, 1) := by decide +kernel
theorem dX12_known_62 : decode cX12_known 62 = .ok (.iload_n 2, 1) := by decide +kernel
theorem dX12_known_63 : decode cX12_known 63 = .ok (.iadd, 1) := by decide +kernel
theorem dX12_known_64 : decode cX12_known 64 = .ok (.iaload, 1) := by decide +kernel
theorem dX12_known_65 : decode cX12_known 65 = .ok (.goto 4, 3) := by decide +kernel
theorem dX12_known_68 : decode cX12_known 68 = .ok (.iconst 0, 1) := by decide +kernel
theorem dX12_known_69 : decode cX12_known 69 = .ok (.ireturn, 1) := by decide +kernel
theorem dX12_lesserOf_0 : decode cX12_lesserOf 0 = .ok (.iload_n 0, 1) := by decide +kernel
theorem dX12_lesserOf_1 : decode cX12_lesserOf 1 = .ok (.invokestatic 359, 3) := by decide +kernel
theorem dX12_lesserOf_4 : decode cX12_lesserOf 4 = .ok (.istore_n 1, 1) := by decide +kernel
theorem dX12_lesserOf_5 : decode cX12_lesserOf 5 = .ok (.iload_n 0, 1) := by decide +kernel
theorem dX12_lesserOf_6 : decode cX12_lesserOf 6 = .ok (.iload_n 1, 1) := by decide +kernel
theorem dX12_lesserOf_7 : decode cX12_lesserOf 7 = .ok (.iload_n 1, 1) := by decide +kernel
theorem dX12_lesserOf_8 : decode cX12_lesserOf 8 = .ok (.iconst 1, 1) := by decide +kernel
theorem dX12_lesserOf_9 : decode cX12_lesserOf 9 = .ok (.isub, 1) := by decide +kernel
theorem dX12_lesserOf_10 : decode cX12_lesserOf 10 = .ok (.imul, 1) := by decide +kernel
theorem dX12_lesserOf_11 : decode cX12_lesserOf 11 = .ok (.iconst 2, 1) := by decide +kernel
theorem dX12_lesserOf_12 : decode cX12_lesserOf 12 = .ok (.idiv, 1) := by decide +kernel
theorem dX12_lesserOf_13 : decode cX12_lesserOf 13 = .ok (.isub, 1) := by decide +kernel
theorem dX12_lesserOf_14 : decode cX12_lesserOf 14 = .ok (.ireturn, 1) := by decide +kernel
theorem dX12_greaterOf_0 : decode cX12_greaterOf 0 = .ok (.iconst 1, 1) := by decide +kernel
theorem dX12_greaterOf_1 : decode cX12_greaterOf 1 = .ok (.istore_n 1, 1) := by decide +kernel
theorem dX12_greaterOf_2 : decode cX12_greaterOf 2 = .ok (.iload_n 1, 1) := by decide +kernel
theorem dX12_greaterOf_3 : decode cX12_greaterOf 3 = .ok (.iconst 1, 1) := by decide +kernel
theorem dX12_greaterOf_4 : decode cX12_greaterOf 4 = .ok (.iadd, 1) := by decide +kernel
theorem dX12_greaterOf_5 : decode cX12_greaterOf 5 = .ok (.iload_n 1, 1) := by decide +kernel
theorem dX12_greaterOf_6 : decode cX12_greaterOf 6 = .ok (.imul, 1) := by decide +kernel
theorem dX12_greaterOf_7 : decode cX12_greaterOf 7 = .ok (.iconst 2, 1) := by decide +kernel
theorem dX12_greaterOf_8 : decode cX12_greaterOf 8 = .ok (.idiv, 1) := by decide +kernel
theorem dX12_greaterOf_9 : decode cX12_greaterOf 9 = .ok (.iload_n 0, 1) := by decide +kernel
theorem dX12_greaterOf_10 : decode cX12_greaterOf 10 = .ok (.if_icmp .gt 9, 3) := by decide +kernel
theorem dX12_greaterOf_13 : decode cX12_greaterOf 13 = .ok (.iinc 1 1, 3) := by decide +kernel
theorem dX12_greaterOf_16 : decode cX12_greaterOf 16 = .ok (.goto (-14), 3) := by decide +kernel
theorem dX12_greaterOf_19 : decode cX12_greaterOf 19 = .ok (.iload_n 1, 1) := by decide +kernel
theorem dX12_greaterOf_20 : decode cX12_greaterOf 20 = .ok (.ireturn, 1) := by decide +kernel
theorem dX12_beginSearch_0 : decode cX12_beginSearch 0 = .ok (.aload_n 0, 1) := by decide +kernel
theorem dX12_beginSearch_1 : decode cX12_beginSearch 1 = .ok (.iconst 0, 1) := by decide +kernel
theorem dX12_beginSearch_2 : decode cX12_beginSearch 2 = .ok (.putfield 206, 3) := by decide +kernel
theorem dX12_beginSearch_5 : decode cX12_beginSearch 5 = .ok (.aload_n 0, 1) := by decide +kernel
theorem dX12_beginSearch_6 : decode cX12_beginSearch 6 = .ok (.iload_n 1, 1) := by decide +kernel
theorem dX12_beginSearch_7 : decode cX12_beginSearch 7 = .ok (.putfield 362, 3) := by decide +kernel
theorem dX12_beginSearch_10 : decode cX12_beginSearch 10 = .ok (.aload_n 0, 1) := by decide +kernel
theorem dX12_beginSearch_11 : decode cX12_beginSearch 11 = .ok (.iload_n 1, 1) := by decide +kernel
theorem dX12_beginSearch_12 : decode cX12_beginSearch 12 = .ok (.iload_n 1, 1) := by decide +kernel
theorem dX12_beginSearch_13 : decode cX12_beginSearch 13 = .ok (.iconst 1, 1) := by decide +kernel
theorem dX12_beginSearch_14 : decode cX12_beginSearch 14 = .ok (.isub, 1) := by decide +kernel
theorem dX12_beginSearch_15 : decode cX12_beginSearch 15 = .ok (.imul, 1) := by decide +kernel
theorem dX12_beginSearch_16 : decode cX12_beginSearch 16 = .ok (.iconst 2, 1) := by decide +kernel
theorem dX12_beginSearch_17 : decode cX12_beginSearch 17 = .ok (.idiv, 1) := by decide +kernel
theorem dX12_beginSearch_18 : decode cX12_beginSearch 18 = .ok (.putfield 365, 3) := by decide +kernel
theorem dX12_beginSearch_21 : decode cX12_beginSearch 21 = .ok (.aload_n 0, 1) := by decide +kernel
theorem dX12_beginSearch_22 : decode cX12_beginSearch 22 = .ok (.iconst 0, 1) := by decide +kernel
theorem dX12_beginSearch_23 : decode cX12_beginSearch 23 = .ok (.putfield 368, 3) := by decide +kernel
theorem dX12_beginSearch_26 : decode cX12_beginSearch 26 = .ok (.aload_n 0, 1) := by decide +kernel
theorem dX12_beginSearch_27 : decode cX12_beginSearch 27 = .ok (.iconst 0, 1) := by decide +kernel
theorem dX12_beginSearch_28 : decode cX12_beginSearch 28 = .ok (.putfield 371, 3) := by decide +kernel
theorem dX12_beginSearch_31 : decode cX12_beginSearch 31 = .ok (.aload_n 0, 1) := by decide +kernel
theorem dX12_beginSearch_32 : decode cX12_beginSearch 32 = .ok (.iconst 0, 1) := by decide +kernel
theorem dX12_beginSearch_33 : decode cX12_beginSearch 33 = .ok (.putfield 374, 3) := by decide +kernel
theorem dX12_beginSearch_36 : decode cX12_beginSearch 36 = .ok (.aload_n 0, 1) := by decide +kernel
theorem dX12_beginSearch_37 : decode cX12_beginSearch 37 = .ok (.iconst 0, 1) := by decide +kernel
theorem dX12_beginSearch_38 : decode cX12_beginSearch 38 = .ok (.putfield 377, 3) := by decide +kernel
theorem dX12_beginSearch_41 : decode cX12_beginSearch 41 = .ok (.aload_n 0, 1) := by decide +kernel
theorem dX12_beginSearch_42 : decode cX12_beginSearch 42 = .ok (.aload_n 0, 1) := by decide +kernel
theorem dX12_beginSearch_43 : decode cX12_beginSearch 43 = .ok (.getfield 97, 3) := by decide +kernel
theorem dX12_beginSearch_46 : decode cX12_beginSearch 46 = .ok (.iconst 0, 1) := by decide +kernel
theorem dX12_beginSearch_47 : decode cX12_beginSearch 47 = .ok (.aaload, 1) := by decide +kernel
theorem dX12_beginSearch_48 : decode cX12_beginSearch 48 = .ok (.iload_n 1, 1) := by decide +kernel
theorem dX12_beginSearch_49 : decode cX12_beginSearch 49 = .ok (.invokevirtual 356, 3) := by decide +kernel
theorem dX12_beginSearch_52 : decode cX12_beginSearch 52 = .ok (.ifCond .ne 11, 3) := by decide +kernel
theorem dX12_beginSearch_55 : decode cX12_beginSearch 55 = .ok (.aload_n 0, 1) := by decide +kernel
theorem dX12_beginSearch_56 : decode cX12_beginSearch 56 = .ok (.iconst 2, 1) := by decide +kernel
theorem dX12_beginSearch_57 : decode cX12_beginSearch 57 = .ok (.putfield 377, 3) := by decide +kernel
theorem dX12_beginSearch_60 : decode cX12_beginSearch 60 = .ok (.goto 25, 3) := by decide +kernel
theorem dX12_beginSearch_63 : decode cX12_beginSearch 63 = .ok (.aload_n 0, 1) := by decide +kernel
theorem dX12_beginSearch_64 : decode cX12_beginSearch 64 = .ok (.getfield 365, 3) := by decide +kernel
theorem dX12_beginSearch_67 : decode cX12_beginSearch 67 = .ok (.ifCond .ne 11, 3) := by decide +kernel
theorem dX12_beginSearch_70 : decode cX12_beginSearch 70 = .ok (.aload_n 0, 1) := by decide +kernel
theorem dX12_beginSearch_71 : decode cX12_beginSearch 71 = .ok (.iconst 1, 1) := by decide +kernel
theorem dX12_beginSearch_72 : decode cX12_beginSearch 72 = .ok (.putfield 377, 3) := by decide +kernel
theorem dX12_beginSearch_75 : decode cX12_beginSearch 75 = .ok (.goto 10, 3) := by decide +kernel
theorem dX12_beginSearch_78 : decode cX12_beginSearch 78 = .ok (.aload_n 0, 1) := by decide +kernel
theorem dX12_beginSearch_79 : decode cX12_beginSearch 79 = .ok (.getfield 100, 3) := by decide +kernel
theorem dX12_beginSearch_82 : decode cX12_beginSearch 82 = .ok (.iconst 0, 1) := by decide +kernel
theorem dX12_beginSearch_83 : decode cX12_beginSearch 83 = .ok (.iconst (-1), 1) := by decide +kernel
theorem dX12_beginSearch_84 : decode cX12_beginSearch 84 = .ok (.iastore, 1) := by decide +kernel
theorem dX12_beginSearch_85 : decode cX12_beginSearch 85 = .ok (.return_, 1) := by decide +kernel
theorem dX12_nextWay_0 : decode cX12_nextWay 0 = .ok (.aload_n 0, 1) := by decide +kernel
theorem dX12_nextWay_1 : decode cX12_nextWay 1 = .ok (.getfield 368, 3) := by decide +kernel
theorem dX12_nextWay_4 : decode cX12_nextWay 4 = .ok (.invokestatic 380, 3) := by decide +kernel
theorem dX12_nextWay_7 : decode cX12_nextWay 7 = .ok (.bipush 10, 2) := by decide +kernel
theorem dX12_nextWay_9 : decode cX12_nextWay 9 = .ok (.imul, 1) := by decide +kernel
theorem dX12_nextWay_10 : decode cX12_nextWay 10 = .ok (.aload_n 0, 1) := by decide +kernel
theorem dX12_nextWay_11 : decode cX12_nextWay 11 = .ok (.getfield 368, 3) := by decide +kernel
theorem dX12_nextWay_14 : decode cX12_nextWay 14 = .ok (.invokestatic 359, 3) := by decide +kernel
theorem dX12_nextWay_17 : decode cX12_nextWay 17 = .ok (.iadd, 1) := by decide +kernel
theorem dX12_nextWay_18 : decode cX12_nextWay 18 = .ok (.istore_n 1, 1) := by decide +kernel
theorem dX12_nextWay_19 : decode cX12_nextWay 19 = .ok (.aload_n 0, 1) := by decide +kernel
theorem dX12_nextWay_20 : decode cX12_nextWay 20 = .ok (.getfield 100, 3) := by decide +kernel
theorem dX12_nextWay_23 : decode cX12_nextWay 23 = .ok (.aload_n 0, 1) := by decide +kernel
theorem dX12_nextWay_24 : decode cX12_nextWay 24 = .ok (.getfield 368, 3) := by decide +kernel
theorem dX12_nextWay_27 : decode cX12_nextWay 27 = .ok (.iaload, 1) := by decide +kernel
theorem dX12_nextWay_28 : decode cX12_nextWay 28 = .ok (.iconst 1, 1) := by decide +kernel
theorem dX12_nextWay_29 : decode cX12_nextWay 29 = .ok (.iadd, 1) := by decide +kernel
theorem dX12_nextWay_30 : decode cX12_nextWay 30 = .ok (.istore_n 2, 1) := by decide +kernel
theorem dX12_nextWay_31 : decode cX12_nextWay 31 = .ok (.iload_n 2, 1) := by decide +kernel
theorem dX12_nextWay_32 : decode cX12_nextWay 32 = .ok (.bipush 8, 2) := by decide +kernel
theorem dX12_nextWay_34 : decode cX12_nextWay 34 = .ok (.if_icmp .ge 27, 3) := by decide +kernel
theorem dX12_nextWay_37 : decode cX12_nextWay 37 = .ok (.aload_n 0, 1) := by decide +kernel
theorem dX12_nextWay_38 : decode cX12_nextWay 38 = .ok (.getfield 97, 3) := by decide +kernel
theorem dX12_nextWay_41 : decode cX12_nextWay 41 = .ok (.aload_n 0, 1) := by decide +kernel
theorem dX12_nextWay_42 : decode cX12_nextWay 42 = .ok (.getfield 368, 3) := by decide +kernel
theorem dX12_nextWay_45 : decode cX12_nextWay 45 = .ok (.aaload, 1) := by decide +kernel
theorem dX12_nextWay_46 : decode cX12_nextWay 46 = .ok (.iload_n 1, 1) := by decide +kernel
theorem dX12_nextWay_47 : decode cX12_nextWay 47 = .ok (.iaload, 1) := by decide +kernel
theorem dX12_nextWay_48 : decode cX12_nextWay 48 = .ok (.iload_n 2, 1) := by decide +kernel
theorem dX12_nextWay_49 : decode cX12_nextWay 49 = .ok (.ishr, 1) := by decide +kernel
theorem dX12_nextWay_50 : decode cX12_nextWay 50 = .ok (.iconst 1, 1) := by decide +kernel
theorem dX12_nextWay_51 : decode cX12_nextWay 51 = .ok (.iand, 1) := by decide +kernel
theorem dX12_nextWay_52 : decode cX12_nextWay 52 = .ok (.ifCond .ne 9, 3) := by decide +kernel
theorem dX12_nextWay_55 : decode cX12_nextWay 55 = .ok (.iinc 2 1, 3) := by decide +kernel
theorem dX12_nextWay_58 : decode cX12_nextWay 58 = .ok (.goto (-27), 3) := by decide +kernel
theorem dX12_nextWay_61 : decode cX12_nextWay 61 = .ok (.iload_n 2, 1) := by decide +kernel
theorem dX12_nextWay_62 : decode cX12_nextWay 62 = .ok (.ireturn, 1) := by decide +kernel
theorem dX12_comeBack_0 : decode cX12_comeBack 0 = .ok (.aload_n 0, 1) := by decide +kernel
theorem dX12_comeBack_1 : decode cX12_comeBack 1 = .ok (.invokevirtual 383, 3) := by decide +kernel
theorem dX12_comeBack_4 : decode cX12_comeBack 4 = .ok (.bipush 8, 2) := by decide +kernel
theorem dX12_comeBack_6 : decode cX12_comeBack 6 = .ok (.if_icmp .ne 25, 3) := by decide +kernel
theorem dX12_comeBack_9 : decode cX12_comeBack 9 = .ok (.aload_n 0, 1) := by decide +kernel
theorem dX12_comeBack_10 : decode cX12_comeBack 10 = .ok (.getfield 368, 3) := by decide +kernel
theorem dX12_comeBack_13 : decode cX12_comeBack 13 = .ok (.ifCond .ne 5, 3) := by decide +kernel
theorem dX12_comeBack_16 : decode cX12_comeBack 16 = .ok (.iconst 0, 1) := by decide +kernel
theorem dX12_comeBack_17 : decode cX12_comeBack 17 = .ok (.ireturn, 1) := by decide +kernel
theorem dX12_comeBack_18 : decode cX12_comeBack 18 = .ok (.aload_n 0, 1) := by decide +kernel
theorem dX12_comeBack_19 : decode cX12_comeBack 19 = .ok (.dup, 1) := by decide +kernel
theorem dX12_comeBack_20 : decode cX12_comeBack 20 = .ok (.getfield 368, 3) := by decide +kernel
theorem dX12_comeBack_23 : decode cX12_comeBack 23 = .ok (.iconst 1, 1) := by decide +kernel
theorem dX12_comeBack_24 : decode cX12_comeBack 24 = .ok (.isub, 1) := by decide +kernel
theorem dX12_comeBack_25 : decode cX12_comeBack 25 = .ok (.putfield 368, 3) := by decide +kernel
theorem dX12_comeBack_28 : decode cX12_comeBack 28 = .ok (.goto (-28), 3) := by decide +kernel
theorem dX12_comeBack_31 : decode cX12_comeBack 31 = .ok (.iconst 1, 1) := by decide +kernel
theorem dX12_comeBack_32 : decode cX12_comeBack 32 = .ok (.ireturn, 1) := by decide +kernel
theorem dX12_choose_0 : decode cX12_choose 0 = .ok (.aload_n 0, 1) := by decide +kernel
theorem dX12_choose_1 : decode cX12_choose 1 = .ok (.invokevirtual 383, 3) := by decide +kernel
theorem dX12_choose_4 : decode cX12_choose 4 = .ok (.istore_n 1, 1) := by decide +kernel
theorem dX12_choose_5 : decode cX12_choose 5 = .ok (.aload_n 0, 1) := by decide +kernel
theorem dX12_choose_6 : decode cX12_choose 6 = .ok (.getfield 100, 3) := by decide +kernel
theorem dX12_choose_9 : decode cX12_choose 9 = .ok (.aload_n 0, 1) := by decide +kernel
theorem dX12_choose_10 : decode cX12_choose 10 = .ok (.getfield 368, 3) := by decide +kernel
theorem dX12_choose_13 : decode cX12_choose 13 = .ok (.iload_n 1, 1) := by decide +kernel
theorem dX12_choose_14 : decode cX12_choose 14 = .ok (.iastore, 1) := by decide +kernel
theorem dX12_choose_15 : decode cX12_choose 15 = .ok (.aload_n 0, 1) := by decide +kernel
theorem dX12_choose_16 : decode cX12_choose 16 = .ok (.dup, 1) := by decide +kernel
theorem dX12_choose_17 : decode cX12_choose 17 = .ok (.getfield 371, 3) := by decide +kernel
theorem dX12_choose_20 : decode cX12_choose 20 = .ok (.iconst 1, 1) := by decide +kernel
theorem dX12_choose_21 : decode cX12_choose 21 = .ok (.iadd, 1) := by decide +kernel
theorem dX12_choose_22 : decode cX12_choose 22 = .ok (.putfield 371, 3) := by decide +kernel
theorem dX12_choose_25 : decode cX12_choose 25 = .ok (.iconst 0, 1) := by decide +kernel
theorem dX12_choose_26 : decode cX12_choose 26 = .ok (.istore_n 2, 1) := by decide +kernel
theorem dX12_choose_27 : decode cX12_choose 27 = .ok (.iload_n 2, 1) := by decide +kernel
theorem dX12_choose_28 : decode cX12_choose 28 = .ok (.bipush 100, 2) := by decide +kernel
theorem dX12_choose_30 : decode cX12_choose 30 = .ok (.if_icmp .ge 33, 3) := by decide +kernel
theorem dX12_choose_33 : decode cX12_choose 33 = .ok (.aload_n 0, 1) := by decide +kernel
theorem dX12_choose_34 : decode cX12_choose 34 = .ok (.getfield 97, 3) := by decide +kernel
theorem dX12_choose_37 : decode cX12_choose 37 = .ok (.aload_n 0, 1) := by decide +kernel
theorem dX12_choose_38 : decode cX12_choose 38 = .ok (.getfield 368, 3) := by decide +kernel
theorem dX12_choose_41 : decode cX12_choose 41 = .ok (.iconst 1, 1) := by decide +kernel
theorem dX12_choose_42 : decode cX12_choose 42 = .ok (.iadd, 1) := by decide +kernel
theorem dX12_choose_43 : decode cX12_choose 43 = .ok (.aaload, 1) := by decide +kernel
theorem dX12_choose_44 : decode cX12_choose 44 = .ok (.iload_n 2, 1) := by decide +kernel
theorem dX12_choose_45 : decode cX12_choose 45 = .ok (.aload_n 0, 1) := by decide +kernel
theorem dX12_choose_46 : decode cX12_choose 46 = .ok (.getfield 97, 3) := by decide +kernel
theorem dX12_choose_49 : decode cX12_choose 49 = .ok (.aload_n 0, 1) := by decide +kernel
theorem dX12_choose_50 : decode cX12_choose 50 = .ok (.getfield 368, 3) := by decide +kernel
theorem dX12_choose_53 : decode cX12_choose 53 = .ok (.aaload, 1) := by decide +kernel
theorem dX12_choose_54 : decode cX12_choose 54 = .ok (.iload_n 2, 1) := by decide +kernel
theorem dX12_choose_55 : decode cX12_choose 55 = .ok (.iaload, 1) := by decide +kernel
theorem dX12_choose_56 : decode cX12_choose 56 = .ok (.iastore, 1) := by decide +kernel
theorem dX12_choose_57 : decode cX12_choose 57 = .ok (.iinc 2 1, 3) := by decide +kernel
theorem dX12_choose_60 : decode cX12_choose 60 = .ok (.goto (-33), 3) := by decide +kernel
theorem dX12_choose_63 : decode cX12_choose 63 = .ok (.aload_n 0, 1) := by decide +kernel
theorem dX12_choose_64 : decode cX12_choose 64 = .ok (.getfield 97, 3) := by decide +kernel
theorem dX12_choose_67 : decode cX12_choose 67 = .ok (.aload_n 0, 1) := by decide +kernel
theorem dX12_choose_68 : decode cX12_choose 68 = .ok (.getfield 368, 3) := by decide +kernel
theorem dX12_choose_71 : decode cX12_choose 71 = .ok (.iconst 1, 1) := by decide +kernel
theorem dX12_choose_72 : decode cX12_choose 72 = .ok (.iadd, 1) := by decide +kernel
theorem dX12_choose_73 : decode cX12_choose 73 = .ok (.aaload, 1) := by decide +kernel
theorem dX12_choose_74 : decode cX12_choose 74 = .ok (.aload_n 0, 1) := by decide +kernel
theorem dX12_choose_75 : decode cX12_choose 75 = .ok (.getfield 368, 3) := by decide +kernel
theorem dX12_choose_78 : decode cX12_choose 78 = .ok (.invokestatic 380, 3) := by decide +kernel
theorem dX12_choose_81 : decode cX12_choose 81 = .ok (.aload_n 0, 1) := by decide +kernel
theorem dX12_choose_82 : decode cX12_choose 82 = .ok (.getfield 368, 3) := by decide +kernel
theorem dX12_choose_85 : decode cX12_choose 85 = .ok (.invokestatic 359, 3) := by decide +kernel
theorem dX12_choose_88 : decode cX12_choose 88 = .ok (.iconst 1, 1) := by decide +kernel
theorem dX12_choose_89 : decode cX12_choose 89 = .ok (.iload_n 1, 1) := by decide +kernel
theorem dX12_choose_90 : decode cX12_choose 90 = .ok (.ishl, 1) := by decide +kernel
theorem dX12_choose_91 : decode cX12_choose 91 = .ok (.invokestatic 335, 3) := by decide +kernel
theorem dX12_choose_94 : decode cX12_choose 94 = .ok (.aload_n 0, 1) := by decide +kernel
theorem dX12_choose_95 : decode cX12_choose 95 = .ok (.aload_n 0, 1) := by decide +kernel
theorem dX12_choose_96 : decode cX12_choose 96 = .ok (.getfield 97, 3) := by decide +kernel
theorem dX12_choose_99 : decode cX12_choose 99 = .ok (.aload_n 0, 1) := by decide +kernel
theorem dX12_choose_100 : decode cX12_choose 100 = .ok (.getfield 368, 3) := by decide +kernel
theorem dX12_choose_103 : decode cX12_choose 103 = .ok (.iconst 1, 1) := by decide +kernel
theorem dX12_choose_104 : decode cX12_choose 104 = .ok (.iadd, 1) := by decide +kernel
theorem dX12_choose_105 : decode cX12_choose 105 = .ok (.aaload, 1) := by decide +kernel
theorem dX12_choose_106 : decode cX12_choose 106 = .ok (.aload_n 0, 1) := by decide +kernel
theorem dX12_choose_107 : decode cX12_choose 107 = .ok (.getfield 362, 3) := by decide +kernel
theorem dX12_choose_110 : decode cX12_choose 110 = .ok (.invokevirtual 356, 3) := by decide +kernel
theorem dX12_choose_113 : decode cX12_choose 113 = .ok (.ifCond .eq 43, 3) := by decide +kernel
theorem dX12_choose_116 : decode cX12_choose 116 = .ok (.aload_n 0, 1) := by decide +kernel
theorem dX12_choose_117 : decode cX12_choose 117 = .ok (.dup, 1) := by decide +kernel
theorem dX12_choose_118 : decode cX12_choose 118 = .ok (.getfield 368, 3) := by decide +kernel
theorem dX12_choose_121 : decode cX12_choose 121 = .ok (.iconst 1, 1) := by decide +kernel
theorem dX12_choose_122 : decode cX12_choose 122 = .ok (.iadd, 1) := by decide +kernel
theorem dX12_choose_123 : decode cX12_choose 123 = .ok (.putfield 368, 3) := by decide +kernel
theorem dX12_choose_126 : decode cX12_choose 126 = .ok (.aload_n 0, 1) := by decide +kernel
theorem dX12_choose_127 : decode cX12_choose 127 = .ok (.getfield 368, 3) := by decide +kernel
theorem dX12_choose_130 : decode cX12_choose 130 = .ok (.aload_n 0, 1) := by decide +kernel
theorem dX12_choose_131 : decode cX12_choose 131 = .ok (.getfield 365, 3) := by decide +kernel
theorem dX12_choose_134 : decode cX12_choose 134 = .ok (.if_icmp .ne 9, 3) := by decide +kernel
theorem dX12_choose_137 : decode cX12_choose 137 = .ok (.aload_n 0, 1) := by decide +kernel
theorem dX12_choose_138 : decode cX12_choose 138 = .ok (.iconst 1, 1) := by decide +kernel
theorem dX12_choose_139 : decode cX12_choose 139 = .ok (.putfield 377, 3) := by decide +kernel
theorem dX12_choose_142 : decode cX12_choose 142 = .ok (.return_, 1) := by decide +kernel
theorem dX12_choose_143 : decode cX12_choose 143 = .ok (.aload_n 0, 1) := by decide +kernel
theorem dX12_choose_144 : decode cX12_choose 144 = .ok (.getfield 100, 3) := by decide +kernel
theorem dX12_choose_147 : decode cX12_choose 147 = .ok (.aload_n 0, 1) := by decide +kernel
theorem dX12_choose_148 : decode cX12_choose 148 = .ok (.getfield 368, 3) := by decide +kernel
theorem dX12_choose_151 : decode cX12_choose 151 = .ok (.iconst (-1), 1) := by decide +kernel
theorem dX12_choose_152 : decode cX12_choose 152 = .ok (.iastore, 1) := by decide +kernel
theorem dX12_choose_153 : decode cX12_choose 153 = .ok (.goto 13, 3) := by decide +kernel
theorem dX12_choose_156 : decode cX12_choose 156 = .ok (.aload_n 0, 1) := by decide +kernel
theorem dX12_choose_157 : decode cX12_choose 157 = .ok (.dup, 1) := by decide +kernel
theorem dX12_choose_158 : decode cX12_choose 158 = .ok (.getfield 374, 3) := by decide +kernel
theorem dX12_choose_161 : decode cX12_choose 161 = .ok (.iconst 1, 1) := by decide +kernel
theorem dX12_choose_162 : decode cX12_choose 162 = .ok (.iadd, 1) := by decide +kernel
theorem dX12_choose_163 : decode cX12_choose 163 = .ok (.putfield 374, 3) := by decide +kernel
theorem dX12_choose_166 : decode cX12_choose 166 = .ok (.aload_n 0, 1) := by decide +kernel
theorem dX12_choose_167 : decode cX12_choose 167 = .ok (.invokevirtual 386, 3) := by decide +kernel
theorem dX12_choose_170 : decode cX12_choose 170 = .ok (.ifCond .ne 11, 3) := by decide +kernel
theorem dX12_choose_173 : decode cX12_choose 173 = .ok (.aload_n 0, 1) := by decide +kernel
theorem dX12_choose_174 : decode cX12_choose 174 = .ok (.iconst 2, 1) := by decide +kernel
theorem dX12_choose_175 : decode cX12_choose 175 = .ok (.putfield 377, 3) := by decide +kernel
theorem dX12_choose_178 : decode cX12_choose 178 = .ok (.goto 18, 3) := by decide +kernel
theorem dX12_choose_181 : decode cX12_choose 181 = .ok (.aload_n 0, 1) := by decide +kernel
theorem dX12_choose_182 : decode cX12_choose 182 = .ok (.getfield 371, 3) := by decide +kernel
theorem dX12_choose_185 : decode cX12_choose 185 = .ok (.sipush 20000, 3) := by decide +kernel
theorem dX12_choose_188 : decode cX12_choose 188 = .ok (.if_icmp .ne 8, 3) := by decide +kernel
theorem dX12_choose_191 : decode cX12_choose 191 = .ok (.aload_n 0, 1) := by decide +kernel
theorem dX12_choose_192 : decode cX12_choose 192 = .ok (.iconst 3, 1) := by decide +kernel
theorem dX12_choose_193 : decode cX12_choose 193 = .ok (.putfield 377, 3) := by decide +kernel
theorem dX12_choose_196 : decode cX12_choose 196 = .ok (.return_, 1) := by decide +kernel
theorem dX12_goOn_0 : decode cX12_goOn 0 = .ok (.aload_n 0, 1) := by decide +kernel
theorem dX12_goOn_1 : decode cX12_goOn 1 = .ok (.getfield 377, 3) := by decide +kernel
theorem dX12_goOn_4 : decode cX12_goOn 4 = .ok (.ifCond .ne 10, 3) := by decide +kernel
theorem dX12_goOn_7 : decode cX12_goOn 7 = .ok (.aload_n 0, 1) := by decide +kernel
theorem dX12_goOn_8 : decode cX12_goOn 8 = .ok (.invokevirtual 389, 3) := by decide +kernel
theorem dX12_goOn_11 : decode cX12_goOn 11 = .ok (.goto (-11), 3) := by decide +kernel
theorem dX12_goOn_14 : decode cX12_goOn 14 = .ok (.return_, 1) := by decide +kernel
theorem dX12_goBehind_0 : decode cX12_goBehind 0 = .ok (.aload_n 0, 1) := by decide +kernel
theorem dX12_goBehind_1 : decode cX12_goBehind 1 = .ok (.iconst 0, 1) := by decide +kernel
theorem dX12_goBehind_2 : decode cX12_goBehind 2 = .ok (.putfield 206, 3) := by decide +kernel
theorem dX12_goBehind_5 : decode cX12_goBehind 5 = .ok (.aload_n 0, 1) := by decide +kernel
theorem dX12_goBehind_6 : decode cX12_goBehind 6 = .ok (.getfield 365, 3) := by decide +kernel
theorem dX12_goBehind_9 : decode cX12_goBehind 9 = .ok (.ifCond .ne 9, 3) := by decide +kernel
theorem dX12_goBehind_12 : decode cX12_goBehind 12 = .ok (.aload_n 0, 1) := by decide +kernel
theorem dX12_goBehind_13 : decode cX12_goBehind 13 = .ok (.iconst 2, 1) := by decide +kernel
theorem dX12_goBehind_14 : decode cX12_goBehind 14 = .ok (.putfield 377, 3) := by decide +kernel
theorem dX12_goBehind_17 : decode cX12_goBehind 17 = .ok (.return_, 1) := by decide +kernel
theorem dX12_goBehind_18 : decode cX12_goBehind 18 = .ok (.aload_n 0, 1) := by decide +kernel
theorem dX12_goBehind_19 : decode cX12_goBehind 19 = .ok (.aload_n 0, 1) := by decide +kernel
theorem dX12_goBehind_20 : decode cX12_goBehind 20 = .ok (.getfield 365, 3) := by decide +kernel
theorem dX12_goBehind_23 : decode cX12_goBehind 23 = .ok (.iconst 1, 1) := by decide +kernel
theorem dX12_goBehind_24 : decode cX12_goBehind 24 = .ok (.isub, 1) := by decide +kernel
theorem dX12_goBehind_25 : decode cX12_goBehind 25 = .ok (.putfield 368, 3) := by decide +kernel
theorem dX12_goBehind_28 : decode cX12_goBehind 28 = .ok (.aload_n 0, 1) := by decide +kernel
theorem dX12_goBehind_29 : decode cX12_goBehind 29 = .ok (.iconst 0, 1) := by decide +kernel
theorem dX12_goBehind_30 : decode cX12_goBehind 30 = .ok (.putfield 377, 3) := by decide +kernel
theorem dX12_goBehind_33 : decode cX12_goBehind 33 = .ok (.aload_n 0, 1) := by decide +kernel
theorem dX12_goBehind_34 : decode cX12_goBehind 34 = .ok (.invokevirtual 386, 3) := by decide +kernel
theorem dX12_goBehind_37 : decode cX12_goBehind 37 = .ok (.ifCond .ne 11, 3) := by decide +kernel
theorem dX12_goBehind_40 : decode cX12_goBehind 40 = .ok (.aload_n 0, 1) := by decide +kernel
theorem dX12_goBehind_41 : decode cX12_goBehind 41 = .ok (.iconst 2, 1) := by decide +kernel
theorem dX12_goBehind_42 : decode cX12_goBehind 42 = .ok (.putfield 377, 3) := by decide +kernel
theorem dX12_goBehind_45 : decode cX12_goBehind 45 = .ok (.goto 25, 3) := by decide +kernel
theorem dX12_goBehind_48 : decode cX12_goBehind 48 = .ok (.aload_n 0, 1) := by decide +kernel
theorem dX12_goBehind_49 : decode cX12_goBehind 49 = .ok (.getfield 371, 3) := by decide +kernel
theorem dX12_goBehind_52 : decode cX12_goBehind 52 = .ok (.sipush 20000, 3) := by decide +kernel
theorem dX12_goBehind_55 : decode cX12_goBehind 55 = .ok (.if_icmp .ne 11, 3) := by decide +kernel
theorem dX12_goBehind_58 : decode cX12_goBehind 58 = .ok (.aload_n 0, 1) := by decide +kernel
theorem dX12_goBehind_59 : decode cX12_goBehind 59 = .ok (.iconst 3, 1) := by decide +kernel
theorem dX12_goBehind_60 : decode cX12_goBehind 60 = .ok (.putfield 377, 3) := by decide +kernel
theorem dX12_goBehind_63 : decode cX12_goBehind 63 = .ok (.goto 7, 3) := by decide +kernel
theorem dX12_goBehind_66 : decode cX12_goBehind 66 = .ok (.aload_n 0, 1) := by decide +kernel
theorem dX12_goBehind_67 : decode cX12_goBehind 67 = .ok (.invokevirtual 392, 3) := by decide +kernel
theorem dX12_goBehind_70 : decode cX12_goBehind 70 = .ok (.return_, 1) := by decide +kernel
theorem dX12_search_0 : decode cX12_search 0 = .ok (.aload_n 0, 1) := by decide +kernel
theorem dX12_search_1 : decode cX12_search 1 = .ok (.getfield 206, 3) := by decide +kernel
theorem dX12_search_4 : decode cX12_search 4 = .ok (.ifCond .eq 20, 3) := by decide +kernel
theorem dX12_search_7 : decode cX12_search 7 = .ok (.aload_n 0, 1) := by decide +kernel
theorem dX12_search_8 : decode cX12_search 8 = .ok (.getfield 395, 3) := by decide +kernel
theorem dX12_search_11 : decode cX12_search 11 = .ok (.iload_n 1, 1) := by decide +kernel
theorem dX12_search_12 : decode cX12_search 12 = .ok (.if_icmp .ne 12, 3) := by decide +kernel
theorem dX12_search_15 : decode cX12_search 15 = .ok (.aload_n 0, 1) := by decide +kernel
theorem dX12_search_16 : decode cX12_search 16 = .ok (.getfield 398, 3) := by decide +kernel
theorem dX12_search_19 : decode cX12_search 19 = .ok (.iload_n 2, 1) := by decide +kernel
theorem dX12_search_20 : decode cX12_search 20 = .ok (.if_icmp .ne 4, 3) := by decide +kernel
theorem dX12_search_23 : decode cX12_search 23 = .ok (.return_, 1) := by decide +kernel
theorem dX12_search_24 : decode cX12_search 24 = .ok (.aload_n 0, 1) := by decide +kernel
theorem dX12_search_25 : decode cX12_search 25 = .ok (.aload_n 0, 1) := by decide +kernel
theorem dX12_search_26 : decode cX12_search 26 = .ok (.getfield 97, 3) := by decide +kernel
theorem dX12_search_29 : decode cX12_search 29 = .ok (.iconst 0, 1) := by decide +kernel
theorem dX12_search_30 : decode cX12_search 30 = .ok (.aaload, 1) := by decide +kernel
theorem dX12_search_31 : decode cX12_search 31 = .ok (.iload_n 1, 1) := by decide +kernel
theorem dX12_search_32 : decode cX12_search 32 = .ok (.iload_n 2, 1) := by decide +kernel
theorem dX12_search_33 : decode cX12_search 33 = .ok (.invokevirtual 352, 3) := by decide +kernel
theorem dX12_search_36 : decode cX12_search 36 = .ok (.aload_n 0, 1) := by decide +kernel
theorem dX12_search_37 : decode cX12_search 37 = .ok (.aload_n 0, 1) := by decide +kernel
theorem dX12_search_38 : decode cX12_search 38 = .ok (.getfield 156, 3) := by decide +kernel
theorem dX12_search_41 : decode cX12_search 41 = .ok (.invokevirtual 401, 3) := by decide +kernel
theorem dX12_search_44 : decode cX12_search 44 = .ok (.aload_n 0, 1) := by decide +kernel
theorem dX12_search_45 : decode cX12_search 45 = .ok (.invokevirtual 392, 3) := by decide +kernel
theorem dX12_search_48 : decode cX12_search 48 = .ok (.aload_n 0, 1) := by decide +kernel
theorem dX12_search_49 : decode cX12_search 49 = .ok (.iconst 1, 1) := by decide +kernel
theorem dX12_search_50 : decode cX12_search 50 = .ok (.putfield 206, 3) := by decide +kernel
theorem dX12_search_53 : decode cX12_search 53 = .ok (.aload_n 0, 1) := by decide +kernel
theorem dX12_search_54 : decode cX12_search 54 = .ok (.iload_n 1, 1) := by decide +kernel
theorem dX12_search_55 : decode cX12_search 55 = .ok (.putfield 395, 3) := by decide +kernel
theorem dX12_search_58 : decode cX12_search 58 = .ok (.aload_n 0, 1) := by decide +kernel
theorem dX12_search_59 : decode cX12_search 59 = .ok (.iload_n 2, 1) := by decide +kernel
theorem dX12_search_60 : decode cX12_search 60 = .ok (.putfield 398, 3) := by decide +kernel
theorem dX12_search_63 : decode cX12_search 63 = .ok (.return_, 1) := by decide +kernel
theorem dX12_fewestIn_0 : decode cX12_fewestIn 0 = .ok (.iconst (-1), 1) := by decide +kernel
theorem dX12_fewestIn_1 : decode cX12_fewestIn 1 = .ok (.istore 4, 2) := by decide +kernel
theorem dX12_fewestIn_3 : decode cX12_fewestIn 3 = .ok (.iconst 0, 1) := by decide +kernel
theorem dX12_fewestIn_4 : decode cX12_fewestIn 4 = .ok (.istore 5, 2) := by decide +kernel
theorem dX12_fewestIn_6 : decode cX12_fewestIn 6 = .ok (.iload 5, 2) := by decide +kernel
theorem dX12_fewestIn_8 : decode cX12_fewestIn 8 = .ok (.aload_n 0, 1) := by decide +kernel
theorem dX12_fewestIn_9 : decode cX12_fewestIn 9 = .ok (.getfield 156, 3) := by decide +kernel
theorem dX12_fewestIn_12 : decode cX12_fewestIn 12 = .ok (.if_icmp .ge 160, 3) := by decide +kernel
theorem dX12_fewestIn_15 : decode cX12_fewestIn 15 = .ok (.iconst 1, 1) := by decide +kernel
theorem dX12_fewestIn_16 : decode cX12_fewestIn 16 = .ok (.iload 5, 2) := by decide +kernel
theorem dX12_fewestIn_18 : decode cX12_fewestIn 18 = .ok (.ishl, 1) := by decide +kernel
theorem dX12_fewestIn_19 : decode cX12_fewestIn 19 = .ok (.istore 6, 2) := by decide +kernel
theorem dX12_fewestIn_21 : decode cX12_fewestIn 21 = .ok (.iconst 1, 1) := by decide +kernel
theorem dX12_fewestIn_22 : decode cX12_fewestIn 22 = .ok (.istore 7, 2) := by decide +kernel
theorem dX12_fewestIn_24 : decode cX12_fewestIn 24 = .ok (.iload 7, 2) := by decide +kernel
theorem dX12_fewestIn_26 : decode cX12_fewestIn 26 = .ok (.aload_n 0, 1) := by decide +kernel
theorem dX12_fewestIn_27 : decode cX12_fewestIn 27 = .ok (.getfield 156, 3) := by decide +kernel
theorem dX12_fewestIn_30 : decode cX12_fewestIn 30 = .ok (.if_icmp .gt 136, 3) := by decide +kernel
theorem dX12_fewestIn_33 : decode cX12_fewestIn 33 = .ok (.iconst 0, 1) := by decide +kernel
theorem dX12_fewestIn_34 : decode cX12_fewestIn 34 = .ok (.istore 8, 2) := by decide +kernel
theorem dX12_fewestIn_36 : decode cX12_fewestIn 36 = .ok (.iconst 0, 1) := by decide +kernel
theorem dX12_fewestIn_37 : decode cX12_fewestIn 37 = .ok (.istore 9, 2) := by decide +kernel
theorem dX12_fewestIn_39 : decode cX12_fewestIn 39 = .ok (.iload 9, 2) := by decide +kernel
