theorem dX12_fewestIn_41 : decode cX12_fewestIn 41 = .ok (.aload_n 0, 1) := by decide +kernel
theorem dX12_fewestIn_42 : decode cX12_fewestIn 42 = .ok (.getfield 300, 3) := by decide +kernel
theorem dX12_fewestIn_45 : decode cX12_fewestIn 45 = .ok (.if_icmp .ge 84, 3) := by decide +kernel
theorem dX12_fewestIn_48 : decode cX12_fewestIn 48 = .ok (.aload_n 0, 1) := by decide +kernel
theorem dX12_fewestIn_49 : decode cX12_fewestIn 49 = .ok (.iload 9, 2) := by decide +kernel
theorem dX12_fewestIn_51 : decode cX12_fewestIn 51 = .ok (.iload_n 2, 1) := by decide +kernel
theorem dX12_fewestIn_52 : decode cX12_fewestIn 52 = .ok (.invokevirtual 332, 3) := by decide +kernel
theorem dX12_fewestIn_55 : decode cX12_fewestIn 55 = .ok (.ifCond .eq 27, 3) := by decide +kernel
theorem dX12_fewestIn_58 : decode cX12_fewestIn 58 = .ok (.iload_n 3, 1) := by decide +kernel
theorem dX12_fewestIn_59 : decode cX12_fewestIn 59 = .ok (.iload 9, 2) := by decide +kernel
theorem dX12_fewestIn_61 : decode cX12_fewestIn 61 = .ok (.ishr, 1) := by decide +kernel
theorem dX12_fewestIn_62 : decode cX12_fewestIn 62 = .ok (.iconst 1, 1) := by decide +kernel
theorem dX12_fewestIn_63 : decode cX12_fewestIn 63 = .ok (.iand, 1) := by decide +kernel
theorem dX12_fewestIn_64 : decode cX12_fewestIn 64 = .ok (.ifCond .eq 18, 3) := by decide +kernel
theorem dX12_fewestIn_67 : decode cX12_fewestIn 67 = .ok (.aload_n 0, 1) := by decide +kernel
theorem dX12_fewestIn_68 : decode cX12_fewestIn 68 = .ok (.getfield 64, 3) := by decide +kernel
theorem dX12_fewestIn_71 : decode cX12_fewestIn 71 = .ok (.iload 9, 2) := by decide +kernel
theorem dX12_fewestIn_73 : decode cX12_fewestIn 73 = .ok (.iaload, 1) := by decide +kernel
theorem dX12_fewestIn_74 : decode cX12_fewestIn 74 = .ok (.iload_n 1, 1) := by decide +kernel
theorem dX12_fewestIn_75 : decode cX12_fewestIn 75 = .ok (.if_icmp .ne 7, 3) := by decide +kernel
theorem dX12_fewestIn_78 : decode cX12_fewestIn 78 = .ok (.iconst 1, 1) := by decide +kernel
theorem dX12_fewestIn_79 : decode cX12_fewestIn 79 = .ok (.goto 4, 3) := by decide +kernel
theorem dX12_fewestIn_82 : decode cX12_fewestIn 82 = .ok (.iconst 0, 1) := by decide +kernel
theorem dX12_fewestIn_83 : decode cX12_fewestIn 83 = .ok (.istore 10, 2) := by decide +kernel
theorem dX12_fewestIn_85 : decode cX12_fewestIn 85 = .ok (.iload 8, 2) := by decide +kernel
theorem dX12_fewestIn_87 : decode cX12_fewestIn 87 = .ok (.iload 10, 2) := by decide +kernel
theorem dX12_fewestIn_89 : decode cX12_fewestIn 89 = .ok (.ifCond .eq 30, 3) := by decide +kernel
theorem dX12_fewestIn_92 : decode cX12_fewestIn 92 = .ok (.iload 6, 2) := by decide +kernel
theorem dX12_fewestIn_94 : decode cX12_fewestIn 94 = .ok (.aload_n 0, 1) := by decide +kernel
theorem dX12_fewestIn_95 : decode cX12_fewestIn 95 = .ok (.getfield 52, 3) := by decide +kernel
theorem dX12_fewestIn_98 : decode cX12_fewestIn 98 = .ok (.iload 9, 2) := by decide +kernel
theorem dX12_fewestIn_100 : decode cX12_fewestIn 100 = .ok (.iaload, 1) := by decide +kernel
theorem dX12_fewestIn_101 : decode cX12_fewestIn 101 = .ok (.ishr, 1) := by decide +kernel
theorem dX12_fewestIn_102 : decode cX12_fewestIn 102 = .ok (.iconst 1, 1) := by decide +kernel
theorem dX12_fewestIn_103 : decode cX12_fewestIn 103 = .ok (.iand, 1) := by decide +kernel
theorem dX12_fewestIn_104 : decode cX12_fewestIn 104 = .ok (.ifCond .eq 15, 3) := by decide +kernel
theorem dX12_fewestIn_107 : decode cX12_fewestIn 107 = .ok (.iconst 1, 1) := by decide +kernel
theorem dX12_fewestIn_108 : decode cX12_fewestIn 108 = .ok (.aload_n 0, 1) := by decide +kernel
theorem dX12_fewestIn_109 : decode cX12_fewestIn 109 = .ok (.getfield 55, 3) := by decide +kernel
theorem dX12_fewestIn_112 : decode cX12_fewestIn 112 = .ok (.iload 9, 2) := by decide +kernel
theorem dX12_fewestIn_114 : decode cX12_fewestIn 114 = .ok (.iaload, 1) := by decide +kernel
theorem dX12_fewestIn_115 : decode cX12_fewestIn 115 = .ok (.ishl, 1) := by decide +kernel
theorem dX12_fewestIn_116 : decode cX12_fewestIn 116 = .ok (.goto 4, 3) := by decide +kernel
theorem dX12_fewestIn_119 : decode cX12_fewestIn 119 = .ok (.iconst 0, 1) := by decide +kernel
theorem dX12_fewestIn_120 : decode cX12_fewestIn 120 = .ok (.ior, 1) := by decide +kernel
theorem dX12_fewestIn_121 : decode cX12_fewestIn 121 = .ok (.istore 8, 2) := by decide +kernel
theorem dX12_fewestIn_123 : decode cX12_fewestIn 123 = .ok (.iinc 9 1, 3) := by decide +kernel
theorem dX12_fewestIn_126 : decode cX12_fewestIn 126 = .ok (.goto (-87), 3) := by decide +kernel
theorem dX12_fewestIn_129 : decode cX12_fewestIn 129 = .ok (.iload 8, 2) := by decide +kernel
theorem dX12_fewestIn_131 : decode cX12_fewestIn 131 = .ok (.istore 6, 2) := by decide +kernel
theorem dX12_fewestIn_133 : decode cX12_fewestIn 133 = .ok (.iload 6, 2) := by decide +kernel
theorem dX12_fewestIn_135 : decode cX12_fewestIn 135 = .ok (.iload 5, 2) := by decide +kernel
theorem dX12_fewestIn_137 : decode cX12_fewestIn 137 = .ok (.ishr, 1) := by decide +kernel
theorem dX12_fewestIn_138 : decode cX12_fewestIn 138 = .ok (.iconst 1, 1) := by decide +kernel
theorem dX12_fewestIn_139 : decode cX12_fewestIn 139 = .ok (.iand, 1) := by decide +kernel
theorem dX12_fewestIn_140 : decode cX12_fewestIn 140 = .ok (.ifCond .eq 20, 3) := by decide +kernel
theorem dX12_fewestIn_143 : decode cX12_fewestIn 143 = .ok (.iload 4, 2) := by decide +kernel
theorem dX12_fewestIn_145 : decode cX12_fewestIn 145 = .ok (.iconst (-1), 1) := by decide +kernel
theorem dX12_fewestIn_146 : decode cX12_fewestIn 146 = .ok (.if_icmp .eq 10, 3) := by decide +kernel
theorem dX12_fewestIn_149 : decode cX12_fewestIn 149 = .ok (.iload 7, 2) := by decide +kernel
theorem dX12_fewestIn_151 : decode cX12_fewestIn 151 = .ok (.iload 4, 2) := by decide +kernel
theorem dX12_fewestIn_153 : decode cX12_fewestIn 153 = .ok (.if_icmp .ge 7, 3) := by decide +kernel
theorem dX12_fewestIn_156 : decode cX12_fewestIn 156 = .ok (.iload 7, 2) := by decide +kernel
theorem dX12_fewestIn_158 : decode cX12_fewestIn 158 = .ok (.istore 4, 2) := by decide +kernel
theorem dX12_fewestIn_160 : decode cX12_fewestIn 160 = .ok (.iinc 7 1, 3) := by decide +kernel
theorem dX12_fewestIn_163 : decode cX12_fewestIn 163 = .ok (.goto (-139), 3) := by decide +kernel
theorem dX12_fewestIn_166 : decode cX12_fewestIn 166 = .ok (.iinc 5 1, 3) := by decide +kernel
theorem dX12_fewestIn_169 : decode cX12_fewestIn 169 = .ok (.goto (-163), 3) := by decide +kernel
theorem dX12_fewestIn_172 : decode cX12_fewestIn 172 = .ok (.iload 4, 2) := by decide +kernel
theorem dX12_fewestIn_174 : decode cX12_fewestIn 174 = .ok (.ireturn, 1) := by decide +kernel
theorem dX12_hasRing_0 : decode cX12_hasRing 0 = .ok (.iconst 0, 1) := by decide +kernel
theorem dX12_hasRing_1 : decode cX12_hasRing 1 = .ok (.istore_n 3, 1) := by decide +kernel
theorem dX12_hasRing_2 : decode cX12_hasRing 2 = .ok (.iload_n 3, 1) := by decide +kernel
theorem dX12_hasRing_3 : decode cX12_hasRing 3 = .ok (.iconst 3, 1) := by decide +kernel
theorem dX12_hasRing_4 : decode cX12_hasRing 4 = .ok (.if_icmp .ge 22, 3) := by decide +kernel
theorem dX12_hasRing_7 : decode cX12_hasRing 7 = .ok (.aload_n 0, 1) := by decide +kernel
theorem dX12_hasRing_8 : decode cX12_hasRing 8 = .ok (.iload_n 3, 1) := by decide +kernel
theorem dX12_hasRing_9 : decode cX12_hasRing 9 = .ok (.iload_n 1, 1) := by decide +kernel
theorem dX12_hasRing_10 : decode cX12_hasRing 10 = .ok (.iload_n 2, 1) := by decide +kernel
theorem dX12_hasRing_11 : decode cX12_hasRing 11 = .ok (.invokevirtual 405, 3) := by decide +kernel
theorem dX12_hasRing_14 : decode cX12_hasRing 14 = .ok (.iconst (-1), 1) := by decide +kernel
theorem dX12_hasRing_15 : decode cX12_hasRing 15 = .ok (.if_icmp .eq 5, 3) := by decide +kernel
theorem dX12_hasRing_18 : decode cX12_hasRing 18 = .ok (.iconst 1, 1) := by decide +kernel
theorem dX12_hasRing_19 : decode cX12_hasRing 19 = .ok (.ireturn, 1) := by decide +kernel
theorem dX12_hasRing_20 : decode cX12_hasRing 20 = .ok (.iinc 3 1, 3) := by decide +kernel
theorem dX12_hasRing_23 : decode cX12_hasRing 23 = .ok (.goto (-21), 3) := by decide +kernel
theorem dX12_hasRing_26 : decode cX12_hasRing 26 = .ok (.iconst 0, 1) := by decide +kernel
theorem dX12_hasRing_27 : decode cX12_hasRing 27 = .ok (.ireturn, 1) := by decide +kernel
theorem dX12_canOf_0 : decode cX12_canOf 0 = .ok (.aload_n 0, 1) := by decide +kernel
theorem dX12_canOf_1 : decode cX12_canOf 1 = .ok (.iload_n 1, 1) := by decide +kernel
theorem dX12_canOf_2 : decode cX12_canOf 2 = .ok (.iload_n 2, 1) := by decide +kernel
theorem dX12_canOf_3 : decode cX12_canOf 3 = .ok (.invokevirtual 409, 3) := by decide +kernel
theorem dX12_canOf_6 : decode cX12_canOf 6 = .ok (.ifCond .eq 5, 3) := by decide +kernel
theorem dX12_canOf_9 : decode cX12_canOf 9 = .ok (.iconst 0, 1) := by decide +kernel
theorem dX12_canOf_10 : decode cX12_canOf 10 = .ok (.ireturn, 1) := by decide +kernel
theorem dX12_canOf_11 : decode cX12_canOf 11 = .ok (.aload_n 0, 1) := by decide +kernel
theorem dX12_canOf_12 : decode cX12_canOf 12 = .ok (.iload_n 1, 1) := by decide +kernel
theorem dX12_canOf_13 : decode cX12_canOf 13 = .ok (.iload_n 2, 1) := by decide +kernel
theorem dX12_canOf_14 : decode cX12_canOf 14 = .ok (.invokevirtual 412, 3) := by decide +kernel
theorem dX12_canOf_17 : decode cX12_canOf 17 = .ok (.aload_n 0, 1) := by decide +kernel
theorem dX12_canOf_18 : decode cX12_canOf 18 = .ok (.getfield 377, 3) := by decide +kernel
theorem dX12_canOf_21 : decode cX12_canOf 21 = .ok (.iconst 3, 1) := by decide +kernel
theorem dX12_canOf_22 : decode cX12_canOf 22 = .ok (.if_icmp .ne 8, 3) := by decide +kernel
theorem dX12_canOf_25 : decode cX12_canOf 25 = .ok (.bipush (-5), 2) := by decide +kernel
theorem dX12_canOf_27 : decode cX12_canOf 27 = .ok (.goto 16, 3) := by decide +kernel
theorem dX12_canOf_30 : decode cX12_canOf 30 = .ok (.aload_n 0, 1) := by decide +kernel
theorem dX12_canOf_31 : decode cX12_canOf 31 = .ok (.getfield 377, 3) := by decide +kernel
theorem dX12_canOf_34 : decode cX12_canOf 34 = .ok (.iconst 1, 1) := by decide +kernel
theorem dX12_canOf_35 : decode cX12_canOf 35 = .ok (.if_icmp .ne 7, 3) := by decide +kernel
theorem dX12_canOf_38 : decode cX12_canOf 38 = .ok (.iconst 1, 1) := by decide +kernel
theorem dX12_canOf_39 : decode cX12_canOf 39 = .ok (.goto 4, 3) := by decide +kernel
theorem dX12_canOf_42 : decode cX12_canOf 42 = .ok (.iconst 0, 1) := by decide +kernel
theorem dX12_canOf_43 : decode cX12_canOf 43 = .ok (.ireturn, 1) := by decide +kernel
theorem dX12_can_0 : decode cX12_can 0 = .ok (.iload_n 1, 1) := by decide +kernel
theorem dX12_can_1 : decode cX12_can 1 = .ok (.invokestatic 212, 3) := by decide +kernel
theorem dX12_can_4 : decode cX12_can 4 = .ok (.ifCond .ne 10, 3) := by decide +kernel
theorem dX12_can_7 : decode cX12_can 7 = .ok (.aload_n 0, 1) := by decide +kernel
theorem dX12_can_8 : decode cX12_can 8 = .ok (.bipush (-2), 2) := by decide +kernel
theorem dX12_can_10 : decode cX12_can 10 = .ok (.invokevirtual 177, 3) := by decide +kernel
theorem dX12_can_13 : decode cX12_can 13 = .ok (.ireturn, 1) := by decide +kernel
theorem dX12_can_14 : decode cX12_can 14 = .ok (.aload_n 0, 1) := by decide +kernel
theorem dX12_can_15 : decode cX12_can 15 = .ok (.iload_n 1, 1) := by decide +kernel
theorem dX12_can_16 : decode cX12_can 16 = .ok (.iconst (-1), 1) := by decide +kernel
theorem dX12_can_17 : decode cX12_can 17 = .ok (.invokevirtual 415, 3) := by decide +kernel
theorem dX12_can_20 : decode cX12_can 20 = .ok (.istore_n 2, 1) := by decide +kernel
theorem dX12_can_21 : decode cX12_can 21 = .ok (.iload_n 2, 1) := by decide +kernel
theorem dX12_can_22 : decode cX12_can 22 = .ok (.bipush (-5), 2) := by decide +kernel
theorem dX12_can_24 : decode cX12_can 24 = .ok (.if_icmp .ne 12, 3) := by decide +kernel
theorem dX12_can_27 : decode cX12_can 27 = .ok (.aload_n 0, 1) := by decide +kernel
theorem dX12_can_28 : decode cX12_can 28 = .ok (.bipush (-5), 2) := by decide +kernel
theorem dX12_can_30 : decode cX12_can 30 = .ok (.invokevirtual 177, 3) := by decide +kernel
theorem dX12_can_33 : decode cX12_can 33 = .ok (.goto 4, 3) := by decide +kernel
theorem dX12_can_36 : decode cX12_can 36 = .ok (.iload_n 2, 1) := by decide +kernel
theorem dX12_can_37 : decode cX12_can 37 = .ok (.ireturn, 1) := by decide +kernel
theorem dX12_choose__0 : decode cX12_choose_ 0 = .ok (.iload_n 1, 1) := by decide +kernel
theorem dX12_choose__1 : decode cX12_choose_ 1 = .ok (.invokestatic 212, 3) := by decide +kernel
theorem dX12_choose__4 : decode cX12_choose_ 4 = .ok (.ifCond .ne 10, 3) := by decide +kernel
theorem dX12_choose__7 : decode cX12_choose_ 7 = .ok (.aload_n 0, 1) := by decide +kernel
theorem dX12_choose__8 : decode cX12_choose_ 8 = .ok (.bipush (-2), 2) := by decide +kernel
theorem dX12_choose__10 : decode cX12_choose_ 10 = .ok (.invokevirtual 177, 3) := by decide +kernel
theorem dX12_choose__13 : decode cX12_choose_ 13 = .ok (.ireturn, 1) := by decide +kernel
theorem dX12_choose__14 : decode cX12_choose_ 14 = .ok (.aload_n 0, 1) := by decide +kernel
theorem dX12_choose__15 : decode cX12_choose_ 15 = .ok (.iload_n 1, 1) := by decide +kernel
theorem dX12_choose__16 : decode cX12_choose_ 16 = .ok (.iconst (-1), 1) := by decide +kernel
theorem dX12_choose__17 : decode cX12_choose_ 17 = .ok (.invokevirtual 412, 3) := by decide +kernel
theorem dX12_choose__20 : decode cX12_choose_ 20 = .ok (.aload_n 0, 1) := by decide +kernel
theorem dX12_choose__21 : decode cX12_choose_ 21 = .ok (.getfield 377, 3) := by decide +kernel
theorem dX12_choose__24 : decode cX12_choose_ 24 = .ok (.iconst 3, 1) := by decide +kernel
theorem dX12_choose__25 : decode cX12_choose_ 25 = .ok (.if_icmp .ne 12, 3) := by decide +kernel
theorem dX12_choose__28 : decode cX12_choose_ 28 = .ok (.aload_n 0, 1) := by decide +kernel
theorem dX12_choose__29 : decode cX12_choose_ 29 = .ok (.bipush (-5), 2) := by decide +kernel
theorem dX12_choose__31 : decode cX12_choose_ 31 = .ok (.invokevirtual 177, 3) := by decide +kernel
theorem dX12_choose__34 : decode cX12_choose_ 34 = .ok (.goto 7, 3) := by decide +kernel
theorem dX12_choose__37 : decode cX12_choose_ 37 = .ok (.aload_n 0, 1) := by decide +kernel
theorem dX12_choose__38 : decode cX12_choose_ 38 = .ok (.getfield 371, 3) := by decide +kernel
theorem dX12_choose__41 : decode cX12_choose_ 41 = .ok (.ireturn, 1) := by decide +kernel
theorem dX12_blind_0 : decode cX12_blind 0 = .ok (.iload_n 1, 1) := by decide +kernel
theorem dX12_blind_1 : decode cX12_blind 1 = .ok (.invokestatic 212, 3) := by decide +kernel
theorem dX12_blind_4 : decode cX12_blind 4 = .ok (.ifCond .ne 10, 3) := by decide +kernel
theorem dX12_blind_7 : decode cX12_blind 7 = .ok (.aload_n 0, 1) := by decide +kernel
theorem dX12_blind_8 : decode cX12_blind 8 = .ok (.bipush (-2), 2) := by decide +kernel
theorem dX12_blind_10 : decode cX12_blind 10 = .ok (.invokevirtual 177, 3) := by decide +kernel
theorem dX12_blind_13 : decode cX12_blind 13 = .ok (.ireturn, 1) := by decide +kernel
theorem dX12_blind_14 : decode cX12_blind 14 = .ok (.aload_n 0, 1) := by decide +kernel
theorem dX12_blind_15 : decode cX12_blind 15 = .ok (.iload_n 1, 1) := by decide +kernel
theorem dX12_blind_16 : decode cX12_blind 16 = .ok (.iconst (-1), 1) := by decide +kernel
theorem dX12_blind_17 : decode cX12_blind 17 = .ok (.invokevirtual 412, 3) := by decide +kernel
theorem dX12_blind_20 : decode cX12_blind 20 = .ok (.aload_n 0, 1) := by decide +kernel
theorem dX12_blind_21 : decode cX12_blind 21 = .ok (.getfield 377, 3) := by decide +kernel
theorem dX12_blind_24 : decode cX12_blind 24 = .ok (.iconst 3, 1) := by decide +kernel
theorem dX12_blind_25 : decode cX12_blind 25 = .ok (.if_icmp .ne 12, 3) := by decide +kernel
theorem dX12_blind_28 : decode cX12_blind 28 = .ok (.aload_n 0, 1) := by decide +kernel
theorem dX12_blind_29 : decode cX12_blind 29 = .ok (.bipush (-5), 2) := by decide +kernel
theorem dX12_blind_31 : decode cX12_blind 31 = .ok (.invokevirtual 177, 3) := by decide +kernel
theorem dX12_blind_34 : decode cX12_blind 34 = .ok (.goto 7, 3) := by decide +kernel
theorem dX12_blind_37 : decode cX12_blind 37 = .ok (.aload_n 0, 1) := by decide +kernel
theorem dX12_blind_38 : decode cX12_blind 38 = .ok (.getfield 374, 3) := by decide +kernel
theorem dX12_blind_41 : decode cX12_blind 41 = .ok (.ireturn, 1) := by decide +kernel
theorem dX12_wayIn_0 : decode cX12_wayIn 0 = .ok (.iconst 0, 1) := by decide +kernel
theorem dX12_wayIn_1 : decode cX12_wayIn 1 = .ok (.istore_n 1, 1) := by decide +kernel
theorem dX12_wayIn_2 : decode cX12_wayIn 2 = .ok (.iload_n 0, 1) := by decide +kernel
theorem dX12_wayIn_3 : decode cX12_wayIn 3 = .ok (.iload_n 1, 1) := by decide +kernel
theorem dX12_wayIn_4 : decode cX12_wayIn 4 = .ok (.ishr, 1) := by decide +kernel
theorem dX12_wayIn_5 : decode cX12_wayIn 5 = .ok (.iconst 1, 1) := by decide +kernel
theorem dX12_wayIn_6 : decode cX12_wayIn 6 = .ok (.iand, 1) := by decide +kernel
theorem dX12_wayIn_7 : decode cX12_wayIn 7 = .ok (.ifCond .ne 9, 3) := by decide +kernel
theorem dX12_wayIn_10 : decode cX12_wayIn 10 = .ok (.iinc 1 1, 3) := by decide +kernel
theorem dX12_wayIn_13 : decode cX12_wayIn 13 = .ok (.goto (-11), 3) := by decide +kernel
theorem dX12_wayIn_16 : decode cX12_wayIn 16 = .ok (.iload_n 1, 1) := by decide +kernel
theorem dX12_wayIn_17 : decode cX12_wayIn 17 = .ok (.ireturn, 1) := by decide +kernel
theorem dX12_told_0 : decode cX12_told 0 = .ok (.aload_n 0, 1) := by decide +kernel
theorem dX12_told_1 : decode cX12_told 1 = .ok (.iload_n 1, 1) := by decide +kernel
theorem dX12_told_2 : decode cX12_told 2 = .ok (.iload_n 2, 1) := by decide +kernel
theorem dX12_told_3 : decode cX12_told 3 = .ok (.invokevirtual 349, 3) := by decide +kernel
theorem dX12_told_6 : decode cX12_told 6 = .ok (.ifCond .eq 10, 3) := by decide +kernel
theorem dX12_told_9 : decode cX12_told 9 = .ok (.iload_n 3, 1) := by decide +kernel
theorem dX12_told_10 : decode cX12_told 10 = .ok (.invokestatic 212, 3) := by decide +kernel
theorem dX12_told_13 : decode cX12_told 13 = .ok (.ifCond .ne 10, 3) := by decide +kernel
theorem dX12_told_16 : decode cX12_told 16 = .ok (.aload_n 0, 1) := by decide +kernel
theorem dX12_told_17 : decode cX12_told 17 = .ok (.bipush (-2), 2) := by decide +kernel
theorem dX12_told_19 : decode cX12_told 19 = .ok (.invokevirtual 177, 3) := by decide +kernel
theorem dX12_told_22 : decode cX12_told 22 = .ok (.ireturn, 1) := by decide +kernel
theorem dX12_told_23 : decode cX12_told 23 = .ok (.aload_n 0, 1) := by decide +kernel
theorem dX12_told_24 : decode cX12_told 24 = .ok (.iload_n 3, 1) := by decide +kernel
theorem dX12_told_25 : decode cX12_told 25 = .ok (.iconst (-1), 1) := by decide +kernel
theorem dX12_told_26 : decode cX12_told 26 = .ok (.invokevirtual 412, 3) := by decide +kernel
theorem dX12_told_29 : decode cX12_told 29 = .ok (.aload_n 0, 1) := by decide +kernel
theorem dX12_told_30 : decode cX12_told 30 = .ok (.getfield 377, 3) := by decide +kernel
theorem dX12_told_33 : decode cX12_told 33 = .ok (.iconst 3, 1) := by decide +kernel
theorem dX12_told_34 : decode cX12_told 34 = .ok (.if_icmp .ne 12, 3) := by decide +kernel
theorem dX12_told_37 : decode cX12_told 37 = .ok (.aload_n 0, 1) := by decide +kernel
theorem dX12_told_38 : decode cX12_told 38 = .ok (.bipush (-5), 2) := by decide +kernel
theorem dX12_told_40 : decode cX12_told 40 = .ok (.invokevirtual 177, 3) := by decide +kernel
theorem dX12_told_43 : decode cX12_told 43 = .ok (.goto 34, 3) := by decide +kernel
theorem dX12_told_46 : decode cX12_told 46 = .ok (.aload_n 0, 1) := by decide +kernel
theorem dX12_told_47 : decode cX12_told 47 = .ok (.getfield 377, 3) := by decide +kernel
theorem dX12_told_50 : decode cX12_told 50 = .ok (.iconst 2, 1) := by decide +kernel
theorem dX12_told_51 : decode cX12_told 51 = .ok (.if_icmp .ne 7, 3) := by decide +kernel
theorem dX12_told_54 : decode cX12_told 54 = .ok (.iconst (-1), 1) := by decide +kernel
theorem dX12_told_55 : decode cX12_told 55 = .ok (.goto 22, 3) := by decide +kernel
theorem dX12_told_58 : decode cX12_told 58 = .ok (.aload_n 0, 1) := by decide +kernel
theorem dX12_told_59 : decode cX12_told 59 = .ok (.getfield 97, 3) := by decide +kernel
theorem dX12_told_62 : decode cX12_told 62 = .ok (.aload_n 0, 1) := by decide +kernel
theorem dX12_told_63 : decode cX12_told 63 = .ok (.getfield 368, 3) := by decide +kernel
theorem dX12_told_66 : decode cX12_told 66 = .ok (.aaload, 1) := by decide +kernel
theorem dX12_told_67 : decode cX12_told 67 = .ok (.iload_n 1, 1) := by decide +kernel
theorem dX12_told_68 : decode cX12_told 68 = .ok (.bipush 10, 2) := by decide +kernel
theorem dX12_told_70 : decode cX12_told 70 = .ok (.imul, 1) := by decide +kernel
theorem dX12_told_71 : decode cX12_told 71 = .ok (.iload_n 2, 1) := by decide +kernel
theorem dX12_told_72 : decode cX12_told 72 = .ok (.iadd, 1) := by decide +kernel
theorem dX12_told_73 : decode cX12_told 73 = .ok (.iaload, 1) := by decide +kernel
theorem dX12_told_74 : decode cX12_told 74 = .ok (.invokestatic 418, 3) := by decide +kernel
theorem dX12_told_77 : decode cX12_told 77 = .ok (.ireturn, 1) := by decide +kernel
theorem dX12_many_0 : decode cX12_many 0 = .ok (.iload_n 1, 1) := by decide +kernel
theorem dX12_many_1 : decode cX12_many 1 = .ok (.invokestatic 212, 3) := by decide +kernel
theorem dX12_many_4 : decode cX12_many 4 = .ok (.ifCond .eq 15, 3) := by decide +kernel
theorem dX12_many_7 : decode cX12_many 7 = .ok (.iload_n 2, 1) := by decide +kernel
theorem dX12_many_8 : decode cX12_many 8 = .ok (.i2l, 1) := by decide +kernel
theorem dX12_many_9 : decode cX12_many 9 = .ok (.lconst 1, 1) := by decide +kernel
theorem dX12_many_10 : decode cX12_many 10 = .ok (.ldc2_w 421, 3) := by decide +kernel
theorem dX12_many_13 : decode cX12_many 13 = .ok (.invokestatic 159, 3) := by decide +kernel
theorem dX12_many_16 : decode cX12_many 16 = .ok (.ifCond .ne 10, 3) := by decide +kernel
theorem dX12_many_19 : decode cX12_many 19 = .ok (.aload_n 0, 1) := by decide +kernel
theorem dX12_many_20 : decode cX12_many 20 = .ok (.bipush (-2), 2) := by decide +kernel
theorem dX12_many_22 : decode cX12_many 22 = .ok (.invokevirtual 177, 3) := by decide +kernel
theorem dX12_many_25 : decode cX12_many 25 = .ok (.ireturn, 1) := by decide +kernel
theorem dX12_many_26 : decode cX12_many 26 = .ok (.aload_n 0, 1) := by decide +kernel
theorem dX12_many_27 : decode cX12_many 27 = .ok (.iload_n 1, 1) := by decide +kernel
theorem dX12_many_28 : decode cX12_many 28 = .ok (.iconst (-1), 1) := by decide +kernel
theorem dX12_many_29 : decode cX12_many 29 = .ok (.invokevirtual 412, 3) := by decide +kernel
theorem dX12_many_32 : decode cX12_many 32 = .ok (.iconst 0, 1) := by decide +kernel
theorem dX12_many_33 : decode cX12_many 33 = .ok (.istore_n 3, 1) := by decide +kernel
theorem dX12_many_34 : decode cX12_many 34 = .ok (.aload_n 0, 1) := by decide +kernel
theorem dX12_many_35 : decode cX12_many 35 = .ok (.getfield 377, 3) := by decide +kernel
theorem dX12_many_38 : decode cX12_many 38 = .ok (.iconst 1, 1) := by decide +kernel
theorem dX12_many_39 : decode cX12_many 39 = .ok (.if_icmp .ne 20, 3) := by decide +kernel
theorem dX12_many_42 : decode cX12_many 42 = .ok (.iinc 3 1, 3) := by decide +kernel
theorem dX12_many_45 : decode cX12_many 45 = .ok (.iload_n 3, 1) := by decide +kernel
theorem dX12_many_46 : decode cX12_many 46 = .ok (.iload_n 2, 1) := by decide +kernel
theorem dX12_many_47 : decode cX12_many 47 = .ok (.if_icmp .ne 5, 3) := by decide +kernel
theorem dX12_many_50 : decode cX12_many 50 = .ok (.iload_n 3, 1) := by decide +kernel
theorem dX12_many_51 : decode cX12_many 51 = .ok (.ireturn, 1) := by decide +kernel
theorem dX12_many_52 : decode cX12_many 52 = .ok (.aload_n 0, 1) := by decide +kernel
theorem dX12_many_53 : decode cX12_many 53 = .ok (.invokevirtual 423, 3) := by decide +kernel
theorem dX12_many_56 : decode cX12_many 56 = .ok (.goto (-22), 3) := by decide +kernel
theorem dX12_many_59 : decode cX12_many 59 = .ok (.aload_n 0, 1) := by decide +kernel
theorem dX12_many_60 : decode cX12_many 60 = .ok (.getfield 377, 3) := by decide +kernel
theorem dX12_many_63 : decode cX12_many 63 = .ok (.iconst 3, 1) := by decide +kernel
theorem dX12_many_64 : decode cX12_many 64 = .ok (.if_icmp .ne 12, 3) := by decide +kernel
theorem dX12_many_67 : decode cX12_many 67 = .ok (.aload_n 0, 1) := by decide +kernel
theorem dX12_many_68 : decode cX12_many 68 = .ok (.bipush (-5), 2) := by decide +kernel
theorem dX12_many_70 : decode cX12_many 70 = .ok (.invokevirtual 177, 3) := by decide +kernel
theorem dX12_many_73 : decode cX12_many 73 = .ok (.goto 4, 3) := by decide +kernel
theorem dX12_many_76 : decode cX12_many 76 = .ok (.iload_n 3, 1) := by decide +kernel
theorem dX12_many_77 : decode cX12_many 77 = .ok (.ireturn, 1) := by decide +kernel
theorem dX12_mayOf_0 : decode cX12_mayOf 0 = .ok (.aload_n 0, 1) := by decide +kernel
theorem dX12_mayOf_1 : decode cX12_mayOf 1 = .ok (.aload_n 0, 1) := by decide +kernel
theorem dX12_mayOf_2 : decode cX12_mayOf 2 = .ok (.getfield 97, 3) := by decide +kernel
theorem dX12_mayOf_5 : decode cX12_mayOf 5 = .ok (.iconst 0, 1) := by decide +kernel
theorem dX12_mayOf_6 : decode cX12_mayOf 6 = .ok (.aaload, 1) := by decide +kernel
theorem dX12_mayOf_7 : decode cX12_mayOf 7 = .ok (.iload_n 3, 1) := by decide +kernel
theorem dX12_mayOf_8 : decode cX12_mayOf 8 = .ok (.iconst (-1), 1) := by decide +kernel
theorem dX12_mayOf_9 : decode cX12_mayOf 9 = .ok (.invokevirtual 352, 3) := by decide +kernel
theorem dX12_mayOf_12 : decode cX12_mayOf 12 = .ok (.aload_n 0, 1) := by decide +kernel
theorem dX12_mayOf_13 : decode cX12_mayOf 13 = .ok (.aload_n 0, 1) := by decide +kernel
theorem dX12_mayOf_14 : decode cX12_mayOf 14 = .ok (.getfield 97, 3) := by decide +kernel
theorem dX12_mayOf_17 : decode cX12_mayOf 17 = .ok (.iconst 0, 1) := by decide +kernel
theorem dX12_mayOf_18 : decode cX12_mayOf 18 = .ok (.aaload, 1) := by decide +kernel
theorem dX12_mayOf_19 : decode cX12_mayOf 19 = .ok (.aload_n 0, 1) := by decide +kernel
theorem dX12_mayOf_20 : decode cX12_mayOf 20 = .ok (.getfield 156, 3) := by decide +kernel
theorem dX12_mayOf_23 : decode cX12_mayOf 23 = .ok (.invokevirtual 356, 3) := by decide +kernel
theorem dX12_mayOf_26 : decode cX12_mayOf 26 = .ok (.ifCond .ne 5, 3) := by decide +kernel
theorem dX12_mayOf_29 : decode cX12_mayOf 29 = .ok (.iconst 0, 1) := by decide +kernel
theorem dX12_mayOf_30 : decode cX12_mayOf 30 = .ok (.ireturn, 1) := by decide +kernel
theorem dX12_mayOf_31 : decode cX12_mayOf 31 = .ok (.aload_n 0, 1) := by decide +kernel
theorem dX12_mayOf_32 : decode cX12_mayOf 32 = .ok (.getfield 97, 3) := by decide +kernel
theorem dX12_mayOf_35 : decode cX12_mayOf 35 = .ok (.iconst 0, 1) := by decide +kernel
theorem dX12_mayOf_36 : decode cX12_mayOf 36 = .ok (.aaload, 1) := by decide +kernel
theorem dX12_mayOf_37 : decode cX12_mayOf 37 = .ok (.iload_n 1, 1) := by decide +kernel
theorem dX12_mayOf_38 : decode cX12_mayOf 38 = .ok (.bipush 10, 2) := by decide +kernel
theorem dX12_mayOf_40 : decode cX12_mayOf 40 = .ok (.imul, 1) := by decide +kernel
theorem dX12_mayOf_41 : decode cX12_mayOf 41 = .ok (.iload_n 2, 1) := by decide +kernel
theorem dX12_mayOf_42 : decode cX12_mayOf 42 = .ok (.iadd, 1) := by decide +kernel
theorem dX12_mayOf_43 : decode cX12_mayOf 43 = .ok (.iaload, 1) := by decide +kernel
theorem dX12_mayOf_44 : decode cX12_mayOf 44 = .ok (.istore 4, 2) := by decide +kernel
theorem dX12_mayOf_46 : decode cX12_mayOf 46 = .ok (.iconst 0, 1) := by decide +kernel
theorem dX12_mayOf_47 : decode cX12_mayOf 47 = .ok (.istore 5, 2) := by decide +kernel
theorem dX12_mayOf_49 : decode cX12_mayOf 49 = .ok (.iconst 0, 1) := by decide +kernel
theorem dX12_mayOf_50 : decode cX12_mayOf 50 = .ok (.istore 6, 2) := by decide +kernel
theorem dX12_mayOf_52 : decode cX12_mayOf 52 = .ok (.iload 6, 2) := by decide +kernel
theorem dX12_mayOf_54 : decode cX12_mayOf 54 = .ok (.bipush 8, 2) := by decide +kernel
theorem dX12_mayOf_56 : decode cX12_mayOf 56 = .ok (.if_icmp .ge 89, 3) := by decide +kernel
theorem dX12_mayOf_59 : decode cX12_mayOf 59 = .ok (.iload 4, 2) := by decide +kernel
theorem dX12_mayOf_61 : decode cX12_mayOf 61 = .ok (.iload 6, 2) := by decide +kernel
theorem dX12_mayOf_63 : decode cX12_mayOf 63 = .ok (.ishr, 1) := by decide +kernel
theorem dX12_mayOf_64 : decode cX12_mayOf 64 = .ok (.iconst 1, 1) := by decide +kernel
theorem dX12_mayOf_65 : decode cX12_mayOf 65 = .ok (.iand, 1) := by decide +kernel
theorem dX12_mayOf_66 : decode cX12_mayOf 66 = .ok (.ifCond .eq 73, 3) := by decide +kernel
theorem dX12_mayOf_69 : decode cX12_mayOf 69 = .ok (.aload_n 0, 1) := by decide +kernel
theorem dX12_mayOf_70 : decode cX12_mayOf 70 = .ok (.aload_n 0, 1) := by decide +kernel
theorem dX12_mayOf_71 : decode cX12_mayOf 71 = .ok (.getfield 97, 3) := by decide +kernel
theorem dX12_mayOf_74 : decode cX12_mayOf 74 = .ok (.iconst 0, 1) := by decide +kernel
theorem dX12_mayOf_75 : decode cX12_mayOf 75 = .ok (.aaload, 1) := by decide +kernel
theorem dX12_mayOf_76 : decode cX12_mayOf 76 = .ok (.iload_n 3, 1) := by decide +kernel
theorem dX12_mayOf_77 : decode cX12_mayOf 77 = .ok (.iconst (-1), 1) := by decide +kernel
theorem dX12_mayOf_78 : decode cX12_mayOf 78 = .ok (.invokevirtual 352, 3) := by decide +kernel
theorem dX12_mayOf_81 : decode cX12_mayOf 81 = .ok (.aload_n 0, 1) := by decide +kernel
theorem dX12_mayOf_82 : decode cX12_mayOf 82 = .ok (.getfield 97, 3) := by decide +kernel
theorem dX12_mayOf_85 : decode cX12_mayOf 85 = .ok (.iconst 0, 1) := by decide +kernel
theorem dX12_mayOf_86 : decode cX12_mayOf 86 = .ok (.aaload, 1) := by decide +kernel
theorem dX12_mayOf_87 : decode cX12_mayOf 87 = .ok (.iload_n 1, 1) := by decide +kernel
theorem dX12_mayOf_88 : decode cX12_mayOf 88 = .ok (.iload_n 2, 1) := by decide +kernel
theorem dX12_mayOf_89 : decode cX12_mayOf 89 = .ok (.iconst 1, 1) := by decide +kernel
theorem dX12_mayOf_90 : decode cX12_mayOf 90 = .ok (.iload 6, 2) := by decide +kernel
theorem dX12_mayOf_92 : decode cX12_mayOf 92 = .ok (.ishl, 1) := by decide +kernel
theorem dX12_mayOf_93 : decode cX12_mayOf 93 = .ok (.invokestatic 335, 3) := by decide +kernel
theorem dX12_mayOf_96 : decode cX12_mayOf 96 = .ok (.aload_n 0, 1) := by decide +kernel
theorem dX12_mayOf_97 : decode cX12_mayOf 97 = .ok (.aload_n 0, 1) := by decide +kernel
theorem dX12_mayOf_98 : decode cX12_mayOf 98 = .ok (.getfield 156, 3) := by decide +kernel
theorem dX12_mayOf_101 : decode cX12_mayOf 101 = .ok (.invokevirtual 401, 3) := by decide +kernel
theorem dX12_mayOf_104 : decode cX12_mayOf 104 = .ok (.aload_n 0, 1) := by decide +kernel
theorem dX12_mayOf_105 : decode cX12_mayOf 105 = .ok (.invokevirtual 392, 3) := by decide +kernel
theorem dX12_mayOf_108 : decode cX12_mayOf 108 = .ok (.aload_n 0, 1) := by decide +kernel
theorem dX12_mayOf_109 : decode cX12_mayOf 109 = .ok (.getfield 377, 3) := by decide +kernel
theorem dX12_mayOf_112 : decode cX12_mayOf 112 = .ok (.iconst 3, 1) := by decide +kernel
theorem dX12_mayOf_113 : decode cX12_mayOf 113 = .ok (.if_icmp .ne 5, 3) := by decide +kernel
theorem dX12_mayOf_116 : decode cX12_mayOf 116 = .ok (.iconst (-1), 1) := by decide +kernel
theorem dX12_mayOf_117 : decode cX12_mayOf 117 = .ok (.ireturn, 1) := by decide +kernel
theorem dX12_mayOf_118 : decode cX12_mayOf 118 = .ok (.iload 5, 2) := by decide +kernel
theorem dX12_mayOf_120 : decode cX12_mayOf 120 = .ok (.aload_n 0, 1) := by decide +kernel
theorem dX12_mayOf_121 : decode cX12_mayOf 121 = .ok (.getfield 377, 3) := by decide +kernel
theorem dX12_mayOf_124 : decode cX12_mayOf 124 = .ok (.iconst 1, 1) := by decide +kernel
theorem dX12_mayOf_125 : decode cX12_mayOf 125 = .ok (.if_icmp .ne 10, 3) := by decide +kernel
theorem dX12_mayOf_128 : decode cX12_mayOf 128 = .ok (.iconst 1, 1) := by decide +kernel
theorem dX12_mayOf_129 : decode cX12_mayOf 129 = .ok (.iload 6, 2) := by decide +kernel
theorem dX12_mayOf_131 : decode cX12_mayOf 131 = .ok (.ishl, 1) := by decide +kernel
theorem dX12_mayOf_132 : decode cX12_mayOf 132 = .ok (.goto 4, 3) := by decide +kernel
theorem dX12_mayOf_135 : decode cX12_mayOf 135 = .ok (.iconst 0, 1) := by decide +kernel
theorem dX12_mayOf_136 : decode cX12_mayOf 136 = .ok (.ior, 1) := by decide +kernel
theorem dX12_mayOf_137 : decode cX12_mayOf 137 = .ok (.istore 5, 2) := by decide +kernel
theorem dX12_mayOf_139 : decode cX12_mayOf 139 = .ok (.iinc 6 1, 3) := by decide +kernel
theorem dX12_mayOf_142 : decode cX12_mayOf 142 = .ok (.goto (-90), 3) := by decide +kernel
theorem dX12_mayOf_145 : decode cX12_mayOf 145 = .ok (.iload 5, 2) := by decide +kernel
theorem dX12_mayOf_147 : decode cX12_mayOf 147 = .ok (.ireturn, 1) := by decide +kernel
theorem dX12_may_0 : decode cX12_may 0 = .ok (.aload_n 0, 1) := by decide +kernel
theorem dX12_may_1 : decode cX12_may 1 = .ok (.iload_n 1, 1) := by decide +kernel
theorem dX12_may_2 : decode cX12_may 2 = .ok (.iload_n 2, 1) := by decide +kernel
theorem dX12_may_3 : decode cX12_may 3 = .ok (.invokevirtual 349, 3) := by decide +kernel
theorem dX12_may_6 : decode cX12_may 6 = .ok (.ifCond .eq 10, 3) := by decide +kernel
theorem dX12_may_9 : decode cX12_may 9 = .ok (.iload_n 3, 1) := by decide +kernel
theorem dX12_may_10 : decode cX12_may 10 = .ok (.invokestatic 212, 3) := by decide +kernel
theorem dX12_may_13 : decode cX12_may 13 = .ok (.ifCond .ne 10, 3) := by decide +kernel
theorem dX12_may_16 : decode cX12_may 16 = .ok (.aload_n 0, 1) := by decide +kernel
theorem dX12_may_17 : decode cX12_may 17 = .ok (.bipush (-2), 2) := by decide +kernel
theorem dX12_may_19 : decode cX12_may 19 = .ok (.invokevirtual 177, 3) := by decide +kernel
theorem dX12_may_22 : decode cX12_may 22 = .ok (.ireturn, 1) := by decide +kernel
theorem dX12_may_23 : decode cX12_may 23 = .ok (.aload_n 0, 1) := by decide +kernel
theorem dX12_may_24 : decode cX12_may 24 = .ok (.iload_n 1, 1) := by decide +kernel
theorem dX12_may_25 : decode cX12_may 25 = .ok (.iload_n 2, 1) := by decide +kernel
theorem dX12_may_26 : decode cX12_may 26 = .ok (.iload_n 3, 1) := by decide +kernel
theorem dX12_may_27 : decode cX12_may 27 = .ok (.invokevirtual 426, 3) := by decide +kernel
theorem dX12_may_30 : decode cX12_may 30 = .ok (.istore 4, 2) := by decide +kernel
theorem dX12_may_32 : decode cX12_may 32 = .ok (.iload 4, 2) := by decide +kernel
theorem dX12_may_34 : decode cX12_may 34 = .ok (.iconst (-1), 1) := by decide +kernel
theorem dX12_may_35 : decode cX12_may 35 = .ok (.if_icmp .ne 12, 3) := by decide +kernel
theorem dX12_may_38 : decode cX12_may 38 = .ok (.aload_n 0, 1) := by decide +kernel
theorem dX12_may_39 : decode cX12_may 39 = .ok (.bipush (-5), 2) := by decide +kernel
theorem dX12_may_41 : decode cX12_may 41 = .ok (.invokevirtual 177, 3) := by decide +kernel
theorem dX12_may_44 : decode cX12_may 44 = .ok (.goto 5, 3) := by decide +kernel
theorem dX12_may_47 : decode cX12_may 47 = .ok (.iload 4, 2) := by decide +kernel
theorem dX12_may_49 : decode cX12_may 49 = .ok (.ireturn, 1) := by decide +kernel
theorem dX12_must_0 : decode cX12_must 0 = .ok (.aload_n 0, 1) := by decide +kernel
theorem dX12_must_1 : decode cX12_must 1 = .ok (.iload_n 1, 1) := by decide +kernel
theorem dX12_must_2 : decode cX12_must 2 = .ok (.iload_n 2, 1) := by decide +kernel
theorem dX12_must_3 : decode cX12_must 3 = .ok (.invokevirtual 349, 3) := by decide +kernel
theorem dX12_must_6 : decode cX12_must 6 = .ok (.ifCond .eq 10, 3) := by decide +kernel
theorem dX12_must_9 : decode cX12_must 9 = .ok (.iload_n 3, 1) := by decide +kernel
theorem dX12_must_10 : decode cX12_must 10 = .ok (.invokestatic 212, 3) := by decide +kernel
theorem dX12_must_13 : decode cX12_must 13 = .ok (.ifCond .ne 10, 3) := by decide +kernel
theorem dX12_must_16 : decode cX12_must 16 = .ok (.aload_n 0, 1) := by decide +kernel
theorem dX12_must_17 : decode cX12_must 17 = .ok (.bipush (-2), 2) := by decide +kernel
theorem dX12_must_19 : decode cX12_must 19 = .ok (.invokevirtual 177, 3) := by decide +kernel
theorem dX12_must_22 : decode cX12_must 22 = .ok (.ireturn, 1) := by decide +kernel
theorem dX12_must_23 : decode cX12_must 23 = .ok (.aload_n 0, 1) := by decide +kernel
theorem dX12_must_24 : decode cX12_must 24 = .ok (.iload_n 1, 1) := by decide +kernel
theorem dX12_must_25 : decode cX12_must 25 = .ok (.iload_n 2, 1) := by decide +kernel
theorem dX12_must_26 : decode cX12_must 26 = .ok (.iload_n 3, 1) := by decide +kernel
theorem dX12_must_27 : decode cX12_must 27 = .ok (.invokevirtual 426, 3) := by decide +kernel
theorem dX12_must_30 : decode cX12_must 30 = .ok (.istore 4, 2) := by decide +kernel
theorem dX12_must_32 : decode cX12_must 32 = .ok (.iload 4, 2) := by decide +kernel
theorem dX12_must_34 : decode cX12_must 34 = .ok (.iconst (-1), 1) := by decide +kernel
theorem dX12_must_35 : decode cX12_must 35 = .ok (.if_icmp .ne 10, 3) := by decide +kernel
theorem dX12_must_38 : decode cX12_must 38 = .ok (.aload_n 0, 1) := by decide +kernel
theorem dX12_must_39 : decode cX12_must 39 = .ok (.bipush (-5), 2) := by decide +kernel
theorem dX12_must_41 : decode cX12_must 41 = .ok (.invokevirtual 177, 3) := by decide +kernel
theorem dX12_must_44 : decode cX12_must 44 = .ok (.ireturn, 1) := by decide +kernel
theorem dX12_must_45 : decode cX12_must 45 = .ok (.iload 4, 2) := by decide +kernel
theorem dX12_must_47 : decode cX12_must 47 = .ok (.ifCond .eq 21, 3) := by decide +kernel
theorem dX12_must_50 : decode cX12_must 50 = .ok (.iload 4, 2) := by decide +kernel
theorem dX12_must_52 : decode cX12_must 52 = .ok (.iload 4, 2) := by decide +kernel
theorem dX12_must_54 : decode cX12_must 54 = .ok (.iconst 1, 1) := by decide +kernel
theorem dX12_must_55 : decode cX12_must 55 = .ok (.isub, 1) := by decide +kernel
theorem dX12_must_56 : decode cX12_must 56 = .ok (.iand, 1) := by decide +kernel
theorem dX12_must_57 : decode cX12_must 57 = .ok (.ifCond .ne 11, 3) := by decide +kernel
theorem dX12_must_60 : decode cX12_must 60 = .ok (.iload 4, 2) := by decide +kernel
theorem dX12_must_62 : decode cX12_must 62 = .ok (.invokestatic 418, 3) := by decide +kernel
theorem dX12_must_65 : decode cX12_must 65 = .ok (.goto 4, 3) := by decide +kernel
theorem dX12_must_68 : decode cX12_must 68 = .ok (.iconst (-1), 1) := by decide +kernel
theorem dX12_must_69 : decode cX12_must 69 = .ok (.ireturn, 1) := by decide +kernel
theorem dX12_takeDeeds_0 : decode cX12_takeDeeds 0 = .ok (.aload_n 0, 1) := by decide +kernel
theorem dX12_takeDeeds_1 : decode cX12_takeDeeds 1 = .ok (.iconst 0, 1) := by decide +kernel
theorem dX12_takeDeeds_2 : decode cX12_takeDeeds 2 = .ok (.putfield 429, 3) := by decide +kernel
theorem dX12_takeDeeds_5 : decode cX12_takeDeeds 5 = .ok (.iconst 0, 1) := by decide +kernel
theorem dX12_takeDeeds_6 : decode cX12_takeDeeds 6 = .ok (.istore_n 2, 1) := by decide +kernel
theorem dX12_takeDeeds_7 : decode cX12_takeDeeds 7 = .ok (.iload_n 2, 1) := by decide +kernel
theorem dX12_takeDeeds_8 : decode cX12_takeDeeds 8 = .ok (.aload_n 0, 1) := by decide +kernel
theorem dX12_takeDeeds_9 : decode cX12_takeDeeds 9 = .ok (.getfield 300, 3) := by decide +kernel
theorem dX12_takeDeeds_12 : decode cX12_takeDeeds 12 = .ok (.if_icmp .ge 46, 3) := by decide +kernel
theorem dX12_takeDeeds_15 : decode cX12_takeDeeds 15 = .ok (.aload_n 0, 1) := by decide +kernel
theorem dX12_takeDeeds_16 : decode cX12_takeDeeds 16 = .ok (.iload_n 2, 1) := by decide +kernel
theorem dX12_takeDeeds_17 : decode cX12_takeDeeds 17 = .ok (.iload_n 1, 1) := by decide +kernel
theorem dX12_takeDeeds_18 : decode cX12_takeDeeds 18 = .ok (.invokevirtual 332, 3) := by decide +kernel
theorem dX12_takeDeeds_21 : decode cX12_takeDeeds 21 = .ok (.ifCond .eq 31, 3) := by decide +kernel
theorem dX12_takeDeeds_24 : decode cX12_takeDeeds 24 = .ok (.aload_n 0, 1) := by decide +kernel
theorem dX12_takeDeeds_25 : decode cX12_takeDeeds 25 = .ok (.getfield 429, 3) := by decide +kernel
theorem dX12_takeDeeds_28 : decode cX12_takeDeeds 28 = .ok (.bipush 8, 2) := by decide +kernel
theorem dX12_takeDeeds_30 : decode cX12_takeDeeds 30 = .ok (.if_icmp .ne 5, 3) := by decide +kernel
theorem dX12_takeDeeds_33 : decode cX12_takeDeeds 33 = .ok (.iconst 0, 1) := by decide +kernel
theorem dX12_takeDeeds_34 : decode cX12_takeDeeds 34 = .ok (.ireturn, 1) := by decide +kernel
theorem dX12_takeDeeds_35 : decode cX12_takeDeeds 35 = .ok (.aload_n 0, 1) := by decide +kernel
theorem dX12_takeDeeds_36 : decode cX12_takeDeeds 36 = .ok (.getfield 137, 3) := by decide +kernel
theorem dX12_takeDeeds_39 : decode cX12_takeDeeds 39 = .ok (.aload_n 0, 1) := by decide +kernel
theorem dX12_takeDeeds_40 : decode cX12_takeDeeds 40 = .ok (.dup, 1) := by decide +kernel
theorem dX12_takeDeeds_41 : decode cX12_takeDeeds 41 = .ok (.getfield 429, 3) := by decide +kernel
theorem dX12_takeDeeds_44 : decode cX12_takeDeeds 44 = .ok (.dup_x1, 1) := by decide +kernel
theorem dX12_takeDeeds_45 : decode cX12_takeDeeds 45 = .ok (.iconst 1, 1) := by decide +kernel
theorem dX12_takeDeeds_46 : decode cX12_takeDeeds 46 = .ok (.iadd, 1) := by decide +kernel
theorem dX12_takeDeeds_47 : decode cX12_takeDeeds 47 = .ok (.putfield 429, 3) := by decide +kernel
theorem dX12_takeDeeds_50 : decode cX12_takeDeeds 50 = .ok (.iload_n 2, 1) := by decide +kernel
theorem dX12_takeDeeds_51 : decode cX12_takeDeeds 51 = .ok (.iastore, 1) := by decide +kernel
theorem dX12_takeDeeds_52 : decode cX12_takeDeeds 52 = .ok (.iinc 2 1, 3) := by decide +kernel
theorem dX12_takeDeeds_55 : decode cX12_takeDeeds 55 = .ok (.goto (-48), 3) := by decide +kernel
theorem dX12_takeDeeds_58 : decode cX12_takeDeeds 58 = .ok (.iconst 1, 1) := by decide +kernel
theorem dX12_takeDeeds_59 : decode cX12_takeDeeds 59 = .ok (.ireturn, 1) := by decide +kernel
theorem dX12_named_0 : decode cX12_named 0 = .ok (.iconst 0, 1) := by decide +kernel
theorem dX12_named_1 : decode cX12_named 1 = .ok (.istore_n 2, 1) := by decide +kernel
theorem dX12_named_2 : decode cX12_named 2 = .ok (.iconst 0, 1) := by decide +kernel
theorem dX12_named_3 : decode cX12_named 3 = .ok (.istore_n 3, 1) := by decide +kernel
theorem dX12_named_4 : decode cX12_named 4 = .ok (.iload_n 3, 1) := by decide +kernel
theorem dX12_named_5 : decode cX12_named 5 = .ok (.aload_n 0, 1) := by decide +kernel
theorem dX12_named_6 : decode cX12_named 6 = .ok (.getfield 429, 3) := by decide +kernel
theorem dX12_named_9 : decode cX12_named 9 = .ok (.if_icmp .ge 32, 3) := by decide +kernel
theorem dX12_named_12 : decode cX12_named 12 = .ok (.iload_n 2, 1) := by decide +kernel
theorem dX12_named_13 : decode cX12_named 13 = .ok (.iload_n 1, 1) := by decide +kernel
theorem dX12_named_14 : decode cX12_named 14 = .ok (.iload_n 3, 1) := by decide +kernel
theorem dX12_named_15 : decode cX12_named 15 = .ok (.ishr, 1) := by decide +kernel
theorem dX12_named_16 : decode cX12_named 16 = .ok (.iconst 1, 1) := by decide +kernel
theorem dX12_named_17 : decode cX12_named 17 = .ok (.iand, 1) := by decide +kernel
theorem dX12_named_18 : decode cX12_named 18 = .ok (.ifCond .eq 14, 3) := by decide +kernel
theorem dX12_named_21 : decode cX12_named 21 = .ok (.iconst 1, 1) := by decide +kernel
theorem dX12_named_22 : decode cX12_named 22 = .ok (.aload_n 0, 1) := by decide +kernel
theorem dX12_named_23 : decode cX12_named 23 = .ok (.getfield 137, 3) := by decide +kernel
theorem dX12_named_26 : decode cX12_named 26 = .ok (.iload_n 3, 1) := by decide +kernel
theorem dX12_named_27 : decode cX12_named 27 = .ok (.iaload, 1) := by decide +kernel
theorem dX12_named_28 : decode cX12_named 28 = .ok (.ishl, 1) := by decide +kernel
theorem dX12_named_29 : decode cX12_named 29 = .ok (.goto 4, 3) := by decide +kernel
theorem dX12_named_32 : decode cX12_named 32 = .ok (.iconst 0, 1) := by decide +kernel
theorem dX12_named_33 : decode cX12_named 33 = .ok (.ior, 1) := by decide +kernel
theorem dX12_named_34 : decode cX12_named 34 = .ok (.istore_n 2, 1) := by decide +kernel
theorem dX12_named_35 : decode cX12_named 35 = .ok (.iinc 3 1, 3) := by decide +kernel
theorem dX12_named_38 : decode cX12_named 38 = .ok (.goto (-34), 3) := by decide +kernel
theorem dX12_named_41 : decode cX12_named 41 = .ok (.iload_n 2, 1) := by decide +kernel
theorem dX12_named_42 : decode cX12_named 42 = .ok (.ireturn, 1) := by decide +kernel
theorem dX12_findCans_0 : decode cX12_findCans 0 = .ok (.aload_n 0, 1) := by decide +kernel
theorem dX12_findCans_1 : decode cX12_findCans 1 = .ok (.iload_n 1, 1) := by decide +kernel
theorem dX12_findCans_2 : decode cX12_findCans 2 = .ok (.invokevirtual 432, 3) := by decide +kernel
theorem dX12_findCans_5 : decode cX12_findCans 5 = .ok (.ifCond .ne 5, 3) := by decide +kernel
theorem dX12_findCans_8 : decode cX12_findCans 8 = .ok (.iconst 0, 1) := by decide +kernel
theorem dX12_findCans_9 : decode cX12_findCans 9 = .ok (.ireturn, 1) := by decide +kernel
theorem dX12_findCans_10 : decode cX12_findCans 10 = .ok (.iconst 1, 1) := by decide +kernel
theorem dX12_findCans_11 : decode cX12_findCans 11 = .ok (.aload_n 0, 1) := by decide +kernel
theorem dX12_findCans_12 : decode cX12_findCans 12 = .ok (.getfield 429, 3) := by decide +kernel
theorem dX12_findCans_15 : decode cX12_findCans 15 = .ok (.ishl, 1) := by decide +kernel
theorem dX12_findCans_16 : decode cX12_findCans 16 = .ok (.iconst 1, 1) := by decide +kernel
theorem dX12_findCans_17 : decode cX12_findCans 17 = .ok (.isub, 1) := by decide +kernel
theorem dX12_findCans_18 : decode cX12_findCans 18 = .ok (.istore_n 2, 1) := by decide +kernel
theorem dX12_findCans_19 : decode cX12_findCans 19 = .ok (.iload_n 2, 1) := by decide +kernel
theorem dX12_findCans_20 : decode cX12_findCans 20 = .ok (.istore_n 3, 1) := by decide +kernel
theorem dX12_findCans_21 : decode cX12_findCans 21 = .ok (.iload_n 3, 1) := by decide +kernel
theorem dX12_findCans_22 : decode cX12_findCans 22 = .ok (.ifCond .lt 105, 3) := by decide +kernel
theorem dX12_findCans_25 : decode cX12_findCans 25 = .ok (.aload_n 0, 1) := by decide +kernel
theorem dX12_findCans_26 : decode cX12_findCans 26 = .ok (.getfield 140, 3) := by decide +kernel
theorem dX12_findCans_29 : decode cX12_findCans 29 = .ok (.iload_n 3, 1) := by decide +kernel
theorem dX12_findCans_30 : decode cX12_findCans 30 = .ok (.iconst 0, 1) := by decide +kernel
theorem dX12_findCans_31 : decode cX12_findCans 31 = .ok (.iastore, 1) := by decide +kernel
theorem dX12_findCans_32 : decode cX12_findCans 32 = .ok (.iconst 0, 1) := by decide +kernel
theorem dX12_findCans_33 : decode cX12_findCans 33 = .ok (.istore 4, 2) := by decide +kernel
theorem dX12_findCans_35 : decode cX12_findCans 35 = .ok (.iload 4, 2) := by decide +kernel
theorem dX12_findCans_37 : decode cX12_findCans 37 = .ok (.aload_n 0, 1) := by decide +kernel
theorem dX12_findCans_38 : decode cX12_findCans 38 = .ok (.getfield 429, 3) := by decide +kernel
theorem dX12_findCans_41 : decode cX12_findCans 41 = .ok (.if_icmp .ge 42, 3) := by decide +kernel
theorem dX12_findCans_44 : decode cX12_findCans 44 = .ok (.aload_n 0, 1) := by decide +kernel
theorem dX12_findCans_45 : decode cX12_findCans 45 = .ok (.getfield 140, 3) := by decide +kernel
theorem dX12_findCans_48 : decode cX12_findCans 48 = .ok (.iload_n 3, 1) := by decide +kernel
theorem dX12_findCans_49 : decode cX12_findCans 49 = .ok (.dup2, 1) := by decide +kernel
theorem dX12_findCans_50 : decode cX12_findCans 50 = .ok (.iaload, 1) := by decide +kernel
theorem dX12_findCans_51 : decode cX12_findCans 51 = .ok (.iload_n 3, 1) := by decide +kernel
theorem dX12_findCans_52 : decode cX12_findCans 52 = .ok (.iload 4, 2) := by decide +kernel
theorem dX12_findCans_54 : decode cX12_findCans 54 = .ok (.ishr, 1) := by decide +kernel
theorem dX12_findCans_55 : decode cX12_findCans 55 = .ok (.iconst 1, 1) := by decide +kernel
theorem dX12_findCans_56 : decode cX12_findCans 56 = .ok (.iand, 1) := by decide +kernel
theorem dX12_findCans_57 : decode cX12_findCans 57 = .ok (.ifCond .ne 17, 3) := by decide +kernel
theorem dX12_findCans_60 : decode cX12_findCans 60 = .ok (.aload_n 0, 1) := by decide +kernel
theorem dX12_findCans_61 : decode cX12_findCans 61 = .ok (.getfield 140, 3) := by decide +kernel
theorem dX12_findCans_64 : decode cX12_findCans 64 = .ok (.iload_n 3, 1) := by decide +kernel
theorem dX12_findCans_65 : decode cX12_findCans 65 = .ok (.iconst 1, 1) := by decide +kernel
theorem dX12_findCans_66 : decode cX12_findCans 66 = .ok (.iload 4, 2) := by decide +kernel
theorem dX12_findCans_68 : decode cX12_findCans 68 = .ok (.ishl, 1) := by decide +kernel
theorem dX12_findCans_69 : decode cX12_findCans 69 = .ok (.ior, 1) := by decide +kernel
theorem dX12_findCans_70 : decode cX12_findCans 70 = .ok (.iaload, 1) := by decide +kernel
theorem dX12_findCans_71 : decode cX12_findCans 71 = .ok (.goto 4, 3) := by decide +kernel
theorem dX12_findCans_74 : decode cX12_findCans 74 = .ok (.iconst 0, 1) := by decide +kernel
theorem dX12_findCans_75 : decode cX12_findCans 75 = .ok (.ior, 1) := by decide +kernel
theorem dX12_findCans_76 : decode cX12_findCans 76 = .ok (.iastore, 1) := by decide +kernel
theorem dX12_findCans_77 : decode cX12_findCans 77 = .ok (.iinc 4 1, 3) := by decide +kernel
theorem dX12_findCans_80 : decode cX12_findCans 80 = .ok (.goto (-45), 3) := by decide +kernel
theorem dX12_findCans_83 : decode cX12_findCans 83 = .ok (.aload_n 0, 1) := by decide +kernel
theorem dX12_findCans_84 : decode cX12_findCans 84 = .ok (.getfield 140, 3) := by decide +kernel
theorem dX12_findCans_87 : decode cX12_findCans 87 = .ok (.iload_n 3, 1) := by decide +kernel
theorem dX12_findCans_88 : decode cX12_findCans 88 = .ok (.iaload, 1) := by decide +kernel
theorem dX12_findCans_89 : decode cX12_findCans 89 = .ok (.ifCond .ne 32, 3) := by decide +kernel
theorem dX12_findCans_92 : decode cX12_findCans 92 = .ok (.aload_n 0, 1) := by decide +kernel
theorem dX12_findCans_93 : decode cX12_findCans 93 = .ok (.iload_n 1, 1) := by decide +kernel
theorem dX12_findCans_94 : decode cX12_findCans 94 = .ok (.aload_n 0, 1) := by decide +kernel
theorem dX12_findCans_95 : decode cX12_findCans 95 = .ok (.iload_n 3, 1) := by decide +kernel
theorem dX12_findCans_96 : decode cX12_findCans 96 = .ok (.invokevirtual 435, 3) := by decide +kernel
theorem dX12_findCans_99 : decode cX12_findCans 99 = .ok (.invokevirtual 415, 3) := by decide +kernel
theorem dX12_findCans_102 : decode cX12_findCans 102 = .ok (.istore 4, 2) := by decide +kernel
theorem dX12_findCans_104 : decode cX12_findCans 104 = .ok (.iload 4, 2) := by decide +kernel
theorem dX12_findCans_106 : decode cX12_findCans 106 = .ok (.bipush (-5), 2) := by decide +kernel
theorem dX12_findCans_108 : decode cX12_findCans 108 = .ok (.if_icmp .ne 5, 3) := by decide +kernel
theorem dX12_findCans_111 : decode cX12_findCans 111 = .ok (.iconst 0, 1) := by decide +kernel
theorem dX12_findCans_112 : decode cX12_findCans 112 = .ok (.ireturn, 1) := by decide +kernel
theorem dX12_findCans_113 : decode cX12_findCans 113 = .ok (.aload_n 0, 1) := by decide +kernel
theorem dX12_findCans_114 : decode cX12_findCans 114 = .ok (.getfield 140, 3) := by decide +kernel
theorem dX12_findCans_117 : decode cX12_findCans 117 = .ok (.iload_n 3, 1) := by decide +kernel
theorem dX12_findCans_118 : decode cX12_findCans 118 = .ok (.iload 4, 2) := by decide +kernel
theorem dX12_findCans_120 : decode cX12_findCans 120 = .ok (.iastore, 1) := by decide +kernel
theorem dX12_findCans_121 : decode cX12_findCans 121 = .ok (.iinc 3 (-1), 3) := by decide +kernel
theorem dX12_findCans_124 : decode cX12_findCans 124 = .ok (.goto (-103), 3) := by decide +kernel
theorem dX12_findCans_127 : decode cX12_findCans 127 = .ok (.iconst 1, 1) := by decide +kernel
theorem dX12_findCans_128 : decode cX12_findCans 128 = .ok (.ireturn, 1) := by decide +kernel
theorem dX12_findQuarrel_0 : decode cX12_findQuarrel 0 = .ok (.aload_n 0, 1) := by decide +kernel
theorem dX12_findQuarrel_1 : decode cX12_findQuarrel 1 = .ok (.iconst 0, 1) := by decide +kernel
theorem dX12_findQuarrel_2 : decode cX12_findQuarrel 2 = .ok (.putfield 438, 3) := by decide +kernel
theorem dX12_findQuarrel_5 : decode cX12_findQuarrel 5 = .ok (.aload_n 0, 1) := by decide +kernel
theorem dX12_findQuarrel_6 : decode cX12_findQuarrel 6 = .ok (.iload_n 1, 1) := by decide +kernel
theorem dX12_findQuarrel_7 : decode cX12_findQuarrel 7 = .ok (.invokevirtual 441, 3) := by decide +kernel
theorem dX12_findQuarrel_10 : decode cX12_findQuarrel 10 = .ok (.ifCond .ne 5, 3) := by decide +kernel
theorem dX12_findQuarrel_13 : decode cX12_findQuarrel 13 = .ok (.iconst 0, 1) := by decide +kernel
theorem dX12_findQuarrel_14 : decode cX12_findQuarrel 14 = .ok (.ireturn, 1) := by decide +kernel
theorem dX12_findQuarrel_15 : decode cX12_findQuarrel 15 = .ok (.iconst 1, 1) := by decide +kernel
theorem dX12_findQuarrel_16 : decode cX12_findQuarrel 16 = .ok (.aload_n 0, 1) := by decide +kernel
theorem dX12_findQuarrel_17 : decode cX12_findQuarrel 17 = .ok (.getfield 429, 3) := by decide +kernel
theorem dX12_findQuarrel_20 : decode cX12_findQuarrel 20 = .ok (.ishl, 1) := by decide +kernel
theorem dX12_findQuarrel_21 : decode cX12_findQuarrel 21 = .ok (.iconst 1, 1) := by decide +kernel
theorem dX12_findQuarrel_22 : decode cX12_findQuarrel 22 = .ok (.isub, 1) := by decide +kernel
theorem dX12_findQuarrel_23 : decode cX12_findQuarrel 23 = .ok (.istore_n 2, 1) := by decide +kernel
theorem dX12_findQuarrel_24 : decode cX12_findQuarrel 24 = .ok (.iconst (-1), 1) := by decide +kernel
theorem dX12_findQuarrel_25 : decode cX12_findQuarrel 25 = .ok (.istore_n 3, 1) := by decide +kernel
theorem dX12_findQuarrel_26 : decode cX12_findQuarrel 26 = .ok (.iload_n 2, 1) := by decide +kernel
theorem dX12_findQuarrel_27 : decode cX12_findQuarrel 27 = .ok (.istore 4, 2) := by decide +kernel
theorem dX12_findQuarrel_29 : decode cX12_findQuarrel 29 = .ok (.iload 4, 2) := by decide +kernel
theorem dX12_findQuarrel_31 : decode cX12_findQuarrel 31 = .ok (.ifCond .lt 41, 3) := by decide +kernel
theorem dX12_findQuarrel_34 : decode cX12_findQuarrel 34 = .ok (.aload_n 0, 1) := by decide +kernel
theorem dX12_findQuarrel_35 : decode cX12_findQuarrel 35 = .ok (.getfield 140, 3) := by decide +kernel
theorem dX12_findQuarrel_38 : decode cX12_findQuarrel 38 = .ok (.iload 4, 2) := by decide +kernel
theorem dX12_findQuarrel_40 : decode cX12_findQuarrel 40 = .ok (.iaload, 1) := by decide +kernel
theorem dX12_findQuarrel_41 : decode cX12_findQuarrel 41 = .ok (.ifCond .ne 25, 3) := by decide +kernel
theorem dX12_findQuarrel_44 : decode cX12_findQuarrel 44 = .ok (.iload_n 3, 1) := by decide +kernel
theorem dX12_findQuarrel_45 : decode cX12_findQuarrel 45 = .ok (.iconst (-1), 1) := by decide +kernel
theorem dX12_findQuarrel_46 : decode cX12_findQuarrel 46 = .ok (.if_icmp .eq 17, 3) := by decide +kernel
theorem dX12_findQuarrel_49 : decode cX12_findQuarrel 49 = .ok (.iload 4, 2) := by decide +kernel
theorem dX12_findQuarrel_51 : decode cX12_findQuarrel 51 = .ok (.i2l, 1) := by decide +kernel
theorem dX12_findQuarrel_52 : decode cX12_findQuarrel 52 = .ok (.invokestatic 195, 3) := by decide +kernel
theorem dX12_findQuarrel_55 : decode cX12_findQuarrel 55 = .ok (.iload_n 3, 1) := by decide +kernel
theorem dX12_findQuarrel_56 : decode cX12_findQuarrel 56 = .ok (.i2l, 1) := by decide +kernel
theorem dX12_findQuarrel_57 : decode cX12_findQuarrel 57 = .ok (.invokestatic 195, 3) := by decide +kernel
theorem dX12_findQuarrel_60 : decode cX12_findQuarrel 60 = .ok (.if_icmp .gt 6, 3) := by decide +kernel
theorem dX12_findQuarrel_63 : decode cX12_findQuarrel 63 = .ok (.iload 4, 2) := by decide +kernel
theorem dX12_findQuarrel_65 : decode cX12_findQuarrel 65 = .ok (.istore_n 3, 1) := by decide +kernel
theorem dX12_findQuarrel_66 : decode cX12_findQuarrel 66 = .ok (.iinc 4 (-1), 3) := by decide +kernel
theorem dX12_findQuarrel_69 : decode cX12_findQuarrel 69 = .ok (.goto (-40), 3) := by decide +kernel
theorem dX12_findQuarrel_72 : decode cX12_findQuarrel 72 = .ok (.aload_n 0, 1) := by decide +kernel
theorem dX12_findQuarrel_73 : decode cX12_findQuarrel 73 = .ok (.iload_n 3, 1) := by decide +kernel
theorem dX12_findQuarrel_74 : decode cX12_findQuarrel 74 = .ok (.iconst (-1), 1) := by decide +kernel
theorem dX12_findQuarrel_75 : decode cX12_findQuarrel 75 = .ok (.if_icmp .ne 7, 3) := by decide +kernel
theorem dX12_findQuarrel_78 : decode cX12_findQuarrel 78 = .ok (.iconst 0, 1) := by decide +kernel
theorem dX12_findQuarrel_79 : decode cX12_findQuarrel 79 = .ok (.goto 8, 3) := by decide +kernel
theorem dX12_findQuarrel_82 : decode cX12_findQuarrel 82 = .ok (.aload_n 0, 1) := by decide +kernel
theorem dX12_findQuarrel_83 : decode cX12_findQuarrel 83 = .ok (.iload_n 3, 1) := by decide +kernel
theorem dX12_findQuarrel_84 : decode cX12_findQuarrel 84 = .ok (.invokevirtual 435, 3) := by decide +kernel
theorem dX12_findQuarrel_87 : decode cX12_findQuarrel 87 = .ok (.putfield 438, 3) := by decide +kernel
theorem dX12_findQuarrel_90 : decode cX12_findQuarrel 90 = .ok (.iconst 1, 1) := by decide +kernel
theorem dX12_findQuarrel_91 : decode cX12_findQuarrel 91 = .ok (.ireturn, 1) := by decide +kernel
theorem dX12_quarrel_0 : decode cX12_quarrel 0 = .ok (.iload_n 1, 1) := by decide +kernel
theorem dX12_quarrel_1 : decode cX12_quarrel 1 = .ok (.invokestatic 212, 3) := by decide +kernel
theorem dX12_quarrel_4 : decode cX12_quarrel 4 = .ok (.ifCond .ne 10, 3) := by decide +kernel
theorem dX12_quarrel_7 : decode cX12_quarrel 7 = .ok (.aload_n 0, 1) := by decide +kernel
theorem dX12_quarrel_8 : decode cX12_quarrel 8 = .ok (.bipush (-2), 2) := by decide +kernel
theorem dX12_quarrel_10 : decode cX12_quarrel 10 = .ok (.invokevirtual 177, 3) := by decide +kernel
theorem dX12_quarrel_13 : decode cX12_quarrel 13 = .ok (.ireturn, 1) := by decide +kernel
theorem dX12_quarrel_14 : decode cX12_quarrel 14 = .ok (.aload_n 0, 1) := by decide +kernel
theorem dX12_quarrel_15 : decode cX12_quarrel 15 = .ok (.iload_n 1, 1) := by decide +kernel
theorem dX12_quarrel_16 : decode cX12_quarrel 16 = .ok (.invokevirtual 444, 3) := by decide +kernel
theorem dX12_quarrel_19 : decode cX12_quarrel 19 = .ok (.ifCond .eq 10, 3) := by decide +kernel
theorem dX12_quarrel_22 : decode cX12_quarrel 22 = .ok (.aload_n 0, 1) := by decide +kernel
theorem dX12_quarrel_23 : decode cX12_quarrel 23 = .ok (.getfield 438, 3) := by decide +kernel
theorem dX12_quarrel_26 : decode cX12_quarrel 26 = .ok (.goto 9, 3) := by decide +kernel
theorem dX12_quarrel_29 : decode cX12_quarrel 29 = .ok (.aload_n 0, 1) := by decide +kernel
theorem dX12_quarrel_30 : decode cX12_quarrel 30 = .ok (.bipush (-5), 2) := by decide +kernel
theorem dX12_quarrel_32 : decode cX12_quarrel 32 = .ok (.invokevirtual 177, 3) := by decide +kernel
theorem dX12_quarrel_35 : decode cX12_quarrel 35 = .ok (.ireturn, 1) := by decide +kernel
theorem dX12_small_0 : decode cX12_small 0 = .ok (.iload_n 1, 1) := by decide +kernel
theorem dX12_small_1 : decode cX12_small 1 = .ok (.invokestatic 212, 3) := by decide +kernel
theorem dX12_small_4 : decode cX12_small 4 = .ok (.ifCond .ne 10, 3) := by decide +kernel
theorem dX12_small_7 : decode cX12_small 7 = .ok (.aload_n 0, 1) := by decide +kernel
theorem dX12_small_8 : decode cX12_small 8 = .ok (.bipush (-2), 2) := by decide +kernel
theorem dX12_small_10 : decode cX12_small 10 = .ok (.invokevirtual 177, 3) := by decide +kernel
theorem dX12_small_13 : decode cX12_small 13 = .ok (.ireturn, 1) := by decide +kernel
theorem dX12_small_14 : decode cX12_small 14 = .ok (.aload_n 0, 1) := by decide +kernel
theorem dX12_small_15 : decode cX12_small 15 = .ok (.iload_n 1, 1) := by decide +kernel
theorem dX12_small_16 : decode cX12_small 16 = .ok (.invokevirtual 444, 3) := by decide +kernel
theorem dX12_small_19 : decode cX12_small 19 = .ok (.ifCond .eq 14, 3) := by decide +kernel
theorem dX12_small_22 : decode cX12_small 22 = .ok (.aload_n 0, 1) := by decide +kernel
theorem dX12_small_23 : decode cX12_small 23 = .ok (.getfield 438, 3) := by decide +kernel
theorem dX12_small_26 : decode cX12_small 26 = .ok (.i2l, 1) := by decide +kernel
theorem dX12_small_27 : decode cX12_small 27 = .ok (.invokestatic 195, 3) := by decide +kernel
theorem dX12_small_30 : decode cX12_small 30 = .ok (.goto 9, 3) := by decide +kernel
theorem dX12_small_33 : decode cX12_small 33 = .ok (.aload_n 0, 1) := by decide +kernel
theorem dX12_small_34 : decode cX12_small 34 = .ok (.bipush (-5), 2) := by decide +kernel
theorem dX12_small_36 : decode cX12_small 36 = .ok (.invokevirtual 177, 3) := by decide +kernel
theorem dX12_small_39 : decode cX12_small 39 = .ok (.ireturn, 1) := by decide +kernel
theorem dX12_weightOf_0 : decode cX12_weightOf 0 = .ok (.iconst 0, 1) := by decide +kernel
theorem dX12_weightOf_1 : decode cX12_weightOf 1 = .ok (.istore_n 2, 1) := by decide +kernel
theorem dX12_weightOf_2 : decode cX12_weightOf 2 = .ok (.iconst 0, 1) := by decide +kernel
theorem dX12_weightOf_3 : decode cX12_weightOf 3 = .ok (.istore_n 3, 1) := by decide +kernel
theorem dX12_weightOf_4 : decode cX12_weightOf 4 = .ok (.iload_n 3, 1) := by decide +kernel
theorem dX12_weightOf_5 : decode cX12_weightOf 5 = .ok (.aload_n 0, 1) := by decide +kernel
theorem dX12_weightOf_6 : decode cX12_weightOf 6 = .ok (.getfield 429, 3) := by decide +kernel
theorem dX12_weightOf_9 : decode cX12_weightOf 9 = .ok (.if_icmp .ge 35, 3) := by decide +kernel
theorem dX12_weightOf_12 : decode cX12_weightOf 12 = .ok (.iload_n 2, 1) := by decide +kernel
theorem dX12_weightOf_13 : decode cX12_weightOf 13 = .ok (.iload_n 1, 1) := by decide +kernel
theorem dX12_weightOf_14 : decode cX12_weightOf 14 = .ok (.iload_n 3, 1) := by decide +kernel
theorem dX12_weightOf_15 : decode cX12_weightOf 15 = .ok (.ishr, 1) := by decide +kernel
theorem dX12_weightOf_16 : decode cX12_weightOf 16 = .ok (.iconst 1, 1) := by decide +kernel
theorem dX12_weightOf_17 : decode cX12_weightOf 17 = .ok (.iand, 1) := by decide +kernel
theorem dX12_weightOf_18 : decode cX12_weightOf 18 = .ok (.ifCond .eq 17, 3) := by decide +kernel
theorem dX12_weightOf_21 : decode cX12_weightOf 21 = .ok (.aload_n 0, 1) := by decide +kernel
theorem dX12_weightOf_22 : decode cX12_weightOf 22 = .ok (.getfield 61, 3) := by decide +kernel
theorem dX12_weightOf_25 : decode cX12_weightOf 25 = .ok (.aload_n 0, 1) := by decide +kernel
theorem dX12_weightOf_26 : decode cX12_weightOf 26 = .ok (.getfield 137, 3) := by decide +kernel
theorem dX12_weightOf_29 : decode cX12_weightOf 29 = .ok (.iload_n 3, 1) := by decide +kernel
theorem dX12_weightOf_30 : decode cX12_weightOf 30 = .ok (.iaload, 1) := by decide +kernel
theorem dX12_weightOf_31 : decode cX12_weightOf 31 = .ok (.iaload, 1) := by decide +kernel
theorem dX12_weightOf_32 : decode cX12_weightOf 32 = .ok (.goto 4, 3) := by decide +kernel
theorem dX12_weightOf_35 : decode cX12_weightOf 35 = .ok (.iconst 0, 1) := by decide +kernel
theorem dX12_weightOf_36 : decode cX12_weightOf 36 = .ok (.iadd, 1) := by decide +kernel
theorem dX12_weightOf_37 : decode cX12_weightOf 37 = .ok (.istore_n 2, 1) := by decide +kernel
theorem dX12_weightOf_38 : decode cX12_weightOf 38 = .ok (.iinc 3 1, 3) := by decide +kernel
theorem dX12_weightOf_41 : decode cX12_weightOf 41 = .ok (.goto (-37), 3) := by decide +kernel
theorem dX12_weightOf_44 : decode cX12_weightOf 44 = .ok (.iload_n 2, 1) := by decide +kernel
theorem dX12_weightOf_45 : decode cX12_weightOf 45 = .ok (.ireturn, 1) := by decide +kernel
theorem dX12_findDoubt_0 : decode cX12_findDoubt 0 = .ok (.aload_n 0, 1) := by decide +kernel
theorem dX12_findDoubt_1 : decode cX12_findDoubt 1 = .ok (.iconst (-1), 1) := by decide +kernel
theorem dX12_findDoubt_2 : decode cX12_findDoubt 2 = .ok (.putfield 447, 3) := by decide +kernel
theorem dX12_findDoubt_5 : decode cX12_findDoubt 5 = .ok (.aload_n 0, 1) := by decide +kernel
theorem dX12_findDoubt_6 : decode cX12_findDoubt 6 = .ok (.iconst 0, 1) := by decide +kernel
theorem dX12_findDoubt_7 : decode cX12_findDoubt 7 = .ok (.putfield 450, 3) := by decide +kernel
theorem dX12_findDoubt_10 : decode cX12_findDoubt 10 = .ok (.aload_n 0, 1) := by decide +kernel
theorem dX12_findDoubt_11 : decode cX12_findDoubt 11 = .ok (.iconst 0, 1) := by decide +kernel
theorem dX12_findDoubt_12 : decode cX12_findDoubt 12 = .ok (.putfield 453, 3) := by decide +kernel
theorem dX12_findDoubt_15 : decode cX12_findDoubt 15 = .ok (.aload_n 0, 1) := by decide +kernel
theorem dX12_findDoubt_16 : decode cX12_findDoubt 16 = .ok (.iload_n 1, 1) := by decide +kernel
theorem dX12_findDoubt_17 : decode cX12_findDoubt 17 = .ok (.invokevirtual 441, 3) := by decide +kernel
theorem dX12_findDoubt_20 : decode cX12_findDoubt 20 = .ok (.ifCond .ne 5, 3) := by decide +kernel
theorem dX12_findDoubt_23 : decode cX12_findDoubt 23 = .ok (.iconst 0, 1) := by decide +kernel
theorem dX12_findDoubt_24 : decode cX12_findDoubt 24 = .ok (.ireturn, 1) := by decide +kernel
theorem dX12_findDoubt_25 : decode cX12_findDoubt 25 = .ok (.iconst 1, 1) := by decide +kernel
theorem dX12_findDoubt_26 : decode cX12_findDoubt 26 = .ok (.aload_n 0, 1) := by decide +kernel
theorem dX12_findDoubt_27 : decode cX12_findDoubt 27 = .ok (.getfield 429, 3) := by decide +kernel
theorem dX12_findDoubt_30 : decode cX12_findDoubt 30 = .ok (.ishl, 1) := by decide +kernel
theorem dX12_findDoubt_31 : decode cX12_findDoubt 31 = .ok (.iconst 1, 1) := by decide +kernel
theorem dX12_findDoubt_32 : decode cX12_findDoubt 32 = .ok (.isub, 1) := by decide +kernel
theorem dX12_findDoubt_33 : decode cX12_findDoubt 33 = .ok (.istore_n 2, 1) := by decide +kernel
theorem dX12_findDoubt_34 : decode cX12_findDoubt 34 = .ok (.iconst 0, 1) := by decide +kernel
theorem dX12_findDoubt_35 : decode cX12_findDoubt 35 = .ok (.istore_n 3, 1) := by decide +kernel
theorem dX12_findDoubt_36 : decode cX12_findDoubt 36 = .ok (.iload_n 3, 1) := by decide +kernel
theorem dX12_findDoubt_37 : decode cX12_findDoubt 37 = .ok (.iload_n 2, 1) := by decide +kernel
theorem dX12_findDoubt_38 : decode cX12_findDoubt 38 = .ok (.if_icmp .gt 117, 3) := by decide +kernel
theorem dX12_findDoubt_41 : decode cX12_findDoubt 41 = .ok (.aload_n 0, 1) := by decide +kernel
theorem dX12_findDoubt_42 : decode cX12_findDoubt 42 = .ok (.iload_n 3, 1) := by decide +kernel
theorem dX12_findDoubt_43 : decode cX12_findDoubt 43 = .ok (.invokevirtual 456, 3) := by decide +kernel
theorem dX12_findDoubt_46 : decode cX12_findDoubt 46 = .ok (.istore 4, 2) := by decide +kernel
theorem dX12_findDoubt_48 : decode cX12_findDoubt 48 = .ok (.aload_n 0, 1) := by decide +kernel
theorem dX12_findDoubt_49 : decode cX12_findDoubt 49 = .ok (.getfield 140, 3) := by decide +kernel
theorem dX12_findDoubt_52 : decode cX12_findDoubt 52 = .ok (.iload_n 2, 1) := by decide +kernel
theorem dX12_findDoubt_53 : decode cX12_findDoubt 53 = .ok (.iload_n 3, 1) := by decide +kernel
theorem dX12_findDoubt_54 : decode cX12_findDoubt 54 = .ok (.iconst (-1), 1) := by decide +kernel
theorem dX12_findDoubt_55 : decode cX12_findDoubt 55 = .ok (.ixor, 1) := by decide +kernel
theorem dX12_findDoubt_56 : decode cX12_findDoubt 56 = .ok (.iand, 1) := by decide +kernel
theorem dX12_findDoubt_57 : decode cX12_findDoubt 57 = .ok (.iaload, 1) := by decide +kernel
theorem dX12_findDoubt_58 : decode cX12_findDoubt 58 = .ok (.iconst 1, 1) := by decide +kernel
theorem dX12_findDoubt_59 : decode cX12_findDoubt 59 = .ok (.if_icmp .ne 90, 3) := by decide +kernel
theorem dX12_findDoubt_62 : decode cX12_findDoubt 62 = .ok (.aload_n 0, 1) := by decide +kernel
theorem dX12_findDoubt_63 : decode cX12_findDoubt 63 = .ok (.getfield 447, 3) := by decide +kernel
theorem dX12_findDoubt_66 : decode cX12_findDoubt 66 = .ok (.iconst (-1), 1) := by decide +kernel
theorem dX12_findDoubt_67 : decode cX12_findDoubt 67 = .ok (.if_icmp .eq 12, 3) := by decide +kernel
theorem dX12_findDoubt_70 : decode cX12_findDoubt 70 = .ok (.iload 4, 2) := by decide +kernel
theorem dX12_findDoubt_72 : decode cX12_findDoubt 72 = .ok (.aload_n 0, 1) := by decide +kernel
theorem dX12_findDoubt_73 : decode cX12_findDoubt 73 = .ok (.getfield 447, 3) := by decide +kernel
theorem dX12_findDoubt_76 : decode cX12_findDoubt 76 = .ok (.if_icmp .gt 73, 3) := by decide +kernel
theorem dX12_findDoubt_79 : decode cX12_findDoubt 79 = .ok (.aload_n 0, 1) := by decide +kernel
theorem dX12_findDoubt_80 : decode cX12_findDoubt 80 = .ok (.getfield 447, 3) := by decide +kernel
theorem dX12_findDoubt_83 : decode cX12_findDoubt 83 = .ok (.iconst (-1), 1) := by decide +kernel
theorem dX12_findDoubt_84 : decode cX12_findDoubt 84 = .ok (.if_icmp .eq 12, 3) := by decide +kernel
theorem dX12_findDoubt_87 : decode cX12_findDoubt 87 = .ok (.iload 4, 2) := by decide +kernel
theorem dX12_findDoubt_89 : decode cX12_findDoubt 89 = .ok (.aload_n 0, 1) := by decide +kernel
theorem dX12_findDoubt_90 : decode cX12_findDoubt 90 = .ok (.getfield 447, 3) := by decide +kernel
theorem dX12_findDoubt_93 : decode cX12_findDoubt 93 = .ok (.if_icmp .ge 7, 3) := by decide +kernel
theorem dX12_findDoubt_96 : decode cX12_findDoubt 96 = .ok (.iconst 1, 1) := by decide +kernel
theorem dX12_findDoubt_97 : decode cX12_findDoubt 97 = .ok (.goto 4, 3) := by decide +kernel
theorem dX12_findDoubt_100 : decode cX12_findDoubt 100 = .ok (.iconst 0, 1) := by decide +kernel
theorem dX12_findDoubt_101 : decode cX12_findDoubt 101 = .ok (.istore 5, 2) := by decide +kernel
theorem dX12_findDoubt_103 : decode cX12_findDoubt 103 = .ok (.aload_n 0, 1) := by decide +kernel
theorem dX12_findDoubt_104 : decode cX12_findDoubt 104 = .ok (.iload 5, 2) := by decide +kernel
theorem dX12_findDoubt_106 : decode cX12_findDoubt 106 = .ok (.ifCond .eq 7, 3) := by decide +kernel
theorem dX12_findDoubt_109 : decode cX12_findDoubt 109 = .ok (.iconst 1, 1) := by decide +kernel
theorem dX12_findDoubt_110 : decode cX12_findDoubt 110 = .ok (.goto 9, 3) := by decide +kernel
theorem dX12_findDoubt_113 : decode cX12_findDoubt 113 = .ok (.aload_n 0, 1) := by decide +kernel
theorem dX12_findDoubt_114 : decode cX12_findDoubt 114 = .ok (.getfield 453, 3) := by decide +kernel
theorem dX12_findDoubt_117 : decode cX12_findDoubt 117 = .ok (.iconst 1, 1) := by decide +kernel
theorem dX12_findDoubt_118 : decode cX12_findDoubt 118 = .ok (.iadd, 1) := by decide +kernel
theorem dX12_findDoubt_119 : decode cX12_findDoubt 119 = .ok (.putfield 453, 3) := by decide +kernel
theorem dX12_findDoubt_122 : decode cX12_findDoubt 122 = .ok (.aload_n 0, 1) := by decide +kernel
theorem dX12_findDoubt_123 : decode cX12_findDoubt 123 = .ok (.iload 5, 2) := by decide +kernel
theorem dX12_findDoubt_125 : decode cX12_findDoubt 125 = .ok (.ifCond .eq 11, 3) := by decide +kernel
theorem dX12_findDoubt_128 : decode cX12_findDoubt 128 = .ok (.aload_n 0, 1) := by decide +kernel
theorem dX12_findDoubt_129 : decode cX12_findDoubt 129 = .ok (.iload_n 3, 1) := by decide +kernel
theorem dX12_findDoubt_130 : decode cX12_findDoubt 130 = .ok (.invokevirtual 435, 3) := by decide +kernel
theorem dX12_findDoubt_133 : decode cX12_findDoubt 133 = .ok (.goto 7, 3) := by decide +kernel
theorem dX12_findDoubt_136 : decode cX12_findDoubt 136 = .ok (.aload_n 0, 1) := by decide +kernel
theorem dX12_findDoubt_137 : decode cX12_findDoubt 137 = .ok (.getfield 450, 3) := by decide +kernel
theorem dX12_findDoubt_140 : decode cX12_findDoubt 140 = .ok (.putfield 450, 3) := by decide +kernel
theorem dX12_findDoubt_143 : decode cX12_findDoubt 143 = .ok (.aload_n 0, 1) := by decide +kernel
theorem dX12_findDoubt_144 : decode cX12_findDoubt 144 = .ok (.iload 4, 2) := by decide +kernel
theorem dX12_findDoubt_146 : decode cX12_findDoubt 146 = .ok (.putfield 447, 3) := by decide +kernel
theorem dX12_findDoubt_149 : decode cX12_findDoubt 149 = .ok (.iinc 3 1, 3) := by decide +kernel
theorem dX12_findDoubt_152 : decode cX12_findDoubt 152 = .ok (.goto (-116), 3) := by decide +kernel
theorem dX12_findDoubt_155 : decode cX12_findDoubt 155 = .ok (.iconst 1, 1) := by decide +kernel
theorem dX12_findDoubt_156 : decode cX12_findDoubt 156 = .ok (.ireturn, 1) := by decide +kernel
theorem dX12_doubt_0 : decode cX12_doubt 0 = .ok (.iload_n 1, 1) := by decide +kernel
theorem dX12_doubt_1 : decode cX12_doubt 1 = .ok (.invokestatic 212, 3) := by decide +kernel
theorem dX12_doubt_4 : decode cX12_doubt 4 = .ok (.ifCond .ne 10, 3) := by decide +kernel
theorem dX12_doubt_7 : decode cX12_doubt 7 = .ok (.aload_n 0, 1) := by decide +kernel
theorem dX12_doubt_8 : decode cX12_doubt 8 = .ok (.bipush (-2), 2) := by decide +kernel
theorem dX12_doubt_10 : decode cX12_doubt 10 = .ok (.invokevirtual 177, 3) := by decide +kernel
theorem dX12_doubt_13 : decode cX12_doubt 13 = .ok (.ireturn, 1) := by decide +kernel
theorem dX12_doubt_14 : decode cX12_doubt 14 = .ok (.aload_n 0, 1) := by decide +kernel
theorem dX12_doubt_15 : decode cX12_doubt 15 = .ok (.iload_n 1, 1) := by decide +kernel
theorem dX12_doubt_16 : decode cX12_doubt 16 = .ok (.invokevirtual 459, 3) := by decide +kernel
theorem dX12_doubt_19 : decode cX12_doubt 19 = .ok (.ifCond .eq 10, 3) := by decide +kernel
theorem dX12_doubt_22 : decode cX12_doubt 22 = .ok (.aload_n 0, 1) := by decide +kernel
theorem dX12_doubt_23 : decode cX12_doubt 23 = .ok (.getfield 447, 3) := by decide +kernel
theorem dX12_doubt_26 : decode cX12_doubt 26 = .ok (.goto 9, 3) := by decide +kernel
theorem dX12_doubt_29 : decode cX12_doubt 29 = .ok (.aload_n 0, 1) := by decide +kernel
theorem dX12_doubt_30 : decode cX12_doubt 30 = .ok (.bipush (-5), 2) := by decide +kernel
theorem dX12_doubt_32 : decode cX12_doubt 32 = .ok (.invokevirtual 177, 3) := by decide +kernel
theorem dX12_doubt_35 : decode cX12_doubt 35 = .ok (.ireturn, 1) := by decide +kernel
theorem dX12_drops_0 : decode cX12_drops 0 = .ok (.iload_n 1, 1) := by decide +kernel
theorem dX12_drops_1 : decode cX12_drops 1 = .ok (.invokestatic 212, 3) := by decide +kernel
theorem dX12_drops_4 : decode cX12_drops 4 = .ok (.ifCond .ne 10, 3) := by decide +kernel
theorem dX12_drops_7 : decode cX12_drops 7 = .ok (.aload_n 0, 1) := by decide +kernel
theorem dX12_drops_8 : decode cX12_drops 8 = .ok (.bipush (-2), 2) := by decide +kernel
theorem dX12_drops_10 : decode cX12_drops 10 = .ok (.invokevirtual 177, 3) := by decide +kernel
theorem dX12_drops_13 : decode cX12_drops 13 = .ok (.ireturn, 1) := by decide +kernel
theorem dX12_drops_14 : decode cX12_drops 14 = .ok (.aload_n 0, 1) := by decide +kernel
theorem dX12_drops_15 : decode cX12_drops 15 = .ok (.iload_n 1, 1) := by decide +kernel
theorem dX12_drops_16 : decode cX12_drops 16 = .ok (.invokevirtual 459, 3) := by decide +kernel
theorem dX12_drops_19 : decode cX12_drops 19 = .ok (.ifCond .eq 10, 3) := by decide +kernel
theorem dX12_drops_22 : decode cX12_drops 22 = .ok (.aload_n 0, 1) := by decide +kernel
theorem dX12_drops_23 : decode cX12_drops 23 = .ok (.getfield 450, 3) := by decide +kernel
theorem dX12_drops_26 : decode cX12_drops 26 = .ok (.goto 9, 3) := by decide +kernel
theorem dX12_drops_29 : decode cX12_drops 29 = .ok (.aload_n 0, 1) := by decide +kernel
theorem dX12_drops_30 : decode cX12_drops 30 = .ok (.bipush (-5), 2) := by decide +kernel
theorem dX12_drops_32 : decode cX12_drops 32 = .ok (.invokevirtual 177, 3) := by decide +kernel
theorem dX12_drops_35 : decode cX12_drops 35 = .ok (.ireturn, 1) := by decide +kernel
theorem dX12_rival_0 : decode cX12_rival 0 = .ok (.iload_n 1, 1) := by decide +kernel
theorem dX12_rival_1 : decode cX12_rival 1 = .ok (.invokestatic 212, 3) := by decide +kernel
theorem dX12_rival_4 : decode cX12_rival 4 = .ok (.ifCond .ne 10, 3) := by decide +kernel
theorem dX12_rival_7 : decode cX12_rival 7 = .ok (.aload_n 0, 1) := by decide +kernel
theorem dX12_rival_8 : decode cX12_rival 8 = .ok (.bipush (-2), 2) := by decide +kernel
theorem dX12_rival_10 : decode cX12_rival 10 = .ok (.invokevirtual 177, 3) := by decide +kernel
theorem dX12_rival_13 : decode cX12_rival 13 = .ok (.ireturn, 1) := by decide +kernel
theorem dX12_rival_14 : decode cX12_rival 14 = .ok (.aload_n 0, 1) := by decide +kernel
theorem dX12_rival_15 : decode cX12_rival 15 = .ok (.iload_n 1, 1) := by decide +kernel
theorem dX12_rival_16 : decode cX12_rival 16 = .ok (.invokevirtual 459, 3) := by decide +kernel
theorem dX12_rival_19 : decode cX12_rival 19 = .ok (.ifCond .eq 10, 3) := by decide +kernel
theorem dX12_rival_22 : decode cX12_rival 22 = .ok (.aload_n 0, 1) := by decide +kernel
theorem dX12_rival_23 : decode cX12_rival 23 = .ok (.getfield 453, 3) := by decide +kernel
theorem dX12_rival_26 : decode cX12_rival 26 = .ok (.goto 9, 3) := by decide +kernel
theorem dX12_rival_29 : decode cX12_rival 29 = .ok (.aload_n 0, 1) := by decide +kernel
theorem dX12_rival_30 : decode cX12_rival 30 = .ok (.bipush (-5), 2) := by decide +kernel
theorem dX12_rival_32 : decode cX12_rival 32 = .ok (.invokevirtual 177, 3) := by decide +kernel
theorem dX12_rival_35 : decode cX12_rival 35 = .ok (.ireturn, 1) := by decide +kernel
theorem dX12_word_0 : decode cX12_word 0 = .ok (.iload_n 1, 1) := by decide +kernel
theorem dX12_word_1 : decode cX12_word 1 = .ok (.i2l, 1) := by decide +kernel
theorem dX12_word_2 : decode cX12_word 2 = .ok (.lconst 0, 1) := by decide +kernel
theorem dX12_word_3 : decode cX12_word 3 = .ok (.ldc2_w 210, 3) := by decide +kernel
theorem dX12_word_6 : decode cX12_word 6 = .ok (.invokestatic 159, 3) := by decide +kernel
theorem dX12_word_9 : decode cX12_word 9 = .ok (.ifCond .eq 10, 3) := by decide +kernel
theorem dX12_word_12 : decode cX12_word 12 = .ok (.iload_n 2, 1) := by decide +kernel
theorem dX12_word_13 : decode cX12_word 13 = .ok (.invokestatic 212, 3) := by decide +kernel
theorem dX12_word_16 : decode cX12_word 16 = .ok (.ifCond .ne 10, 3) := by decide +kernel
theorem dX12_word_19 : decode cX12_word 19 = .ok (.aload_n 0, 1) := by decide +kernel
theorem dX12_word_20 : decode cX12_word 20 = .ok (.bipush (-2), 2) := by decide +kernel
theorem dX12_word_22 : decode cX12_word 22 = .ok (.invokevirtual 177, 3) := by decide +kernel
theorem dX12_word_25 : decode cX12_word 25 = .ok (.ireturn, 1) := by decide +kernel
theorem dX12_word_26 : decode cX12_word 26 = .ok (.aload_n 0, 1) := by decide +kernel
theorem dX12_word_27 : decode cX12_word 27 = .ok (.getfield 79, 3) := by decide +kernel
theorem dX12_word_30 : decode cX12_word 30 = .ok (.iload_n 1, 1) := by decide +kernel
theorem dX12_word_31 : decode cX12_word 31 = .ok (.iaload, 1) := by decide +kernel
theorem dX12_word_32 : decode cX12_word 32 = .ok (.istore_n 3, 1) := by decide +kernel
theorem dX12_word_33 : decode cX12_word 33 = .ok (.iconst (-1), 1) := by decide +kernel
theorem dX12_word_34 : decode cX12_word 34 = .ok (.istore 4, 2) := by decide +kernel
theorem dX12_word_36 : decode cX12_word 36 = .ok (.iconst 0, 1) := by decide +kernel
theorem dX12_word_37 : decode cX12_word 37 = .ok (.istore 5, 2) := by decide +kernel
theorem dX12_word_39 : decode cX12_word 39 = .ok (.iconst 0, 1) := by decide +kernel
theorem dX12_word_40 : decode cX12_word 40 = .ok (.istore 6, 2) := by decide +kernel
theorem dX12_word_42 : decode cX12_word 42 = .ok (.iconst 0, 1) := by decide +kernel
theorem dX12_word_43 : decode cX12_word 43 = .ok (.istore 7, 2) := by decide +kernel
theorem dX12_word_45 : decode cX12_word 45 = .ok (.iload 7, 2) := by decide +kernel
theorem dX12_word_47 : decode cX12_word 47 = .ok (.bipush 8, 2) := by decide +kernel
theorem dX12_word_49 : decode cX12_word 49 = .ok (.if_icmp .ge 83, 3) := by decide +kernel
theorem dX12_word_52 : decode cX12_word 52 = .ok (.iload 6, 2) := by decide +kernel
theorem dX12_word_54 : decode cX12_word 54 = .ok (.ifCond .ne 78, 3) := by decide +kernel
theorem dX12_word_57 : decode cX12_word 57 = .ok (.aload_n 0, 1) := by decide +kernel
theorem dX12_word_58 : decode cX12_word 58 = .ok (.getfield 79, 3) := by decide +kernel
theorem dX12_word_61 : decode cX12_word 61 = .ok (.iload_n 1, 1) := by decide +kernel
theorem dX12_word_62 : decode cX12_word 62 = .ok (.iload 7, 2) := by decide +kernel
theorem dX12_word_64 : decode cX12_word 64 = .ok (.iastore, 1) := by decide +kernel
theorem dX12_word_65 : decode cX12_word 65 = .ok (.aload_n 0, 1) := by decide +kernel
theorem dX12_word_66 : decode cX12_word 66 = .ok (.iconst 0, 1) := by decide +kernel
theorem dX12_word_67 : decode cX12_word 67 = .ok (.putfield 206, 3) := by decide +kernel
theorem dX12_word_70 : decode cX12_word 70 = .ok (.aload_n 0, 1) := by decide +kernel
theorem dX12_word_71 : decode cX12_word 71 = .ok (.iload_n 2, 1) := by decide +kernel
theorem dX12_word_72 : decode cX12_word 72 = .ok (.invokevirtual 459, 3) := by decide +kernel
theorem dX12_word_75 : decode cX12_word 75 = .ok (.ifCond .ne 7, 3) := by decide +kernel
theorem dX12_word_78 : decode cX12_word 78 = .ok (.iconst 1, 1) := by decide +kernel
theorem dX12_word_79 : decode cX12_word 79 = .ok (.goto 4, 3) := by decide +kernel
theorem dX12_word_82 : decode cX12_word 82 = .ok (.iconst 0, 1) := by decide +kernel
theorem dX12_word_83 : decode cX12_word 83 = .ok (.istore 6, 2) := by decide +kernel
theorem dX12_word_85 : decode cX12_word 85 = .ok (.aload_n 0, 1) := by decide +kernel
theorem dX12_word_86 : decode cX12_word 86 = .ok (.getfield 447, 3) := by decide +kernel
theorem dX12_word_89 : decode cX12_word 89 = .ok (.iconst (-1), 1) := by decide +kernel
theorem dX12_word_90 : decode cX12_word 90 = .ok (.if_icmp .ne 9, 3) := by decide +kernel
theorem dX12_word_93 : decode cX12_word 93 = .ok (.ldc_w 462, 3) := by decide +kernel
theorem dX12_word_96 : decode cX12_word 96 = .ok (.goto 7, 3) := by decide +kernel
theorem dX12_word_99 : decode cX12_word 99 = .ok (.aload_n 0, 1) := by decide +kernel
theorem dX12_word_100 : decode cX12_word 100 = .ok (.getfield 447, 3) := by decide +kernel
theorem dX12_word_103 : decode cX12_word 103 = .ok (.istore 8, 2) := by decide +kernel
theorem dX12_word_105 : decode cX12_word 105 = .ok (.iload 4, 2) := by decide +kernel
theorem dX12_word_107 : decode cX12_word 107 = .ok (.iconst (-1), 1) := by decide +kernel
theorem dX12_word_108 : decode cX12_word 108 = .ok (.if_icmp .eq 10, 3) := by decide +kernel
theorem dX12_word_111 : decode cX12_word 111 = .ok (.iload 8, 2) := by decide +kernel
theorem dX12_word_113 : decode cX12_word 113 = .ok (.iload 5, 2) := by decide +kernel
theorem dX12_word_115 : decode cX12_word 115 = .ok (.if_icmp .ge 11, 3) := by decide +kernel
theorem dX12_word_118 : decode cX12_word 118 = .ok (.iload 7, 2) := by decide +kernel
theorem dX12_word_120 : decode cX12_word 120 = .ok (.istore 4, 2) := by decide +kernel
theorem dX12_word_122 : decode cX12_word 122 = .ok (.iload 8, 2) := by decide +kernel
theorem dX12_word_124 : decode cX12_word 124 = .ok (.istore 5, 2) := by decide +kernel
theorem dX12_word_126 : decode cX12_word 126 = .ok (.iinc 7 1, 3) := by decide +kernel
theorem dX12_word_129 : decode cX12_word 129 = .ok (.goto (-84), 3) := by decide +kernel
theorem dX12_word_132 : decode cX12_word 132 = .ok (.aload_n 0, 1) := by decide +kernel
theorem dX12_word_133 : decode cX12_word 133 = .ok (.getfield 79, 3) := by decide +kernel
theorem dX12_word_136 : decode cX12_word 136 = .ok (.iload_n 1, 1) := by decide +kernel
theorem dX12_word_137 : decode cX12_word 137 = .ok (.iload_n 3, 1) := by decide +kernel
theorem dX12_word_138 : decode cX12_word 138 = .ok (.iastore, 1) := by decide +kernel
theorem dX12_word_139 : decode cX12_word 139 = .ok (.aload_n 0, 1) := by decide +kernel
theorem dX12_word_140 : decode cX12_word 140 = .ok (.iconst 0, 1) := by decide +kernel
theorem dX12_word_141 : decode cX12_word 141 = .ok (.putfield 206, 3) := by decide +kernel
theorem dX12_word_144 : decode cX12_word 144 = .ok (.iload 6, 2) := by decide +kernel
theorem dX12_word_146 : decode cX12_word 146 = .ok (.ifCond .eq 12, 3) := by decide +kernel
theorem dX12_word_149 : decode cX12_word 149 = .ok (.aload_n 0, 1) := by decide +kernel
theorem dX12_word_150 : decode cX12_word 150 = .ok (.bipush (-5), 2) := by decide +kernel
theorem dX12_word_152 : decode cX12_word 152 = .ok (.invokevirtual 177, 3) := by decide +kernel
theorem dX12_word_155 : decode cX12_word 155 = .ok (.goto 5, 3) := by decide +kernel
theorem dX12_word_158 : decode cX12_word 158 = .ok (.iload 4, 2) := by decide +kernel
theorem dX12_word_160 : decode cX12_word 160 = .ok (.ireturn, 1) := by decide +kernel
theorem dX12_findSettle_0 : decode cX12_findSettle 0 = .ok (.aload_n 0, 1) := by decide +kernel
theorem dX12_findSettle_1 : decode cX12_findSettle 1 = .ok (.iconst (-1), 1) := by decide +kernel
theorem dX12_findSettle_2 : decode cX12_findSettle 2 = .ok (.putfield 463, 3) := by decide +kernel
theorem dX12_findSettle_5 : decode cX12_findSettle 5 = .ok (.aload_n 0, 1) := by decide +kernel
theorem dX12_findSettle_6 : decode cX12_findSettle 6 = .ok (.iconst 0, 1) := by decide +kernel
theorem dX12_findSettle_7 : decode cX12_findSettle 7 = .ok (.putfield 466, 3) := by decide +kernel
theorem dX12_findSettle_10 : decode cX12_findSettle 10 = .ok (.aload_n 0, 1) := by decide +kernel
theorem dX12_findSettle_11 : decode cX12_findSettle 11 = .ok (.getfield 156, 3) := by decide +kernel
theorem dX12_findSettle_14 : decode cX12_findSettle 14 = .ok (.i2l, 1) := by decide +kernel
theorem dX12_findSettle_15 : decode cX12_findSettle 15 = .ok (.ldc2_w 469, 3) := by decide +kernel
theorem dX12_findSettle_18 : decode cX12_findSettle 18 = .ok (.ldc2_w 173, 3) := by decide +kernel
theorem dX12_findSettle_21 : decode cX12_findSettle 21 = .ok (.invokestatic 159, 3) := by decide +kernel
theorem dX12_findSettle_24 : decode cX12_findSettle 24 = .ok (.ifCond .ne 5, 3) := by decide +kernel
theorem dX12_findSettle_27 : decode cX12_findSettle 27 = .ok (.iconst 0, 1) := by decide +kernel
theorem dX12_findSettle_28 : decode cX12_findSettle 28 = .ok (.ireturn, 1) := by decide +kernel
theorem dX12_findSettle_29 : decode cX12_findSettle 29 = .ok (.iconst 0, 1) := by decide +kernel
theorem dX12_findSettle_30 : decode cX12_findSettle 30 = .ok (.istore_n 2, 1) := by decide +kernel
theorem dX12_findSettle_31 : decode cX12_findSettle 31 = .ok (.iload_n 2, 1) := by decide +kernel
theorem dX12_findSettle_32 : decode cX12_findSettle 32 = .ok (.bipush 48, 2) := by decide +kernel
theorem dX12_findSettle_34 : decode cX12_findSettle 34 = .ok (.if_icmp .ge 16, 3) := by decide +kernel
theorem dX12_findSettle_37 : decode cX12_findSettle 37 = .ok (.aload_n 0, 1) := by decide +kernel
theorem dX12_findSettle_38 : decode cX12_findSettle 38 = .ok (.getfield 143, 3) := by decide +kernel
theorem dX12_findSettle_41 : decode cX12_findSettle 41 = .ok (.iload_n 2, 1) := by decide +kernel
theorem dX12_findSettle_42 : decode cX12_findSettle 42 = .ok (.iconst 0, 1) := by decide +kernel
theorem dX12_findSettle_43 : decode cX12_findSettle 43 = .ok (.iastore, 1) := by decide +kernel
theorem dX12_findSettle_44 : decode cX12_findSettle 44 = .ok (.iinc 2 1, 3) := by decide +kernel
theorem dX12_findSettle_47 : decode cX12_findSettle 47 = .ok (.goto (-16), 3) := by decide +kernel
theorem dX12_findSettle_50 : decode cX12_findSettle 50 = .ok (.aload_n 0, 1) := by decide +kernel
theorem dX12_findSettle_51 : decode cX12_findSettle 51 = .ok (.iload_n 1, 1) := by decide +kernel
theorem dX12_findSettle_52 : decode cX12_findSettle 52 = .ok (.iconst (-1), 1) := by decide +kernel
theorem dX12_findSettle_53 : decode cX12_findSettle 53 = .ok (.invokevirtual 412, 3) := by decide +kernel
theorem dX12_findSettle_56 : decode cX12_findSettle 56 = .ok (.aload_n 0, 1) := by decide +kernel
theorem dX12_findSettle_57 : decode cX12_findSettle 57 = .ok (.getfield 377, 3) := by decide +kernel
theorem dX12_findSettle_60 : decode cX12_findSettle 60 = .ok (.iconst 1, 1) := by decide +kernel
theorem dX12_findSettle_61 : decode cX12_findSettle 61 = .ok (.if_icmp .ne 65, 3) := by decide +kernel
theorem dX12_findSettle_64 : decode cX12_findSettle 64 = .ok (.iconst 0, 1) := by decide +kernel
theorem dX12_findSettle_65 : decode cX12_findSettle 65 = .ok (.istore_n 2, 1) := by decide +kernel
theorem dX12_findSettle_66 : decode cX12_findSettle 66 = .ok (.iload_n 2, 1) := by decide +kernel
theorem dX12_findSettle_67 : decode cX12_findSettle 67 = .ok (.aload_n 0, 1) := by decide +kernel
theorem dX12_findSettle_68 : decode cX12_findSettle 68 = .ok (.getfield 365, 3) := by decide +kernel
theorem dX12_findSettle_71 : decode cX12_findSettle 71 = .ok (.if_icmp .ge 48, 3) := by decide +kernel
theorem dX12_findSettle_74 : decode cX12_findSettle 74 = .ok (.aload_n 0, 1) := by decide +kernel
theorem dX12_findSettle_75 : decode cX12_findSettle 75 = .ok (.getfield 143, 3) := by decide +kernel
theorem dX12_findSettle_78 : decode cX12_findSettle 78 = .ok (.bipush 8, 2) := by decide +kernel
theorem dX12_findSettle_80 : decode cX12_findSettle 80 = .ok (.iload_n 2, 1) := by decide +kernel
theorem dX12_findSettle_81 : decode cX12_findSettle 81 = .ok (.imul, 1) := by decide +kernel
theorem dX12_findSettle_82 : decode cX12_findSettle 82 = .ok (.aload_n 0, 1) := by decide +kernel
theorem dX12_findSettle_83 : decode cX12_findSettle 83 = .ok (.getfield 97, 3) := by decide +kernel
theorem dX12_findSettle_86 : decode cX12_findSettle 86 = .ok (.aload_n 0, 1) := by decide +kernel
theorem dX12_findSettle_87 : decode cX12_findSettle 87 = .ok (.getfield 368, 3) := by decide +kernel
theorem dX12_findSettle_90 : decode cX12_findSettle 90 = .ok (.aaload, 1) := by decide +kernel
theorem dX12_findSettle_91 : decode cX12_findSettle 91 = .ok (.iload_n 2, 1) := by decide +kernel
theorem dX12_findSettle_92 : decode cX12_findSettle 92 = .ok (.invokestatic 380, 3) := by decide +kernel
theorem dX12_findSettle_95 : decode cX12_findSettle 95 = .ok (.bipush 10, 2) := by decide +kernel
theorem dX12_findSettle_97 : decode cX12_findSettle 97 = .ok (.imul, 1) := by decide +kernel
theorem dX12_findSettle_98 : decode cX12_findSettle 98 = .ok (.iload_n 2, 1) := by decide +kernel
theorem dX12_findSettle_99 : decode cX12_findSettle 99 = .ok (.invokestatic 359, 3) := by decide +kernel
theorem dX12_findSettle_102 : decode cX12_findSettle 102 = .ok (.iadd, 1) := by decide +kernel
theorem dX12_findSettle_103 : decode cX12_findSettle 103 = .ok (.iaload, 1) := by decide +kernel
theorem dX12_findSettle_104 : decode cX12_findSettle 104 = .ok (.invokestatic 418, 3) := by decide +kernel
theorem dX12_findSettle_107 : decode cX12_findSettle 107 = .ok (.iadd, 1) := by decide +kernel
theorem dX12_findSettle_108 : decode cX12_findSettle 108 = .ok (.dup2, 1) := by decide +kernel
theorem dX12_findSettle_109 : decode cX12_findSettle 109 = .ok (.iaload, 1) := by decide +kernel
theorem dX12_findSettle_110 : decode cX12_findSettle 110 = .ok (.iconst 1, 1) := by decide +kernel
theorem dX12_findSettle_111 : decode cX12_findSettle 111 = .ok (.iadd, 1) := by decide +kernel
theorem dX12_findSettle_112 : decode cX12_findSettle 112 = .ok (.iastore, 1) := by decide +kernel
theorem dX12_findSettle_113 : decode cX12_findSettle 113 = .ok (.iinc 2 1, 3) := by decide +kernel
theorem dX12_findSettle_116 : decode cX12_findSettle 116 = .ok (.goto (-50), 3) := by decide +kernel
theorem dX12_findSettle_119 : decode cX12_findSettle 119 = .ok (.aload_n 0, 1) := by decide +kernel
theorem dX12_findSettle_120 : decode cX12_findSettle 120 = .ok (.invokevirtual 423, 3) := by decide +kernel
theorem dX12_findSettle_123 : decode cX12_findSettle 123 = .ok (.goto (-67), 3) := by decide +kernel
theorem dX12_findSettle_126 : decode cX12_findSettle 126 = .ok (.aload_n 0, 1) := by decide +kernel
theorem dX12_findSettle_127 : decode cX12_findSettle 127 = .ok (.getfield 377, 3) := by decide +kernel
theorem dX12_findSettle_130 : decode cX12_findSettle 130 = .ok (.iconst 3, 1) := by decide +kernel
theorem dX12_findSettle_131 : decode cX12_findSettle 131 = .ok (.if_icmp .ne 5, 3) := by decide +kernel
theorem dX12_findSettle_134 : decode cX12_findSettle 134 = .ok (.iconst 0, 1) := by decide +kernel
theorem dX12_findSettle_135 : decode cX12_findSettle 135 = .ok (.ireturn, 1) := by decide +kernel
theorem dX12_findSettle_136 : decode cX12_findSettle 136 = .ok (.iconst 0, 1) := by decide +kernel
theorem dX12_findSettle_137 : decode cX12_findSettle 137 = .ok (.istore_n 2, 1) := by decide +kernel
theorem dX12_findSettle_138 : decode cX12_findSettle 138 = .ok (.iload_n 2, 1) := by decide +kernel
theorem dX12_findSettle_139 : decode cX12_findSettle 139 = .ok (.aload_n 0, 1) := by decide +kernel
theorem dX12_findSettle_140 : decode cX12_findSettle 140 = .ok (.getfield 365, 3) := by decide +kernel
theorem dX12_findSettle_143 : decode cX12_findSettle 143 = .ok (.if_icmp .ge 101, 3) := by decide +kernel
theorem dX12_findSettle_146 : decode cX12_findSettle 146 = .ok (.iconst 0, 1) := by decide +kernel
theorem dX12_findSettle_147 : decode cX12_findSettle 147 = .ok (.istore_n 3, 1) := by decide +kernel
theorem dX12_findSettle_148 : decode cX12_findSettle 148 = .ok (.iconst 0, 1) := by decide +kernel
theorem dX12_findSettle_149 : decode cX12_findSettle 149 = .ok (.istore 4, 2) := by decide +kernel
theorem dX12_findSettle_151 : decode cX12_findSettle 151 = .ok (.iload 4, 2) := by decide +kernel
theorem dX12_findSettle_153 : decode cX12_findSettle 153 = .ok (.bipush 8, 2) := by decide +kernel
theorem dX12_findSettle_155 : decode cX12_findSettle 155 = .ok (.if_icmp .ge 42, 3) := by decide +kernel
theorem dX12_findSettle_158 : decode cX12_findSettle 158 = .ok (.aload_n 0, 1) := by decide +kernel
theorem dX12_findSettle_159 : decode cX12_findSettle 159 = .ok (.getfield 143, 3) := by decide +kernel
theorem dX12_findSettle_162 : decode cX12_findSettle 162 = .ok (.bipush 8, 2) := by decide +kernel
theorem dX12_findSettle_164 : decode cX12_findSettle 164 = .ok (.iload_n 2, 1) := by decide +kernel
theorem dX12_findSettle_165 : decode cX12_findSettle 165 = .ok (.imul, 1) := by decide +kernel
theorem dX12_findSettle_166 : decode cX12_findSettle 166 = .ok (.iload 4, 2) := by decide +kernel
theorem dX12_findSettle_168 : decode cX12_findSettle 168 = .ok (.iadd, 1) := by decide +kernel
theorem dX12_findSettle_169 : decode cX12_findSettle 169 = .ok (.iaload, 1) := by decide +kernel
theorem dX12_findSettle_170 : decode cX12_findSettle 170 = .ok (.iload_n 3, 1) := by decide +kernel
theorem dX12_findSettle_171 : decode cX12_findSettle 171 = .ok (.if_icmp .le 18, 3) := by decide +kernel
theorem dX12_findSettle_174 : decode cX12_findSettle 174 = .ok (.aload_n 0, 1) := by decide +kernel
theorem dX12_findSettle_175 : decode cX12_findSettle 175 = .ok (.getfield 143, 3) := by decide +kernel
theorem dX12_findSettle_178 : decode cX12_findSettle 178 = .ok (.bipush 8, 2) := by decide +kernel
theorem dX12_findSettle_180 : decode cX12_findSettle 180 = .ok (.iload_n 2, 1) := by decide +kernel
theorem dX12_findSettle_181 : decode cX12_findSettle 181 = .ok (.imul, 1) := by decide +kernel
theorem dX12_findSettle_182 : decode cX12_findSettle 182 = .ok (.iload 4, 2) := by decide +kernel
theorem dX12_findSettle_184 : decode cX12_findSettle 184 = .ok (.iadd, 1) := by decide +kernel
theorem dX12_findSettle_185 : decode cX12_findSettle 185 = .ok (.iaload, 1) := by decide +kernel
theorem dX12_findSettle_186 : decode cX12_findSettle 186 = .ok (.goto 4, 3) := by decide +kernel
theorem dX12_findSettle_189 : decode cX12_findSettle 189 = .ok (.iload_n 3, 1) := by decide +kernel
theorem dX12_findSettle_190 : decode cX12_findSettle 190 = .ok (.istore_n 3, 1) := by decide +kernel
theorem dX12_findSettle_191 : decode cX12_findSettle 191 = .ok (.iinc 4 1, 3) := by decide +kernel
theorem dX12_findSettle_194 : decode cX12_findSettle 194 = .ok (.goto (-43), 3) := by decide +kernel
theorem dX12_findSettle_197 : decode cX12_findSettle 197 = .ok (.iload_n 3, 1) := by decide +kernel
theorem dX12_findSettle_198 : decode cX12_findSettle 198 = .ok (.ifCond .le 40, 3) := by decide +kernel
theorem dX12_findSettle_201 : decode cX12_findSettle 201 = .ok (.aload_n 0, 1) := by decide +kernel
theorem dX12_findSettle_202 : decode cX12_findSettle 202 = .ok (.getfield 463, 3) := by decide +kernel
theorem dX12_findSettle_205 : decode cX12_findSettle 205 = .ok (.iconst (-1), 1) := by decide +kernel
theorem dX12_findSettle_206 : decode cX12_findSettle 206 = .ok (.if_icmp .eq 11, 3) := by decide +kernel
theorem dX12_findSettle_209 : decode cX12_findSettle 209 = .ok (.iload_n 3, 1) := by decide +kernel
theorem dX12_findSettle_210 : decode cX12_findSettle 210 = .ok (.aload_n 0, 1) := by decide +kernel
theorem dX12_findSettle_211 : decode cX12_findSettle 211 = .ok (.getfield 466, 3) := by decide +kernel
theorem dX12_findSettle_214 : decode cX12_findSettle 214 = .ok (.if_icmp .ge 24, 3) := by decide +kernel
theorem dX12_findSettle_217 : decode cX12_findSettle 217 = .ok (.aload_n 0, 1) := by decide +kernel
theorem dX12_findSettle_218 : decode cX12_findSettle 218 = .ok (.bipush 100, 2) := by decide +kernel
theorem dX12_findSettle_220 : decode cX12_findSettle 220 = .ok (.iload_n 2, 1) := by decide +kernel
theorem dX12_findSettle_221 : decode cX12_findSettle 221 = .ok (.invokestatic 380, 3) := by decide +kernel
theorem dX12_findSettle_224 : decode cX12_findSettle 224 = .ok (.imul, 1) := by decide +kernel
theorem dX12_findSettle_225 : decode cX12_findSettle 225 = .ok (.iload_n 2, 1) := by decide +kernel
theorem dX12_findSettle_226 : decode cX12_findSettle 226 = .ok (.invokestatic 359, 3) := by decide +kernel
theorem dX12_findSettle_229 : decode cX12_findSettle 229 = .ok (.iadd, 1) := by decide +kernel
theorem dX12_findSettle_230 : decode cX12_findSettle 230 = .ok (.putfield 463, 3) := by decide +kernel
theorem dX12_findSettle_233 : decode cX12_findSettle 233 = .ok (.aload_n 0, 1) := by decide +kernel
theorem dX12_findSettle_234 : decode cX12_findSettle 234 = .ok (.iload_n 3, 1) := by decide +kernel
theorem dX12_findSettle_235 : decode cX12_findSettle 235 = .ok (.putfield 466, 3) := by decide +kernel
theorem dX12_findSettle_238 : decode cX12_findSettle 238 = .ok (.iinc 2 1, 3) := by decide +kernel
theorem dX12_findSettle_241 : decode cX12_findSettle 241 = .ok (.goto (-103), 3) := by decide +kernel
theorem dX12_findSettle_244 : decode cX12_findSettle 244 = .ok (.iconst 1, 1) := by decide +kernel
theorem dX12_findSettle_245 : decode cX12_findSettle 245 = .ok (.ireturn, 1) := by decide +kernel
theorem dX12_settle_0 : decode cX12_settle 0 = .ok (.iload_n 1, 1) := by decide +kernel
theorem dX12_settle_1 : decode cX12_settle 1 = .ok (.invokestatic 212, 3) := by decide +kernel
theorem dX12_settle_4 : decode cX12_settle 4 = .ok (.ifCond .ne 10, 3) := by decide +kernel
theorem dX12_settle_7 : decode cX12_settle 7 = .ok (.aload_n 0, 1) := by decide +kernel
theorem dX12_settle_8 : decode cX12_settle 8 = .ok (.bipush (-2), 2) := by decide +kernel
theorem dX12_settle_10 : decode cX12_settle 10 = .ok (.invokevirtual 177, 3) := by decide +kernel
theorem dX12_settle_13 : decode cX12_settle 13 = .ok (.ireturn, 1) := by decide +kernel
theorem dX12_settle_14 : decode cX12_settle 14 = .ok (.aload_n 0, 1) := by decide +kernel
theorem dX12_settle_15 : decode cX12_settle 15 = .ok (.iload_n 1, 1) := by decide +kernel
theorem dX12_settle_16 : decode cX12_settle 16 = .ok (.invokevirtual 471, 3) := by decide +kernel
theorem dX12_settle_19 : decode cX12_settle 19 = .ok (.ifCond .eq 10, 3) := by decide +kernel
theorem dX12_settle_22 : decode cX12_settle 22 = .ok (.aload_n 0, 1) := by decide +kernel
theorem dX12_settle_23 : decode cX12_settle 23 = .ok (.getfield 463, 3) := by decide +kernel
theorem dX12_settle_26 : decode cX12_settle 26 = .ok (.goto 9, 3) := by decide +kernel
theorem dX12_settle_29 : decode cX12_settle 29 = .ok (.aload_n 0, 1) := by decide +kernel
theorem dX12_settle_30 : decode cX12_settle 30 = .ok (.bipush (-5), 2) := by decide +kernel
theorem dX12_settle_32 : decode cX12_settle 32 = .ok (.invokevirtual 177, 3) := by decide +kernel
theorem dX12_settle_35 : decode cX12_settle 35 = .ok (.ireturn, 1) := by decide +kernel
theorem dX12_left_0 : decode cX12_left 0 = .ok (.iload_n 1, 1) := by decide +kernel
theorem dX12_left_1 : decode cX12_left 1 = .ok (.invokestatic 212, 3) := by decide +kernel
theorem dX12_left_4 : decode cX12_left 4 = .ok (.ifCond .ne 10, 3) := by decide +kernel
theorem dX12_left_7 : decode cX12_left 7 = .ok (.aload_n 0, 1) := by decide +kernel
theorem dX12_left_8 : decode cX12_left 8 = .ok (.bipush (-2), 2) := by decide +kernel
theorem dX12_left_10 : decode cX12_left 10 = .ok (.invokevirtual 177, 3) := by decide +kernel
theorem dX12_left_13 : decode cX12_left 13 = .ok (.ireturn, 1) := by decide +kernel
theorem dX12_left_14 : decode cX12_left 14 = .ok (.aload_n 0, 1) := by decide +kernel
theorem dX12_left_15 : decode cX12_left 15 = .ok (.iload_n 1, 1) := by decide +kernel
theorem dX12_left_16 : decode cX12_left 16 = .ok (.invokevirtual 471, 3) := by decide +kernel
theorem dX12_left_19 : decode cX12_left 19 = .ok (.ifCond .eq 10, 3) := by decide +kernel
theorem dX12_left_22 : decode cX12_left 22 = .ok (.aload_n 0, 1) := by decide +kernel
theorem dX12_left_23 : decode cX12_left 23 = .ok (.getfield 466, 3) := by decide +kernel
theorem dX12_left_26 : decode cX12_left 26 = .ok (.goto 9, 3) := by decide +kernel
theorem dX12_left_29 : decode cX12_left 29 = .ok (.aload_n 0, 1) := by decide +kernel
theorem dX12_left_30 : decode cX12_left 30 = .ok (.bipush (-5), 2) := by decide +kernel
theorem dX12_left_32 : decode cX12_left 32 = .ok (.invokevirtual 177, 3) := by decide +kernel
theorem dX12_left_35 : decode cX12_left 35 = .ok (.ireturn, 1) := by decide +kernel
theorem dX12_ring_0 : decode cX12_ring 0 = .ok (.iload_n 1, 1) := by decide +kernel
theorem dX12_ring_1 : decode cX12_ring 1 = .ok (.i2l, 1) := by decide +kernel
theorem dX12_ring_2 : decode cX12_ring 2 = .ok (.lconst 0, 1) := by decide +kernel
theorem dX12_ring_3 : decode cX12_ring 3 = .ok (.ldc2_w 469, 3) := by decide +kernel
theorem dX12_ring_6 : decode cX12_ring 6 = .ok (.invokestatic 159, 3) := by decide +kernel
theorem dX12_ring_9 : decode cX12_ring 9 = .ok (.ifCond .eq 10, 3) := by decide +kernel
theorem dX12_ring_12 : decode cX12_ring 12 = .ok (.iload_n 2, 1) := by decide +kernel
theorem dX12_ring_13 : decode cX12_ring 13 = .ok (.invokestatic 212, 3) := by decide +kernel
theorem dX12_ring_16 : decode cX12_ring 16 = .ok (.ifCond .ne 10, 3) := by decide +kernel
theorem dX12_ring_19 : decode cX12_ring 19 = .ok (.aload_n 0, 1) := by decide +kernel
theorem dX12_ring_20 : decode cX12_ring 20 = .ok (.bipush (-2), 2) := by decide +kernel
theorem dX12_ring_22 : decode cX12_ring 22 = .ok (.invokevirtual 177, 3) := by decide +kernel
theorem dX12_ring_25 : decode cX12_ring 25 = .ok (.ireturn, 1) := by decide +kernel
theorem dX12_ring_26 : decode cX12_ring 26 = .ok (.aload_n 0, 1) := by decide +kernel
theorem dX12_ring_27 : decode cX12_ring 27 = .ok (.iload_n 1, 1) := by decide +kernel
theorem dX12_ring_28 : decode cX12_ring 28 = .ok (.iload_n 2, 1) := by decide +kernel
theorem dX12_ring_29 : decode cX12_ring 29 = .ok (.iconst (-1), 1) := by decide +kernel
theorem dX12_ring_30 : decode cX12_ring 30 = .ok (.invokevirtual 405, 3) := by decide +kernel
theorem dX12_ring_33 : decode cX12_ring 33 = .ok (.ireturn, 1) := by decide +kernel
theorem dX12_rank_0 : decode cX12_rank 0 = .ok (.iload_n 1, 1) := by decide +kernel
theorem dX12_rank_1 : decode cX12_rank 1 = .ok (.i2l, 1) := by decide +kernel
theorem dX12_rank_2 : decode cX12_rank 2 = .ok (.lconst 0, 1) := by decide +kernel
theorem dX12_rank_3 : decode cX12_rank 3 = .ok (.ldc2_w 469, 3) := by decide +kernel
theorem dX12_rank_6 : decode cX12_rank 6 = .ok (.invokestatic 159, 3) := by decide +kernel
theorem dX12_rank_9 : decode cX12_rank 9 = .ok (.ifCond .eq 18, 3) := by decide +kernel
theorem dX12_rank_12 : decode cX12_rank 12 = .ok (.aload_n 0, 1) := by decide +kernel
theorem dX12_rank_13 : decode cX12_rank 13 = .ok (.iload_n 2, 1) := by decide +kernel
theorem dX12_rank_14 : decode cX12_rank 14 = .ok (.invokevirtual 163, 3) := by decide +kernel
theorem dX12_rank_17 : decode cX12_rank 17 = .ok (.ifCond .eq 10, 3) := by decide +kernel
theorem dX12_rank_20 : decode cX12_rank 20 = .ok (.iload_n 3, 1) := by decide +kernel
theorem dX12_rank_21 : decode cX12_rank 21 = .ok (.invokestatic 212, 3) := by decide +kernel
theorem dX12_rank_24 : decode cX12_rank 24 = .ok (.ifCond .ne 10, 3) := by decide +kernel
theorem dX12_rank_27 : decode cX12_rank 27 = .ok (.aload_n 0, 1) := by decide +kernel
theorem dX12_rank_28 : decode cX12_rank 28 = .ok (.bipush (-2), 2) := by decide +kernel
theorem dX12_rank_30 : decode cX12_rank 30 = .ok (.invokevirtual 177, 3) := by decide +kernel
theorem dX12_rank_33 : decode cX12_rank 33 = .ok (.ireturn, 1) := by decide +kernel
theorem dX12_rank_34 : decode cX12_rank 34 = .ok (.aload_n 0, 1) := by decide +kernel
theorem dX12_rank_35 : decode cX12_rank 35 = .ok (.iload_n 1, 1) := by decide +kernel
theorem dX12_rank_36 : decode cX12_rank 36 = .ok (.iload_n 3, 1) := by decide +kernel
theorem dX12_rank_37 : decode cX12_rank 37 = .ok (.iconst (-1), 1) := by decide +kernel
theorem dX12_rank_38 : decode cX12_rank 38 = .ok (.invokevirtual 405, 3) := by decide +kernel
theorem dX12_rank_41 : decode cX12_rank 41 = .ok (.iconst (-1), 1) := by decide +kernel
theorem dX12_rank_42 : decode cX12_rank 42 = .ok (.if_icmp .eq 10, 3) := by decide +kernel
theorem dX12_rank_45 : decode cX12_rank 45 = .ok (.aload_n 0, 1) := by decide +kernel
theorem dX12_rank_46 : decode cX12_rank 46 = .ok (.bipush (-5), 2) := by decide +kernel
theorem dX12_rank_48 : decode cX12_rank 48 = .ok (.invokevirtual 177, 3) := by decide +kernel
theorem dX12_rank_51 : decode cX12_rank 51 = .ok (.ireturn, 1) := by decide +kernel
theorem dX12_rank_52 : decode cX12_rank 52 = .ok (.iconst 0, 1) := by decide +kernel
theorem dX12_rank_53 : decode cX12_rank 53 = .ok (.istore 4, 2) := by decide +kernel
theorem dX12_rank_55 : decode cX12_rank 55 = .ok (.iload 4, 2) := by decide +kernel
theorem dX12_rank_57 : decode cX12_rank 57 = .ok (.aload_n 0, 1) := by decide +kernel
theorem dX12_rank_58 : decode cX12_rank 58 = .ok (.getfield 156, 3) := by decide +kernel
theorem dX12_rank_61 : decode cX12_rank 61 = .ok (.if_icmp .ge 17, 3) := by decide +kernel
theorem dX12_rank_64 : decode cX12_rank 64 = .ok (.aload_n 0, 1) := by decide +kernel
theorem dX12_rank_65 : decode cX12_rank 65 = .ok (.getfield 146, 3) := by decide +kernel
theorem dX12_rank_68 : decode cX12_rank 68 = .ok (.iload 4, 2) := by decide +kernel
theorem dX12_rank_70 : decode cX12_rank 70 = .ok (.iconst 0, 1) := by decide +kernel
theorem dX12_rank_71 : decode cX12_rank 71 = .ok (.iastore, 1) := by decide +kernel
theorem dX12_rank_72 : decode cX12_rank 72 = .ok (.iinc 4 1, 3) := by decide +kernel
theorem dX12_rank_75 : decode cX12_rank 75 = .ok (.goto (-20), 3) := by decide +kernel
theorem dX12_rank_78 : decode cX12_rank 78 = .ok (.iconst 0, 1) := by decide +kernel
theorem dX12_rank_79 : decode cX12_rank 79 = .ok (.istore 4, 2) := by decide +kernel
theorem dX12_rank_81 : decode cX12_rank 81 = .ok (.iload 4, 2) := by decide +kernel
theorem dX12_rank_83 : decode cX12_rank 83 = .ok (.aload_n 0, 1) := by decide +kernel
theorem dX12_rank_84 : decode cX12_rank 84 = .ok (.getfield 156, 3) := by decide +kernel
theorem dX12_rank_87 : decode cX12_rank 87 = .ok (.if_icmp .ge 103, 3) := by decide +kernel
theorem dX12_rank_90 : decode cX12_rank 90 = .ok (.iconst 0, 1) := by decide +kernel
theorem dX12_rank_91 : decode cX12_rank 91 = .ok (.istore 5, 2) := by decide +kernel
theorem dX12_rank_93 : decode cX12_rank 93 = .ok (.iload 5, 2) := by decide +kernel
theorem dX12_rank_95 : decode cX12_rank 95 = .ok (.aload_n 0, 1) := by decide +kernel
theorem dX12_rank_96 : decode cX12_rank 96 = .ok (.getfield 300, 3) := by decide +kernel
theorem dX12_rank_99 : decode cX12_rank 99 = .ok (.if_icmp .ge 85, 3) := by decide +kernel
theorem dX12_rank_102 : decode cX12_rank 102 = .ok (.aload_n 0, 1) := by decide +kernel
theorem dX12_rank_103 : decode cX12_rank 103 = .ok (.iload 5, 2) := by decide +kernel
theorem dX12_rank_105 : decode cX12_rank 105 = .ok (.iload_n 3, 1) := by decide +kernel
theorem dX12_rank_106 : decode cX12_rank 106 = .ok (.invokevirtual 332, 3) := by decide +kernel
theorem dX12_rank_109 : decode cX12_rank 109 = .ok (.ifCond .eq 69, 3) := by decide +kernel
theorem dX12_rank_112 : decode cX12_rank 112 = .ok (.aload_n 0, 1) := by decide +kernel
theorem dX12_rank_113 : decode cX12_rank 113 = .ok (.getfield 64, 3) := by decide +kernel
theorem dX12_rank_116 : decode cX12_rank 116 = .ok (.iload 5, 2) := by decide +kernel
theorem dX12_rank_118 : decode cX12_rank 118 = .ok (.iaload, 1) := by decide +kernel
theorem dX12_rank_119 : decode cX12_rank 119 = .ok (.iload_n 1, 1) := by decide +kernel
theorem dX12_rank_120 : decode cX12_rank 120 = .ok (.if_icmp .ne 58, 3) := by decide +kernel
theorem dX12_rank_123 : decode cX12_rank 123 = .ok (.aload_n 0, 1) := by decide +kernel
theorem dX12_rank_124 : decode cX12_rank 124 = .ok (.getfield 146, 3) := by decide +kernel
theorem dX12_rank_127 : decode cX12_rank 127 = .ok (.aload_n 0, 1) := by decide +kernel
theorem dX12_rank_128 : decode cX12_rank 128 = .ok (.getfield 52, 3) := by decide +kernel
theorem dX12_rank_131 : decode cX12_rank 131 = .ok (.iload 5, 2) := by decide +kernel
theorem dX12_rank_133 : decode cX12_rank 133 = .ok (.iaload, 1) := by decide +kernel
theorem dX12_rank_134 : decode cX12_rank 134 = .ok (.iaload, 1) := by decide +kernel
theorem dX12_rank_135 : decode cX12_rank 135 = .ok (.aload_n 0, 1) := by decide +kernel
theorem dX12_rank_136 : decode cX12_rank 136 = .ok (.getfield 146, 3) := by decide +kernel
theorem dX12_rank_139 : decode cX12_rank 139 = .ok (.aload_n 0, 1) := by decide +kernel
theorem dX12_rank_140 : decode cX12_rank 140 = .ok (.getfield 55, 3) := by decide +kernel
theorem dX12_rank_143 : decode cX12_rank 143 = .ok (.iload 5, 2) := by decide +kernel
theorem dX12_rank_145 : decode cX12_rank 145 = .ok (.iaload, 1) := by decide +kernel
theorem dX12_rank_146 : decode cX12_rank 146 = .ok (.iaload, 1) := by decide +kernel
theorem dX12_rank_147 : decode cX12_rank 147 = .ok (.iconst 1, 1) := by decide +kernel
theorem dX12_rank_148 : decode cX12_rank 148 = .ok (.iadd, 1) := by decide +kernel
theorem dX12_rank_149 : decode cX12_rank 149 = .ok (.if_icmp .ge 29, 3) := by decide +kernel
theorem dX12_rank_152 : decode cX12_rank 152 = .ok (.aload_n 0, 1) := by decide +kernel
theorem dX12_rank_153 : decode cX12_rank 153 = .ok (.getfield 146, 3) := by decide +kernel
theorem dX12_rank_156 : decode cX12_rank 156 = .ok (.aload_n 0, 1) := by decide +kernel
theorem dX12_rank_157 : decode cX12_rank 157 = .ok (.getfield 52, 3) := by decide +kernel
theorem dX12_rank_160 : decode cX12_rank 160 = .ok (.iload 5, 2) := by decide +kernel
theorem dX12_rank_162 : decode cX12_rank 162 = .ok (.iaload, 1) := by decide +kernel
theorem dX12_rank_163 : decode cX12_rank 163 = .ok (.aload_n 0, 1) := by decide +kernel
theorem dX12_rank_164 : decode cX12_rank 164 = .ok (.getfield 146, 3) := by decide +kernel
theorem dX12_rank_167 : decode cX12_rank 167 = .ok (.aload_n 0, 1) := by decide +kernel
theorem dX12_rank_168 : decode cX12_rank 168 = .ok (.getfield 55, 3) := by decide +kernel
theorem dX12_rank_171 : decode cX12_rank 171 = .ok (.iload 5, 2) := by decide +kernel
theorem dX12_rank_173 : decode cX12_rank 173 = .ok (.iaload, 1) := by decide +kernel
theorem dX12_rank_174 : decode cX12_rank 174 = .ok (.iaload, 1) := by decide +kernel
theorem dX12_rank_175 : decode cX12_rank 175 = .ok (.iconst 1, 1) := by decide +kernel
theorem dX12_rank_176 : decode cX12_rank 176 = .ok (.iadd, 1) := by decide +kernel
theorem dX12_rank_177 : decode cX12_rank 177 = .ok (.iastore, 1) := by decide +kernel
theorem dX12_rank_178 : decode cX12_rank 178 = .ok (.iinc 5 1, 3) := by decide +kernel
theorem dX12_rank_181 : decode cX12_rank 181 = .ok (.goto (-88), 3) := by decide +kernel
theorem dX12_rank_184 : decode cX12_rank 184 = .ok (.iinc 4 1, 3) := by decide +kernel
theorem dX12_rank_187 : decode cX12_rank 187 = .ok (.goto (-106), 3) := by decide +kernel
theorem dX12_rank_190 : decode cX12_rank 190 = .ok (.aload_n 0, 1) := by decide +kernel
theorem dX12_rank_191 : decode cX12_rank 191 = .ok (.getfield 146, 3) := by decide +kernel
theorem dX12_rank_194 : decode cX12_rank 194 = .ok (.iload_n 2, 1) := by decide +kernel
theorem dX12_rank_195 : decode cX12_rank 195 = .ok (.iaload, 1) := by decide +kernel
theorem dX12_rank_196 : decode cX12_rank 196 = .ok (.ireturn, 1) := by decide +kernel
theorem dX12_up_0 : decode cX12_up 0 = .ok (.iconst 1, 1) := by decide +kernel
theorem dX12_up_1 : decode cX12_up 1 = .ok (.iload_n 1, 1) := by decide +kernel
theorem dX12_up_2 : decode cX12_up 2 = .ok (.ishl, 1) := by decide +kernel
theorem dX12_up_3 : decode cX12_up 3 = .ok (.istore_n 2, 1) := by decide +kernel
theorem dX12_up_4 : decode cX12_up 4 = .ok (.iconst 0, 1) := by decide +kernel
theorem dX12_up_5 : decode cX12_up 5 = .ok (.istore_n 3, 1) := by decide +kernel
theorem dX12_up_6 : decode cX12_up 6 = .ok (.iload_n 3, 1) := by decide +kernel
theorem dX12_up_7 : decode cX12_up 7 = .ok (.aload_n 0, 1) := by decide +kernel
theorem dX12_up_8 : decode cX12_up 8 = .ok (.getfield 156, 3) := by decide +kernel
theorem dX12_up_11 : decode cX12_up 11 = .ok (.if_icmp .ge 47, 3) := by decide +kernel
theorem dX12_up_14 : decode cX12_up 14 = .ok (.iload_n 2, 1) := by decide +kernel
theorem dX12_up_15 : decode cX12_up 15 = .ok (.iload_n 3, 1) := by decide +kernel
theorem dX12_up_16 : decode cX12_up 16 = .ok (.iload_n 1, 1) := by decide +kernel
theorem dX12_up_17 : decode cX12_up 17 = .ok (.if_icmp .eq 32, 3) := by decide +kernel
theorem dX12_up_20 : decode cX12_up 20 = .ok (.aload_n 0, 1) := by decide +kernel
theorem dX12_up_21 : decode cX12_up 21 = .ok (.getfield 97, 3) := by decide +kernel
theorem dX12_up_24 : decode cX12_up 24 = .ok (.aload_n 0, 1) := by decide +kernel
theorem dX12_up_25 : decode cX12_up 25 = .ok (.getfield 368, 3) := by decide +kernel
theorem dX12_up_28 : decode cX12_up 28 = .ok (.aaload, 1) := by decide +kernel
theorem dX12_up_29 : decode cX12_up 29 = .ok (.iload_n 1, 1) := by decide +kernel
theorem dX12_up_30 : decode cX12_up 30 = .ok (.bipush 10, 2) := by decide +kernel
theorem dX12_up_32 : decode cX12_up 32 = .ok (.imul, 1) := by decide +kernel
theorem dX12_up_33 : decode cX12_up 33 = .ok (.iload_n 3, 1) := by decide +kernel
theorem dX12_up_34 : decode cX12_up 34 = .ok (.iadd, 1) := by decide +kernel
theorem dX12_up_35 : decode cX12_up 35 = .ok (.iaload, 1) := by decide +kernel
theorem dX12_up_36 : decode cX12_up 36 = .ok (.sipush 152, 3) := by decide +kernel
theorem dX12_up_39 : decode cX12_up 39 = .ok (.iand, 1) := by decide +kernel
theorem dX12_up_40 : decode cX12_up 40 = .ok (.ifCond .eq 9, 3) := by decide +kernel
theorem dX12_up_43 : decode cX12_up 43 = .ok (.iconst 1, 1) := by decide +kernel
theorem dX12_up_44 : decode cX12_up 44 = .ok (.iload_n 3, 1) := by decide +kernel
theorem dX12_up_45 : decode cX12_up 45 = .ok (.ishl, 1) := by decide +kernel
theorem dX12_up_46 : decode cX12_up 46 = .ok (.goto 4, 3) := by decide +kernel
theorem dX12_up_49 : decode cX12_up 49 = .ok (.iconst 0, 1) := by decide +kernel
theorem dX12_up_50 : decode cX12_up 50 = .ok (.ior, 1) := by decide +kernel
theorem dX12_up_51 : decode cX12_up 51 = .ok (.istore_n 2, 1) := by decide +kernel
theorem dX12_up_52 : decode cX12_up 52 = .ok (.iinc 3 1, 3) := by decide +kernel
theorem dX12_up_55 : decode cX12_up 55 = .ok (.goto (-49), 3) := by decide +kernel
theorem dX12_up_58 : decode cX12_up 58 = .ok (.iload_n 2, 1) := by decide +kernel
theorem dX12_up_59 : decode cX12_up 59 = .ok (.ireturn, 1) := by decide +kernel
theorem dX12_beyond_0 : decode cX12_beyond 0 = .ok (.iconst 0, 1) := by decide +kernel
theorem dX12_beyond_1 : decode cX12_beyond 1 = .ok (.istore_n 2, 1) := by decide +kernel
theorem dX12_beyond_2 : decode cX12_beyond 2 = .ok (.iconst 0, 1) := by decide +kernel
theorem dX12_beyond_3 : decode cX12_beyond 3 = .ok (.istore_n 3, 1) := by decide +kernel
theorem dX12_beyond_4 : decode cX12_beyond 4 = .ok (.iload_n 3, 1) := by decide +kernel
theorem dX12_beyond_5 : decode cX12_beyond 5 = .ok (.aload_n 0, 1) := by decide +kernel
theorem dX12_beyond_6 : decode cX12_beyond 6 = .ok (.getfield 156, 3) := by decide +kernel
theorem dX12_beyond_9 : decode cX12_beyond 9 = .ok (.if_icmp .ge 86, 3) := by decide +kernel
theorem dX12_beyond_12 : decode cX12_beyond 12 = .ok (.iconst 0, 1) := by decide +kernel
theorem dX12_beyond_13 : decode cX12_beyond 13 = .ok (.istore 4, 2) := by decide +kernel
theorem dX12_beyond_15 : decode cX12_beyond 15 = .ok (.iload 4, 2) := by decide +kernel
theorem dX12_beyond_17 : decode cX12_beyond 17 = .ok (.aload_n 0, 1) := by decide +kernel
theorem dX12_beyond_18 : decode cX12_beyond 18 = .ok (.getfield 156, 3) := by decide +kernel
theorem dX12_beyond_21 : decode cX12_beyond 21 = .ok (.if_icmp .ge 68, 3) := by decide +kernel
theorem dX12_beyond_24 : decode cX12_beyond 24 = .ok (.iload_n 3, 1) := by decide +kernel
theorem dX12_beyond_25 : decode cX12_beyond 25 = .ok (.iload 4, 2) := by decide +kernel
theorem dX12_beyond_27 : decode cX12_beyond 27 = .ok (.if_icmp .eq 37, 3) := by decide +kernel
theorem dX12_beyond_30 : decode cX12_beyond 30 = .ok (.iload_n 1, 1) := by decide +kernel
theorem dX12_beyond_31 : decode cX12_beyond 31 = .ok (.iload_n 3, 1) := by decide +kernel
theorem dX12_beyond_32 : decode cX12_beyond 32 = .ok (.ishr, 1) := by decide +kernel
theorem dX12_beyond_33 : decode cX12_beyond 33 = .ok (.iconst 1, 1) := by decide +kernel
theorem dX12_beyond_34 : decode cX12_beyond 34 = .ok (.iand, 1) := by decide +kernel
theorem dX12_beyond_35 : decode cX12_beyond 35 = .ok (.ifCond .eq 29, 3) := by decide +kernel
theorem dX12_beyond_38 : decode cX12_beyond 38 = .ok (.aload_n 0, 1) := by decide +kernel
theorem dX12_beyond_39 : decode cX12_beyond 39 = .ok (.getfield 97, 3) := by decide +kernel
theorem dX12_beyond_42 : decode cX12_beyond 42 = .ok (.aload_n 0, 1) := by decide +kernel
theorem dX12_beyond_43 : decode cX12_beyond 43 = .ok (.getfield 368, 3) := by decide +kernel
theorem dX12_beyond_46 : decode cX12_beyond 46 = .ok (.aaload, 1) := by decide +kernel
theorem dX12_beyond_47 : decode cX12_beyond 47 = .ok (.iload_n 3, 1) := by decide +kernel
theorem dX12_beyond_48 : decode cX12_beyond 48 = .ok (.bipush 10, 2) := by decide +kernel
theorem dX12_beyond_50 : decode cX12_beyond 50 = .ok (.imul, 1) := by decide +kernel
theorem dX12_beyond_51 : decode cX12_beyond 51 = .ok (.iload 4, 2) := by decide +kernel
theorem dX12_beyond_53 : decode cX12_beyond 53 = .ok (.iadd, 1) := by decide +kernel
theorem dX12_beyond_54 : decode cX12_beyond 54 = .ok (.iaload, 1) := by decide +kernel
theorem dX12_beyond_55 : decode cX12_beyond 55 = .ok (.bipush 16, 2) := by decide +kernel
theorem dX12_beyond_57 : decode cX12_beyond 57 = .ok (.if_icmp .ne 7, 3) := by decide +kernel
theorem dX12_beyond_60 : decode cX12_beyond 60 = .ok (.iconst 1, 1) := by decide +kernel
theorem dX12_beyond_61 : decode cX12_beyond 61 = .ok (.goto 4, 3) := by decide +kernel
theorem dX12_beyond_64 : decode cX12_beyond 64 = .ok (.iconst 0, 1) := by decide +kernel
theorem dX12_beyond_65 : decode cX12_beyond 65 = .ok (.istore 5, 2) := by decide +kernel
theorem dX12_beyond_67 : decode cX12_beyond 67 = .ok (.iload_n 2, 1) := by decide +kernel
theorem dX12_beyond_68 : decode cX12_beyond 68 = .ok (.iload 5, 2) := by decide +kernel
theorem dX12_beyond_70 : decode cX12_beyond 70 = .ok (.ifCond .eq 10, 3) := by decide +kernel
theorem dX12_beyond_73 : decode cX12_beyond 73 = .ok (.iconst 1, 1) := by decide +kernel
theorem dX12_beyond_74 : decode cX12_beyond 74 = .ok (.iload 4, 2) := by decide +kernel
theorem dX12_beyond_76 : decode cX12_beyond 76 = .ok (.ishl, 1) := by decide +kernel
theorem dX12_beyond_77 : decode cX12_beyond 77 = .ok (.goto 4, 3) := by decide +kernel
theorem dX12_beyond_80 : decode cX12_beyond 80 = .ok (.iconst 0, 1) := by decide +kernel
theorem dX12_beyond_81 : decode cX12_beyond 81 = .ok (.ior, 1) := by decide +kernel
theorem dX12_beyond_82 : decode cX12_beyond 82 = .ok (.istore_n 2, 1) := by decide +kernel
theorem dX12_beyond_83 : decode cX12_beyond 83 = .ok (.iinc 4 1, 3) := by decide +kernel
theorem dX12_beyond_86 : decode cX12_beyond 86 = .ok (.goto (-71), 3) := by decide +kernel
theorem dX12_beyond_89 : decode cX12_beyond 89 = .ok (.iinc 3 1, 3) := by decide +kernel
theorem dX12_beyond_92 : decode cX12_beyond 92 = .ok (.goto (-88), 3) := by decide +kernel
theorem dX12_beyond_95 : decode cX12_beyond 95 = .ok (.iload_n 2, 1) := by decide +kernel
theorem dX12_beyond_96 : decode cX12_beyond 96 = .ok (.ireturn, 1) := by decide +kernel
theorem dX12_newCell_0 : decode cX12_newCell 0 = .ok (.aload_n 0, 1) := by decide +kernel
theorem dX12_newCell_1 : decode cX12_newCell 1 = .ok (.getfield 89, 3) := by decide +kernel
theorem dX12_newCell_4 : decode cX12_newCell 4 = .ok (.aload_n 0, 1) := by decide +kernel
theorem dX12_newCell_5 : decode cX12_newCell 5 = .ok (.getfield 474, 3) := by decide +kernel
theorem dX12_newCell_8 : decode cX12_newCell 8 = .ok (.iload_n 1, 1) := by decide +kernel
theorem dX12_newCell_9 : decode cX12_newCell 9 = .ok (.iastore, 1) := by decide +kernel
theorem dX12_newCell_10 : decode cX12_newCell 10 = .ok (.aload_n 0, 1) := by decide +kernel
theorem dX12_newCell_11 : decode cX12_newCell 11 = .ok (.getfield 92, 3) := by decide +kernel
theorem dX12_newCell_14 : decode cX12_newCell 14 = .ok (.aload_n 0, 1) := by decide +kernel
theorem dX12_newCell_15 : decode cX12_newCell 15 = .ok (.dup, 1) := by decide +kernel
theorem dX12_newCell_16 : decode cX12_newCell 16 = .ok (.getfield 474, 3) := by decide +kernel
theorem dX12_newCell_19 : decode cX12_newCell 19 = .ok (.dup_x1, 1) := by decide +kernel
theorem dX12_newCell_20 : decode cX12_newCell 20 = .ok (.iconst 1, 1) := by decide +kernel
theorem dX12_newCell_21 : decode cX12_newCell 21 = .ok (.iadd, 1) := by decide +kernel
theorem dX12_newCell_22 : decode cX12_newCell 22 = .ok (.putfield 474, 3) := by decide +kernel
theorem dX12_newCell_25 : decode cX12_newCell 25 = .ok (.iload_n 2, 1) := by decide +kernel
theorem dX12_newCell_26 : decode cX12_newCell 26 = .ok (.iastore, 1) := by decide +kernel
theorem dX12_newCell_27 : decode cX12_newCell 27 = .ok (.return_, 1) := by decide +kernel
theorem dX12_newMates_0 : decode cX12_newMates 0 = .ok (.aload_n 0, 1) := by decide +kernel
theorem dX12_newMates_1 : decode cX12_newMates 1 = .ok (.iload_n 1, 1) := by decide +kernel
theorem dX12_newMates_2 : decode cX12_newMates 2 = .ok (.aload_n 0, 1) := by decide +kernel
theorem dX12_newMates_3 : decode cX12_newMates 3 = .ok (.getfield 474, 3) := by decide +kernel
theorem dX12_newMates_6 : decode cX12_newMates 6 = .ok (.iconst 1, 1) := by decide +kernel
theorem dX12_newMates_7 : decode cX12_newMates 7 = .ok (.iadd, 1) := by decide +kernel
theorem dX12_newMates_8 : decode cX12_newMates 8 = .ok (.invokevirtual 477, 3) := by decide +kernel
theorem dX12_newMates_11 : decode cX12_newMates 11 = .ok (.aload_n 0, 1) := by decide +kernel
theorem dX12_newMates_12 : decode cX12_newMates 12 = .ok (.iload_n 2, 1) := by decide +kernel
theorem dX12_newMates_13 : decode cX12_newMates 13 = .ok (.aload_n 0, 1) := by decide +kernel
theorem dX12_newMates_14 : decode cX12_newMates 14 = .ok (.getfield 474, 3) := by decide +kernel
theorem dX12_newMates_17 : decode cX12_newMates 17 = .ok (.iconst 1, 1) := by decide +kernel
theorem dX12_newMates_18 : decode cX12_newMates 18 = .ok (.isub, 1) := by decide +kernel
theorem dX12_newMates_19 : decode cX12_newMates 19 = .ok (.invokevirtual 477, 3) := by decide +kernel
theorem dX12_newMates_22 : decode cX12_newMates 22 = .ok (.return_, 1) := by decide +kernel
theorem dX12_lay_0 : decode cX12_lay 0 = .ok (.iload_n 1, 1) := by decide +kernel
theorem dX12_lay_1 : decode cX12_lay 1 = .ok (.invokestatic 212, 3) := by decide +kernel
theorem dX12_lay_4 : decode cX12_lay 4 = .ok (.ifCond .ne 10, 3) := by decide +kernel
theorem dX12_lay_7 : decode cX12_lay 7 = .ok (.aload_n 0, 1) := by decide +kernel
theorem dX12_lay_8 : decode cX12_lay 8 = .ok (.bipush (-2), 2) := by decide +kernel
theorem dX12_lay_10 : decode cX12_lay 10 = .ok (.invokevirtual 177, 3) := by decide +kernel
theorem dX12_lay_13 : decode cX12_lay 13 = .ok (.ireturn, 1) := by decide +kernel
theorem dX12_lay_14 : decode cX12_lay 14 = .ok (.aload_n 0, 1) := by decide +kernel
theorem dX12_lay_15 : decode cX12_lay 15 = .ok (.iload_n 1, 1) := by decide +kernel
theorem dX12_lay_16 : decode cX12_lay 16 = .ok (.iconst (-1), 1) := by decide +kernel
theorem dX12_lay_17 : decode cX12_lay 17 = .ok (.invokevirtual 412, 3) := by decide +kernel
theorem dX12_lay_20 : decode cX12_lay 20 = .ok (.aload_n 0, 1) := by decide +kernel
theorem dX12_lay_21 : decode cX12_lay 21 = .ok (.getfield 377, 3) := by decide +kernel
theorem dX12_lay_24 : decode cX12_lay 24 = .ok (.iconst 1, 1) := by decide +kernel
theorem dX12_lay_25 : decode cX12_lay 25 = .ok (.if_icmp .eq 22, 3) := by decide +kernel
theorem dX12_lay_28 : decode cX12_lay 28 = .ok (.aload_n 0, 1) := by decide +kernel
theorem dX12_lay_29 : decode cX12_lay 29 = .ok (.getfield 377, 3) := by decide +kernel
theorem dX12_lay_32 : decode cX12_lay 32 = .ok (.iconst 3, 1) := by decide +kernel
theorem dX12_lay_33 : decode cX12_lay 33 = .ok (.if_icmp .ne 12, 3) := by decide +kernel
theorem dX12_lay_36 : decode cX12_lay 36 = .ok (.aload_n 0, 1) := by decide +kernel
theorem dX12_lay_37 : decode cX12_lay 37 = .ok (.bipush (-5), 2) := by decide +kernel
theorem dX12_lay_39 : decode cX12_lay 39 = .ok (.invokevirtual 177, 3) := by decide +kernel
theorem dX12_lay_42 : decode cX12_lay 42 = .ok (.goto 4, 3) := by decide +kernel
theorem dX12_lay_45 : decode cX12_lay 45 = .ok (.iconst (-1), 1) := by decide +kernel
theorem dX12_lay_46 : decode cX12_lay 46 = .ok (.ireturn, 1) := by decide +kernel
theorem dX12_lay_47 : decode cX12_lay 47 = .ok (.aload_n 0, 1) := by decide +kernel
theorem dX12_lay_48 : decode cX12_lay 48 = .ok (.iconst 0, 1) := by decide +kernel
theorem dX12_lay_49 : decode cX12_lay 49 = .ok (.putfield 474, 3) := by decide +kernel
theorem dX12_lay_52 : decode cX12_lay 52 = .ok (.iconst 0, 1) := by decide +kernel
theorem dX12_lay_53 : decode cX12_lay 53 = .ok (.istore_n 2, 1) := by decide +kernel
theorem dX12_lay_54 : decode cX12_lay 54 = .ok (.iload_n 2, 1) := by decide +kernel
theorem dX12_lay_55 : decode cX12_lay 55 = .ok (.aload_n 0, 1) := by decide +kernel
theorem dX12_lay_56 : decode cX12_lay 56 = .ok (.getfield 156, 3) := by decide +kernel
theorem dX12_lay_59 : decode cX12_lay 59 = .ok (.if_icmp .ge 19, 3) := by decide +kernel
theorem dX12_lay_62 : decode cX12_lay 62 = .ok (.aload_n 0, 1) := by decide +kernel
theorem dX12_lay_63 : decode cX12_lay 63 = .ok (.aload_n 0, 1) := by decide +kernel
theorem dX12_lay_64 : decode cX12_lay 64 = .ok (.iload_n 2, 1) := by decide +kernel
theorem dX12_lay_65 : decode cX12_lay 65 = .ok (.invokevirtual 480, 3) := by decide +kernel
theorem dX12_lay_68 : decode cX12_lay 68 = .ok (.iconst (-1), 1) := by decide +kernel
theorem dX12_lay_69 : decode cX12_lay 69 = .ok (.invokevirtual 477, 3) := by decide +kernel
theorem dX12_lay_72 : decode cX12_lay 72 = .ok (.iinc 2 1, 3) := by decide +kernel
theorem dX12_lay_75 : decode cX12_lay 75 = .ok (.goto (-21), 3) := by decide +kernel
theorem dX12_lay_78 : decode cX12_lay 78 = .ok (.iconst 0, 1) := by decide +kernel
theorem dX12_lay_79 : decode cX12_lay 79 = .ok (.istore_n 2, 1) := by decide +kernel
theorem dX12_lay_80 : decode cX12_lay 80 = .ok (.iload_n 2, 1) := by decide +kernel
theorem dX12_lay_81 : decode cX12_lay 81 = .ok (.aload_n 0, 1) := by decide +kernel
theorem dX12_lay_82 : decode cX12_lay 82 = .ok (.getfield 365, 3) := by decide +kernel
theorem dX12_lay_85 : decode cX12_lay 85 = .ok (.if_icmp .ge 176, 3) := by decide +kernel
theorem dX12_lay_88 : decode cX12_lay 88 = .ok (.iload_n 2, 1) := by decide +kernel
theorem dX12_lay_89 : decode cX12_lay 89 = .ok (.invokestatic 380, 3) := by decide +kernel
theorem dX12_lay_92 : decode cX12_lay 92 = .ok (.istore_n 3, 1) := by decide +kernel
theorem dX12_lay_93 : decode cX12_lay 93 = .ok (.iload_n 2, 1) := by decide +kernel
theorem dX12_lay_94 : decode cX12_lay 94 = .ok (.invokestatic 359, 3) := by decide +kernel
theorem dX12_lay_97 : decode cX12_lay 97 = .ok (.istore 4, 2) := by decide +kernel
theorem dX12_lay_99 : decode cX12_lay 99 = .ok (.aload_n 0, 1) := by decide +kernel
theorem dX12_lay_100 : decode cX12_lay 100 = .ok (.getfield 97, 3) := by decide +kernel
theorem dX12_lay_103 : decode cX12_lay 103 = .ok (.aload_n 0, 1) := by decide +kernel
theorem dX12_lay_104 : decode cX12_lay 104 = .ok (.getfield 368, 3) := by decide +kernel
theorem dX12_lay_107 : decode cX12_lay 107 = .ok (.aaload, 1) := by decide +kernel
theorem dX12_lay_108 : decode cX12_lay 108 = .ok (.iload_n 3, 1) := by decide +kernel
theorem dX12_lay_109 : decode cX12_lay 109 = .ok (.bipush 10, 2) := by decide +kernel
theorem dX12_lay_111 : decode cX12_lay 111 = .ok (.imul, 1) := by decide +kernel
theorem dX12_lay_112 : decode cX12_lay 112 = .ok (.iload 4, 2) := by decide +kernel
theorem dX12_lay_114 : decode cX12_lay 114 = .ok (.iadd, 1) := by decide +kernel
theorem dX12_lay_115 : decode cX12_lay 115 = .ok (.iaload, 1) := by decide +kernel
theorem dX12_lay_116 : decode cX12_lay 116 = .ok (.invokestatic 418, 3) := by decide +kernel
theorem dX12_lay_119 : decode cX12_lay 119 = .ok (.tableswitch 136 1 5 #[33, 72, 92, 136, 113], 33) := by decide +kernel
theorem dX12_lay_152 : decode cX12_lay 152 = .ok (.aload_n 0, 1) := by decide +kernel
theorem dX12_lay_153 : decode cX12_lay 153 = .ok (.aload_n 0, 1) := by decide +kernel
theorem dX12_lay_154 : decode cX12_lay 154 = .ok (.iload_n 3, 1) := by decide +kernel
theorem dX12_lay_155 : decode cX12_lay 155 = .ok (.invokevirtual 480, 3) := by decide +kernel
theorem dX12_lay_158 : decode cX12_lay 158 = .ok (.aload_n 0, 1) := by decide +kernel
theorem dX12_lay_159 : decode cX12_lay 159 = .ok (.aload_n 0, 1) := by decide +kernel
theorem dX12_lay_160 : decode cX12_lay 160 = .ok (.iload 4, 2) := by decide +kernel
theorem dX12_lay_162 : decode cX12_lay 162 = .ok (.invokevirtual 480, 3) := by decide +kernel
theorem dX12_lay_165 : decode cX12_lay 165 = .ok (.invokevirtual 483, 3) := by decide +kernel
theorem dX12_lay_168 : decode cX12_lay 168 = .ok (.ior, 1) := by decide +kernel
theorem dX12_lay_169 : decode cX12_lay 169 = .ok (.aload_n 0, 1) := by decide +kernel
theorem dX12_lay_170 : decode cX12_lay 170 = .ok (.iload 4, 2) := by decide +kernel
theorem dX12_lay_172 : decode cX12_lay 172 = .ok (.invokevirtual 480, 3) := by decide +kernel
theorem dX12_lay_175 : decode cX12_lay 175 = .ok (.aload_n 0, 1) := by decide +kernel
theorem dX12_lay_176 : decode cX12_lay 176 = .ok (.aload_n 0, 1) := by decide +kernel
theorem dX12_lay_177 : decode cX12_lay 177 = .ok (.iload_n 3, 1) := by decide +kernel
theorem dX12_lay_178 : decode cX12_lay 178 = .ok (.invokevirtual 480, 3) := by decide +kernel
theorem dX12_lay_181 : decode cX12_lay 181 = .ok (.invokevirtual 483, 3) := by decide +kernel
theorem dX12_lay_184 : decode cX12_lay 184 = .ok (.ior, 1) := by decide +kernel
theorem dX12_lay_185 : decode cX12_lay 185 = .ok (.invokevirtual 486, 3) := by decide +kernel
theorem dX12_lay_188 : decode cX12_lay 188 = .ok (.goto 67, 3) := by decide +kernel
theorem dX12_lay_191 : decode cX12_lay 191 = .ok (.aload_n 0, 1) := by decide +kernel
theorem dX12_lay_192 : decode cX12_lay 192 = .ok (.aload_n 0, 1) := by decide +kernel
theorem dX12_lay_193 : decode cX12_lay 193 = .ok (.iload_n 3, 1) := by decide +kernel
theorem dX12_lay_194 : decode cX12_lay 194 = .ok (.invokevirtual 480, 3) := by decide +kernel
theorem dX12_lay_197 : decode cX12_lay 197 = .ok (.aload_n 0, 1) := by decide +kernel
theorem dX12_lay_198 : decode cX12_lay 198 = .ok (.iload 4, 2) := by decide +kernel
theorem dX12_lay_200 : decode cX12_lay 200 = .ok (.invokevirtual 480, 3) := by decide +kernel
theorem dX12_lay_203 : decode cX12_lay 203 = .ok (.ior, 1) := by decide +kernel
theorem dX12_lay_204 : decode cX12_lay 204 = .ok (.iconst (-1), 1) := by decide +kernel
theorem dX12_lay_205 : decode cX12_lay 205 = .ok (.invokevirtual 477, 3) := by decide +kernel
theorem dX12_lay_208 : decode cX12_lay 208 = .ok (.goto 47, 3) := by decide +kernel
theorem dX12_lay_211 : decode cX12_lay 211 = .ok (.aload_n 0, 1) := by decide +kernel
theorem dX12_lay_212 : decode cX12_lay 212 = .ok (.aload_n 0, 1) := by decide +kernel
theorem dX12_lay_213 : decode cX12_lay 213 = .ok (.iload_n 3, 1) := by decide +kernel
theorem dX12_lay_214 : decode cX12_lay 214 = .ok (.invokevirtual 480, 3) := by decide +kernel
theorem dX12_lay_217 : decode cX12_lay 217 = .ok (.aload_n 0, 1) := by decide +kernel
theorem dX12_lay_218 : decode cX12_lay 218 = .ok (.aload_n 0, 1) := by decide +kernel
theorem dX12_lay_219 : decode cX12_lay 219 = .ok (.iload_n 3, 1) := by decide +kernel
theorem dX12_lay_220 : decode cX12_lay 220 = .ok (.invokevirtual 480, 3) := by decide +kernel
theorem dX12_lay_223 : decode cX12_lay 223 = .ok (.invokevirtual 483, 3) := by decide +kernel
theorem dX12_lay_226 : decode cX12_lay 226 = .ok (.invokevirtual 486, 3) := by decide +kernel
theorem dX12_lay_229 : decode cX12_lay 229 = .ok (.goto 26, 3) := by decide +kernel
theorem dX12_lay_232 : decode cX12_lay 232 = .ok (.aload_n 0, 1) := by decide +kernel
theorem dX12_lay_233 : decode cX12_lay 233 = .ok (.aload_n 0, 1) := by decide +kernel
theorem dX12_lay_234 : decode cX12_lay 234 = .ok (.iload 4, 2) := by decide +kernel
theorem dX12_lay_236 : decode cX12_lay 236 = .ok (.invokevirtual 480, 3) := by decide +kernel
theorem dX12_lay_239 : decode cX12_lay 239 = .ok (.aload_n 0, 1) := by decide +kernel
theorem dX12_lay_240 : decode cX12_lay 240 = .ok (.aload_n 0, 1) := by decide +kernel
theorem dX12_lay_241 : decode cX12_lay 241 = .ok (.iload 4, 2) := by decide +kernel
theorem dX12_lay_243 : decode cX12_lay 243 = .ok (.invokevirtual 480, 3) := by decide +kernel
theorem dX12_lay_246 : decode cX12_lay 246 = .ok (.invokevirtual 483, 3) := by decide +kernel
theorem dX12_lay_249 : decode cX12_lay 249 = .ok (.invokevirtual 486, 3) := by decide +kernel
theorem dX12_lay_252 : decode cX12_lay 252 = .ok (.goto 3, 3) := by decide +kernel
theorem dX12_lay_255 : decode cX12_lay 255 = .ok (.iinc 2 1, 3) := by decide +kernel
theorem dX12_lay_258 : decode cX12_lay 258 = .ok (.goto (-178), 3) := by decide +kernel
theorem dX12_lay_261 : decode cX12_lay 261 = .ok (.aload_n 0, 1) := by decide +kernel
theorem dX12_lay_262 : decode cX12_lay 262 = .ok (.getfield 474, 3) := by decide +kernel
theorem dX12_lay_265 : decode cX12_lay 265 = .ok (.ireturn, 1) := by decide +kernel
theorem dX12_cell_0 : decode cX12_cell 0 = .ok (.iload_n 1, 1) := by decide +kernel
theorem dX12_cell_1 : decode cX12_cell 1 = .ok (.i2l, 1) := by decide +kernel
theorem dX12_cell_2 : decode cX12_cell 2 = .ok (.lconst 0, 1) := by decide +kernel
theorem dX12_cell_3 : decode cX12_cell 3 = .ok (.aload_n 0, 1) := by decide +kernel
theorem dX12_cell_4 : decode cX12_cell 4 = .ok (.getfield 474, 3) := by decide +kernel
theorem dX12_cell_7 : decode cX12_cell 7 = .ok (.iconst 1, 1) := by decide +kernel
theorem dX12_cell_8 : decode cX12_cell 8 = .ok (.isub, 1) := by decide +kernel
theorem dX12_cell_9 : decode cX12_cell 9 = .ok (.i2l, 1) := by decide +kernel
theorem dX12_cell_10 : decode cX12_cell 10 = .ok (.invokestatic 159, 3) := by decide +kernel
theorem dX12_cell_13 : decode cX12_cell 13 = .ok (.ifCond .eq 11, 3) := by decide +kernel
theorem dX12_cell_16 : decode cX12_cell 16 = .ok (.aload_n 0, 1) := by decide +kernel
theorem dX12_cell_17 : decode cX12_cell 17 = .ok (.iload_n 2, 1) := by decide +kernel
theorem dX12_cell_18 : decode cX12_cell 18 = .ok (.invokevirtual 163, 3) := by decide +kernel
theorem dX12_cell_21 : decode cX12_cell 21 = .ok (.ifCond .ne 10, 3) := by decide +kernel
theorem dX12_cell_24 : decode cX12_cell 24 = .ok (.aload_n 0, 1) := by decide +kernel
theorem dX12_cell_25 : decode cX12_cell 25 = .ok (.bipush (-2), 2) := by decide +kernel
theorem dX12_cell_27 : decode cX12_cell 27 = .ok (.invokevirtual 177, 3) := by decide +kernel
theorem dX12_cell_30 : decode cX12_cell 30 = .ok (.ireturn, 1) := by decide +kernel
theorem dX12_cell_31 : decode cX12_cell 31 = .ok (.aload_n 0, 1) := by decide +kernel
theorem dX12_cell_32 : decode cX12_cell 32 = .ok (.getfield 89, 3) := by decide +kernel
theorem dX12_cell_35 : decode cX12_cell 35 = .ok (.iload_n 1, 1) := by decide +kernel
theorem dX12_cell_36 : decode cX12_cell 36 = .ok (.iaload, 1) := by decide +kernel
theorem dX12_cell_37 : decode cX12_cell 37 = .ok (.iload_n 2, 1) := by decide +kernel
theorem dX12_cell_38 : decode cX12_cell 38 = .ok (.ishr, 1) := by decide +kernel
theorem dX12_cell_39 : decode cX12_cell 39 = .ok (.iconst 1, 1) := by decide +kernel
theorem dX12_cell_40 : decode cX12_cell 40 = .ok (.iand, 1) := by decide +kernel
theorem dX12_cell_41 : decode cX12_cell 41 = .ok (.ireturn, 1) := by decide +kernel
theorem dX12_mate_0 : decode cX12_mate 0 = .ok (.iload_n 1, 1) := by decide +kernel
theorem dX12_mate_1 : decode cX12_mate 1 = .ok (.i2l, 1) := by decide +kernel
theorem dX12_mate_2 : decode cX12_mate 2 = .ok (.lconst 0, 1) := by decide +kernel
theorem dX12_mate_3 : decode cX12_mate 3 = .ok (.aload_n 0, 1) := by decide +kernel
theorem dX12_mate_4 : decode cX12_mate 4 = .ok (.getfield 474, 3) := by decide +kernel
theorem dX12_mate_7 : decode cX12_mate 7 = .ok (.iconst 1, 1) := by decide +kernel
theorem dX12_mate_8 : decode cX12_mate 8 = .ok (.isub, 1) := by decide +kernel
theorem dX12_mate_9 : decode cX12_mate 9 = .ok (.i2l, 1) := by decide +kernel
theorem dX12_mate_10 : decode cX12_mate 10 = .ok (.invokestatic 159, 3) := by decide +kernel
theorem dX12_mate_13 : decode cX12_mate 13 = .ok (.ifCond .eq 12, 3) := by decide +kernel
theorem dX12_mate_16 : decode cX12_mate 16 = .ok (.aload_n 0, 1) := by decide +kernel
theorem dX12_mate_17 : decode cX12_mate 17 = .ok (.getfield 92, 3) := by decide +kernel
theorem dX12_mate_20 : decode cX12_mate 20 = .ok (.iload_n 1, 1) := by decide +kernel
theorem dX12_mate_21 : decode cX12_mate 21 = .ok (.iaload, 1) := by decide +kernel
theorem dX12_mate_22 : decode cX12_mate 22 = .ok (.goto 9, 3) := by decide +kernel
theorem dX12_mate_25 : decode cX12_mate 25 = .ok (.aload_n 0, 1) := by decide +kernel
theorem dX12_mate_26 : decode cX12_mate 26 = .ok (.bipush (-2), 2) := by decide +kernel
theorem dX12_mate_28 : decode cX12_mate 28 = .ok (.invokevirtual 177, 3) := by decide +kernel
theorem dX12_mate_31 : decode cX12_mate 31 = .ok (.ireturn, 1) := by decide +kernel
theorem dX12_wayBy_0 : decode cX12_wayBy 0 = .ok (.iload_n 0, 1) := by decide +kernel
theorem dX12_wayBy_1 : decode cX12_wayBy 1 = .ok (.ifCond .ne 13, 3) := by decide +kernel
theorem dX12_wayBy_4 : decode cX12_wayBy 4 = .ok (.iload_n 3, 1) := by decide +kernel
theorem dX12_wayBy_5 : decode cX12_wayBy 5 = .ok (.ifCond .eq 7, 3) := by decide +kernel
theorem dX12_wayBy_8 : decode cX12_wayBy 8 = .ok (.iconst 1, 1) := by decide +kernel
theorem dX12_wayBy_9 : decode cX12_wayBy 9 = .ok (.goto 4, 3) := by decide +kernel
theorem dX12_wayBy_12 : decode cX12_wayBy 12 = .ok (.iconst 0, 1) := by decide +kernel
theorem dX12_wayBy_13 : decode cX12_wayBy 13 = .ok (.ireturn, 1) := by decide +kernel
theorem dX12_wayBy_14 : decode cX12_wayBy 14 = .ok (.iload_n 1, 1) := by decide +kernel
theorem dX12_wayBy_15 : decode cX12_wayBy 15 = .ok (.ifCond .eq 9, 3) := by decide +kernel
theorem dX12_wayBy_18 : decode cX12_wayBy 18 = .ok (.iload_n 2, 1) := by decide +kernel
theorem dX12_wayBy_19 : decode cX12_wayBy 19 = .ok (.ifCond .eq 5, 3) := by decide +kernel
theorem dX12_wayBy_22 : decode cX12_wayBy 22 = .ok (.iconst 2, 1) := by decide +kernel
theorem dX12_wayBy_23 : decode cX12_wayBy 23 = .ok (.ireturn, 1) := by decide +kernel
theorem dX12_wayBy_24 : decode cX12_wayBy 24 = .ok (.iload_n 1, 1) := by decide +kernel
theorem dX12_wayBy_25 : decode cX12_wayBy 25 = .ok (.ifCond .ne 10, 3) := by decide +kernel
theorem dX12_wayBy_28 : decode cX12_wayBy 28 = .ok (.iload_n 2, 1) := by decide +kernel
theorem dX12_wayBy_29 : decode cX12_wayBy 29 = .ok (.ifCond .ne 6, 3) := by decide +kernel
theorem dX12_wayBy_32 : decode cX12_wayBy 32 = .ok (.bipush 7, 2) := by decide +kernel
theorem dX12_wayBy_34 : decode cX12_wayBy 34 = .ok (.ireturn, 1) := by decide +kernel
theorem dX12_wayBy_35 : decode cX12_wayBy 35 = .ok (.iload_n 2, 1) := by decide +kernel
theorem dX12_wayBy_36 : decode cX12_wayBy 36 = .ok (.ifCond .eq 16, 3) := by decide +kernel
theorem dX12_wayBy_39 : decode cX12_wayBy 39 = .ok (.iload 4, 2) := by decide +kernel
theorem dX12_wayBy_41 : decode cX12_wayBy 41 = .ok (.ifCond .eq 7, 3) := by decide +kernel
theorem dX12_wayBy_44 : decode cX12_wayBy 44 = .ok (.iconst 3, 1) := by decide +kernel
theorem dX12_wayBy_45 : decode cX12_wayBy 45 = .ok (.goto 18, 3) := by decide +kernel
theorem dX12_wayBy_48 : decode cX12_wayBy 48 = .ok (.iconst 4, 1) := by decide +kernel
theorem dX12_wayBy_49 : decode cX12_wayBy 49 = .ok (.goto 14, 3) := by decide +kernel
theorem dX12_wayBy_52 : decode cX12_wayBy 52 = .ok (.iload 5, 2) := by decide +kernel
theorem dX12_wayBy_54 : decode cX12_wayBy 54 = .ok (.ifCond .eq 7, 3) := by decide +kernel
theorem dX12_wayBy_57 : decode cX12_wayBy 57 = .ok (.iconst 5, 1) := by decide +kernel
theorem dX12_wayBy_58 : decode cX12_wayBy 58 = .ok (.goto 5, 3) := by decide +kernel
theorem dX12_wayBy_61 : decode cX12_wayBy 61 = .ok (.bipush 6, 2) := by decide +kernel
theorem dX12_wayBy_63 : decode cX12_wayBy 63 = .ok (.ireturn, 1) := by decide +kernel
theorem dX12_laid_0 : decode cX12_laid 0 = .ok (.aload_n 0, 1) := by decide +kernel
theorem dX12_laid_1 : decode cX12_laid 1 = .ok (.iload_n 1, 1) := by decide +kernel
theorem dX12_laid_2 : decode cX12_laid 2 = .ok (.iload_n 2, 1) := by decide +kernel
theorem dX12_laid_3 : decode cX12_laid 3 = .ok (.invokevirtual 349, 3) := by decide +kernel
theorem dX12_laid_6 : decode cX12_laid 6 = .ok (.ifCond .ne 10, 3) := by decide +kernel
theorem dX12_laid_9 : decode cX12_laid 9 = .ok (.aload_n 0, 1) := by decide +kernel
theorem dX12_laid_10 : decode cX12_laid 10 = .ok (.bipush (-2), 2) := by decide +kernel
theorem dX12_laid_12 : decode cX12_laid 12 = .ok (.invokevirtual 177, 3) := by decide +kernel
theorem dX12_laid_15 : decode cX12_laid 15 = .ok (.ireturn, 1) := by decide +kernel
theorem dX12_laid_16 : decode cX12_laid 16 = .ok (.iconst 0, 1) := by decide +kernel
theorem dX12_laid_17 : decode cX12_laid 17 = .ok (.istore_n 3, 1) := by decide +kernel
theorem dX12_laid_18 : decode cX12_laid 18 = .ok (.iconst 0, 1) := by decide +kernel
theorem dX12_laid_19 : decode cX12_laid 19 = .ok (.istore 4, 2) := by decide +kernel
theorem dX12_laid_21 : decode cX12_laid 21 = .ok (.iconst 0, 1) := by decide +kernel
theorem dX12_laid_22 : decode cX12_laid 22 = .ok (.istore 5, 2) := by decide +kernel
theorem dX12_laid_24 : decode cX12_laid 24 = .ok (.iconst 0, 1) := by decide +kernel
theorem dX12_laid_25 : decode cX12_laid 25 = .ok (.istore 6, 2) := by decide +kernel
theorem dX12_laid_27 : decode cX12_laid 27 = .ok (.iconst 0, 1) := by decide +kernel
theorem dX12_laid_28 : decode cX12_laid 28 = .ok (.istore 7, 2) := by decide +kernel
theorem dX12_laid_30 : decode cX12_laid 30 = .ok (.iconst 0, 1) := by decide +kernel
theorem dX12_laid_31 : decode cX12_laid 31 = .ok (.istore 8, 2) := by decide +kernel
theorem dX12_laid_33 : decode cX12_laid 33 = .ok (.iconst 0, 1) := by decide +kernel
theorem dX12_laid_34 : decode cX12_laid 34 = .ok (.istore 9, 2) := by decide +kernel
theorem dX12_laid_36 : decode cX12_laid 36 = .ok (.iconst 0, 1) := by decide +kernel
theorem dX12_laid_37 : decode cX12_laid 37 = .ok (.istore 10, 2) := by decide +kernel
theorem dX12_laid_39 : decode cX12_laid 39 = .ok (.iconst 0, 1) := by decide +kernel
theorem dX12_laid_40 : decode cX12_laid 40 = .ok (.istore 11, 2) := by decide +kernel
theorem dX12_laid_42 : decode cX12_laid 42 = .ok (.iload 11, 2) := by decide +kernel
theorem dX12_laid_44 : decode cX12_laid 44 = .ok (.aload_n 0, 1) := by decide +kernel
theorem dX12_laid_45 : decode cX12_laid 45 = .ok (.getfield 474, 3) := by decide +kernel
theorem dX12_laid_48 : decode cX12_laid 48 = .ok (.if_icmp .ge 246, 3) := by decide +kernel
theorem dX12_laid_51 : decode cX12_laid 51 = .ok (.aload_n 0, 1) := by decide +kernel
theorem dX12_laid_52 : decode cX12_laid 52 = .ok (.getfield 89, 3) := by decide +kernel
theorem dX12_laid_55 : decode cX12_laid 55 = .ok (.iload 11, 2) := by decide +kernel
theorem dX12_laid_57 : decode cX12_laid 57 = .ok (.iaload, 1) := by decide +kernel
theorem dX12_laid_58 : decode cX12_laid 58 = .ok (.iload_n 1, 1) := by decide +kernel
theorem dX12_laid_59 : decode cX12_laid 59 = .ok (.ishr, 1) := by decide +kernel
theorem dX12_laid_60 : decode cX12_laid 60 = .ok (.iconst 1, 1) := by decide +kernel
theorem dX12_laid_61 : decode cX12_laid 61 = .ok (.iand, 1) := by decide +kernel
theorem dX12_laid_62 : decode cX12_laid 62 = .ok (.ifCond .eq 7, 3) := by decide +kernel
theorem dX12_laid_65 : decode cX12_laid 65 = .ok (.iconst 1, 1) := by decide +kernel
theorem dX12_laid_66 : decode cX12_laid 66 = .ok (.goto 4, 3) := by decide +kernel
theorem dX12_laid_69 : decode cX12_laid 69 = .ok (.iconst 0, 1) := by decide +kernel
theorem dX12_laid_70 : decode cX12_laid 70 = .ok (.istore 12, 2) := by decide +kernel
theorem dX12_laid_72 : decode cX12_laid 72 = .ok (.aload_n 0, 1) := by decide +kernel
theorem dX12_laid_73 : decode cX12_laid 73 = .ok (.getfield 89, 3) := by decide +kernel
theorem dX12_laid_76 : decode cX12_laid 76 = .ok (.iload 11, 2) := by decide +kernel
theorem dX12_laid_78 : decode cX12_laid 78 = .ok (.iaload, 1) := by decide +kernel
theorem dX12_laid_79 : decode cX12_laid 79 = .ok (.iload_n 2, 1) := by decide +kernel
theorem dX12_laid_80 : decode cX12_laid 80 = .ok (.ishr, 1) := by decide +kernel
theorem dX12_laid_81 : decode cX12_laid 81 = .ok (.iconst 1, 1) := by decide +kernel
theorem dX12_laid_82 : decode cX12_laid 82 = .ok (.iand, 1) := by decide +kernel
theorem dX12_laid_83 : decode cX12_laid 83 = .ok (.ifCond .eq 7, 3) := by decide +kernel
theorem dX12_laid_86 : decode cX12_laid 86 = .ok (.iconst 1, 1) := by decide +kernel
theorem dX12_laid_87 : decode cX12_laid 87 = .ok (.goto 4, 3) := by decide +kernel
theorem dX12_laid_90 : decode cX12_laid 90 = .ok (.iconst 0, 1) := by decide +kernel
theorem dX12_laid_91 : decode cX12_laid 91 = .ok (.istore 13, 2) := by decide +kernel
theorem dX12_laid_93 : decode cX12_laid 93 = .ok (.iload_n 3, 1) := by decide +kernel
theorem dX12_laid_94 : decode cX12_laid 94 = .ok (.iload 12, 2) := by decide +kernel
theorem dX12_laid_96 : decode cX12_laid 96 = .ok (.ior, 1) := by decide +kernel
theorem dX12_laid_97 : decode cX12_laid 97 = .ok (.istore_n 3, 1) := by decide +kernel
theorem dX12_laid_98 : decode cX12_laid 98 = .ok (.iload 4, 2) := by decide +kernel
theorem dX12_laid_100 : decode cX12_laid 100 = .ok (.iload 13, 2) := by decide +kernel
theorem dX12_laid_102 : decode cX12_laid 102 = .ok (.ior, 1) := by decide +kernel
theorem dX12_laid_103 : decode cX12_laid 103 = .ok (.istore 4, 2) := by decide +kernel
theorem dX12_laid_105 : decode cX12_laid 105 = .ok (.iload 5, 2) := by decide +kernel
theorem dX12_laid_107 : decode cX12_laid 107 = .ok (.iload 12, 2) := by decide +kernel
theorem dX12_laid_109 : decode cX12_laid 109 = .ok (.ifCond .eq 12, 3) := by decide +kernel
theorem dX12_laid_112 : decode cX12_laid 112 = .ok (.iload 13, 2) := by decide +kernel
theorem dX12_laid_114 : decode cX12_laid 114 = .ok (.ifCond .eq 7, 3) := by decide +kernel
theorem dX12_laid_117 : decode cX12_laid 117 = .ok (.iconst 1, 1) := by decide +kernel
theorem dX12_laid_118 : decode cX12_laid 118 = .ok (.goto 4, 3) := by decide +kernel
theorem dX12_laid_121 : decode cX12_laid 121 = .ok (.iconst 0, 1) := by decide +kernel
theorem dX12_laid_122 : decode cX12_laid 122 = .ok (.ior, 1) := by decide +kernel
theorem dX12_laid_123 : decode cX12_laid 123 = .ok (.istore 5, 2) := by decide +kernel
theorem dX12_laid_125 : decode cX12_laid 125 = .ok (.iload 6, 2) := by decide +kernel
theorem dX12_laid_127 : decode cX12_laid 127 = .ok (.iload 12, 2) := by decide +kernel
theorem dX12_laid_129 : decode cX12_laid 129 = .ok (.ifCond .eq 12, 3) := by decide +kernel
theorem dX12_laid_132 : decode cX12_laid 132 = .ok (.iload 13, 2) := by decide +kernel
theorem dX12_laid_134 : decode cX12_laid 134 = .ok (.ifCond .ne 7, 3) := by decide +kernel
theorem dX12_laid_137 : decode cX12_laid 137 = .ok (.iconst 1, 1) := by decide +kernel
theorem dX12_laid_138 : decode cX12_laid 138 = .ok (.goto 4, 3) := by decide +kernel
theorem dX12_laid_141 : decode cX12_laid 141 = .ok (.iconst 0, 1) := by decide +kernel
theorem dX12_laid_142 : decode cX12_laid 142 = .ok (.ior, 1) := by decide +kernel
theorem dX12_laid_143 : decode cX12_laid 143 = .ok (.istore 6, 2) := by decide +kernel
theorem dX12_laid_145 : decode cX12_laid 145 = .ok (.iload 7, 2) := by decide +kernel
theorem dX12_laid_147 : decode cX12_laid 147 = .ok (.iload 13, 2) := by decide +kernel
theorem dX12_laid_149 : decode cX12_laid 149 = .ok (.ifCond .eq 12, 3) := by decide +kernel
theorem dX12_laid_152 : decode cX12_laid 152 = .ok (.iload 12, 2) := by decide +kernel
theorem dX12_laid_154 : decode cX12_laid 154 = .ok (.ifCond .ne 7, 3) := by decide +kernel
theorem dX12_laid_157 : decode cX12_laid 157 = .ok (.iconst 1, 1) := by decide +kernel
theorem dX12_laid_158 : decode cX12_laid 158 = .ok (.goto 4, 3) := by decide +kernel
theorem dX12_laid_161 : decode cX12_laid 161 = .ok (.iconst 0, 1) := by decide +kernel
theorem dX12_laid_162 : decode cX12_laid 162 = .ok (.ior, 1) := by decide +kernel
theorem dX12_laid_163 : decode cX12_laid 163 = .ok (.istore 7, 2) := by decide +kernel
theorem dX12_laid_165 : decode cX12_laid 165 = .ok (.aload_n 0, 1) := by decide +kernel
theorem dX12_laid_166 : decode cX12_laid 166 = .ok (.getfield 92, 3) := by decide +kernel
theorem dX12_laid_169 : decode cX12_laid 169 = .ok (.iload 11, 2) := by decide +kernel
theorem dX12_laid_171 : decode cX12_laid 171 = .ok (.iaload, 1) := by decide +kernel
theorem dX12_laid_172 : decode cX12_laid 172 = .ok (.iconst (-1), 1) := by decide +kernel
theorem dX12_laid_173 : decode cX12_laid 173 = .ok (.if_icmp .eq 115, 3) := by decide +kernel
theorem dX12_laid_176 : decode cX12_laid 176 = .ok (.aload_n 0, 1) := by decide +kernel
theorem dX12_laid_177 : decode cX12_laid 177 = .ok (.getfield 89, 3) := by decide +kernel
theorem dX12_laid_180 : decode cX12_laid 180 = .ok (.aload_n 0, 1) := by decide +kernel
theorem dX12_laid_181 : decode cX12_laid 181 = .ok (.getfield 92, 3) := by decide +kernel
theorem dX12_laid_184 : decode cX12_laid 184 = .ok (.iload 11, 2) := by decide +kernel
theorem dX12_laid_186 : decode cX12_laid 186 = .ok (.iaload, 1) := by decide +kernel
theorem dX12_laid_187 : decode cX12_laid 187 = .ok (.iaload, 1) := by decide +kernel
theorem dX12_laid_188 : decode cX12_laid 188 = .ok (.iload_n 1, 1) := by decide +kernel
theorem dX12_laid_189 : decode cX12_laid 189 = .ok (.ishr, 1) := by decide +kernel
theorem dX12_laid_190 : decode cX12_laid 190 = .ok (.iconst 1, 1) := by decide +kernel
theorem dX12_laid_191 : decode cX12_laid 191 = .ok (.iand, 1) := by decide +kernel
theorem dX12_laid_192 : decode cX12_laid 192 = .ok (.ifCond .eq 7, 3) := by decide +kernel
theorem dX12_laid_195 : decode cX12_laid 195 = .ok (.iconst 1, 1) := by decide +kernel
theorem dX12_laid_196 : decode cX12_laid 196 = .ok (.goto 4, 3) := by decide +kernel
theorem dX12_laid_199 : decode cX12_laid 199 = .ok (.iconst 0, 1) := by decide +kernel
theorem dX12_laid_200 : decode cX12_laid 200 = .ok (.istore 14, 2) := by decide +kernel
theorem dX12_laid_202 : decode cX12_laid 202 = .ok (.aload_n 0, 1) := by decide +kernel
theorem dX12_laid_203 : decode cX12_laid 203 = .ok (.getfield 89, 3) := by decide +kernel
theorem dX12_laid_206 : decode cX12_laid 206 = .ok (.aload_n 0, 1) := by decide +kernel
theorem dX12_laid_207 : decode cX12_laid 207 = .ok (.getfield 92, 3) := by decide +kernel
theorem dX12_laid_210 : decode cX12_laid 210 = .ok (.iload 11, 2) := by decide +kernel
theorem dX12_laid_212 : decode cX12_laid 212 = .ok (.iaload, 1) := by decide +kernel
theorem dX12_laid_213 : decode cX12_laid 213 = .ok (.iaload, 1) := by decide +kernel
theorem dX12_laid_214 : decode cX12_laid 214 = .ok (.iload_n 2, 1) := by decide +kernel
theorem dX12_laid_215 : decode cX12_laid 215 = .ok (.ishr, 1) := by decide +kernel
theorem dX12_laid_216 : decode cX12_laid 216 = .ok (.iconst 1, 1) := by decide +kernel
theorem dX12_laid_217 : decode cX12_laid 217 = .ok (.iand, 1) := by decide +kernel
theorem dX12_laid_218 : decode cX12_laid 218 = .ok (.ifCond .eq 7, 3) := by decide +kernel
theorem dX12_laid_221 : decode cX12_laid 221 = .ok (.iconst 1, 1) := by decide +kernel
theorem dX12_laid_222 : decode cX12_laid 222 = .ok (.goto 4, 3) := by decide +kernel
theorem dX12_laid_225 : decode cX12_laid 225 = .ok (.iconst 0, 1) := by decide +kernel
theorem dX12_laid_226 : decode cX12_laid 226 = .ok (.istore 15, 2) := by decide +kernel
theorem dX12_laid_228 : decode cX12_laid 228 = .ok (.iload 8, 2) := by decide +kernel
theorem dX12_laid_230 : decode cX12_laid 230 = .ok (.iload 12, 2) := by decide +kernel
theorem dX12_laid_232 : decode cX12_laid 232 = .ok (.ifCond .eq 12, 3) := by decide +kernel
theorem dX12_laid_235 : decode cX12_laid 235 = .ok (.iload 15, 2) := by decide +kernel
theorem dX12_laid_237 : decode cX12_laid 237 = .ok (.ifCond .eq 7, 3) := by decide +kernel
theorem dX12_laid_240 : decode cX12_laid 240 = .ok (.iconst 1, 1) := by decide +kernel
theorem dX12_laid_241 : decode cX12_laid 241 = .ok (.goto 4, 3) := by decide +kernel
theorem dX12_laid_244 : decode cX12_laid 244 = .ok (.iconst 0, 1) := by decide +kernel
theorem dX12_laid_245 : decode cX12_laid 245 = .ok (.ior, 1) := by decide +kernel
theorem dX12_laid_246 : decode cX12_laid 246 = .ok (.istore 8, 2) := by decide +kernel
theorem dX12_laid_248 : decode cX12_laid 248 = .ok (.iload 9, 2) := by decide +kernel
theorem dX12_laid_250 : decode cX12_laid 250 = .ok (.iload 12, 2) := by decide +kernel
theorem dX12_laid_252 : decode cX12_laid 252 = .ok (.ifCond .eq 12, 3) := by decide +kernel
theorem dX12_laid_255 : decode cX12_laid 255 = .ok (.iload 15, 2) := by decide +kernel
theorem dX12_laid_257 : decode cX12_laid 257 = .ok (.ifCond .ne 7, 3) := by decide +kernel
theorem dX12_laid_260 : decode cX12_laid 260 = .ok (.iconst 1, 1) := by decide +kernel
theorem dX12_laid_261 : decode cX12_laid 261 = .ok (.goto 4, 3) := by decide +kernel
theorem dX12_laid_264 : decode cX12_laid 264 = .ok (.iconst 0, 1) := by decide +kernel
theorem dX12_laid_265 : decode cX12_laid 265 = .ok (.ior, 1) := by decide +kernel
theorem dX12_laid_266 : decode cX12_laid 266 = .ok (.istore 9, 2) := by decide +kernel
theorem dX12_laid_268 : decode cX12_laid 268 = .ok (.iload 10, 2) := by decide +kernel
theorem dX12_laid_270 : decode cX12_laid 270 = .ok (.iload 13, 2) := by decide +kernel
theorem dX12_laid_272 : decode cX12_laid 272 = .ok (.ifCond .eq 12, 3) := by decide +kernel
theorem dX12_laid_275 : decode cX12_laid 275 = .ok (.iload 14, 2) := by decide +kernel
theorem dX12_laid_277 : decode cX12_laid 277 = .ok (.ifCond .ne 7, 3) := by decide +kernel
theorem dX12_laid_280 : decode cX12_laid 280 = .ok (.iconst 1, 1) := by decide +kernel
theorem dX12_laid_281 : decode cX12_laid 281 = .ok (.goto 4, 3) := by decide +kernel
theorem dX12_laid_284 : decode cX12_laid 284 = .ok (.iconst 0, 1) := by decide +kernel
theorem dX12_laid_285 : decode cX12_laid 285 = .ok (.ior, 1) := by decide +kernel
theorem dX12_laid_286 : decode cX12_laid 286 = .ok (.istore 10, 2) := by decide +kernel
theorem dX12_laid_288 : decode cX12_laid 288 = .ok (.iinc 11 1, 3) := by decide +kernel
theorem dX12_laid_291 : decode cX12_laid 291 = .ok (.goto (-249), 3) := by decide +kernel
theorem dX12_laid_294 : decode cX12_laid 294 = .ok (.iload_n 3, 1) := by decide +kernel
theorem dX12_laid_295 : decode cX12_laid 295 = .ok (.ifCond .eq 26, 3) := by decide +kernel
theorem dX12_laid_298 : decode cX12_laid 298 = .ok (.iload 4, 2) := by decide +kernel
theorem dX12_laid_300 : decode cX12_laid 300 = .ok (.ifCond .eq 21, 3) := by decide +kernel
theorem dX12_laid_303 : decode cX12_laid 303 = .ok (.iload 5, 2) := by decide +kernel
theorem dX12_laid_305 : decode cX12_laid 305 = .ok (.iload 6, 2) := by decide +kernel
theorem dX12_laid_307 : decode cX12_laid 307 = .ok (.iload 7, 2) := by decide +kernel
theorem dX12_laid_309 : decode cX12_laid 309 = .ok (.iload 8, 2) := by decide +kernel
theorem dX12_laid_311 : decode cX12_laid 311 = .ok (.iload 9, 2) := by decide +kernel
theorem dX12_laid_313 : decode cX12_laid 313 = .ok (.iload 10, 2) := by decide +kernel
theorem dX12_laid_315 : decode cX12_laid 315 = .ok (.invokestatic 489, 3) := by decide +kernel
theorem dX12_laid_318 : decode cX12_laid 318 = .ok (.goto 4, 3) := by decide +kernel
theorem dX12_laid_321 : decode cX12_laid 321 = .ok (.iconst (-1), 1) := by decide +kernel
theorem dX12_laid_322 : decode cX12_laid 322 = .ok (.ireturn, 1) := by decide +kernel
theorem dX12_ground_0 : decode cX12_ground 0 = .ok (.aload_n 0, 1) := by decide +kernel
theorem dX12_ground_1 : decode cX12_ground 1 = .ok (.iload_n 1, 1) := by decide +kernel
theorem dX12_ground_2 : decode cX12_ground 2 = .ok (.invokevirtual 163, 3) := by decide +kernel
theorem dX12_ground_5 : decode cX12_ground 5 = .ok (.ifCond .eq 15, 3) := by decide +kernel
theorem dX12_ground_8 : decode cX12_ground 8 = .ok (.iload_n 2, 1) := by decide +kernel
theorem dX12_ground_9 : decode cX12_ground 9 = .ok (.i2l, 1) := by decide +kernel
theorem dX12_ground_10 : decode cX12_ground 10 = .ok (.lconst 0, 1) := by decide +kernel
theorem dX12_ground_11 : decode cX12_ground 11 = .ok (.ldc2_w 171, 3) := by decide +kernel
theorem dX12_ground_14 : decode cX12_ground 14 = .ok (.invokestatic 159, 3) := by decide +kernel
theorem dX12_ground_17 : decode cX12_ground 17 = .ok (.ifCond .ne 10, 3) := by decide +kernel
theorem dX12_ground_20 : decode cX12_ground 20 = .ok (.aload_n 0, 1) := by decide +kernel
theorem dX12_ground_21 : decode cX12_ground 21 = .ok (.bipush (-2), 2) := by decide +kernel
theorem dX12_ground_23 : decode cX12_ground 23 = .ok (.invokevirtual 177, 3) := by decide +kernel
theorem dX12_ground_26 : decode cX12_ground 26 = .ok (.ireturn, 1) := by decide +kernel
theorem dX12_ground_27 : decode cX12_ground 27 = .ok (.aload_n 0, 1) := by decide +kernel
theorem dX12_ground_28 : decode cX12_ground 28 = .ok (.getfield 7, 3) := by decide +kernel
theorem dX12_ground_31 : decode cX12_ground 31 = .ok (.iload_n 2, 1) := by decide +kernel
theorem dX12_ground_32 : decode cX12_ground 32 = .ok (.iaload, 1) := by decide +kernel
theorem dX12_ground_33 : decode cX12_ground 33 = .ok (.iconst 2, 1) := by decide +kernel
theorem dX12_ground_34 : decode cX12_ground 34 = .ok (.if_icmp .ne 10, 3) := by decide +kernel
theorem dX12_ground_37 : decode cX12_ground 37 = .ok (.aload_n 0, 1) := by decide +kernel
theorem dX12_ground_38 : decode cX12_ground 38 = .ok (.bipush (-3), 2) := by decide +kernel
theorem dX12_ground_40 : decode cX12_ground 40 = .ok (.invokevirtual 177, 3) := by decide +kernel
theorem dX12_ground_43 : decode cX12_ground 43 = .ok (.ireturn, 1) := by decide +kernel
theorem dX12_ground_44 : decode cX12_ground 44 = .ok (.aload_n 0, 1) := by decide +kernel
theorem dX12_ground_45 : decode cX12_ground 45 = .ok (.getfield 7, 3) := by decide +kernel
theorem dX12_ground_48 : decode cX12_ground 48 = .ok (.iload_n 2, 1) := by decide +kernel
theorem dX12_ground_49 : decode cX12_ground 49 = .ok (.iaload, 1) := by decide +kernel
theorem dX12_ground_50 : decode cX12_ground 50 = .ok (.ifCond .ne 10, 3) := by decide +kernel
theorem dX12_ground_53 : decode cX12_ground 53 = .ok (.aload_n 0, 1) := by decide +kernel
theorem dX12_ground_54 : decode cX12_ground 54 = .ok (.bipush (-4), 2) := by decide +kernel
theorem dX12_ground_56 : decode cX12_ground 56 = .ok (.invokevirtual 177, 3) := by decide +kernel
theorem dX12_ground_59 : decode cX12_ground 59 = .ok (.ireturn, 1) := by decide +kernel
theorem dX12_ground_60 : decode cX12_ground 60 = .ok (.lconst 0, 1) := by decide +kernel
theorem dX12_ground_61 : decode cX12_ground 61 = .ok (.lstore_n 3, 1) := by decide +kernel
theorem dX12_ground_62 : decode cX12_ground 62 = .ok (.iconst 0, 1) := by decide +kernel
theorem dX12_ground_63 : decode cX12_ground 63 = .ok (.istore 5, 2) := by decide +kernel
theorem dX12_ground_65 : decode cX12_ground 65 = .ok (.iload 5, 2) := by decide +kernel
theorem dX12_ground_67 : decode cX12_ground 67 = .ok (.aload_n 0, 1) := by decide +kernel
theorem dX12_ground_68 : decode cX12_ground 68 = .ok (.getfield 16, 3) := by decide +kernel
theorem dX12_ground_71 : decode cX12_ground 71 = .ok (.iload_n 2, 1) := by decide +kernel
theorem dX12_ground_72 : decode cX12_ground 72 = .ok (.iaload, 1) := by decide +kernel
theorem dX12_ground_73 : decode cX12_ground 73 = .ok (.if_icmp .ge 34, 3) := by decide +kernel
theorem dX12_ground_76 : decode cX12_ground 76 = .ok (.lload_n 3, 1) := by decide +kernel
theorem dX12_ground_77 : decode cX12_ground 77 = .ok (.aload_n 0, 1) := by decide +kernel
theorem dX12_ground_78 : decode cX12_ground 78 = .ok (.getfield 21, 3) := by decide +kernel
theorem dX12_ground_81 : decode cX12_ground 81 = .ok (.iload_n 2, 1) := by decide +kernel
theorem dX12_ground_82 : decode cX12_ground 82 = .ok (.aaload, 1) := by decide +kernel
theorem dX12_ground_83 : decode cX12_ground 83 = .ok (.iload 5, 2) := by decide +kernel
theorem dX12_ground_85 : decode cX12_ground 85 = .ok (.laload, 1) := by decide +kernel
theorem dX12_ground_86 : decode cX12_ground 86 = .ok (.lconst 0, 1) := by decide +kernel
theorem dX12_ground_87 : decode cX12_ground 87 = .ok (.lcmp, 1) := by decide +kernel
theorem dX12_ground_88 : decode cX12_ground 88 = .ok (.ifCond .eq 10, 3) := by decide +kernel
theorem dX12_ground_91 : decode cX12_ground 91 = .ok (.lconst 1, 1) := by decide +kernel
theorem dX12_ground_92 : decode cX12_ground 92 = .ok (.iload 5, 2) := by decide +kernel
theorem dX12_ground_94 : decode cX12_ground 94 = .ok (.lshl, 1) := by decide +kernel
theorem dX12_ground_95 : decode cX12_ground 95 = .ok (.goto 4, 3) := by decide +kernel
theorem dX12_ground_98 : decode cX12_ground 98 = .ok (.lconst 0, 1) := by decide +kernel
theorem dX12_ground_99 : decode cX12_ground 99 = .ok (.lor, 1) := by decide +kernel
theorem dX12_ground_100 : decode cX12_ground 100 = .ok (.lstore_n 3, 1) := by decide +kernel
theorem dX12_ground_101 : decode cX12_ground 101 = .ok (.iinc 5 1, 3) := by decide +kernel
theorem dX12_ground_104 : decode cX12_ground 104 = .ok (.goto (-39), 3) := by decide +kernel
theorem dX12_ground_107 : decode cX12_ground 107 = .ok (.aload_n 0, 1) := by decide +kernel
theorem dX12_ground_108 : decode cX12_ground 108 = .ok (.getfield 49, 3) := by decide +kernel
theorem dX12_ground_111 : decode cX12_ground 111 = .ok (.iload_n 1, 1) := by decide +kernel
theorem dX12_ground_112 : decode cX12_ground 112 = .ok (.lload_n 3, 1) := by decide +kernel
theorem dX12_ground_113 : decode cX12_ground 113 = .ok (.lastore, 1) := by decide +kernel
theorem dX12_ground_114 : decode cX12_ground 114 = .ok (.lload_n 3, 1) := by decide +kernel
theorem dX12_ground_115 : decode cX12_ground 115 = .ok (.invokestatic 195, 3) := by decide +kernel
theorem dX12_ground_118 : decode cX12_ground 118 = .ok (.ireturn, 1) := by decide +kernel
theorem dX12_groundOf_0 : decode cX12_groundOf 0 = .ok (.aload_n 0, 1) := by decide +kernel
theorem dX12_groundOf_1 : decode cX12_groundOf 1 = .ok (.iload_n 1, 1) := by decide +kernel
theorem dX12_groundOf_2 : decode cX12_groundOf 2 = .ok (.invokevirtual 163, 3) := by decide +kernel
theorem dX12_groundOf_5 : decode cX12_groundOf 5 = .ok (.ifCond .eq 12, 3) := by decide +kernel
theorem dX12_groundOf_8 : decode cX12_groundOf 8 = .ok (.aload_n 0, 1) := by decide +kernel
theorem dX12_groundOf_9 : decode cX12_groundOf 9 = .ok (.getfield 49, 3) := by decide +kernel
theorem dX12_groundOf_12 : decode cX12_groundOf 12 = .ok (.iload_n 1, 1) := by decide +kernel
theorem dX12_groundOf_13 : decode cX12_groundOf 13 = .ok (.laload, 1) := by decide +kernel
theorem dX12_groundOf_14 : decode cX12_groundOf 14 = .ok (.goto 4, 3) := by decide +kernel
theorem dX12_groundOf_17 : decode cX12_groundOf 17 = .ok (.lconst 0, 1) := by decide +kernel
theorem dX12_groundOf_18 : decode cX12_groundOf 18 = .ok (.lreturn, 1) := by decide +kernel
theorem dX12_near_0 : decode cX12_near 0 = .ok (.lload_n 0, 1) := by decide +kernel
theorem dX12_near_1 : decode cX12_near 1 = .ok (.bipush 8, 2) := by decide +kernel
theorem dX12_near_3 : decode cX12_near 3 = .ok (.lshl, 1) := by decide +kernel
theorem dX12_near_4 : decode cX12_near 4 = .ok (.lload_n 0, 1) := by decide +kernel
theorem dX12_near_5 : decode cX12_near 5 = .ok (.bipush 8, 2) := by decide +kernel
theorem dX12_near_7 : decode cX12_near 7 = .ok (.lushr, 1) := by decide +kernel
theorem dX12_near_8 : decode cX12_near 8 = .ok (.lor, 1) := by decide +kernel
theorem dX12_near_9 : decode cX12_near 9 = .ok (.lload_n 0, 1) := by decide +kernel
theorem dX12_near_10 : decode cX12_near 10 = .ok (.ldc2_w 493, 3) := by decide +kernel
theorem dX12_near_13 : decode cX12_near 13 = .ok (.land, 1) := by decide +kernel
theorem dX12_near_14 : decode cX12_near 14 = .ok (.iconst 1, 1) := by decide +kernel
theorem dX12_near_15 : decode cX12_near 15 = .ok (.lshl, 1) := by decide +kernel
theorem dX12_near_16 : decode cX12_near 16 = .ok (.lor, 1) := by decide +kernel
theorem dX12_near_17 : decode cX12_near 17 = .ok (.lload_n 0, 1) := by decide +kernel
theorem dX12_near_18 : decode cX12_near 18 = .ok (.ldc2_w 495, 3) := by decide +kernel
theorem dX12_near_21 : decode cX12_near 21 = .ok (.land, 1) := by decide +kernel
theorem dX12_near_22 : decode cX12_near 22 = .ok (.iconst 1, 1) := by decide +kernel
theorem dX12_near_23 : decode cX12_near 23 = .ok (.lushr, 1) := by decide +kernel
theorem dX12_near_24 : decode cX12_near 24 = .ok (.lor, 1) := by decide +kernel
theorem dX12_near_25 : decode cX12_near 25 = .ok (.lreturn, 1) := by decide +kernel
theorem dX12_wayOf_0 : decode cX12_wayOf 0 = .ok (.lload_n 0, 1) := by decide +kernel
theorem dX12_wayOf_1 : decode cX12_wayOf 1 = .ok (.lload_n 2, 1) := by decide +kernel
theorem dX12_wayOf_2 : decode cX12_wayOf 2 = .ok (.land, 1) := by decide +kernel
theorem dX12_wayOf_3 : decode cX12_wayOf 3 = .ok (.lconst 0, 1) := by decide +kernel
theorem dX12_wayOf_4 : decode cX12_wayOf 4 = .ok (.lcmp, 1) := by decide +kernel
theorem dX12_wayOf_5 : decode cX12_wayOf 5 = .ok (.ifCond .eq 7, 3) := by decide +kernel
theorem dX12_wayOf_8 : decode cX12_wayOf 8 = .ok (.iconst 1, 1) := by decide +kernel
theorem dX12_wayOf_9 : decode cX12_wayOf 9 = .ok (.goto 4, 3) := by decide +kernel
theorem dX12_wayOf_12 : decode cX12_wayOf 12 = .ok (.iconst 0, 1) := by decide +kernel
theorem dX12_wayOf_13 : decode cX12_wayOf 13 = .ok (.lload_n 0, 1) := by decide +kernel
theorem dX12_wayOf_14 : decode cX12_wayOf 14 = .ok (.lload_n 2, 1) := by decide +kernel
theorem dX12_wayOf_15 : decode cX12_wayOf 15 = .ok (.ldc2_w 242, 3) := by decide +kernel
theorem dX12_wayOf_18 : decode cX12_wayOf 18 = .ok (.lxor, 1) := by decide +kernel
theorem dX12_wayOf_19 : decode cX12_wayOf 19 = .ok (.land, 1) := by decide +kernel
theorem dX12_wayOf_20 : decode cX12_wayOf 20 = .ok (.lconst 0, 1) := by decide +kernel
theorem dX12_wayOf_21 : decode cX12_wayOf 21 = .ok (.lcmp, 1) := by decide +kernel
theorem dX12_wayOf_22 : decode cX12_wayOf 22 = .ok (.ifCond .eq 7, 3) := by decide +kernel
theorem dX12_wayOf_25 : decode cX12_wayOf 25 = .ok (.iconst 1, 1) := by decide +kernel
theorem dX12_wayOf_26 : decode cX12_wayOf 26 = .ok (.goto 4, 3) := by decide +kernel
theorem dX12_wayOf_29 : decode cX12_wayOf 29 = .ok (.iconst 0, 1) := by decide +kernel
theorem dX12_wayOf_30 : decode cX12_wayOf 30 = .ok (.lload_n 2, 1) := by decide +kernel
theorem dX12_wayOf_31 : decode cX12_wayOf 31 = .ok (.lload_n 0, 1) := by decide +kernel
theorem dX12_wayOf_32 : decode cX12_wayOf 32 = .ok (.ldc2_w 242, 3) := by decide +kernel
theorem dX12_wayOf_35 : decode cX12_wayOf 35 = .ok (.lxor, 1) := by decide +kernel
theorem dX12_wayOf_36 : decode cX12_wayOf 36 = .ok (.land, 1) := by decide +kernel
theorem dX12_wayOf_37 : decode cX12_wayOf 37 = .ok (.lconst 0, 1) := by decide +kernel
theorem dX12_wayOf_38 : decode cX12_wayOf 38 = .ok (.lcmp, 1) := by decide +kernel
theorem dX12_wayOf_39 : decode cX12_wayOf 39 = .ok (.ifCond .eq 7, 3) := by decide +kernel
theorem dX12_wayOf_42 : decode cX12_wayOf 42 = .ok (.iconst 1, 1) := by decide +kernel
theorem dX12_wayOf_43 : decode cX12_wayOf 43 = .ok (.goto 4, 3) := by decide +kernel
theorem dX12_wayOf_46 : decode cX12_wayOf 46 = .ok (.iconst 0, 1) := by decide +kernel
theorem dX12_wayOf_47 : decode cX12_wayOf 47 = .ok (.lload_n 0, 1) := by decide +kernel
theorem dX12_wayOf_48 : decode cX12_wayOf 48 = .ok (.invokestatic 497, 3) := by decide +kernel
theorem dX12_wayOf_51 : decode cX12_wayOf 51 = .ok (.lload_n 2, 1) := by decide +kernel
theorem dX12_wayOf_52 : decode cX12_wayOf 52 = .ok (.land, 1) := by decide +kernel
theorem dX12_wayOf_53 : decode cX12_wayOf 53 = .ok (.lconst 0, 1) := by decide +kernel
theorem dX12_wayOf_54 : decode cX12_wayOf 54 = .ok (.lcmp, 1) := by decide +kernel
theorem dX12_wayOf_55 : decode cX12_wayOf 55 = .ok (.ifCond .eq 7, 3) := by decide +kernel
theorem dX12_wayOf_58 : decode cX12_wayOf 58 = .ok (.iconst 1, 1) := by decide +kernel
theorem dX12_wayOf_59 : decode cX12_wayOf 59 = .ok (.goto 4, 3) := by decide +kernel
theorem dX12_wayOf_62 : decode cX12_wayOf 62 = .ok (.iconst 0, 1) := by decide +kernel
theorem dX12_wayOf_63 : decode cX12_wayOf 63 = .ok (.lload_n 0, 1) := by decide +kernel
theorem dX12_wayOf_64 : decode cX12_wayOf 64 = .ok (.invokestatic 497, 3) := by decide +kernel
theorem dX12_wayOf_67 : decode cX12_wayOf 67 = .ok (.lload_n 2, 1) := by decide +kernel
theorem dX12_wayOf_68 : decode cX12_wayOf 68 = .ok (.ldc2_w 242, 3) := by decide +kernel
theorem dX12_wayOf_71 : decode cX12_wayOf 71 = .ok (.lxor, 1) := by decide +kernel
theorem dX12_wayOf_72 : decode cX12_wayOf 72 = .ok (.land, 1) := by decide +kernel
theorem dX12_wayOf_73 : decode cX12_wayOf 73 = .ok (.lconst 0, 1) := by decide +kernel
theorem dX12_wayOf_74 : decode cX12_wayOf 74 = .ok (.lcmp, 1) := by decide +kernel
theorem dX12_wayOf_75 : decode cX12_wayOf 75 = .ok (.ifCond .eq 7, 3) := by decide +kernel
theorem dX12_wayOf_78 : decode cX12_wayOf 78 = .ok (.iconst 1, 1) := by decide +kernel
theorem dX12_wayOf_79 : decode cX12_wayOf 79 = .ok (.goto 4, 3) := by decide +kernel
theorem dX12_wayOf_82 : decode cX12_wayOf 82 = .ok (.iconst 0, 1) := by decide +kernel
theorem dX12_wayOf_83 : decode cX12_wayOf 83 = .ok (.lload_n 2, 1) := by decide +kernel
theorem dX12_wayOf_84 : decode cX12_wayOf 84 = .ok (.invokestatic 497, 3) := by decide +kernel
theorem dX12_wayOf_87 : decode cX12_wayOf 87 = .ok (.lload_n 0, 1) := by decide +kernel
theorem dX12_wayOf_88 : decode cX12_wayOf 88 = .ok (.ldc2_w 242, 3) := by decide +kernel
theorem dX12_wayOf_91 : decode cX12_wayOf 91 = .ok (.lxor, 1) := by decide +kernel
theorem dX12_wayOf_92 : decode cX12_wayOf 92 = .ok (.land, 1) := by decide +kernel
theorem dX12_wayOf_93 : decode cX12_wayOf 93 = .ok (.lconst 0, 1) := by decide +kernel
theorem dX12_wayOf_94 : decode cX12_wayOf 94 = .ok (.lcmp, 1) := by decide +kernel
theorem dX12_wayOf_95 : decode cX12_wayOf 95 = .ok (.ifCond .eq 7, 3) := by decide +kernel
theorem dX12_wayOf_98 : decode cX12_wayOf 98 = .ok (.iconst 1, 1) := by decide +kernel
theorem dX12_wayOf_99 : decode cX12_wayOf 99 = .ok (.goto 4, 3) := by decide +kernel
theorem dX12_wayOf_102 : decode cX12_wayOf 102 = .ok (.iconst 0, 1) := by decide +kernel
theorem dX12_wayOf_103 : decode cX12_wayOf 103 = .ok (.invokestatic 489, 3) := by decide +kernel
theorem dX12_wayOf_106 : decode cX12_wayOf 106 = .ok (.ireturn, 1) := by decide +kernel
theorem dX12_lies_0 : decode cX12_lies 0 = .ok (.aload_n 0, 1) := by decide +kernel
theorem dX12_lies_1 : decode cX12_lies 1 = .ok (.iload_n 1, 1) := by decide +kernel
theorem dX12_lies_2 : decode cX12_lies 2 = .ok (.iload_n 2, 1) := by decide +kernel
theorem dX12_lies_3 : decode cX12_lies 3 = .ok (.invokevirtual 349, 3) := by decide +kernel
theorem dX12_lies_6 : decode cX12_lies 6 = .ok (.ifCond .ne 10, 3) := by decide +kernel
theorem dX12_lies_9 : decode cX12_lies 9 = .ok (.aload_n 0, 1) := by decide +kernel
theorem dX12_lies_10 : decode cX12_lies 10 = .ok (.bipush (-2), 2) := by decide +kernel
theorem dX12_lies_12 : decode cX12_lies 12 = .ok (.invokevirtual 177, 3) := by decide +kernel
theorem dX12_lies_15 : decode cX12_lies 15 = .ok (.ireturn, 1) := by decide +kernel
theorem dX12_lies_16 : decode cX12_lies 16 = .ok (.aload_n 0, 1) := by decide +kernel
theorem dX12_lies_17 : decode cX12_lies 17 = .ok (.getfield 49, 3) := by decide +kernel
theorem dX12_lies_20 : decode cX12_lies 20 = .ok (.iload_n 1, 1) := by decide +kernel
theorem dX12_lies_21 : decode cX12_lies 21 = .ok (.laload, 1) := by decide +kernel
theorem dX12_lies_22 : decode cX12_lies 22 = .ok (.lconst 0, 1) := by decide +kernel
theorem dX12_lies_23 : decode cX12_lies 23 = .ok (.lcmp, 1) := by decide +kernel
theorem dX12_lies_24 : decode cX12_lies 24 = .ok (.ifCond .eq 14, 3) := by decide +kernel
theorem dX12_lies_27 : decode cX12_lies 27 = .ok (.aload_n 0, 1) := by decide +kernel
theorem dX12_lies_28 : decode cX12_lies 28 = .ok (.getfield 49, 3) := by decide +kernel
theorem dX12_lies_31 : decode cX12_lies 31 = .ok (.iload_n 2, 1) := by decide +kernel
theorem dX12_lies_32 : decode cX12_lies 32 = .ok (.laload, 1) := by decide +kernel
theorem dX12_lies_33 : decode cX12_lies 33 = .ok (.lconst 0, 1) := by decide +kernel
theorem dX12_lies_34 : decode cX12_lies 34 = .ok (.lcmp, 1) := by decide +kernel
theorem dX12_lies_35 : decode cX12_lies 35 = .ok (.ifCond .ne 7, 3) := by decide +kernel
theorem dX12_lies_38 : decode cX12_lies 38 = .ok (.iconst (-1), 1) := by decide +kernel
theorem dX12_lies_39 : decode cX12_lies 39 = .ok (.goto 18, 3) := by decide +kernel
theorem dX12_lies_42 : decode cX12_lies 42 = .ok (.aload_n 0, 1) := by decide +kernel
theorem dX12_lies_43 : decode cX12_lies 43 = .ok (.getfield 49, 3) := by decide +kernel
theorem dX12_lies_46 : decode cX12_lies 46 = .ok (.iload_n 1, 1) := by decide +kernel
theorem dX12_lies_47 : decode cX12_lies 47 = .ok (.laload, 1) := by decide +kernel
theorem dX12_lies_48 : decode cX12_lies 48 = .ok (.aload_n 0, 1) := by decide +kernel
theorem dX12_lies_49 : decode cX12_lies 49 = .ok (.getfield 49, 3) := by decide +kernel
theorem dX12_lies_52 : decode cX12_lies 52 = .ok (.iload_n 2, 1) := by decide +kernel
theorem dX12_lies_53 : decode cX12_lies 53 = .ok (.laload, 1) := by decide +kernel
theorem dX12_lies_54 : decode cX12_lies 54 = .ok (.invokestatic 501, 3) := by decide +kernel
theorem dX12_lies_57 : decode cX12_lies 57 = .ok (.ireturn, 1) := by decide +kernel
theorem dX12_isSo_0 : decode cX12_isSo 0 = .ok (.aload_n 0, 1) := by decide +kernel
theorem dX12_isSo_1 : decode cX12_isSo 1 = .ok (.getfield 49, 3) := by decide +kernel
theorem dX12_isSo_4 : decode cX12_isSo 4 = .ok (.aload_n 0, 1) := by decide +kernel
theorem dX12_isSo_5 : decode cX12_isSo 5 = .ok (.getfield 52, 3) := by decide +kernel
theorem dX12_isSo_8 : decode cX12_isSo 8 = .ok (.iload_n 1, 1) := by decide +kernel
theorem dX12_isSo_9 : decode cX12_isSo 9 = .ok (.iaload, 1) := by decide +kernel
theorem dX12_isSo_10 : decode cX12_isSo 10 = .ok (.laload, 1) := by decide +kernel
theorem dX12_isSo_11 : decode cX12_isSo 11 = .ok (.lstore_n 2, 1) := by decide +kernel
theorem dX12_isSo_12 : decode cX12_isSo 12 = .ok (.aload_n 0, 1) := by decide +kernel
theorem dX12_isSo_13 : decode cX12_isSo 13 = .ok (.getfield 49, 3) := by decide +kernel
theorem dX12_isSo_16 : decode cX12_isSo 16 = .ok (.aload_n 0, 1) := by decide +kernel
theorem dX12_isSo_17 : decode cX12_isSo 17 = .ok (.getfield 55, 3) := by decide +kernel
theorem dX12_isSo_20 : decode cX12_isSo 20 = .ok (.iload_n 1, 1) := by decide +kernel
theorem dX12_isSo_21 : decode cX12_isSo 21 = .ok (.iaload, 1) := by decide +kernel
theorem dX12_isSo_22 : decode cX12_isSo 22 = .ok (.laload, 1) := by decide +kernel
theorem dX12_isSo_23 : decode cX12_isSo 23 = .ok (.lstore 4, 2) := by decide +kernel
theorem dX12_isSo_25 : decode cX12_isSo 25 = .ok (.lload_n 2, 1) := by decide +kernel
theorem dX12_isSo_26 : decode cX12_isSo 26 = .ok (.lconst 0, 1) := by decide +kernel
theorem dX12_isSo_27 : decode cX12_isSo 27 = .ok (.lcmp, 1) := by decide +kernel
theorem dX12_isSo_28 : decode cX12_isSo 28 = .ok (.ifCond .eq 10, 3) := by decide +kernel
theorem dX12_isSo_31 : decode cX12_isSo 31 = .ok (.lload 4, 2) := by decide +kernel
theorem dX12_isSo_33 : decode cX12_isSo 33 = .ok (.lconst 0, 1) := by decide +kernel
theorem dX12_isSo_34 : decode cX12_isSo 34 = .ok (.lcmp, 1) := by decide +kernel
theorem dX12_isSo_35 : decode cX12_isSo 35 = .ok (.ifCond .ne 5, 3) := by decide +kernel
theorem dX12_isSo_38 : decode cX12_isSo 38 = .ok (.iconst 0, 1) := by decide +kernel
theorem dX12_isSo_39 : decode cX12_isSo 39 = .ok (.ireturn, 1) := by decide +kernel
theorem dX12_isSo_40 : decode cX12_isSo 40 = .ok (.aload_n 0, 1) := by decide +kernel
theorem dX12_isSo_41 : decode cX12_isSo 41 = .ok (.getfield 64, 3) := by decide +kernel
theorem dX12_isSo_44 : decode cX12_isSo 44 = .ok (.iload_n 1, 1) := by decide +kernel
theorem dX12_isSo_45 : decode cX12_isSo 45 = .ok (.iaload, 1) := by decide +kernel
theorem dX12_isSo_46 : decode cX12_isSo 46 = .ok (.tableswitch 88 0 2 #[26, 48, 70], 26) := by decide +kernel
theorem dX12_isSo_72 : decode cX12_isSo 72 = .ok (.lload_n 2, 1) := by decide +kernel
theorem dX12_isSo_73 : decode cX12_isSo 73 = .ok (.iconst 1, 1) := by decide +kernel
theorem dX12_isSo_74 : decode cX12_isSo 74 = .ok (.iconst 0, 1) := by decide +kernel
theorem dX12_isSo_75 : decode cX12_isSo 75 = .ok (.invokestatic 202, 3) := by decide +kernel
theorem dX12_isSo_78 : decode cX12_isSo 78 = .ok (.lload 4, 2) := by decide +kernel
theorem dX12_isSo_80 : decode cX12_isSo 80 = .ok (.iconst 1, 1) := by decide +kernel
theorem dX12_isSo_81 : decode cX12_isSo 81 = .ok (.iconst 1, 1) := by decide +kernel
theorem dX12_isSo_82 : decode cX12_isSo 82 = .ok (.invokestatic 202, 3) := by decide +kernel
theorem dX12_isSo_85 : decode cX12_isSo 85 = .ok (.if_icmp .ge 7, 3) := by decide +kernel
theorem dX12_isSo_88 : decode cX12_isSo 88 = .ok (.iconst 1, 1) := by decide +kernel
theorem dX12_isSo_89 : decode cX12_isSo 89 = .ok (.goto 4, 3) := by decide +kernel
theorem dX12_isSo_92 : decode cX12_isSo 92 = .ok (.iconst 0, 1) := by decide +kernel
theorem dX12_isSo_93 : decode cX12_isSo 93 = .ok (.ireturn, 1) := by decide +kernel
theorem dX12_isSo_94 : decode cX12_isSo 94 = .ok (.lload_n 2, 1) := by decide +kernel
theorem dX12_isSo_95 : decode cX12_isSo 95 = .ok (.iconst 0, 1) := by decide +kernel
theorem dX12_isSo_96 : decode cX12_isSo 96 = .ok (.iconst 0, 1) := by decide +kernel
theorem dX12_isSo_97 : decode cX12_isSo 97 = .ok (.invokestatic 202, 3) := by decide +kernel
theorem dX12_isSo_100 : decode cX12_isSo 100 = .ok (.lload 4, 2) := by decide +kernel
theorem dX12_isSo_102 : decode cX12_isSo 102 = .ok (.iconst 0, 1) := by decide +kernel
theorem dX12_isSo_103 : decode cX12_isSo 103 = .ok (.iconst 0, 1) := by decide +kernel
theorem dX12_isSo_104 : decode cX12_isSo 104 = .ok (.invokestatic 202, 3) := by decide +kernel
theorem dX12_isSo_107 : decode cX12_isSo 107 = .ok (.if_icmp .le 7, 3) := by decide +kernel
theorem dX12_isSo_110 : decode cX12_isSo 110 = .ok (.iconst 1, 1) := by decide +kernel
theorem dX12_isSo_111 : decode cX12_isSo 111 = .ok (.goto 4, 3) := by decide +kernel
theorem dX12_isSo_114 : decode cX12_isSo 114 = .ok (.iconst 0, 1) := by decide +kernel
theorem dX12_isSo_115 : decode cX12_isSo 115 = .ok (.ireturn, 1) := by decide +kernel
theorem dX12_isSo_116 : decode cX12_isSo 116 = .ok (.lload_n 2, 1) := by decide +kernel
theorem dX12_isSo_117 : decode cX12_isSo 117 = .ok (.invokestatic 195, 3) := by decide +kernel
theorem dX12_isSo_120 : decode cX12_isSo 120 = .ok (.lload 4, 2) := by decide +kernel
theorem dX12_isSo_122 : decode cX12_isSo 122 = .ok (.invokestatic 195, 3) := by decide +kernel
theorem dX12_isSo_125 : decode cX12_isSo 125 = .ok (.if_icmp .le 7, 3) := by decide +kernel
theorem dX12_isSo_128 : decode cX12_isSo 128 = .ok (.iconst 1, 1) := by decide +kernel
theorem dX12_isSo_129 : decode cX12_isSo 129 = .ok (.goto 4, 3) := by decide +kernel
theorem dX12_isSo_132 : decode cX12_isSo 132 = .ok (.iconst 0, 1) := by decide +kernel
theorem dX12_isSo_133 : decode cX12_isSo 133 = .ok (.ireturn, 1) := by decide +kernel
theorem dX12_isSo_134 : decode cX12_isSo 134 = .ok (.aload_n 0, 1) := by decide +kernel
theorem dX12_isSo_135 : decode cX12_isSo 135 = .ok (.iload_n 1, 1) := by decide +kernel
theorem dX12_isSo_136 : decode cX12_isSo 136 = .ok (.invokevirtual 311, 3) := by decide +kernel
theorem dX12_isSo_139 : decode cX12_isSo 139 = .ok (.lload_n 2, 1) := by decide +kernel
theorem dX12_isSo_140 : decode cX12_isSo 140 = .ok (.lload 4, 2) := by decide +kernel
theorem dX12_isSo_142 : decode cX12_isSo 142 = .ok (.invokestatic 501, 3) := by decide +kernel
theorem dX12_isSo_145 : decode cX12_isSo 145 = .ok (.ishr, 1) := by decide +kernel
theorem dX12_isSo_146 : decode cX12_isSo 146 = .ok (.iconst 1, 1) := by decide +kernel
theorem dX12_isSo_147 : decode cX12_isSo 147 = .ok (.iand, 1) := by decide +kernel
theorem dX12_isSo_148 : decode cX12_isSo 148 = .ok (.ifCond .eq 7, 3) := by decide +kernel
theorem dX12_isSo_151 : decode cX12_isSo 151 = .ok (.iconst 1, 1) := by decide +kernel
theorem dX12_isSo_152 : decode cX12_isSo 152 = .ok (.goto 4, 3) := by decide +kernel
theorem dX12_isSo_155 : decode cX12_isSo 155 = .ok (.iconst 0, 1) := by decide +kernel
theorem dX12_isSo_156 : decode cX12_isSo 156 = .ok (.ireturn, 1) := by decide +kernel
theorem dX12_judge_0 : decode cX12_judge 0 = .ok (.iload_n 1, 1) := by decide +kernel
theorem dX12_judge_1 : decode cX12_judge 1 = .ok (.invokestatic 212, 3) := by decide +kernel
theorem dX12_judge_4 : decode cX12_judge 4 = .ok (.ifCond .ne 10, 3) := by decide +kernel
theorem dX12_judge_7 : decode cX12_judge 7 = .ok (.aload_n 0, 1) := by decide +kernel
theorem dX12_judge_8 : decode cX12_judge 8 = .ok (.bipush (-2), 2) := by decide +kernel
theorem dX12_judge_10 : decode cX12_judge 10 = .ok (.invokevirtual 177, 3) := by decide +kernel
theorem dX12_judge_13 : decode cX12_judge 13 = .ok (.ireturn, 1) := by decide +kernel
theorem dX12_judge_14 : decode cX12_judge 14 = .ok (.iconst 0, 1) := by decide +kernel
theorem dX12_judge_15 : decode cX12_judge 15 = .ok (.istore_n 2, 1) := by decide +kernel
theorem dX12_judge_16 : decode cX12_judge 16 = .ok (.iload_n 2, 1) := by decide +kernel
theorem dX12_judge_17 : decode cX12_judge 17 = .ok (.aload_n 0, 1) := by decide +kernel
theorem dX12_judge_18 : decode cX12_judge 18 = .ok (.getfield 300, 3) := by decide +kernel
theorem dX12_judge_21 : decode cX12_judge 21 = .ok (.if_icmp .ge 28, 3) := by decide +kernel
theorem dX12_judge_24 : decode cX12_judge 24 = .ok (.aload_n 0, 1) := by decide +kernel
theorem dX12_judge_25 : decode cX12_judge 25 = .ok (.iload_n 2, 1) := by decide +kernel
theorem dX12_judge_26 : decode cX12_judge 26 = .ok (.iload_n 1, 1) := by decide +kernel
theorem dX12_judge_27 : decode cX12_judge 27 = .ok (.invokevirtual 332, 3) := by decide +kernel
theorem dX12_judge_30 : decode cX12_judge 30 = .ok (.ifCond .eq 13, 3) := by decide +kernel
theorem dX12_judge_33 : decode cX12_judge 33 = .ok (.aload_n 0, 1) := by decide +kernel
theorem dX12_judge_34 : decode cX12_judge 34 = .ok (.iload_n 2, 1) := by decide +kernel
theorem dX12_judge_35 : decode cX12_judge 35 = .ok (.invokevirtual 505, 3) := by decide +kernel
theorem dX12_judge_38 : decode cX12_judge 38 = .ok (.ifCond .ne 5, 3) := by decide +kernel
theorem dX12_judge_41 : decode cX12_judge 41 = .ok (.iload_n 2, 1) := by decide +kernel
theorem dX12_judge_42 : decode cX12_judge 42 = .ok (.ireturn, 1) := by decide +kernel
theorem dX12_judge_43 : decode cX12_judge 43 = .ok (.iinc 2 1, 3) := by decide +kernel
theorem dX12_judge_46 : decode cX12_judge 46 = .ok (.goto (-30), 3) := by decide +kernel
theorem dX12_judge_49 : decode cX12_judge 49 = .ok (.iconst (-1), 1) := by decide +kernel
theorem dX12_judge_50 : decode cX12_judge 50 = .ok (.ireturn, 1) := by decide +kernel
theorem dX12_reached_0 : decode cX12_reached 0 = .ok (.lload_n 0, 1) := by decide +kernel
theorem dX12_reached_1 : decode cX12_reached 1 = .ok (.lload_n 2, 1) := by decide +kernel
theorem dX12_reached_2 : decode cX12_reached 2 = .ok (.land, 1) := by decide +kernel
theorem dX12_reached_3 : decode cX12_reached 3 = .ok (.lstore 4, 2) := by decide +kernel
theorem dX12_reached_5 : decode cX12_reached 5 = .ok (.lconst 0, 1) := by decide +kernel
theorem dX12_reached_6 : decode cX12_reached 6 = .ok (.lstore 6, 2) := by decide +kernel
theorem dX12_reached_8 : decode cX12_reached 8 = .ok (.lload 4, 2) := by decide +kernel
theorem dX12_reached_10 : decode cX12_reached 10 = .ok (.lload 6, 2) := by decide +kernel
theorem dX12_reached_12 : decode cX12_reached 12 = .ok (.lcmp, 1) := by decide +kernel
theorem dX12_reached_13 : decode cX12_reached 13 = .ok (.ifCond .eq 22, 3) := by decide +kernel
theorem dX12_reached_16 : decode cX12_reached 16 = .ok (.lload 4, 2) := by decide +kernel
theorem dX12_reached_18 : decode cX12_reached 18 = .ok (.lstore 6, 2) := by decide +kernel
theorem dX12_reached_20 : decode cX12_reached 20 = .ok (.lload 4, 2) := by decide +kernel
theorem dX12_reached_22 : decode cX12_reached 22 = .ok (.lload 4, 2) := by decide +kernel
theorem dX12_reached_24 : decode cX12_reached 24 = .ok (.invokestatic 497, 3) := by decide +kernel
theorem dX12_reached_27 : decode cX12_reached 27 = .ok (.lload_n 2, 1) := by decide +kernel
theorem dX12_reached_28 : decode cX12_reached 28 = .ok (.land, 1) := by decide +kernel
theorem dX12_reached_29 : decode cX12_reached 29 = .ok (.lor, 1) := by decide +kernel
theorem dX12_reached_30 : decode cX12_reached 30 = .ok (.lstore 4, 2) := by decide +kernel
theorem dX12_reached_32 : decode cX12_reached 32 = .ok (.goto (-24), 3) := by decide +kernel
theorem dX12_reached_35 : decode cX12_reached 35 = .ok (.lload 4, 2) := by decide +kernel
theorem dX12_reached_37 : decode cX12_reached 37 = .ok (.lreturn, 1) := by decide +kernel
theorem dX12_right_0 : decode cX12_right 0 = .ok (.aload_n 0, 1) := by decide +kernel
theorem dX12_right_1 : decode cX12_right 1 = .ok (.iload_n 1, 1) := by decide +kernel
theorem dX12_right_2 : decode cX12_right 2 = .ok (.invokevirtual 163, 3) := by decide +kernel
theorem dX12_right_5 : decode cX12_right 5 = .ok (.ifCond .ne 10, 3) := by decide +kernel
theorem dX12_right_8 : decode cX12_right 8 = .ok (.aload_n 0, 1) := by decide +kernel
theorem dX12_right_9 : decode cX12_right 9 = .ok (.bipush (-2), 2) := by decide +kernel
theorem dX12_right_11 : decode cX12_right 11 = .ok (.invokevirtual 177, 3) := by decide +kernel
theorem dX12_right_14 : decode cX12_right 14 = .ok (.ireturn, 1) := by decide +kernel
theorem dX12_right_15 : decode cX12_right 15 = .ok (.aload_n 0, 1) := by decide +kernel
theorem dX12_right_16 : decode cX12_right 16 = .ok (.getfield 49, 3) := by decide +kernel
theorem dX12_right_19 : decode cX12_right 19 = .ok (.iload_n 1, 1) := by decide +kernel
theorem dX12_right_20 : decode cX12_right 20 = .ok (.laload, 1) := by decide +kernel
theorem dX12_right_21 : decode cX12_right 21 = .ok (.lstore_n 2, 1) := by decide +kernel
theorem dX12_right_22 : decode cX12_right 22 = .ok (.lload_n 2, 1) := by decide +kernel
theorem dX12_right_23 : decode cX12_right 23 = .ok (.lconst 0, 1) := by decide +kernel
theorem dX12_right_24 : decode cX12_right 24 = .ok (.lcmp, 1) := by decide +kernel
theorem dX12_right_25 : decode cX12_right 25 = .ok (.ifCond .eq 7, 3) := by decide +kernel
theorem dX12_right_28 : decode cX12_right 28 = .ok (.iconst 1, 1) := by decide +kernel
theorem dX12_right_29 : decode cX12_right 29 = .ok (.goto 4, 3) := by decide +kernel
theorem dX12_right_32 : decode cX12_right 32 = .ok (.iconst 0, 1) := by decide +kernel
theorem dX12_right_33 : decode cX12_right 33 = .ok (.istore 4, 2) := by decide +kernel
theorem dX12_right_35 : decode cX12_right 35 = .ok (.aload_n 0, 1) := by decide +kernel
theorem dX12_right_36 : decode cX12_right 36 = .ok (.getfield 37, 3) := by decide +kernel
theorem dX12_right_39 : decode cX12_right 39 = .ok (.iload_n 1, 1) := by decide +kernel
theorem dX12_right_40 : decode cX12_right 40 = .ok (.iaload, 1) := by decide +kernel
theorem dX12_right_41 : decode cX12_right 41 = .ok (.iconst 4, 1) := by decide +kernel
theorem dX12_right_42 : decode cX12_right 42 = .ok (.if_icmp .ne 62, 3) := by decide +kernel
theorem dX12_right_45 : decode cX12_right 45 = .ok (.aload_n 0, 1) := by decide +kernel
theorem dX12_right_46 : decode cX12_right 46 = .ok (.getfield 49, 3) := by decide +kernel
theorem dX12_right_49 : decode cX12_right 49 = .ok (.aload_n 0, 1) := by decide +kernel
theorem dX12_right_50 : decode cX12_right 50 = .ok (.getfield 46, 3) := by decide +kernel
theorem dX12_right_53 : decode cX12_right 53 = .ok (.iload_n 1, 1) := by decide +kernel
theorem dX12_right_54 : decode cX12_right 54 = .ok (.iaload, 1) := by decide +kernel
theorem dX12_right_55 : decode cX12_right 55 = .ok (.laload, 1) := by decide +kernel
theorem dX12_right_56 : decode cX12_right 56 = .ok (.lstore 5, 2) := by decide +kernel
theorem dX12_right_58 : decode cX12_right 58 = .ok (.aload_n 0, 1) := by decide +kernel
theorem dX12_right_59 : decode cX12_right 59 = .ok (.getfield 49, 3) := by decide +kernel
theorem dX12_right_62 : decode cX12_right 62 = .ok (.aload_n 0, 1) := by decide +kernel
theorem dX12_right_63 : decode cX12_right 63 = .ok (.getfield 46, 3) := by decide +kernel
theorem dX12_right_66 : decode cX12_right 66 = .ok (.iload_n 1, 1) := by decide +kernel
theorem dX12_right_67 : decode cX12_right 67 = .ok (.iaload, 1) := by decide +kernel
theorem dX12_right_68 : decode cX12_right 68 = .ok (.iconst 1, 1) := by decide +kernel
theorem dX12_right_69 : decode cX12_right 69 = .ok (.iadd, 1) := by decide +kernel
theorem dX12_right_70 : decode cX12_right 70 = .ok (.laload, 1) := by decide +kernel
theorem dX12_right_71 : decode cX12_right 71 = .ok (.lstore 7, 2) := by decide +kernel
theorem dX12_right_73 : decode cX12_right 73 = .ok (.iload 4, 2) := by decide +kernel
theorem dX12_right_75 : decode cX12_right 75 = .ok (.ifCond .eq 27, 3) := by decide +kernel
theorem dX12_right_78 : decode cX12_right 78 = .ok (.lload 5, 2) := by decide +kernel
theorem dX12_right_80 : decode cX12_right 80 = .ok (.lload 7, 2) := by decide +kernel
theorem dX12_right_82 : decode cX12_right 82 = .ok (.lor, 1) := by decide +kernel
theorem dX12_right_83 : decode cX12_right 83 = .ok (.lload_n 2, 1) := by decide +kernel
theorem dX12_right_84 : decode cX12_right 84 = .ok (.lcmp, 1) := by decide +kernel
theorem dX12_right_85 : decode cX12_right 85 = .ok (.ifCond .ne 17, 3) := by decide +kernel
theorem dX12_right_88 : decode cX12_right 88 = .ok (.lload 5, 2) := by decide +kernel
theorem dX12_right_90 : decode cX12_right 90 = .ok (.lload 7, 2) := by decide +kernel
theorem dX12_right_92 : decode cX12_right 92 = .ok (.land, 1) := by decide +kernel
theorem dX12_right_93 : decode cX12_right 93 = .ok (.lconst 0, 1) := by decide +kernel
theorem dX12_right_94 : decode cX12_right 94 = .ok (.lcmp, 1) := by decide +kernel
theorem dX12_right_95 : decode cX12_right 95 = .ok (.ifCond .ne 7, 3) := by decide +kernel
theorem dX12_right_98 : decode cX12_right 98 = .ok (.iconst 1, 1) := by decide +kernel
theorem dX12_right_99 : decode cX12_right 99 = .ok (.goto 4, 3) := by decide +kernel
theorem dX12_right_102 : decode cX12_right 102 = .ok (.iconst 0, 1) := by decide +kernel
theorem dX12_right_103 : decode cX12_right 103 = .ok (.ireturn, 1) := by decide +kernel
theorem dX12_right_104 : decode cX12_right 104 = .ok (.aload_n 0, 1) := by decide +kernel
theorem dX12_right_105 : decode cX12_right 105 = .ok (.getfield 37, 3) := by decide +kernel
theorem dX12_right_108 : decode cX12_right 108 = .ok (.iload_n 1, 1) := by decide +kernel
theorem dX12_right_109 : decode cX12_right 109 = .ok (.iaload, 1) := by decide +kernel
theorem dX12_right_110 : decode cX12_right 110 = .ok (.iconst 1, 1) := by decide +kernel
theorem dX12_right_111 : decode cX12_right 111 = .ok (.if_icmp .lt 26, 3) := by decide +kernel
theorem dX12_right_114 : decode cX12_right 114 = .ok (.iload 4, 2) := by decide +kernel
theorem dX12_right_116 : decode cX12_right 116 = .ok (.lload_n 2, 1) := by decide +kernel
theorem dX12_right_117 : decode cX12_right 117 = .ok (.lload_n 2, 1) := by decide +kernel
theorem dX12_right_118 : decode cX12_right 118 = .ok (.lneg, 1) := by decide +kernel
theorem dX12_right_119 : decode cX12_right 119 = .ok (.land, 1) := by decide +kernel
theorem dX12_right_120 : decode cX12_right 120 = .ok (.lload_n 2, 1) := by decide +kernel
theorem dX12_right_121 : decode cX12_right 121 = .ok (.invokestatic 508, 3) := by decide +kernel
theorem dX12_right_124 : decode cX12_right 124 = .ok (.lload_n 2, 1) := by decide +kernel
theorem dX12_right_125 : decode cX12_right 125 = .ok (.lcmp, 1) := by decide +kernel
theorem dX12_right_126 : decode cX12_right 126 = .ok (.ifCond .ne 7, 3) := by decide +kernel
theorem dX12_right_129 : decode cX12_right 129 = .ok (.iconst 1, 1) := by decide +kernel
theorem dX12_right_130 : decode cX12_right 130 = .ok (.goto 4, 3) := by decide +kernel
theorem dX12_right_133 : decode cX12_right 133 = .ok (.iconst 0, 1) := by decide +kernel
theorem dX12_right_134 : decode cX12_right 134 = .ok (.iand, 1) := by decide +kernel
theorem dX12_right_135 : decode cX12_right 135 = .ok (.istore 4, 2) := by decide +kernel
theorem dX12_right_137 : decode cX12_right 137 = .ok (.aload_n 0, 1) := by decide +kernel
theorem dX12_right_138 : decode cX12_right 138 = .ok (.getfield 37, 3) := by decide +kernel
theorem dX12_right_141 : decode cX12_right 141 = .ok (.iload_n 1, 1) := by decide +kernel
theorem dX12_right_142 : decode cX12_right 142 = .ok (.iaload, 1) := by decide +kernel
theorem dX12_right_143 : decode cX12_right 143 = .ok (.iconst 2, 1) := by decide +kernel
theorem dX12_right_144 : decode cX12_right 144 = .ok (.if_icmp .lt 33, 3) := by decide +kernel
theorem dX12_right_147 : decode cX12_right 147 = .ok (.iload 4, 2) := by decide +kernel
theorem dX12_right_149 : decode cX12_right 149 = .ok (.ldc2_w 512, 3) := by decide +kernel
theorem dX12_right_152 : decode cX12_right 152 = .ok (.lload_n 2, 1) := by decide +kernel
theorem dX12_right_153 : decode cX12_right 153 = .ok (.ldc2_w 242, 3) := by decide +kernel
theorem dX12_right_156 : decode cX12_right 156 = .ok (.lxor, 1) := by decide +kernel
theorem dX12_right_157 : decode cX12_right 157 = .ok (.invokestatic 508, 3) := by decide +kernel
theorem dX12_right_160 : decode cX12_right 160 = .ok (.lload_n 2, 1) := by decide +kernel
theorem dX12_right_161 : decode cX12_right 161 = .ok (.ldc2_w 242, 3) := by decide +kernel
theorem dX12_right_164 : decode cX12_right 164 = .ok (.lxor, 1) := by decide +kernel
theorem dX12_right_165 : decode cX12_right 165 = .ok (.lcmp, 1) := by decide +kernel
theorem dX12_right_166 : decode cX12_right 166 = .ok (.ifCond .ne 7, 3) := by decide +kernel
theorem dX12_right_169 : decode cX12_right 169 = .ok (.iconst 1, 1) := by decide +kernel
theorem dX12_right_170 : decode cX12_right 170 = .ok (.goto 4, 3) := by decide +kernel
theorem dX12_right_173 : decode cX12_right 173 = .ok (.iconst 0, 1) := by decide +kernel
theorem dX12_right_174 : decode cX12_right 174 = .ok (.iand, 1) := by decide +kernel
theorem dX12_right_175 : decode cX12_right 175 = .ok (.istore 4, 2) := by decide +kernel
theorem dX12_right_177 : decode cX12_right 177 = .ok (.aload_n 0, 1) := by decide +kernel
theorem dX12_right_178 : decode cX12_right 178 = .ok (.getfield 37, 3) := by decide +kernel
theorem dX12_right_181 : decode cX12_right 181 = .ok (.iload_n 1, 1) := by decide +kernel
theorem dX12_right_182 : decode cX12_right 182 = .ok (.iaload, 1) := by decide +kernel
theorem dX12_right_183 : decode cX12_right 183 = .ok (.iconst 3, 1) := by decide +kernel
theorem dX12_right_184 : decode cX12_right 184 = .ok (.if_icmp .ne 61, 3) := by decide +kernel
theorem dX12_right_187 : decode cX12_right 187 = .ok (.iload 4, 2) := by decide +kernel
theorem dX12_right_189 : decode cX12_right 189 = .ok (.ifCond .eq 56, 3) := by decide +kernel
theorem dX12_right_192 : decode cX12_right 192 = .ok (.lload_n 2, 1) := by decide +kernel
theorem dX12_right_193 : decode cX12_right 193 = .ok (.iconst 1, 1) := by decide +kernel
theorem dX12_right_194 : decode cX12_right 194 = .ok (.iconst 0, 1) := by decide +kernel
theorem dX12_right_195 : decode cX12_right 195 = .ok (.invokestatic 202, 3) := by decide +kernel
theorem dX12_right_198 : decode cX12_right 198 = .ok (.lload_n 2, 1) := by decide +kernel
theorem dX12_right_199 : decode cX12_right 199 = .ok (.iconst 1, 1) := by decide +kernel
theorem dX12_right_200 : decode cX12_right 200 = .ok (.iconst 1, 1) := by decide +kernel
theorem dX12_right_201 : decode cX12_right 201 = .ok (.invokestatic 202, 3) := by decide +kernel
theorem dX12_right_204 : decode cX12_right 204 = .ok (.isub, 1) := by decide +kernel
theorem dX12_right_205 : decode cX12_right 205 = .ok (.iconst 1, 1) := by decide +kernel
theorem dX12_right_206 : decode cX12_right 206 = .ok (.iadd, 1) := by decide +kernel
theorem dX12_right_207 : decode cX12_right 207 = .ok (.istore 5, 2) := by decide +kernel
theorem dX12_right_209 : decode cX12_right 209 = .ok (.lload_n 2, 1) := by decide +kernel
theorem dX12_right_210 : decode cX12_right 210 = .ok (.iconst 0, 1) := by decide +kernel
theorem dX12_right_211 : decode cX12_right 211 = .ok (.iconst 0, 1) := by decide +kernel
theorem dX12_right_212 : decode cX12_right 212 = .ok (.invokestatic 202, 3) := by decide +kernel
theorem dX12_right_215 : decode cX12_right 215 = .ok (.lload_n 2, 1) := by decide +kernel
theorem dX12_right_216 : decode cX12_right 216 = .ok (.iconst 0, 1) := by decide +kernel
theorem dX12_right_217 : decode cX12_right 217 = .ok (.iconst 1, 1) := by decide +kernel
theorem dX12_right_218 : decode cX12_right 218 = .ok (.invokestatic 202, 3) := by decide +kernel
theorem dX12_right_221 : decode cX12_right 221 = .ok (.isub, 1) := by decide +kernel
theorem dX12_right_222 : decode cX12_right 222 = .ok (.iconst 1, 1) := by decide +kernel
theorem dX12_right_223 : decode cX12_right 223 = .ok (.iadd, 1) := by decide +kernel
theorem dX12_right_224 : decode cX12_right 224 = .ok (.istore 6, 2) := by decide +kernel
theorem dX12_right_226 : decode cX12_right 226 = .ok (.iload 5, 2) := by decide +kernel
theorem dX12_right_228 : decode cX12_right 228 = .ok (.iload 6, 2) := by decide +kernel
theorem dX12_right_230 : decode cX12_right 230 = .ok (.imul, 1) := by decide +kernel
theorem dX12_right_231 : decode cX12_right 231 = .ok (.lload_n 2, 1) := by decide +kernel
theorem dX12_right_232 : decode cX12_right 232 = .ok (.invokestatic 195, 3) := by decide +kernel
theorem dX12_right_235 : decode cX12_right 235 = .ok (.if_icmp .ne 7, 3) := by decide +kernel
theorem dX12_right_238 : decode cX12_right 238 = .ok (.iconst 1, 1) := by decide +kernel
theorem dX12_right_239 : decode cX12_right 239 = .ok (.goto 4, 3) := by decide +kernel
theorem dX12_right_242 : decode cX12_right 242 = .ok (.iconst 0, 1) := by decide +kernel
theorem dX12_right_243 : decode cX12_right 243 = .ok (.istore 4, 2) := by decide +kernel
theorem dX12_right_245 : decode cX12_right 245 = .ok (.iload 4, 2) := by decide +kernel
theorem dX12_right_247 : decode cX12_right 247 = .ok (.ifCond .eq 7, 3) := by decide +kernel
theorem dX12_right_250 : decode cX12_right 250 = .ok (.iconst 1, 1) := by decide +kernel
theorem dX12_right_251 : decode cX12_right 251 = .ok (.goto 4, 3) := by decide +kernel
theorem dX12_right_254 : decode cX12_right 254 = .ok (.iconst 0, 1) := by decide +kernel
theorem dX12_right_255 : decode cX12_right 255 = .ok (.ireturn, 1) := by decide +kernel
theorem dX12_whole_0 : decode cX12_whole 0 = .ok (.aload_n 0, 1) := by decide +kernel
theorem dX12_whole_1 : decode cX12_whole 1 = .ok (.iload_n 1, 1) := by decide +kernel
theorem dX12_whole_2 : decode cX12_whole 2 = .ok (.invokevirtual 163, 3) := by decide +kernel
theorem dX12_whole_5 : decode cX12_whole 5 = .ok (.ifCond .eq 17, 3) := by decide +kernel
theorem dX12_whole_8 : decode cX12_whole 8 = .ok (.iload_n 2, 1) := by decide +kernel
theorem dX12_whole_9 : decode cX12_whole 9 = .ok (.iconst 1, 1) := by decide +kernel
theorem dX12_whole_10 : decode cX12_whole 10 = .ok (.if_icmp .lt 12, 3) := by decide +kernel
theorem dX12_whole_13 : decode cX12_whole 13 = .ok (.iload_n 2, 1) := by decide +kernel
theorem dX12_whole_14 : decode cX12_whole 14 = .ok (.aload_n 0, 1) := by decide +kernel
theorem dX12_whole_15 : decode cX12_whole 15 = .ok (.getfield 156, 3) := by decide +kernel
theorem dX12_whole_18 : decode cX12_whole 18 = .ok (.ishr, 1) := by decide +kernel
theorem dX12_whole_19 : decode cX12_whole 19 = .ok (.ifCond .eq 10, 3) := by decide +kernel
theorem dX12_whole_22 : decode cX12_whole 22 = .ok (.aload_n 0, 1) := by decide +kernel
theorem dX12_whole_23 : decode cX12_whole 23 = .ok (.bipush (-2), 2) := by decide +kernel
theorem dX12_whole_25 : decode cX12_whole 25 = .ok (.invokevirtual 177, 3) := by decide +kernel
theorem dX12_whole_28 : decode cX12_whole 28 = .ok (.ireturn, 1) := by decide +kernel
theorem dX12_whole_29 : decode cX12_whole 29 = .ok (.lconst 0, 1) := by decide +kernel
theorem dX12_whole_30 : decode cX12_whole 30 = .ok (.lstore_n 3, 1) := by decide +kernel
theorem dX12_whole_31 : decode cX12_whole 31 = .ok (.iconst 0, 1) := by decide +kernel
theorem dX12_whole_32 : decode cX12_whole 32 = .ok (.istore 5, 2) := by decide +kernel
theorem dX12_whole_34 : decode cX12_whole 34 = .ok (.iconst 0, 1) := by decide +kernel
theorem dX12_whole_35 : decode cX12_whole 35 = .ok (.istore 6, 2) := by decide +kernel
theorem dX12_whole_37 : decode cX12_whole 37 = .ok (.iload 6, 2) := by decide +kernel
theorem dX12_whole_39 : decode cX12_whole 39 = .ok (.aload_n 0, 1) := by decide +kernel
theorem dX12_whole_40 : decode cX12_whole 40 = .ok (.getfield 156, 3) := by decide +kernel
theorem dX12_whole_43 : decode cX12_whole 43 = .ok (.if_icmp .ge 52, 3) := by decide +kernel
theorem dX12_whole_46 : decode cX12_whole 46 = .ok (.iload_n 2, 1) := by decide +kernel
theorem dX12_whole_47 : decode cX12_whole 47 = .ok (.iload 6, 2) := by decide +kernel
theorem dX12_whole_49 : decode cX12_whole 49 = .ok (.ishr, 1) := by decide +kernel
theorem dX12_whole_50 : decode cX12_whole 50 = .ok (.iconst 1, 1) := by decide +kernel
theorem dX12_whole_51 : decode cX12_whole 51 = .ok (.iand, 1) := by decide +kernel
theorem dX12_whole_52 : decode cX12_whole 52 = .ok (.ifCond .eq 37, 3) := by decide +kernel
theorem dX12_whole_55 : decode cX12_whole 55 = .ok (.iload 5, 2) := by decide +kernel
theorem dX12_whole_57 : decode cX12_whole 57 = .ok (.lload_n 3, 1) := by decide +kernel
theorem dX12_whole_58 : decode cX12_whole 58 = .ok (.aload_n 0, 1) := by decide +kernel
theorem dX12_whole_59 : decode cX12_whole 59 = .ok (.getfield 49, 3) := by decide +kernel
theorem dX12_whole_62 : decode cX12_whole 62 = .ok (.iload 6, 2) := by decide +kernel
theorem dX12_whole_64 : decode cX12_whole 64 = .ok (.laload, 1) := by decide +kernel
theorem dX12_whole_65 : decode cX12_whole 65 = .ok (.land, 1) := by decide +kernel
theorem dX12_whole_66 : decode cX12_whole 66 = .ok (.lconst 0, 1) := by decide +kernel
theorem dX12_whole_67 : decode cX12_whole 67 = .ok (.lcmp, 1) := by decide +kernel
theorem dX12_whole_68 : decode cX12_whole 68 = .ok (.ifCond .eq 7, 3) := by decide +kernel
theorem dX12_whole_71 : decode cX12_whole 71 = .ok (.iconst 1, 1) := by decide +kernel
theorem dX12_whole_72 : decode cX12_whole 72 = .ok (.goto 4, 3) := by decide +kernel
theorem dX12_whole_75 : decode cX12_whole 75 = .ok (.iconst 0, 1) := by decide +kernel
theorem dX12_whole_76 : decode cX12_whole 76 = .ok (.ior, 1) := by decide +kernel
theorem dX12_whole_77 : decode cX12_whole 77 = .ok (.istore 5, 2) := by decide +kernel
theorem dX12_whole_79 : decode cX12_whole 79 = .ok (.lload_n 3, 1) := by decide +kernel
theorem dX12_whole_80 : decode cX12_whole 80 = .ok (.aload_n 0, 1) := by decide +kernel
theorem dX12_whole_81 : decode cX12_whole 81 = .ok (.getfield 49, 3) := by decide +kernel
theorem dX12_whole_84 : decode cX12_whole 84 = .ok (.iload 6, 2) := by decide +kernel
theorem dX12_whole_86 : decode cX12_whole 86 = .ok (.laload, 1) := by decide +kernel
theorem dX12_whole_87 : decode cX12_whole 87 = .ok (.lor, 1) := by decide +kernel
theorem dX12_whole_88 : decode cX12_whole 88 = .ok (.lstore_n 3, 1) := by decide +kernel
theorem dX12_whole_89 : decode cX12_whole 89 = .ok (.iinc 6 1, 3) := by decide +kernel
theorem dX12_whole_92 : decode cX12_whole 92 = .ok (.goto (-55), 3) := by decide +kernel
theorem dX12_whole_95 : decode cX12_whole 95 = .ok (.iload 5, 2) := by decide +kernel
theorem dX12_whole_97 : decode cX12_whole 97 = .ok (.ifCond .ne 18, 3) := by decide +kernel
theorem dX12_whole_100 : decode cX12_whole 100 = .ok (.lload_n 3, 1) := by decide +kernel
theorem dX12_whole_101 : decode cX12_whole 101 = .ok (.aload_n 0, 1) := by decide +kernel
theorem dX12_whole_102 : decode cX12_whole 102 = .ok (.getfield 49, 3) := by decide +kernel
theorem dX12_whole_105 : decode cX12_whole 105 = .ok (.iload_n 1, 1) := by decide +kernel
theorem dX12_whole_106 : decode cX12_whole 106 = .ok (.laload, 1) := by decide +kernel
theorem dX12_whole_107 : decode cX12_whole 107 = .ok (.lcmp, 1) := by decide +kernel
theorem dX12_whole_108 : decode cX12_whole 108 = .ok (.ifCond .ne 7, 3) := by decide +kernel
theorem dX12_whole_111 : decode cX12_whole 111 = .ok (.iconst 1, 1) := by decide +kernel
theorem dX12_whole_112 : decode cX12_whole 112 = .ok (.goto 4, 3) := by decide +kernel
theorem dX12_whole_115 : decode cX12_whole 115 = .ok (.iconst 0, 1) := by decide +kernel
theorem dX12_whole_116 : decode cX12_whole 116 = .ok (.ireturn, 1) := by decide +kernel
theorem dX12_below_0 : decode cX12_below 0 = .ok (.aload_n 0, 1) := by decide +kernel
theorem dX12_below_1 : decode cX12_below 1 = .ok (.aload_n 0, 1) := by decide +kernel
theorem dX12_below_2 : decode cX12_below 2 = .ok (.getfield 85, 3) := by decide +kernel
theorem dX12_below_5 : decode cX12_below 5 = .ok (.ldc_w 514, 3) := by decide +kernel
theorem dX12_below_8 : decode cX12_below 8 = .ok (.imul, 1) := by decide +kernel
theorem dX12_below_9 : decode cX12_below 9 = .ok (.sipush 12345, 3) := by decide +kernel
theorem dX12_below_12 : decode cX12_below 12 = .ok (.iadd, 1) := by decide +kernel
theorem dX12_below_13 : decode cX12_below 13 = .ok (.putfield 85, 3) := by decide +kernel
theorem dX12_below_16 : decode cX12_below 16 = .ok (.aload_n 0, 1) := by decide +kernel
theorem dX12_below_17 : decode cX12_below 17 = .ok (.getfield 85, 3) := by decide +kernel
theorem dX12_below_20 : decode cX12_below 20 = .ok (.bipush 16, 2) := by decide +kernel
theorem dX12_below_22 : decode cX12_below 22 = .ok (.iushr, 1) := by decide +kernel
theorem dX12_below_23 : decode cX12_below 23 = .ok (.iload_n 1, 1) := by decide +kernel
theorem dX12_below_24 : decode cX12_below 24 = .ok (.irem, 1) := by decide +kernel
theorem dX12_below_25 : decode cX12_below 25 = .ok (.ireturn, 1) := by decide +kernel
theorem dX12_box_0 : decode cX12_box 0 = .ok (.aload_n 0, 1) := by decide +kernel
theorem dX12_box_1 : decode cX12_box 1 = .ok (.bipush 6, 2) := by decide +kernel
theorem dX12_box_3 : decode cX12_box 3 = .ok (.invokevirtual 515, 3) := by decide +kernel
theorem dX12_box_6 : decode cX12_box 6 = .ok (.istore_n 1, 1) := by decide +kernel
theorem dX12_box_7 : decode cX12_box 7 = .ok (.aload_n 0, 1) := by decide +kernel
theorem dX12_box_8 : decode cX12_box 8 = .ok (.bipush 6, 2) := by decide +kernel
theorem dX12_box_10 : decode cX12_box 10 = .ok (.invokevirtual 515, 3) := by decide +kernel
theorem dX12_box_13 : decode cX12_box 13 = .ok (.istore_n 2, 1) := by decide +kernel
theorem dX12_box_14 : decode cX12_box 14 = .ok (.aload_n 0, 1) := by decide +kernel
theorem dX12_box_15 : decode cX12_box 15 = .ok (.iconst 3, 1) := by decide +kernel
theorem dX12_box_16 : decode cX12_box 16 = .ok (.invokevirtual 515, 3) := by decide +kernel
theorem dX12_box_19 : decode cX12_box 19 = .ok (.istore_n 3, 1) := by decide +kernel
theorem dX12_box_20 : decode cX12_box 20 = .ok (.aload_n 0, 1) := by decide +kernel
theorem dX12_box_21 : decode cX12_box 21 = .ok (.iconst 3, 1) := by decide +kernel
theorem dX12_box_22 : decode cX12_box 22 = .ok (.invokevirtual 515, 3) := by decide +kernel
theorem dX12_box_25 : decode cX12_box 25 = .ok (.istore 4, 2) := by decide +kernel
theorem dX12_box_27 : decode cX12_box 27 = .ok (.lconst 0, 1) := by decide +kernel
theorem dX12_box_28 : decode cX12_box 28 = .ok (.lstore 5, 2) := by decide +kernel
theorem dX12_box_30 : decode cX12_box 30 = .ok (.iload_n 1, 1) := by decide +kernel
theorem dX12_box_31 : decode cX12_box 31 = .ok (.istore 7, 2) := by decide +kernel
theorem dX12_box_33 : decode cX12_box 33 = .ok (.iload 7, 2) := by decide +kernel
theorem dX12_box_35 : decode cX12_box 35 = .ok (.iload_n 1, 1) := by decide +kernel
theorem dX12_box_36 : decode cX12_box 36 = .ok (.iload_n 3, 1) := by decide +kernel
theorem dX12_box_37 : decode cX12_box 37 = .ok (.iadd, 1) := by decide +kernel
theorem dX12_box_38 : decode cX12_box 38 = .ok (.if_icmp .gt 56, 3) := by decide +kernel
theorem dX12_box_41 : decode cX12_box 41 = .ok (.iload 7, 2) := by decide +kernel
theorem dX12_box_43 : decode cX12_box 43 = .ok (.bipush 8, 2) := by decide +kernel
theorem dX12_box_45 : decode cX12_box 45 = .ok (.if_icmp .ge 49, 3) := by decide +kernel
theorem dX12_box_48 : decode cX12_box 48 = .ok (.iload_n 2, 1) := by decide +kernel
theorem dX12_box_49 : decode cX12_box 49 = .ok (.istore 8, 2) := by decide +kernel
theorem dX12_box_51 : decode cX12_box 51 = .ok (.iload 8, 2) := by decide +kernel
theorem dX12_box_53 : decode cX12_box 53 = .ok (.iload_n 2, 1) := by decide +kernel
theorem dX12_box_54 : decode cX12_box 54 = .ok (.iload 4, 2) := by decide +kernel
theorem dX12_box_56 : decode cX12_box 56 = .ok (.iadd, 1) := by decide +kernel
theorem dX12_box_57 : decode cX12_box 57 = .ok (.if_icmp .gt 31, 3) := by decide +kernel
theorem dX12_box_60 : decode cX12_box 60 = .ok (.iload 8, 2) := by decide +kernel
theorem dX12_box_62 : decode cX12_box 62 = .ok (.bipush 8, 2) := by decide +kernel
theorem dX12_box_64 : decode cX12_box 64 = .ok (.if_icmp .ge 24, 3) := by decide +kernel
theorem dX12_box_67 : decode cX12_box 67 = .ok (.lload 5, 2) := by decide +kernel
theorem dX12_box_69 : decode cX12_box 69 = .ok (.lconst 1, 1) := by decide +kernel
theorem dX12_box_70 : decode cX12_box 70 = .ok (.bipush 8, 2) := by decide +kernel
theorem dX12_box_72 : decode cX12_box 72 = .ok (.iload 7, 2) := by decide +kernel
theorem dX12_box_74 : decode cX12_box 74 = .ok (.imul, 1) := by decide +kernel
theorem dX12_box_75 : decode cX12_box 75 = .ok (.iload 8, 2) := by decide +kernel
theorem dX12_box_77 : decode cX12_box 77 = .ok (.iadd, 1) := by decide +kernel
theorem dX12_box_78 : decode cX12_box 78 = .ok (.lshl, 1) := by decide +kernel
theorem dX12_box_79 : decode cX12_box 79 = .ok (.lor, 1) := by decide +kernel
theorem dX12_box_80 : decode cX12_box 80 = .ok (.lstore 5, 2) := by decide +kernel
theorem dX12_box_82 : decode cX12_box 82 = .ok (.iinc 8 1, 3) := by decide +kernel
theorem dX12_box_85 : decode cX12_box 85 = .ok (.goto (-34), 3) := by decide +kernel
theorem dX12_box_88 : decode cX12_box 88 = .ok (.iinc 7 1, 3) := by decide +kernel
theorem dX12_box_91 : decode cX12_box 91 = .ok (.goto (-58), 3) := by decide +kernel
theorem dX12_box_94 : decode cX12_box 94 = .ok (.lload 5, 2) := by decide +kernel
theorem dX12_box_96 : decode cX12_box 96 = .ok (.lreturn, 1) := by decide +kernel
theorem dX12_draw_0 : decode cX12_draw 0 = .ok (.iload_n 1, 1) := by decide +kernel
theorem dX12_draw_1 : decode cX12_draw 1 = .ok (.i2l, 1) := by decide +kernel
theorem dX12_draw_2 : decode cX12_draw 2 = .ok (.lconst 1, 1) := by decide +kernel
theorem dX12_draw_3 : decode cX12_draw 3 = .ok (.ldc2_w 518, 3) := by decide +kernel
theorem dX12_draw_6 : decode cX12_draw 6 = .ok (.invokestatic 159, 3) := by decide +kernel
theorem dX12_draw_9 : decode cX12_draw 9 = .ok (.ifCond .ne 10, 3) := by decide +kernel
theorem dX12_draw_12 : decode cX12_draw 12 = .ok (.aload_n 0, 1) := by decide +kernel
theorem dX12_draw_13 : decode cX12_draw 13 = .ok (.bipush (-2), 2) := by decide +kernel
theorem dX12_draw_15 : decode cX12_draw 15 = .ok (.invokevirtual 177, 3) := by decide +kernel
theorem dX12_draw_18 : decode cX12_draw 18 = .ok (.ireturn, 1) := by decide +kernel
theorem dX12_draw_19 : decode cX12_draw 19 = .ok (.iconst 0, 1) := by decide +kernel
theorem dX12_draw_20 : decode cX12_draw 20 = .ok (.istore_n 2, 1) := by decide +kernel
theorem dX12_draw_21 : decode cX12_draw 21 = .ok (.iload_n 2, 1) := by decide +kernel
theorem dX12_draw_22 : decode cX12_draw 22 = .ok (.iload_n 1, 1) := by decide +kernel
theorem dX12_draw_23 : decode cX12_draw 23 = .ok (.if_icmp .ge 59, 3) := by decide +kernel
theorem dX12_draw_26 : decode cX12_draw 26 = .ok (.aload_n 0, 1) := by decide +kernel
theorem dX12_draw_27 : decode cX12_draw 27 = .ok (.invokevirtual 520, 3) := by decide +kernel
theorem dX12_draw_30 : decode cX12_draw 30 = .ok (.lstore_n 3, 1) := by decide +kernel
theorem dX12_draw_31 : decode cX12_draw 31 = .ok (.aload_n 0, 1) := by decide +kernel
theorem dX12_draw_32 : decode cX12_draw 32 = .ok (.invokevirtual 520, 3) := by decide +kernel
theorem dX12_draw_35 : decode cX12_draw 35 = .ok (.lstore 5, 2) := by decide +kernel
theorem dX12_draw_37 : decode cX12_draw 37 = .ok (.aload_n 0, 1) := by decide +kernel
theorem dX12_draw_38 : decode cX12_draw 38 = .ok (.invokevirtual 520, 3) := by decide +kernel
theorem dX12_draw_41 : decode cX12_draw 41 = .ok (.lstore 7, 2) := by decide +kernel
theorem dX12_draw_43 : decode cX12_draw 43 = .ok (.aload_n 0, 1) := by decide +kernel
theorem dX12_draw_44 : decode cX12_draw 44 = .ok (.getfield 82, 3) := by decide +kernel
theorem dX12_draw_47 : decode cX12_draw 47 = .ok (.bipush 8, 2) := by decide +kernel
theorem dX12_draw_49 : decode cX12_draw 49 = .ok (.lload_n 3, 1) := by decide +kernel
theorem dX12_draw_50 : decode cX12_draw 50 = .ok (.lload 5, 2) := by decide +kernel
theorem dX12_draw_52 : decode cX12_draw 52 = .ok (.invokestatic 501, 3) := by decide +kernel
theorem dX12_draw_55 : decode cX12_draw 55 = .ok (.imul, 1) := by decide +kernel
theorem dX12_draw_56 : decode cX12_draw 56 = .ok (.lload 5, 2) := by decide +kernel
theorem dX12_draw_58 : decode cX12_draw 58 = .ok (.lload 7, 2) := by decide +kernel
theorem dX12_draw_60 : decode cX12_draw 60 = .ok (.invokestatic 501, 3) := by decide +kernel
theorem dX12_draw_63 : decode cX12_draw 63 = .ok (.iadd, 1) := by decide +kernel
theorem dX12_draw_64 : decode cX12_draw 64 = .ok (.dup2, 1) := by decide +kernel
theorem dX12_draw_65 : decode cX12_draw 65 = .ok (.iaload, 1) := by decide +kernel
theorem dX12_draw_66 : decode cX12_draw 66 = .ok (.iconst 1, 1) := by decide +kernel
theorem dX12_draw_67 : decode cX12_draw 67 = .ok (.lload_n 3, 1) := by decide +kernel
theorem dX12_draw_68 : decode cX12_draw 68 = .ok (.lload 7, 2) := by decide +kernel
theorem dX12_draw_70 : decode cX12_draw 70 = .ok (.invokestatic 501, 3) := by decide +kernel
theorem dX12_draw_73 : decode cX12_draw 73 = .ok (.ishl, 1) := by decide +kernel
theorem dX12_draw_74 : decode cX12_draw 74 = .ok (.ior, 1) := by decide +kernel
theorem dX12_draw_75 : decode cX12_draw 75 = .ok (.iastore, 1) := by decide +kernel
theorem dX12_draw_76 : decode cX12_draw 76 = .ok (.iinc 2 1, 3) := by decide +kernel
theorem dX12_draw_79 : decode cX12_draw 79 = .ok (.goto (-58), 3) := by decide +kernel
theorem dX12_draw_82 : decode cX12_draw 82 = .ok (.iconst 0, 1) := by decide +kernel
theorem dX12_draw_83 : decode cX12_draw 83 = .ok (.istore_n 2, 1) := by decide +kernel
theorem dX12_draw_84 : decode cX12_draw 84 = .ok (.iconst 0, 1) := by decide +kernel
theorem dX12_draw_85 : decode cX12_draw 85 = .ok (.istore_n 3, 1) := by decide +kernel
theorem dX12_draw_86 : decode cX12_draw 86 = .ok (.iload_n 3, 1) := by decide +kernel
theorem dX12_draw_87 : decode cX12_draw 87 = .ok (.bipush 64, 2) := by decide +kernel
theorem dX12_draw_89 : decode cX12_draw 89 = .ok (.if_icmp .ge 22, 3) := by decide +kernel
theorem dX12_draw_92 : decode cX12_draw 92 = .ok (.iload_n 2, 1) := by decide +kernel
theorem dX12_draw_93 : decode cX12_draw 93 = .ok (.aload_n 0, 1) := by decide +kernel
theorem dX12_draw_94 : decode cX12_draw 94 = .ok (.getfield 82, 3) := by decide +kernel
theorem dX12_draw_97 : decode cX12_draw 97 = .ok (.iload_n 3, 1) := by decide +kernel
theorem dX12_draw_98 : decode cX12_draw 98 = .ok (.iaload, 1) := by decide +kernel
theorem dX12_draw_99 : decode cX12_draw 99 = .ok (.i2l, 1) := by decide +kernel
theorem dX12_draw_100 : decode cX12_draw 100 = .ok (.invokestatic 195, 3) := by decide +kernel
theorem dX12_draw_103 : decode cX12_draw 103 = .ok (.iadd, 1) := by decide +kernel
theorem dX12_draw_104 : decode cX12_draw 104 = .ok (.istore_n 2, 1) := by decide +kernel
theorem dX12_draw_105 : decode cX12_draw 105 = .ok (.iinc 3 1, 3) := by decide +kernel
theorem dX12_draw_108 : decode cX12_draw 108 = .ok (.goto (-22), 3) := by decide +kernel
theorem dX12_draw_111 : decode cX12_draw 111 = .ok (.iload_n 2, 1) := by decide +kernel
theorem dX12_draw_112 : decode cX12_draw 112 = .ok (.ireturn, 1) := by decide +kernel
theorem dX12_found_0 : decode cX12_found 0 = .ok (.iload_n 1, 1) := by decide +kernel
theorem dX12_found_1 : decode cX12_found 1 = .ok (.invokestatic 325, 3) := by decide +kernel
theorem dX12_found_4 : decode cX12_found 4 = .ok (.ifCond .eq 24, 3) := by decide +kernel
theorem dX12_found_7 : decode cX12_found 7 = .ok (.iload_n 2, 1) := by decide +kernel
theorem dX12_found_8 : decode cX12_found 8 = .ok (.invokestatic 325, 3) := by decide +kernel
theorem dX12_found_11 : decode cX12_found 11 = .ok (.ifCond .eq 17, 3) := by decide +kernel
theorem dX12_found_14 : decode cX12_found 14 = .ok (.aload_n 0, 1) := by decide +kernel
theorem dX12_found_15 : decode cX12_found 15 = .ok (.getfield 82, 3) := by decide +kernel
theorem dX12_found_18 : decode cX12_found 18 = .ok (.bipush 8, 2) := by decide +kernel
theorem dX12_found_20 : decode cX12_found 20 = .ok (.iload_n 1, 1) := by decide +kernel
theorem dX12_found_21 : decode cX12_found 21 = .ok (.imul, 1) := by decide +kernel
theorem dX12_found_22 : decode cX12_found 22 = .ok (.iload_n 2, 1) := by decide +kernel
theorem dX12_found_23 : decode cX12_found 23 = .ok (.iadd, 1) := by decide +kernel
theorem dX12_found_24 : decode cX12_found 24 = .ok (.iaload, 1) := by decide +kernel
theorem dX12_found_25 : decode cX12_found 25 = .ok (.goto 9, 3) := by decide +kernel
theorem dX12_found_28 : decode cX12_found 28 = .ok (.aload_n 0, 1) := by decide +kernel
theorem dX12_found_29 : decode cX12_found 29 = .ok (.bipush (-2), 2) := by decide +kernel
theorem dX12_found_31 : decode cX12_found 31 = .ok (.invokevirtual 177, 3) := by decide +kernel
theorem dX12_found_34 : decode cX12_found 34 = .ok (.ireturn, 1) := by decide +kernel
theorem dX12_seed_0 : decode cX12_seed 0 = .ok (.aload_n 0, 1) := by decide +kernel
theorem dX12_seed_1 : decode cX12_seed 1 = .ok (.getfield 85, 3) := by decide +kernel
theorem dX12_seed_4 : decode cX12_seed 4 = .ok (.istore_n 2, 1) := by decide +kernel
theorem dX12_seed_5 : decode cX12_seed 5 = .ok (.aload_n 0, 1) := by decide +kernel
theorem dX12_seed_6 : decode cX12_seed 6 = .ok (.iload_n 1, 1) := by decide +kernel
theorem dX12_seed_7 : decode cX12_seed 7 = .ok (.putfield 85, 3) := by decide +kernel
theorem dX12_seed_10 : decode cX12_seed 10 = .ok (.iload_n 2, 1) := by decide +kernel
theorem dX12_seed_11 : decode cX12_seed 11 = .ok (.ireturn, 1) := by decide +kernel
theorem dX12_begin_0 : decode cX12_begin 0 = .ok (.iload_n 1, 1) := by decide +kernel
theorem dX12_begin_1 : decode cX12_begin 1 = .ok (.invokestatic 212, 3) := by decide +kernel
theorem dX12_begin_4 : decode cX12_begin 4 = .ok (.ifCond .ne 10, 3) := by decide +kernel
theorem dX12_begin_7 : decode cX12_begin 7 = .ok (.aload_n 0, 1) := by decide +kernel
theorem dX12_begin_8 : decode cX12_begin 8 = .ok (.bipush (-2), 2) := by decide +kernel
theorem dX12_begin_10 : decode cX12_begin 10 = .ok (.invokevirtual 177, 3) := by decide +kernel
theorem dX12_begin_13 : decode cX12_begin 13 = .ok (.ireturn, 1) := by decide +kernel
theorem dX12_begin_14 : decode cX12_begin 14 = .ok (.aload_n 0, 1) := by decide +kernel
theorem dX12_begin_15 : decode cX12_begin 15 = .ok (.aload_n 0, 1) := by decide +kernel
theorem dX12_begin_16 : decode cX12_begin 16 = .ok (.getfield 152, 3) := by decide +kernel
theorem dX12_begin_19 : decode cX12_begin 19 = .ok (.getfield 97, 3) := by decide +kernel
theorem dX12_begin_22 : decode cX12_begin 22 = .ok (.iconst 0, 1) := by decide +kernel
theorem dX12_begin_23 : decode cX12_begin 23 = .ok (.aaload, 1) := by decide +kernel
theorem dX12_begin_24 : decode cX12_begin 24 = .ok (.iload_n 1, 1) := by decide +kernel
theorem dX12_begin_25 : decode cX12_begin 25 = .ok (.iconst (-1), 1) := by decide +kernel
theorem dX12_begin_26 : decode cX12_begin 26 = .ok (.invokevirtual 352, 3) := by decide +kernel
theorem dX12_begin_29 : decode cX12_begin 29 = .ok (.aload_n 0, 1) := by decide +kernel
theorem dX12_begin_30 : decode cX12_begin 30 = .ok (.getfield 152, 3) := by decide +kernel
theorem dX12_begin_33 : decode cX12_begin 33 = .ok (.aload_n 0, 1) := by decide +kernel
theorem dX12_begin_34 : decode cX12_begin 34 = .ok (.getfield 156, 3) := by decide +kernel
theorem dX12_begin_37 : decode cX12_begin 37 = .ok (.invokevirtual 401, 3) := by decide +kernel
theorem dX12_begin_40 : decode cX12_begin 40 = .ok (.aload_n 0, 1) := by decide +kernel
theorem dX12_begin_41 : decode cX12_begin 41 = .ok (.iconst 1, 1) := by decide +kernel
theorem dX12_begin_42 : decode cX12_begin 42 = .ok (.putfield 524, 3) := by decide +kernel
theorem dX12_begin_45 : decode cX12_begin 45 = .ok (.aload_n 0, 1) := by decide +kernel
theorem dX12_begin_46 : decode cX12_begin 46 = .ok (.iload_n 1, 1) := by decide +kernel
theorem dX12_begin_47 : decode cX12_begin 47 = .ok (.putfield 527, 3) := by decide +kernel
theorem dX12_begin_50 : decode cX12_begin 50 = .ok (.aload_n 0, 1) := by decide +kernel
theorem dX12_begin_51 : decode cX12_begin 51 = .ok (.getfield 152, 3) := by decide +kernel
theorem dX12_begin_54 : decode cX12_begin 54 = .ok (.getfield 365, 3) := by decide +kernel
theorem dX12_begin_57 : decode cX12_begin 57 = .ok (.ireturn, 1) := by decide +kernel
theorem dX12_step_0 : decode cX12_step 0 = .ok (.iload_n 1, 1) := by decide +kernel
theorem dX12_step_1 : decode cX12_step 1 = .ok (.i2l, 1) := by decide +kernel
theorem dX12_step_2 : decode cX12_step 2 = .ok (.lconst 1, 1) := by decide +kernel
theorem dX12_step_3 : decode cX12_step 3 = .ok (.ldc2_w 167, 3) := by decide +kernel
theorem dX12_step_6 : decode cX12_step 6 = .ok (.invokestatic 159, 3) := by decide +kernel
theorem dX12_step_9 : decode cX12_step 9 = .ok (.ifCond .ne 10, 3) := by decide +kernel
theorem dX12_step_12 : decode cX12_step 12 = .ok (.aload_n 0, 1) := by decide +kernel
theorem dX12_step_13 : decode cX12_step 13 = .ok (.bipush (-2), 2) := by decide +kernel
theorem dX12_step_15 : decode cX12_step 15 = .ok (.invokevirtual 177, 3) := by decide +kernel
theorem dX12_step_18 : decode cX12_step 18 = .ok (.ireturn, 1) := by decide +kernel
theorem dX12_step_19 : decode cX12_step 19 = .ok (.aload_n 0, 1) := by decide +kernel
theorem dX12_step_20 : decode cX12_step 20 = .ok (.getfield 524, 3) := by decide +kernel
theorem dX12_step_23 : decode cX12_step 23 = .ok (.ifCond .eq 13, 3) := by decide +kernel
theorem dX12_step_26 : decode cX12_step 26 = .ok (.aload_n 0, 1) := by decide +kernel
theorem dX12_step_27 : decode cX12_step 27 = .ok (.getfield 152, 3) := by decide +kernel
theorem dX12_step_30 : decode cX12_step 30 = .ok (.getfield 377, 3) := by decide +kernel
theorem dX12_step_33 : decode cX12_step 33 = .ok (.ifCond .eq 10, 3) := by decide +kernel
theorem dX12_step_36 : decode cX12_step 36 = .ok (.aload_n 0, 1) := by decide +kernel
theorem dX12_step_37 : decode cX12_step 37 = .ok (.bipush (-5), 2) := by decide +kernel
theorem dX12_step_39 : decode cX12_step 39 = .ok (.invokevirtual 177, 3) := by decide +kernel
theorem dX12_step_42 : decode cX12_step 42 = .ok (.ireturn, 1) := by decide +kernel
theorem dX12_step_43 : decode cX12_step 43 = .ok (.iconst 0, 1) := by decide +kernel
theorem dX12_step_44 : decode cX12_step 44 = .ok (.istore_n 2, 1) := by decide +kernel
theorem dX12_step_45 : decode cX12_step 45 = .ok (.iload_n 2, 1) := by decide +kernel
theorem dX12_step_46 : decode cX12_step 46 = .ok (.iload_n 1, 1) := by decide +kernel
theorem dX12_step_47 : decode cX12_step 47 = .ok (.if_icmp .ge 26, 3) := by decide +kernel
theorem dX12_step_50 : decode cX12_step 50 = .ok (.aload_n 0, 1) := by decide +kernel
theorem dX12_step_51 : decode cX12_step 51 = .ok (.getfield 152, 3) := by decide +kernel
theorem dX12_step_54 : decode cX12_step 54 = .ok (.getfield 377, 3) := by decide +kernel
theorem dX12_step_57 : decode cX12_step 57 = .ok (.ifCond .ne 16, 3) := by decide +kernel
theorem dX12_step_60 : decode cX12_step 60 = .ok (.aload_n 0, 1) := by decide +kernel
theorem dX12_step_61 : decode cX12_step 61 = .ok (.getfield 152, 3) := by decide +kernel
theorem dX12_step_64 : decode cX12_step 64 = .ok (.invokevirtual 389, 3) := by decide +kernel
theorem dX12_step_67 : decode cX12_step 67 = .ok (.iinc 2 1, 3) := by decide +kernel
theorem dX12_step_70 : decode cX12_step 70 = .ok (.goto (-25), 3) := by decide +kernel
theorem dX12_step_73 : decode cX12_step 73 = .ok (.iload_n 2, 1) := by decide +kernel
theorem dX12_step_74 : decode cX12_step 74 = .ok (.ireturn, 1) := by decide +kernel
theorem dX12_search__0 : decode cX12_search_ 0 = .ok (.iload_n 1, 1) := by decide +kernel
theorem dX12_search__1 : decode cX12_search_ 1 = .ok (.i2l, 1) := by decide +kernel
theorem dX12_search__2 : decode cX12_search_ 2 = .ok (.lconst 0, 1) := by decide +kernel
theorem dX12_search__3 : decode cX12_search_ 3 = .ok (.ldc2_w 173, 3) := by decide +kernel
theorem dX12_search__6 : decode cX12_search_ 6 = .ok (.invokestatic 159, 3) := by decide +kernel
theorem dX12_search__9 : decode cX12_search_ 9 = .ok (.ifCond .ne 10, 3) := by decide +kernel
theorem dX12_search__12 : decode cX12_search_ 12 = .ok (.aload_n 0, 1) := by decide +kernel
theorem dX12_search__13 : decode cX12_search_ 13 = .ok (.bipush (-2), 2) := by decide +kernel
theorem dX12_search__15 : decode cX12_search_ 15 = .ok (.invokevirtual 177, 3) := by decide +kernel
theorem dX12_search__18 : decode cX12_search_ 18 = .ok (.ireturn, 1) := by decide +kernel
theorem dX12_search__19 : decode cX12_search_ 19 = .ok (.aload_n 0, 1) := by decide +kernel
theorem dX12_search__20 : decode cX12_search_ 20 = .ok (.getfield 524, 3) := by decide +kernel
theorem dX12_search__23 : decode cX12_search_ 23 = .ok (.ifCond .ne 10, 3) := by decide +kernel
theorem dX12_search__26 : decode cX12_search_ 26 = .ok (.aload_n 0, 1) := by decide +kernel
theorem dX12_search__27 : decode cX12_search_ 27 = .ok (.bipush (-5), 2) := by decide +kernel
theorem dX12_search__29 : decode cX12_search_ 29 = .ok (.invokevirtual 177, 3) := by decide +kernel
theorem dX12_search__32 : decode cX12_search_ 32 = .ok (.ireturn, 1) := by decide +kernel
theorem dX12_search__33 : decode cX12_search_ 33 = .ok (.iload_n 1, 1) := by decide +kernel
theorem dX12_search__34 : decode cX12_search_ 34 = .ok (.tableswitch 59 0 3 #[30, 35, 43, 51], 30) := by decide +kernel
theorem dX12_search__64 : decode cX12_search_ 64 = .ok (.aload_n 0, 1) := by decide +kernel
theorem dX12_search__65 : decode cX12_search_ 65 = .ok (.getfield 527, 3) := by decide +kernel
theorem dX12_search__68 : decode cX12_search_ 68 = .ok (.ireturn, 1) := by decide +kernel
theorem dX12_search__69 : decode cX12_search_ 69 = .ok (.aload_n 0, 1) := by decide +kernel
theorem dX12_search__70 : decode cX12_search_ 70 = .ok (.getfield 152, 3) := by decide +kernel
theorem dX12_search__73 : decode cX12_search_ 73 = .ok (.getfield 371, 3) := by decide +kernel
theorem dX12_search__76 : decode cX12_search_ 76 = .ok (.ireturn, 1) := by decide +kernel
theorem dX12_search__77 : decode cX12_search_ 77 = .ok (.aload_n 0, 1) := by decide +kernel
theorem dX12_search__78 : decode cX12_search_ 78 = .ok (.getfield 152, 3) := by decide +kernel
theorem dX12_search__81 : decode cX12_search_ 81 = .ok (.getfield 374, 3) := by decide +kernel
theorem dX12_search__84 : decode cX12_search_ 84 = .ok (.ireturn, 1) := by decide +kernel
theorem dX12_search__85 : decode cX12_search_ 85 = .ok (.aload_n 0, 1) := by decide +kernel
theorem dX12_search__86 : decode cX12_search_ 86 = .ok (.getfield 152, 3) := by decide +kernel
theorem dX12_search__89 : decode cX12_search_ 89 = .ok (.getfield 377, 3) := by decide +kernel
theorem dX12_search__92 : decode cX12_search_ 92 = .ok (.ireturn, 1) := by decide +kernel
theorem dX12_search__93 : decode cX12_search_ 93 = .ok (.aload_n 0, 1) := by decide +kernel
theorem dX12_search__94 : decode cX12_search_ 94 = .ok (.getfield 152, 3) := by decide +kernel
theorem dX12_search__97 : decode cX12_search_ 97 = .ok (.getfield 377, 3) := by decide +kernel
theorem dX12_search__100 : decode cX12_search_ 100 = .ok (.iconst 2, 1) := by decide +kernel
theorem dX12_search__101 : decode cX12_search_ 101 = .ok (.if_icmp .ne 7, 3) := by decide +kernel
theorem dX12_search__104 : decode cX12_search_ 104 = .ok (.iconst 0, 1) := by decide +kernel
theorem dX12_search__105 : decode cX12_search_ 105 = .ok (.goto 10, 3) := by decide +kernel
theorem dX12_search__108 : decode cX12_search_ 108 = .ok (.aload_n 0, 1) := by decide +kernel
theorem dX12_search__109 : decode cX12_search_ 109 = .ok (.getfield 152, 3) := by decide +kernel
theorem dX12_search__112 : decode cX12_search_ 112 = .ok (.getfield 368, 3) := by decide +kernel
theorem dX12_search__115 : decode cX12_search_ 115 = .ok (.ireturn, 1) := by decide +kernel
theorem dX12_over_0 : decode cX12_over 0 = .ok (.iconst 0, 1) := by decide +kernel
theorem dX12_over_1 : decode cX12_over 1 = .ok (.istore_n 2, 1) := by decide +kernel
theorem dX12_over_2 : decode cX12_over 2 = .ok (.iload_n 2, 1) := by decide +kernel
theorem dX12_over_3 : decode cX12_over 3 = .ok (.aload_n 0, 1) := by decide +kernel
theorem dX12_over_4 : decode cX12_over 4 = .ok (.arraylength, 1) := by decide +kernel
theorem dX12_over_5 : decode cX12_over 5 = .ok (.if_icmp .ge 15, 3) := by decide +kernel
theorem dX12_over_8 : decode cX12_over 8 = .ok (.aload_n 1, 1) := by decide +kernel
theorem dX12_over_9 : decode cX12_over 9 = .ok (.iload_n 2, 1) := by decide +kernel
theorem dX12_over_10 : decode cX12_over 10 = .ok (.aload_n 0, 1) := by decide +kernel
theorem dX12_over_11 : decode cX12_over 11 = .ok (.iload_n 2, 1) := by decide +kernel
theorem dX12_over_12 : decode cX12_over 12 = .ok (.iaload, 1) := by decide +kernel
theorem dX12_over_13 : decode cX12_over 13 = .ok (.iastore, 1) := by decide +kernel
theorem dX12_over_14 : decode cX12_over 14 = .ok (.iinc 2 1, 3) := by decide +kernel
theorem dX12_over_17 : decode cX12_over 17 = .ok (.goto (-15), 3) := by decide +kernel
theorem dX12_over_20 : decode cX12_over 20 = .ok (.return_, 1) := by decide +kernel
theorem dX12_takeSearch_0 : decode cX12_takeSearch 0 = .ok (.aload_n 0, 1) := by decide +kernel
theorem dX12_takeSearch_1 : decode cX12_takeSearch 1 = .ok (.aload_n 1, 1) := by decide +kernel
theorem dX12_takeSearch_2 : decode cX12_takeSearch 2 = .ok (.getfield 362, 3) := by decide +kernel
theorem dX12_takeSearch_5 : decode cX12_takeSearch 5 = .ok (.putfield 362, 3) := by decide +kernel
theorem dX12_takeSearch_8 : decode cX12_takeSearch 8 = .ok (.aload_n 0, 1) := by decide +kernel
theorem dX12_takeSearch_9 : decode cX12_takeSearch 9 = .ok (.aload_n 1, 1) := by decide +kernel
theorem dX12_takeSearch_10 : decode cX12_takeSearch 10 = .ok (.getfield 365, 3) := by decide +kernel
theorem dX12_takeSearch_13 : decode cX12_takeSearch 13 = .ok (.putfield 365, 3) := by decide +kernel
theorem dX12_takeSearch_16 : decode cX12_takeSearch 16 = .ok (.aload_n 0, 1) := by decide +kernel
theorem dX12_takeSearch_17 : decode cX12_takeSearch 17 = .ok (.aload_n 1, 1) := by decide +kernel
theorem dX12_takeSearch_18 : decode cX12_takeSearch 18 = .ok (.getfield 368, 3) := by decide +kernel
theorem dX12_takeSearch_21 : decode cX12_takeSearch 21 = .ok (.putfield 368, 3) := by decide +kernel
theorem dX12_takeSearch_24 : decode cX12_takeSearch 24 = .ok (.aload_n 0, 1) := by decide +kernel
theorem dX12_takeSearch_25 : decode cX12_takeSearch 25 = .ok (.aload_n 1, 1) := by decide +kernel
theorem dX12_takeSearch_26 : decode cX12_takeSearch 26 = .ok (.getfield 371, 3) := by decide +kernel
theorem dX12_takeSearch_29 : decode cX12_takeSearch 29 = .ok (.putfield 371, 3) := by decide +kernel
theorem dX12_takeSearch_32 : decode cX12_takeSearch 32 = .ok (.aload_n 0, 1) := by decide +kernel
theorem dX12_takeSearch_33 : decode cX12_takeSearch 33 = .ok (.aload_n 1, 1) := by decide +kernel
theorem dX12_takeSearch_34 : decode cX12_takeSearch 34 = .ok (.getfield 374, 3) := by decide +kernel
theorem dX12_takeSearch_37 : decode cX12_takeSearch 37 = .ok (.putfield 374, 3) := by decide +kernel
theorem dX12_takeSearch_40 : decode cX12_takeSearch 40 = .ok (.aload_n 0, 1) := by decide +kernel
theorem dX12_takeSearch_41 : decode cX12_takeSearch 41 = .ok (.aload_n 1, 1) := by decide +kernel
theorem dX12_takeSearch_42 : decode cX12_takeSearch 42 = .ok (.getfield 377, 3) := by decide +kernel
theorem dX12_takeSearch_45 : decode cX12_takeSearch 45 = .ok (.putfield 377, 3) := by decide +kernel
theorem dX12_takeSearch_48 : decode cX12_takeSearch 48 = .ok (.aload_n 1, 1) := by decide +kernel
theorem dX12_takeSearch_49 : decode cX12_takeSearch 49 = .ok (.getfield 100, 3) := by decide +kernel
theorem dX12_takeSearch_52 : decode cX12_takeSearch 52 = .ok (.aload_n 0, 1) := by decide +kernel
theorem dX12_takeSearch_53 : decode cX12_takeSearch 53 = .ok (.getfield 100, 3) := by decide +kernel
theorem dX12_takeSearch_56 : decode cX12_takeSearch 56 = .ok (.invokestatic 530, 3) := by decide +kernel
theorem dX12_takeSearch_59 : decode cX12_takeSearch 59 = .ok (.iconst 0, 1) := by decide +kernel
theorem dX12_takeSearch_60 : decode cX12_takeSearch 60 = .ok (.istore_n 2, 1) := by decide +kernel
theorem dX12_takeSearch_61 : decode cX12_takeSearch 61 = .ok (.iload_n 2, 1) := by decide +kernel
theorem dX12_takeSearch_62 : decode cX12_takeSearch 62 = .ok (.bipush 45, 2) := by decide +kernel
theorem dX12_takeSearch_64 : decode cX12_takeSearch 64 = .ok (.if_icmp .gt 24, 3) := by decide +kernel
theorem dX12_takeSearch_67 : decode cX12_takeSearch 67 = .ok (.aload_n 1, 1) := by decide +kernel
theorem dX12_takeSearch_68 : decode cX12_takeSearch 68 = .ok (.getfield 97, 3) := by decide +kernel
theorem dX12_takeSearch_71 : decode cX12_takeSearch 71 = .ok (.iload_n 2, 1) := by decide +kernel
theorem dX12_takeSearch_72 : decode cX12_takeSearch 72 = .ok (.aaload, 1) := by decide +kernel
theorem dX12_takeSearch_73 : decode cX12_takeSearch 73 = .ok (.aload_n 0, 1) := by decide +kernel
theorem dX12_takeSearch_74 : decode cX12_takeSearch 74 = .ok (.getfield 97, 3) := by decide +kernel
theorem dX12_takeSearch_77 : decode cX12_takeSearch 77 = .ok (.iload_n 2, 1) := by decide +kernel
theorem dX12_takeSearch_78 : decode cX12_takeSearch 78 = .ok (.aaload, 1) := by decide +kernel
theorem dX12_takeSearch_79 : decode cX12_takeSearch 79 = .ok (.invokestatic 530, 3) := by decide +kernel
theorem dX12_takeSearch_82 : decode cX12_takeSearch 82 = .ok (.iinc 2 1, 3) := by decide +kernel
theorem dX12_takeSearch_85 : decode cX12_takeSearch 85 = .ok (.goto (-24), 3) := by decide +kernel
theorem dX12_takeSearch_88 : decode cX12_takeSearch 88 = .ok (.return_, 1) := by decide +kernel
theorem dX12_takeFrom_0 : decode cX12_takeFrom 0 = .ok (.aload_n 0, 1) := by decide +kernel
theorem dX12_takeFrom_1 : decode cX12_takeFrom 1 = .ok (.iconst 0, 1) := by decide +kernel
theorem dX12_takeFrom_2 : decode cX12_takeFrom 2 = .ok (.putfield 206, 3) := by decide +kernel
theorem dX12_takeFrom_5 : decode cX12_takeFrom 5 = .ok (.aload_n 0, 1) := by decide +kernel
theorem dX12_takeFrom_6 : decode cX12_takeFrom 6 = .ok (.aload_n 1, 1) := by decide +kernel
theorem dX12_takeFrom_7 : decode cX12_takeFrom 7 = .ok (.getfield 156, 3) := by decide +kernel
theorem dX12_takeFrom_10 : decode cX12_takeFrom 10 = .ok (.putfield 156, 3) := by decide +kernel
theorem dX12_takeFrom_13 : decode cX12_takeFrom 13 = .ok (.aload_n 1, 1) := by decide +kernel
theorem dX12_takeFrom_14 : decode cX12_takeFrom 14 = .ok (.getfield 37, 3) := by decide +kernel
theorem dX12_takeFrom_17 : decode cX12_takeFrom 17 = .ok (.aload_n 0, 1) := by decide +kernel
theorem dX12_takeFrom_18 : decode cX12_takeFrom 18 = .ok (.getfield 37, 3) := by decide +kernel
theorem dX12_takeFrom_21 : decode cX12_takeFrom 21 = .ok (.invokestatic 530, 3) := by decide +kernel
theorem dX12_takeFrom_24 : decode cX12_takeFrom 24 = .ok (.aload_n 1, 1) := by decide +kernel
theorem dX12_takeFrom_25 : decode cX12_takeFrom 25 = .ok (.getfield 40, 3) := by decide +kernel
theorem dX12_takeFrom_28 : decode cX12_takeFrom 28 = .ok (.aload_n 0, 1) := by decide +kernel
theorem dX12_takeFrom_29 : decode cX12_takeFrom 29 = .ok (.getfield 40, 3) := by decide +kernel
theorem dX12_takeFrom_32 : decode cX12_takeFrom 32 = .ok (.invokestatic 530, 3) := by decide +kernel
theorem dX12_takeFrom_35 : decode cX12_takeFrom 35 = .ok (.aload_n 1, 1) := by decide +kernel
theorem dX12_takeFrom_36 : decode cX12_takeFrom 36 = .ok (.getfield 43, 3) := by decide +kernel
theorem dX12_takeFrom_39 : decode cX12_takeFrom 39 = .ok (.aload_n 0, 1) := by decide +kernel
theorem dX12_takeFrom_40 : decode cX12_takeFrom 40 = .ok (.getfield 43, 3) := by decide +kernel
theorem dX12_takeFrom_43 : decode cX12_takeFrom 43 = .ok (.invokestatic 530, 3) := by decide +kernel
theorem dX12_takeFrom_46 : decode cX12_takeFrom 46 = .ok (.aload_n 1, 1) := by decide +kernel
theorem dX12_takeFrom_47 : decode cX12_takeFrom 47 = .ok (.getfield 46, 3) := by decide +kernel
theorem dX12_takeFrom_50 : decode cX12_takeFrom 50 = .ok (.aload_n 0, 1) := by decide +kernel
theorem dX12_takeFrom_51 : decode cX12_takeFrom 51 = .ok (.getfield 46, 3) := by decide +kernel
theorem dX12_takeFrom_54 : decode cX12_takeFrom 54 = .ok (.invokestatic 530, 3) := by decide +kernel
theorem dX12_takeFrom_57 : decode cX12_takeFrom 57 = .ok (.iconst 0, 1) := by decide +kernel
theorem dX12_takeFrom_58 : decode cX12_takeFrom 58 = .ok (.istore_n 2, 1) := by decide +kernel
theorem dX12_takeFrom_59 : decode cX12_takeFrom 59 = .ok (.iload_n 2, 1) := by decide +kernel
theorem dX12_takeFrom_60 : decode cX12_takeFrom 60 = .ok (.bipush 10, 2) := by decide +kernel
theorem dX12_takeFrom_62 : decode cX12_takeFrom 62 = .ok (.if_icmp .ge 21, 3) := by decide +kernel
theorem dX12_takeFrom_65 : decode cX12_takeFrom 65 = .ok (.aload_n 0, 1) := by decide +kernel
theorem dX12_takeFrom_66 : decode cX12_takeFrom 66 = .ok (.getfield 49, 3) := by decide +kernel
theorem dX12_takeFrom_69 : decode cX12_takeFrom 69 = .ok (.iload_n 2, 1) := by decide +kernel
theorem dX12_takeFrom_70 : decode cX12_takeFrom 70 = .ok (.aload_n 1, 1) := by decide +kernel
theorem dX12_takeFrom_71 : decode cX12_takeFrom 71 = .ok (.getfield 49, 3) := by decide +kernel
theorem dX12_takeFrom_74 : decode cX12_takeFrom 74 = .ok (.iload_n 2, 1) := by decide +kernel
theorem dX12_takeFrom_75 : decode cX12_takeFrom 75 = .ok (.laload, 1) := by decide +kernel
theorem dX12_takeFrom_76 : decode cX12_takeFrom 76 = .ok (.lastore, 1) := by decide +kernel
theorem dX12_takeFrom_77 : decode cX12_takeFrom 77 = .ok (.iinc 2 1, 3) := by decide +kernel
theorem dX12_takeFrom_80 : decode cX12_takeFrom 80 = .ok (.goto (-21), 3) := by decide +kernel
theorem dX12_takeFrom_83 : decode cX12_takeFrom 83 = .ok (.aload_n 0, 1) := by decide +kernel
theorem dX12_takeFrom_84 : decode cX12_takeFrom 84 = .ok (.aload_n 1, 1) := by decide +kernel
theorem dX12_takeFrom_85 : decode cX12_takeFrom 85 = .ok (.getfield 300, 3) := by decide +kernel
theorem dX12_takeFrom_88 : decode cX12_takeFrom 88 = .ok (.putfield 300, 3) := by decide +kernel
theorem dX12_takeFrom_91 : decode cX12_takeFrom 91 = .ok (.aload_n 1, 1) := by decide +kernel
theorem dX12_takeFrom_92 : decode cX12_takeFrom 92 = .ok (.getfield 52, 3) := by decide +kernel
theorem dX12_takeFrom_95 : decode cX12_takeFrom 95 = .ok (.aload_n 0, 1) := by decide +kernel
theorem dX12_takeFrom_96 : decode cX12_takeFrom 96 = .ok (.getfield 52, 3) := by decide +kernel
theorem dX12_takeFrom_99 : decode cX12_takeFrom 99 = .ok (.invokestatic 530, 3) := by decide +kernel
theorem dX12_takeFrom_102 : decode cX12_takeFrom 102 = .ok (.aload_n 1, 1) := by decide +kernel
theorem dX12_takeFrom_103 : decode cX12_takeFrom 103 = .ok (.getfield 55, 3) := by decide +kernel
theorem dX12_takeFrom_106 : decode cX12_takeFrom 106 = .ok (.aload_n 0, 1) := by decide +kernel
theorem dX12_takeFrom_107 : decode cX12_takeFrom 107 = .ok (.getfield 55, 3) := by decide +kernel
theorem dX12_takeFrom_110 : decode cX12_takeFrom 110 = .ok (.invokestatic 530, 3) := by decide +kernel
theorem dX12_takeFrom_113 : decode cX12_takeFrom 113 = .ok (.aload_n 1, 1) := by decide +kernel
theorem dX12_takeFrom_114 : decode cX12_takeFrom 114 = .ok (.getfield 58, 3) := by decide +kernel
theorem dX12_takeFrom_117 : decode cX12_takeFrom 117 = .ok (.aload_n 0, 1) := by decide +kernel
theorem dX12_takeFrom_118 : decode cX12_takeFrom 118 = .ok (.getfield 58, 3) := by decide +kernel
theorem dX12_takeFrom_121 : decode cX12_takeFrom 121 = .ok (.invokestatic 530, 3) := by decide +kernel
theorem dX12_takeFrom_124 : decode cX12_takeFrom 124 = .ok (.aload_n 1, 1) := by decide +kernel
theorem dX12_takeFrom_125 : decode cX12_takeFrom 125 = .ok (.getfield 61, 3) := by decide +kernel
theorem dX12_takeFrom_128 : decode cX12_takeFrom 128 = .ok (.aload_n 0, 1) := by decide +kernel
theorem dX12_takeFrom_129 : decode cX12_takeFrom 129 = .ok (.getfield 61, 3) := by decide +kernel
theorem dX12_takeFrom_132 : decode cX12_takeFrom 132 = .ok (.invokestatic 530, 3) := by decide +kernel
theorem dX12_takeFrom_135 : decode cX12_takeFrom 135 = .ok (.aload_n 1, 1) := by decide +kernel
theorem dX12_takeFrom_136 : decode cX12_takeFrom 136 = .ok (.getfield 64, 3) := by decide +kernel
theorem dX12_takeFrom_139 : decode cX12_takeFrom 139 = .ok (.aload_n 0, 1) := by decide +kernel
theorem dX12_takeFrom_140 : decode cX12_takeFrom 140 = .ok (.getfield 64, 3) := by decide +kernel
theorem dX12_takeFrom_143 : decode cX12_takeFrom 143 = .ok (.invokestatic 530, 3) := by decide +kernel
theorem dX12_takeFrom_146 : decode cX12_takeFrom 146 = .ok (.aload_n 1, 1) := by decide +kernel
theorem dX12_takeFrom_147 : decode cX12_takeFrom 147 = .ok (.getfield 67, 3) := by decide +kernel
theorem dX12_takeFrom_150 : decode cX12_takeFrom 150 = .ok (.aload_n 0, 1) := by decide +kernel
theorem dX12_takeFrom_151 : decode cX12_takeFrom 151 = .ok (.getfield 67, 3) := by decide +kernel
theorem dX12_takeFrom_154 : decode cX12_takeFrom 154 = .ok (.invokestatic 530, 3) := by decide +kernel
theorem dX12_takeFrom_157 : decode cX12_takeFrom 157 = .ok (.aload_n 1, 1) := by decide +kernel
theorem dX12_takeFrom_158 : decode cX12_takeFrom 158 = .ok (.getfield 70, 3) := by decide +kernel
theorem dX12_takeFrom_161 : decode cX12_takeFrom 161 = .ok (.aload_n 0, 1) := by decide +kernel
theorem dX12_takeFrom_162 : decode cX12_takeFrom 162 = .ok (.getfield 70, 3) := by decide +kernel
theorem dX12_takeFrom_165 : decode cX12_takeFrom 165 = .ok (.invokestatic 530, 3) := by decide +kernel
theorem dX12_takeFrom_168 : decode cX12_takeFrom 168 = .ok (.aload_n 1, 1) := by decide +kernel
theorem dX12_takeFrom_169 : decode cX12_takeFrom 169 = .ok (.getfield 73, 3) := by decide +kernel
theorem dX12_takeFrom_172 : decode cX12_takeFrom 172 = .ok (.aload_n 0, 1) := by decide +kernel
theorem dX12_takeFrom_173 : decode cX12_takeFrom 173 = .ok (.getfield 73, 3) := by decide +kernel
theorem dX12_takeFrom_176 : decode cX12_takeFrom 176 = .ok (.invokestatic 530, 3) := by decide +kernel
theorem dX12_takeFrom_179 : decode cX12_takeFrom 179 = .ok (.aload_n 1, 1) := by decide +kernel
theorem dX12_takeFrom_180 : decode cX12_takeFrom 180 = .ok (.getfield 76, 3) := by decide +kernel
theorem dX12_takeFrom_183 : decode cX12_takeFrom 183 = .ok (.aload_n 0, 1) := by decide +kernel
theorem dX12_takeFrom_184 : decode cX12_takeFrom 184 = .ok (.getfield 76, 3) := by decide +kernel
theorem dX12_takeFrom_187 : decode cX12_takeFrom 187 = .ok (.invokestatic 530, 3) := by decide +kernel
theorem dX12_takeFrom_190 : decode cX12_takeFrom 190 = .ok (.aload_n 1, 1) := by decide +kernel
theorem dX12_takeFrom_191 : decode cX12_takeFrom 191 = .ok (.getfield 79, 3) := by decide +kernel
theorem dX12_takeFrom_194 : decode cX12_takeFrom 194 = .ok (.aload_n 0, 1) := by decide +kernel
theorem dX12_takeFrom_195 : decode cX12_takeFrom 195 = .ok (.getfield 79, 3) := by decide +kernel
theorem dX12_takeFrom_198 : decode cX12_takeFrom 198 = .ok (.invokestatic 530, 3) := by decide +kernel
theorem dX12_takeFrom_201 : decode cX12_takeFrom 201 = .ok (.aload_n 1, 1) := by decide +kernel
theorem dX12_takeFrom_202 : decode cX12_takeFrom 202 = .ok (.getfield 82, 3) := by decide +kernel
theorem dX12_takeFrom_205 : decode cX12_takeFrom 205 = .ok (.aload_n 0, 1) := by decide +kernel
theorem dX12_takeFrom_206 : decode cX12_takeFrom 206 = .ok (.getfield 82, 3) := by decide +kernel
theorem dX12_takeFrom_209 : decode cX12_takeFrom 209 = .ok (.invokestatic 530, 3) := by decide +kernel
theorem dX12_takeFrom_212 : decode cX12_takeFrom 212 = .ok (.aload_n 0, 1) := by decide +kernel
theorem dX12_takeFrom_213 : decode cX12_takeFrom 213 = .ok (.aload_n 1, 1) := by decide +kernel
theorem dX12_takeFrom_214 : decode cX12_takeFrom 214 = .ok (.getfield 85, 3) := by decide +kernel
theorem dX12_takeFrom_217 : decode cX12_takeFrom 217 = .ok (.putfield 85, 3) := by decide +kernel
theorem dX12_takeFrom_220 : decode cX12_takeFrom 220 = .ok (.aload_n 0, 1) := by decide +kernel
theorem dX12_takeFrom_221 : decode cX12_takeFrom 221 = .ok (.aload_n 1, 1) := by decide +kernel
theorem dX12_takeFrom_222 : decode cX12_takeFrom 222 = .ok (.getfield 474, 3) := by decide +kernel
theorem dX12_takeFrom_225 : decode cX12_takeFrom 225 = .ok (.putfield 474, 3) := by decide +kernel
theorem dX12_takeFrom_228 : decode cX12_takeFrom 228 = .ok (.aload_n 1, 1) := by decide +kernel
theorem dX12_takeFrom_229 : decode cX12_takeFrom 229 = .ok (.getfield 89, 3) := by decide +kernel
theorem dX12_takeFrom_232 : decode cX12_takeFrom 232 = .ok (.aload_n 0, 1) := by decide +kernel
theorem dX12_takeFrom_233 : decode cX12_takeFrom 233 = .ok (.getfield 89, 3) := by decide +kernel
theorem dX12_takeFrom_236 : decode cX12_takeFrom 236 = .ok (.invokestatic 530, 3) := by decide +kernel
theorem dX12_takeFrom_239 : decode cX12_takeFrom 239 = .ok (.aload_n 1, 1) := by decide +kernel
theorem dX12_takeFrom_240 : decode cX12_takeFrom 240 = .ok (.getfield 92, 3) := by decide +kernel
theorem dX12_takeFrom_243 : decode cX12_takeFrom 243 = .ok (.aload_n 0, 1) := by decide +kernel
theorem dX12_takeFrom_244 : decode cX12_takeFrom 244 = .ok (.getfield 92, 3) := by decide +kernel
theorem dX12_takeFrom_247 : decode cX12_takeFrom 247 = .ok (.invokestatic 530, 3) := by decide +kernel
theorem dX12_takeFrom_250 : decode cX12_takeFrom 250 = .ok (.aload_n 0, 1) := by decide +kernel
theorem dX12_takeFrom_251 : decode cX12_takeFrom 251 = .ok (.aload_n 1, 1) := by decide +kernel
theorem dX12_takeFrom_252 : decode cX12_takeFrom 252 = .ok (.getfield 524, 3) := by decide +kernel
theorem dX12_takeFrom_255 : decode cX12_takeFrom 255 = .ok (.putfield 524, 3) := by decide +kernel
theorem dX12_takeFrom_258 : decode cX12_takeFrom 258 = .ok (.aload_n 0, 1) := by decide +kernel
theorem dX12_takeFrom_259 : decode cX12_takeFrom 259 = .ok (.aload_n 1, 1) := by decide +kernel
theorem dX12_takeFrom_260 : decode cX12_takeFrom 260 = .ok (.getfield 527, 3) := by decide +kernel
theorem dX12_takeFrom_263 : decode cX12_takeFrom 263 = .ok (.putfield 527, 3) := by decide +kernel
theorem dX12_takeFrom_266 : decode cX12_takeFrom 266 = .ok (.aload_n 0, 1) := by decide +kernel
theorem dX12_takeFrom_267 : decode cX12_takeFrom 267 = .ok (.getfield 152, 3) := by decide +kernel
theorem dX12_takeFrom_270 : decode cX12_takeFrom 270 = .ok (.aload_n 1, 1) := by decide +kernel
theorem dX12_takeFrom_271 : decode cX12_takeFrom 271 = .ok (.getfield 152, 3) := by decide +kernel
theorem dX12_takeFrom_274 : decode cX12_takeFrom 274 = .ok (.invokevirtual 533, 3) := by decide +kernel
theorem dX12_takeFrom_277 : decode cX12_takeFrom 277 = .ok (.return_, 1) := by decide +kernel
theorem dX12_image_0 : decode cX12_image 0 = .ok (.aload_n 0, 1) := by decide +kernel
theorem dX12_image_1 : decode cX12_image 1 = .ok (.getfield 537, 3) := by decide +kernel
theorem dX12_image_4 : decode cX12_image 4 = .ok (.ifnonnull 14, 3) := by decide +kernel
theorem dX12_image_7 : decode cX12_image 7 = .ok (.aload_n 0, 1) := by decide +kernel
theorem dX12_image_8 : decode cX12_image 8 = .ok (.new 8, 3) := by decide +kernel
theorem dX12_image_11 : decode cX12_image 11 = .ok (.dup, 1) := by decide +kernel
theorem dX12_image_12 : decode cX12_image 12 = .ok (.invokespecial 540, 3) := by decide +kernel
theorem dX12_image_15 : decode cX12_image 15 = .ok (.putfield 537, 3) := by decide +kernel
theorem dX12_image_18 : decode cX12_image 18 = .ok (.aload_n 0, 1) := by decide +kernel
theorem dX12_image_19 : decode cX12_image 19 = .ok (.getfield 537, 3) := by decide +kernel
theorem dX12_image_22 : decode cX12_image 22 = .ok (.aload_n 0, 1) := by decide +kernel
theorem dX12_image_23 : decode cX12_image 23 = .ok (.invokevirtual 541, 3) := by decide +kernel
theorem dX12_image_26 : decode cX12_image 26 = .ok (.iconst 1, 1) := by decide +kernel
theorem dX12_image_27 : decode cX12_image 27 = .ok (.ireturn, 1) := by decide +kernel
theorem dX12_back_0 : decode cX12_back 0 = .ok (.aload_n 0, 1) := by decide +kernel
theorem dX12_back_1 : decode cX12_back 1 = .ok (.getfield 537, 3) := by decide +kernel
theorem dX12_back_4 : decode cX12_back 4 = .ok (.ifnonnull 10, 3) := by decide +kernel
theorem dX12_back_7 : decode cX12_back 7 = .ok (.aload_n 0, 1) := by decide +kernel
theorem dX12_back_8 : decode cX12_back 8 = .ok (.bipush (-5), 2) := by decide +kernel
theorem dX12_back_10 : decode cX12_back 10 = .ok (.invokevirtual 177, 3) := by decide +kernel
theorem dX12_back_13 : decode cX12_back 13 = .ok (.ireturn, 1) := by decide +kernel
theorem dX12_back_14 : decode cX12_back 14 = .ok (.aload_n 0, 1) := by decide +kernel
theorem dX12_back_15 : decode cX12_back 15 = .ok (.aload_n 0, 1) := by decide +kernel
theorem dX12_back_16 : decode cX12_back 16 = .ok (.getfield 537, 3) := by decide +kernel
theorem dX12_back_19 : decode cX12_back 19 = .ok (.invokevirtual 541, 3) := by decide +kernel
theorem dX12_back_22 : decode cX12_back 22 = .ok (.iconst 0, 1) := by decide +kernel
theorem dX12_back_23 : decode cX12_back 23 = .ok (.istore_n 1, 1) := by decide +kernel
theorem dX12_back_24 : decode cX12_back 24 = .ok (.iload_n 1, 1) := by decide +kernel
theorem dX12_back_25 : decode cX12_back 25 = .ok (.bipush 8, 2) := by decide +kernel
theorem dX12_back_27 : decode cX12_back 27 = .ok (.if_icmp .ge 39, 3) := by decide +kernel
theorem dX12_back_30 : decode cX12_back 30 = .ok (.aload_n 0, 1) := by decide +kernel
theorem dX12_back_31 : decode cX12_back 31 = .ok (.getfield 7, 3) := by decide +kernel
theorem dX12_back_34 : decode cX12_back 34 = .ok (.iload_n 1, 1) := by decide +kernel
theorem dX12_back_35 : decode cX12_back 35 = .ok (.iaload, 1) := by decide +kernel
theorem dX12_back_36 : decode cX12_back 36 = .ok (.iconst 2, 1) := by decide +kernel
theorem dX12_back_37 : decode cX12_back 37 = .ok (.if_icmp .ne 23, 3) := by decide +kernel
theorem dX12_back_40 : decode cX12_back 40 = .ok (.aload_n 0, 1) := by decide +kernel
theorem dX12_back_41 : decode cX12_back 41 = .ok (.getfield 24, 3) := by decide +kernel
theorem dX12_back_44 : decode cX12_back 44 = .ok (.iload_n 1, 1) := by decide +kernel
theorem dX12_back_45 : decode cX12_back 45 = .ok (.iaload, 1) := by decide +kernel
theorem dX12_back_46 : decode cX12_back 46 = .ok (.aload_n 0, 1) := by decide +kernel
theorem dX12_back_47 : decode cX12_back 47 = .ok (.getfield 156, 3) := by decide +kernel
theorem dX12_back_50 : decode cX12_back 50 = .ok (.if_icmp .lt 10, 3) := by decide +kernel
theorem dX12_back_53 : decode cX12_back 53 = .ok (.aload_n 0, 1) := by decide +kernel
theorem dX12_back_54 : decode cX12_back 54 = .ok (.getfield 7, 3) := by decide +kernel
theorem dX12_back_57 : decode cX12_back 57 = .ok (.iload_n 1, 1) := by decide +kernel
theorem dX12_back_58 : decode cX12_back 58 = .ok (.iconst 0, 1) := by decide +kernel
theorem dX12_back_59 : decode cX12_back 59 = .ok (.iastore, 1) := by decide +kernel
theorem dX12_back_60 : decode cX12_back 60 = .ok (.iinc 1 1, 3) := by decide +kernel
theorem dX12_back_63 : decode cX12_back 63 = .ok (.goto (-39), 3) := by decide +kernel
theorem dX12_back_66 : decode cX12_back 66 = .ok (.iconst 1, 1) := by decide +kernel
theorem dX12_back_67 : decode cX12_back 67 = .ok (.ireturn, 1) := by decide +kernel
theorem dX12_status_0 : decode cX12_status 0 = .ok (.iload_n 1, 1) := by decide +kernel
theorem dX12_status_1 : decode cX12_status 1 = .ok (.tableswitch 90 0 4 #[35, 40, 45, 50, 55], 35) := by decide +kernel
theorem dX12_status_36 : decode cX12_status 36 = .ok (.aload_n 0, 1) := by decide +kernel
theorem dX12_status_37 : decode cX12_status 37 = .ok (.getfield 156, 3) := by decide +kernel
theorem dX12_status_40 : decode cX12_status 40 = .ok (.ireturn, 1) := by decide +kernel
theorem dX12_status_41 : decode cX12_status 41 = .ok (.aload_n 0, 1) := by decide +kernel
theorem dX12_status_42 : decode cX12_status 42 = .ok (.getfield 300, 3) := by decide +kernel
theorem dX12_status_45 : decode cX12_status 45 = .ok (.ireturn, 1) := by decide +kernel
theorem dX12_status_46 : decode cX12_status 46 = .ok (.aload_n 0, 1) := by decide +kernel
theorem dX12_status_47 : decode cX12_status 47 = .ok (.getfield 219, 3) := by decide +kernel
theorem dX12_status_50 : decode cX12_status 50 = .ok (.ireturn, 1) := by decide +kernel
theorem dX12_status_51 : decode cX12_status 51 = .ok (.aload_n 0, 1) := by decide +kernel
theorem dX12_status_52 : decode cX12_status 52 = .ok (.getfield 85, 3) := by decide +kernel
theorem dX12_status_55 : decode cX12_status 55 = .ok (.ireturn, 1) := by decide +kernel
theorem dX12_status_56 : decode cX12_status 56 = .ok (.iconst 0, 1) := by decide +kernel
theorem dX12_status_57 : decode cX12_status 57 = .ok (.istore_n 2, 1) := by decide +kernel
theorem dX12_status_58 : decode cX12_status 58 = .ok (.iconst 0, 1) := by decide +kernel
theorem dX12_status_59 : decode cX12_status 59 = .ok (.istore_n 3, 1) := by decide +kernel
theorem dX12_status_60 : decode cX12_status 60 = .ok (.iload_n 3, 1) := by decide +kernel
theorem dX12_status_61 : decode cX12_status 61 = .ok (.bipush 8, 2) := by decide +kernel
theorem dX12_status_63 : decode cX12_status 63 = .ok (.if_icmp .ge 26, 3) := by decide +kernel
theorem dX12_status_66 : decode cX12_status 66 = .ok (.iload_n 2, 1) := by decide +kernel
theorem dX12_status_67 : decode cX12_status 67 = .ok (.aload_n 0, 1) := by decide +kernel
theorem dX12_status_68 : decode cX12_status 68 = .ok (.getfield 7, 3) := by decide +kernel
theorem dX12_status_71 : decode cX12_status 71 = .ok (.iload_n 3, 1) := by decide +kernel
theorem dX12_status_72 : decode cX12_status 72 = .ok (.iaload, 1) := by decide +kernel
theorem dX12_status_73 : decode cX12_status 73 = .ok (.ifCond .eq 7, 3) := by decide +kernel
theorem dX12_status_76 : decode cX12_status 76 = .ok (.iconst 1, 1) := by decide +kernel
theorem dX12_status_77 : decode cX12_status 77 = .ok (.goto 4, 3) := by decide +kernel
theorem dX12_status_80 : decode cX12_status 80 = .ok (.iconst 0, 1) := by decide +kernel
theorem dX12_status_81 : decode cX12_status 81 = .ok (.iadd, 1) := by decide +kernel
theorem dX12_status_82 : decode cX12_status 82 = .ok (.istore_n 2, 1) := by decide +kernel
theorem dX12_status_83 : decode cX12_status 83 = .ok (.iinc 3 1, 3) := by decide +kernel
theorem dX12_status_86 : decode cX12_status 86 = .ok (.goto (-26), 3) := by decide +kernel
theorem dX12_status_89 : decode cX12_status 89 = .ok (.iload_n 2, 1) := by decide +kernel
theorem dX12_status_90 : decode cX12_status 90 = .ok (.ireturn, 1) := by decide +kernel
theorem dX12_status_91 : decode cX12_status 91 = .ok (.iload_n 1, 1) := by decide +kernel
theorem dX12_status_92 : decode cX12_status 92 = .ok (.i2l, 1) := by decide +kernel
theorem dX12_status_93 : decode cX12_status 93 = .ok (.ldc2_w 544, 3) := by decide +kernel
theorem dX12_status_96 : decode cX12_status 96 = .ok (.ldc2_w 546, 3) := by decide +kernel
theorem dX12_status_99 : decode cX12_status 99 = .ok (.invokestatic 159, 3) := by decide +kernel
theorem dX12_status_102 : decode cX12_status 102 = .ok (.ifCond .eq 15, 3) := by decide +kernel
theorem dX12_status_105 : decode cX12_status 105 = .ok (.aload_n 0, 1) := by decide +kernel
theorem dX12_status_106 : decode cX12_status 106 = .ok (.getfield 34, 3) := by decide +kernel
theorem dX12_status_109 : decode cX12_status 109 = .ok (.iload_n 1, 1) := by decide +kernel
theorem dX12_status_110 : decode cX12_status 110 = .ok (.bipush 10, 2) := by decide +kernel
theorem dX12_status_112 : decode cX12_status 112 = .ok (.isub, 1) := by decide +kernel
theorem dX12_status_113 : decode cX12_status 113 = .ok (.iaload, 1) := by decide +kernel
theorem dX12_status_114 : decode cX12_status 114 = .ok (.goto 4, 3) := by decide +kernel
theorem dX12_status_117 : decode cX12_status 117 = .ok (.iconst (-1), 1) := by decide +kernel
theorem dX12_status_118 : decode cX12_status 118 = .ok (.ireturn, 1) := by decide +kernel
theorem dJ6_bitCount_0f7a4_0 : decode cJ6_bitCount_0f7a4 0 = .ok (.iload_n 0, 1) := by decide +kernel
theorem dJ6_bitCount_0f7a4_1 : decode cJ6_bitCount_0f7a4 1 = .ok (.iload_n 0, 1) := by decide +kernel
theorem dJ6_bitCount_0f7a4_2 : decode cJ6_bitCount_0f7a4 2 = .ok (.iconst 1, 1) := by decide +kernel
theorem dJ6_bitCount_0f7a4_3 : decode cJ6_bitCount_0f7a4 3 = .ok (.iushr, 1) := by decide +kernel
theorem dJ6_bitCount_0f7a4_4 : decode cJ6_bitCount_0f7a4 4 = .ok (.ldc_w 265, 3) := by decide +kernel
theorem dJ6_bitCount_0f7a4_7 : decode cJ6_bitCount_0f7a4 7 = .ok (.iand, 1) := by decide +kernel
theorem dJ6_bitCount_0f7a4_8 : decode cJ6_bitCount_0f7a4 8 = .ok (.isub, 1) := by decide +kernel
theorem dJ6_bitCount_0f7a4_9 : decode cJ6_bitCount_0f7a4 9 = .ok (.istore_n 0, 1) := by decide +kernel
theorem dJ6_bitCount_0f7a4_10 : decode cJ6_bitCount_0f7a4 10 = .ok (.iload_n 0, 1) := by decide +kernel
theorem dJ6_bitCount_0f7a4_11 : decode cJ6_bitCount_0f7a4 11 = .ok (.ldc_w 266, 3) := by decide +kernel
theorem dJ6_bitCount_0f7a4_14 : decode cJ6_bitCount_0f7a4 14 = .ok (.iand, 1) := by decide +kernel
theorem dJ6_bitCount_0f7a4_15 : decode cJ6_bitCount_0f7a4 15 = .ok (.iload_n 0, 1) := by decide +kernel
theorem dJ6_bitCount_0f7a4_16 : decode cJ6_bitCount_0f7a4 16 = .ok (.iconst 2, 1) := by decide +kernel
theorem dJ6_bitCount_0f7a4_17 : decode cJ6_bitCount_0f7a4 17 = .ok (.iushr, 1) := by decide +kernel
theorem dJ6_bitCount_0f7a4_18 : decode cJ6_bitCount_0f7a4 18 = .ok (.ldc_w 266, 3) := by decide +kernel
theorem dJ6_bitCount_0f7a4_21 : decode cJ6_bitCount_0f7a4 21 = .ok (.iand, 1) := by decide +kernel
theorem dJ6_bitCount_0f7a4_22 : decode cJ6_bitCount_0f7a4 22 = .ok (.iadd, 1) := by decide +kernel
theorem dJ6_bitCount_0f7a4_23 : decode cJ6_bitCount_0f7a4 23 = .ok (.istore_n 0, 1) := by decide +kernel
theorem dJ6_bitCount_0f7a4_24 : decode cJ6_bitCount_0f7a4 24 = .ok (.iload_n 0, 1) := by decide +kernel
theorem dJ6_bitCount_0f7a4_25 : decode cJ6_bitCount_0f7a4 25 = .ok (.iload_n 0, 1) := by decide +kernel
theorem dJ6_bitCount_0f7a4_26 : decode cJ6_bitCount_0f7a4 26 = .ok (.iconst 4, 1) := by decide +kernel
theorem dJ6_bitCount_0f7a4_27 : decode cJ6_bitCount_0f7a4 27 = .ok (.iushr, 1) := by decide +kernel
theorem dJ6_bitCount_0f7a4_28 : decode cJ6_bitCount_0f7a4 28 = .ok (.iadd, 1) := by decide +kernel
theorem dJ6_bitCount_0f7a4_29 : decode cJ6_bitCount_0f7a4 29 = .ok (.ldc_w 267, 3) := by decide +kernel
theorem dJ6_bitCount_0f7a4_32 : decode cJ6_bitCount_0f7a4 32 = .ok (.iand, 1) := by decide +kernel
theorem dJ6_bitCount_0f7a4_33 : decode cJ6_bitCount_0f7a4 33 = .ok (.istore_n 0, 1) := by decide +kernel
theorem dJ6_bitCount_0f7a4_34 : decode cJ6_bitCount_0f7a4 34 = .ok (.iload_n 0, 1) := by decide +kernel
theorem dJ6_bitCount_0f7a4_35 : decode cJ6_bitCount_0f7a4 35 = .ok (.iload_n 0, 1) := by decide +kernel
theorem dJ6_bitCount_0f7a4_36 : decode cJ6_bitCount_0f7a4 36 = .ok (.bipush 8, 2) := by decide +kernel
theorem dJ6_bitCount_0f7a4_38 : decode cJ6_bitCount_0f7a4 38 = .ok (.iushr, 1) := by decide +kernel
theorem dJ6_bitCount_0f7a4_39 : decode cJ6_bitCount_0f7a4 39 = .ok (.iadd, 1) := by decide +kernel
theorem dJ6_bitCount_0f7a4_40 : decode cJ6_bitCount_0f7a4 40 = .ok (.istore_n 0, 1) := by decide +kernel
theorem dJ6_bitCount_0f7a4_41 : decode cJ6_bitCount_0f7a4 41 = .ok (.iload_n 0, 1) := by decide +kernel
theorem dJ6_bitCount_0f7a4_42 : decode cJ6_bitCount_0f7a4 42 = .ok (.iload_n 0, 1) := by decide +kernel
theorem dJ6_bitCount_0f7a4_43 : decode cJ6_bitCount_0f7a4 43 = .ok (.bipush 16, 2) := by decide +kernel
theorem dJ6_bitCount_0f7a4_45 : decode cJ6_bitCount_0f7a4 45 = .ok (.iushr, 1) := by decide +kernel
theorem dJ6_bitCount_0f7a4_46 : decode cJ6_bitCount_0f7a4 46 = .ok (.iadd, 1) := by decide +kernel
theorem dJ6_bitCount_0f7a4_47 : decode cJ6_bitCount_0f7a4 47 = .ok (.istore_n 0, 1) := by decide +kernel
theorem dJ6_bitCount_0f7a4_48 : decode cJ6_bitCount_0f7a4 48 = .ok (.iload_n 0, 1) := by decide +kernel
theorem dJ6_bitCount_0f7a4_49 : decode cJ6_bitCount_0f7a4 49 = .ok (.bipush 63, 2) := by decide +kernel
theorem dJ6_bitCount_0f7a4_51 : decode cJ6_bitCount_0f7a4 51 = .ok (.iand, 1) := by decide +kernel
theorem dJ6_bitCount_0f7a4_52 : decode cJ6_bitCount_0f7a4 52 = .ok (.ireturn, 1) := by decide +kernel
theorem dJ13_bitCount_95d88_0 : decode cJ13_bitCount_95d88 0 = .ok (.lload_n 0, 1) := by decide +kernel
theorem dJ13_bitCount_95d88_1 : decode cJ13_bitCount_95d88 1 = .ok (.lload_n 0, 1) := by decide +kernel
theorem dJ13_bitCount_95d88_2 : decode cJ13_bitCount_95d88 2 = .ok (.iconst 1, 1) := by decide +kernel
theorem dJ13_bitCount_95d88_3 : decode cJ13_bitCount_95d88 3 = .ok (.lushr, 1) := by decide +kernel
theorem dJ13_bitCount_95d88_4 : decode cJ13_bitCount_95d88 4 = .ok (.ldc2_w 314, 3) := by decide +kernel
theorem dJ13_bitCount_95d88_7 : decode cJ13_bitCount_95d88 7 = .ok (.land, 1) := by decide +kernel
theorem dJ13_bitCount_95d88_8 : decode cJ13_bitCount_95d88 8 = .ok (.lsub, 1) := by decide +kernel
theorem dJ13_bitCount_95d88_9 : decode cJ13_bitCount_95d88 9 = .ok (.lstore_n 0, 1) := by decide +kernel
theorem dJ13_bitCount_95d88_10 : decode cJ13_bitCount_95d88 10 = .ok (.lload_n 0, 1) := by decide +kernel
theorem dJ13_bitCount_95d88_11 : decode cJ13_bitCount_95d88 11 = .ok (.ldc2_w 316, 3) := by decide +kernel
theorem dJ13_bitCount_95d88_14 : decode cJ13_bitCount_95d88 14 = .ok (.land, 1) := by decide +kernel
theorem dJ13_bitCount_95d88_15 : decode cJ13_bitCount_95d88 15 = .ok (.lload_n 0, 1) := by decide +kernel
theorem dJ13_bitCount_95d88_16 : decode cJ13_bitCount_95d88 16 = .ok (.iconst 2, 1) := by decide +kernel
theorem dJ13_bitCount_95d88_17 : decode cJ13_bitCount_95d88 17 = .ok (.lushr, 1) := by decide +kernel
theorem dJ13_bitCount_95d88_18 : decode cJ13_bitCount_95d88 18 = .ok (.ldc2_w 316, 3) := by decide +kernel
theorem dJ13_bitCount_95d88_21 : decode cJ13_bitCount_95d88 21 = .ok (.land, 1) := by decide +kernel
theorem dJ13_bitCount_95d88_22 : decode cJ13_bitCount_95d88 22 = .ok (.ladd, 1) := by decide +kernel
theorem dJ13_bitCount_95d88_23 : decode cJ13_bitCount_95d88 23 = .ok (.lstore_n 0, 1) := by decide +kernel
theorem dJ13_bitCount_95d88_24 : decode cJ13_bitCount_95d88 24 = .ok (.lload_n 0, 1) := by decide +kernel
theorem dJ13_bitCount_95d88_25 : decode cJ13_bitCount_95d88 25 = .ok (.lload_n 0, 1) := by decide +kernel
theorem dJ13_bitCount_95d88_26 : decode cJ13_bitCount_95d88 26 = .ok (.iconst 4, 1) := by decide +kernel
theorem dJ13_bitCount_95d88_27 : decode cJ13_bitCount_95d88 27 = .ok (.lushr, 1) := by decide +kernel
theorem dJ13_bitCount_95d88_28 : decode cJ13_bitCount_95d88 28 = .ok (.ladd, 1) := by decide +kernel
theorem dJ13_bitCount_95d88_29 : decode cJ13_bitCount_95d88 29 = .ok (.ldc2_w 318, 3) := by decide +kernel
theorem dJ13_bitCount_95d88_32 : decode cJ13_bitCount_95d88 32 = .ok (.land, 1) := by decide +kernel
theorem dJ13_bitCount_95d88_33 : decode cJ13_bitCount_95d88 33 = .ok (.lstore_n 0, 1) := by decide +kernel
theorem dJ13_bitCount_95d88_34 : decode cJ13_bitCount_95d88 34 = .ok (.lload_n 0, 1) := by decide +kernel
theorem dJ13_bitCount_95d88_35 : decode cJ13_bitCount_95d88 35 = .ok (.lload_n 0, 1) := by decide +kernel
theorem dJ13_bitCount_95d88_36 : decode cJ13_bitCount_95d88 36 = .ok (.bipush 8, 2) := by decide +kernel
theorem dJ13_bitCount_95d88_38 : decode cJ13_bitCount_95d88 38 = .ok (.lushr, 1) := by decide +kernel
theorem dJ13_bitCount_95d88_39 : decode cJ13_bitCount_95d88 39 = .ok (.ladd, 1) := by decide +kernel
theorem dJ13_bitCount_95d88_40 : decode cJ13_bitCount_95d88 40 = .ok (.lstore_n 0, 1) := by decide +kernel
theorem dJ13_bitCount_95d88_41 : decode cJ13_bitCount_95d88 41 = .ok (.lload_n 0, 1) := by decide +kernel
theorem dJ13_bitCount_95d88_42 : decode cJ13_bitCount_95d88 42 = .ok (.lload_n 0, 1) := by decide +kernel
theorem dJ13_bitCount_95d88_43 : decode cJ13_bitCount_95d88 43 = .ok (.bipush 16, 2) := by decide +kernel
theorem dJ13_bitCount_95d88_45 : decode cJ13_bitCount_95d88 45 = .ok (.lushr, 1) := by decide +kernel
theorem dJ13_bitCount_95d88_46 : decode cJ13_bitCount_95d88 46 = .ok (.ladd, 1) := by decide +kernel
theorem dJ13_bitCount_95d88_47 : decode cJ13_bitCount_95d88 47 = .ok (.lstore_n 0, 1) := by decide +kernel
theorem dJ13_bitCount_95d88_48 : decode cJ13_bitCount_95d88 48 = .ok (.lload_n 0, 1) := by decide +kernel
theorem dJ13_bitCount_95d88_49 : decode cJ13_bitCount_95d88 49 = .ok (.lload_n 0, 1) := by decide +kernel
theorem dJ13_bitCount_95d88_50 : decode cJ13_bitCount_95d88 50 = .ok (.bipush 32, 2) := by decide +kernel
theorem dJ13_bitCount_95d88_52 : decode cJ13_bitCount_95d88 52 = .ok (.lushr, 1) := by decide +kernel
theorem dJ13_bitCount_95d88_53 : decode cJ13_bitCount_95d88 53 = .ok (.ladd, 1) := by decide +kernel
theorem dJ13_bitCount_95d88_54 : decode cJ13_bitCount_95d88 54 = .ok (.lstore_n 0, 1) := by decide +kernel
theorem dJ13_bitCount_95d88_55 : decode cJ13_bitCount_95d88 55 = .ok (.lload_n 0, 1) := by decide +kernel
theorem dJ13_bitCount_95d88_56 : decode cJ13_bitCount_95d88 56 = .ok (.l2i, 1) := by decide +kernel
theorem dJ13_bitCount_95d88_57 : decode cJ13_bitCount_95d88 57 = .ok (.bipush 127, 2) := by decide +kernel
theorem dJ13_bitCount_95d88_59 : decode cJ13_bitCount_95d88 59 = .ok (.iand, 1) := by decide +kernel
theorem dJ13_bitCount_95d88_60 : decode cJ13_bitCount_95d88 60 = .ok (.ireturn, 1) := by decide +kernel
theorem dJ9_max_7cf53_0 : decode cJ9_max_7cf53 0 = .ok (.iload_n 0, 1) := by decide +kernel
theorem dJ9_max_7cf53_1 : decode cJ9_max_7cf53 1 = .ok (.iload_n 1, 1) := by decide +kernel
theorem dJ9_max_7cf53_2 : decode cJ9_max_7cf53 2 = .ok (.if_icmp .lt 7, 3) := by decide +kernel
theorem dJ9_max_7cf53_5 : decode cJ9_max_7cf53 5 = .ok (.iload_n 0, 1) := by decide +kernel
theorem dJ9_max_7cf53_6 : decode cJ9_max_7cf53 6 = .ok (.goto 4, 3) := by decide +kernel
theorem dJ9_max_7cf53_9 : decode cJ9_max_7cf53 9 = .ok (.iload_n 1, 1) := by decide +kernel
theorem dJ9_max_7cf53_10 : decode cJ9_max_7cf53 10 = .ok (.ireturn, 1) := by decide +kernel
theorem dJ9_min_7cf53_0 : decode cJ9_min_7cf53 0 = .ok (.iload_n 0, 1) := by decide +kernel
theorem dJ9_min_7cf53_1 : decode cJ9_min_7cf53 1 = .ok (.iload_n 1, 1) := by decide +kernel
theorem dJ9_min_7cf53_2 : decode cJ9_min_7cf53 2 = .ok (.if_icmp .gt 7, 3) := by decide +kernel
theorem dJ9_min_7cf53_5 : decode cJ9_min_7cf53 5 = .ok (.iload_n 0, 1) := by decide +kernel
theorem dJ9_min_7cf53_6 : decode cJ9_min_7cf53 6 = .ok (.goto 4, 3) := by decide +kernel
theorem dJ9_min_7cf53_9 : decode cJ9_min_7cf53 9 = .ok (.iload_n 1, 1) := by decide +kernel
theorem dJ9_min_7cf53_10 : decode cJ9_min_7cf53 10 = .ok (.ireturn, 1) := by decide +kernel
theorem dJ0_length_8abf5_0 : decode cJ0_length_8abf5 0 = .ok (.aload_n 0, 1) := by decide +kernel
theorem dJ0_length_8abf5_1 : decode cJ0_length_8abf5 1 = .ok (.getfield 9, 3) := by decide +kernel
theorem dJ0_length_8abf5_4 : decode cJ0_length_8abf5 4 = .ok (.arraylength, 1) := by decide +kernel
theorem dJ0_length_8abf5_5 : decode cJ0_length_8abf5 5 = .ok (.aload_n 0, 1) := by decide +kernel
theorem dJ0_length_8abf5_6 : decode cJ0_length_8abf5 6 = .ok (.invokevirtual 335, 3) := by decide +kernel
theorem dJ0_length_8abf5_9 : decode cJ0_length_8abf5 9 = .ok (.ishr, 1) := by decide +kernel
theorem dJ0_length_8abf5_10 : decode cJ0_length_8abf5 10 = .ok (.ireturn, 1) := by decide +kernel
theorem dJ0_charAt_5068e_0 : decode cJ0_charAt_5068e 0 = .ok (.aload_n 0, 1) := by decide +kernel
theorem dJ0_charAt_5068e_1 : decode cJ0_charAt_5068e 1 = .ok (.invokevirtual 492, 3) := by decide +kernel
theorem dJ0_charAt_5068e_4 : decode cJ0_charAt_5068e 4 = .ok (.ifCond .eq 12, 3) := by decide +kernel
theorem dJ0_charAt_5068e_7 : decode cJ0_charAt_5068e 7 = .ok (.aload_n 0, 1) := by decide +kernel
theorem dJ0_charAt_5068e_8 : decode cJ0_charAt_5068e 8 = .ok (.getfield 9, 3) := by decide +kernel
theorem dJ0_charAt_5068e_11 : decode cJ0_charAt_5068e 11 = .ok (.iload_n 1, 1) := by decide +kernel
theorem dJ0_charAt_5068e_12 : decode cJ0_charAt_5068e 12 = .ok (.invokestatic 495, 3) := by decide +kernel
theorem dJ0_charAt_5068e_15 : decode cJ0_charAt_5068e 15 = .ok (.ireturn, 1) := by decide +kernel
theorem dJ0_charAt_5068e_16 : decode cJ0_charAt_5068e 16 = .ok (.aload_n 0, 1) := by decide +kernel
theorem dJ0_charAt_5068e_17 : decode cJ0_charAt_5068e 17 = .ok (.getfield 9, 3) := by decide +kernel
theorem dJ0_charAt_5068e_20 : decode cJ0_charAt_5068e 20 = .ok (.iload_n 1, 1) := by decide +kernel
theorem dJ0_charAt_5068e_21 : decode cJ0_charAt_5068e 21 = .ok (.invokestatic 498, 3) := by decide +kernel
theorem dJ0_charAt_5068e_24 : decode cJ0_charAt_5068e 24 = .ok (.ireturn, 1) := by decide +kernel
theorem dJ0_coder_7d493_0 : decode cJ0_coder_7d493 0 = .ok (.getstatic 38, 3) := by decide +kernel
theorem dJ0_coder_7d493_3 : decode cJ0_coder_7d493 3 = .ok (.ifCond .eq 10, 3) := by decide +kernel
theorem dJ0_coder_7d493_6 : decode cJ0_coder_7d493 6 = .ok (.aload_n 0, 1) := by decide +kernel
theorem dJ0_coder_7d493_7 : decode cJ0_coder_7d493 7 = .ok (.getfield 15, 3) := by decide +kernel
theorem dJ0_coder_7d493_10 : decode cJ0_coder_7d493 10 = .ok (.goto 4, 3) := by decide +kernel
theorem dJ0_coder_7d493_13 : decode cJ0_coder_7d493 13 = .ok (.iconst 1, 1) := by decide +kernel
theorem dJ0_coder_7d493_14 : decode cJ0_coder_7d493 14 = .ok (.ireturn, 1) := by decide +kernel
theorem dJ0_isLatin1_aae02_0 : decode cJ0_isLatin1_aae02 0 = .ok (.getstatic 38, 3) := by decide +kernel
theorem dJ0_isLatin1_aae02_3 : decode cJ0_isLatin1_aae02 3 = .ok (.ifCond .eq 14, 3) := by decide +kernel
theorem dJ0_isLatin1_aae02_6 : decode cJ0_isLatin1_aae02 6 = .ok (.aload_n 0, 1) := by decide +kernel
theorem dJ0_isLatin1_aae02_7 : decode cJ0_isLatin1_aae02 7 = .ok (.getfield 15, 3) := by decide +kernel
theorem dJ0_isLatin1_aae02_10 : decode cJ0_isLatin1_aae02 10 = .ok (.ifCond .ne 7, 3) := by decide +kernel
theorem dJ0_isLatin1_aae02_13 : decode cJ0_isLatin1_aae02 13 = .ok (.iconst 1, 1) := by decide +kernel
theorem dJ0_isLatin1_aae02_14 : decode cJ0_isLatin1_aae02 14 = .ok (.goto 4, 3) := by decide +kernel
theorem dJ0_isLatin1_aae02_17 : decode cJ0_isLatin1_aae02 17 = .ok (.iconst 0, 1) := by decide +kernel
theorem dJ0_isLatin1_aae02_18 : decode cJ0_isLatin1_aae02 18 = .ok (.ireturn, 1) := by decide +kernel
theorem dJ0_checkIndex_df160_0 : decode cJ0_checkIndex_df160 0 = .ok (.iload_n 0, 1) := by decide +kernel
theorem dJ0_checkIndex_df160_1 : decode cJ0_checkIndex_df160 1 = .ok (.iload_n 1, 1) := by decide +kernel
theorem dJ0_checkIndex_df160_2 : decode cJ0_checkIndex_df160 2 = .ok (.getstatic 1053, 3) := by decide +kernel
theorem dJ0_checkIndex_df160_5 : decode cJ0_checkIndex_df160 5 = .ok (.invokestatic 1059, 3) := by decide +kernel
theorem dJ0_checkIndex_df160_8 : decode cJ0_checkIndex_df160 8 = .ok (.pop, 1) := by decide +kernel
theorem dJ0_checkIndex_df160_9 : decode cJ0_checkIndex_df160 9 = .ok (.return_, 1) := by decide +kernel
theorem dJ1_charAt_3b067_0 : decode cJ1_charAt_3b067 0 = .ok (.iload_n 1, 1) := by decide +kernel
theorem dJ1_charAt_3b067_1 : decode cJ1_charAt_3b067 1 = .ok (.aload_n 0, 1) := by decide +kernel
theorem dJ1_charAt_3b067_2 : decode cJ1_charAt_3b067 2 = .ok (.arraylength, 1) := by decide +kernel
theorem dJ1_charAt_3b067_3 : decode cJ1_charAt_3b067 3 = .ok (.invokestatic 9, 3) := by decide +kernel
theorem dJ1_charAt_3b067_6 : decode cJ1_charAt_3b067 6 = .ok (.aload_n 0, 1) := by decide +kernel
theorem dJ1_charAt_3b067_7 : decode cJ1_charAt_3b067 7 = .ok (.iload_n 1, 1) := by decide +kernel
theorem dJ1_charAt_3b067_8 : decode cJ1_charAt_3b067 8 = .ok (.baload, 1) := by decide +kernel
theorem dJ1_charAt_3b067_9 : decode cJ1_charAt_3b067 9 = .ok (.sipush 255, 3) := by decide +kernel
theorem dJ1_charAt_3b067_12 : decode cJ1_charAt_3b067 12 = .ok (.iand, 1) := by decide +kernel
theorem dJ1_charAt_3b067_13 : decode cJ1_charAt_3b067 13 = .ok (.i2c, 1) := by decide +kernel
theorem dJ1_charAt_3b067_14 : decode cJ1_charAt_3b067 14 = .ok (.ireturn, 1) := by decide +kernel
theorem dJ2_getChar_3b067_0 : decode cJ2_getChar_3b067 0 = .ok (.getstatic 44, 3) := by decide +kernel
theorem dJ2_getChar_3b067_3 : decode cJ2_getChar_3b067 3 = .ok (.ifCond .ne 25, 3) := by decide +kernel
theorem dJ2_getChar_3b067_6 : decode cJ2_getChar_3b067 6 = .ok (.iload_n 1, 1) := by decide +kernel
theorem dJ2_getChar_3b067_7 : decode cJ2_getChar_3b067 7 = .ok (.ifCond .lt 11, 3) := by decide +kernel
theorem dJ2_getChar_3b067_10 : decode cJ2_getChar_3b067 10 = .ok (.iload_n 1, 1) := by decide +kernel
theorem dJ2_getChar_3b067_11 : decode cJ2_getChar_3b067 11 = .ok (.aload_n 0, 1) := by decide +kernel
theorem dJ2_getChar_3b067_12 : decode cJ2_getChar_3b067 12 = .ok (.invokestatic 48, 3) := by decide +kernel
theorem dJ2_getChar_3b067_15 : decode cJ2_getChar_3b067 15 = .ok (.if_icmp .lt 13, 3) := by decide +kernel
theorem dJ2_getChar_3b067_18 : decode cJ2_getChar_3b067 18 = .ok (.new 52, 3) := by decide +kernel
theorem dJ2_getChar_3b067_21 : decode cJ2_getChar_3b067 21 = .ok (.dup, 1) := by decide +kernel
theorem dJ2_getChar_3b067_22 : decode cJ2_getChar_3b067 22 = .ok (.ldc 54, 2) := by decide +kernel
theorem dJ2_getChar_3b067_24 : decode cJ2_getChar_3b067 24 = .ok (.invokespecial 56, 3) := by decide +kernel
theorem dJ2_getChar_3b067_27 : decode cJ2_getChar_3b067 27 = .ok (.athrow, 1) := by decide +kernel
theorem dJ2_getChar_3b067_28 : decode cJ2_getChar_3b067 28 = .ok (.iload_n 1, 1) := by decide +kernel
theorem dJ2_getChar_3b067_29 : decode cJ2_getChar_3b067 29 = .ok (.iconst 1, 1) := by decide +kernel
theorem dJ2_getChar_3b067_30 : decode cJ2_getChar_3b067 30 = .ok (.ishl, 1) := by decide +kernel
theorem dJ2_getChar_3b067_31 : decode cJ2_getChar_3b067 31 = .ok (.istore_n 1, 1) := by decide +kernel
theorem dJ2_getChar_3b067_32 : decode cJ2_getChar_3b067 32 = .ok (.aload_n 0, 1) := by decide +kernel
theorem dJ2_getChar_3b067_33 : decode cJ2_getChar_3b067 33 = .ok (.iload_n 1, 1) := by decide +kernel
theorem dJ2_getChar_3b067_34 : decode cJ2_getChar_3b067 34 = .ok (.iinc 1 1, 3) := by decide +kernel
theorem dJ2_getChar_3b067_37 : decode cJ2_getChar_3b067 37 = .ok (.baload, 1) := by decide +kernel
theorem dJ2_getChar_3b067_38 : decode cJ2_getChar_3b067 38 = .ok (.sipush 255, 3) := by decide +kernel
theorem dJ2_getChar_3b067_41 : decode cJ2_getChar_3b067 41 = .ok (.iand, 1) := by decide +kernel
theorem dJ2_getChar_3b067_42 : decode cJ2_getChar_3b067 42 = .ok (.getstatic 59, 3) := by decide +kernel
theorem dJ2_getChar_3b067_45 : decode cJ2_getChar_3b067 45 = .ok (.ishl, 1) := by decide +kernel
theorem dJ2_getChar_3b067_46 : decode cJ2_getChar_3b067 46 = .ok (.aload_n 0, 1) := by decide +kernel
theorem dJ2_getChar_3b067_47 : decode cJ2_getChar_3b067 47 = .ok (.iload_n 1, 1) := by decide +kernel
theorem dJ2_getChar_3b067_48 : decode cJ2_getChar_3b067 48 = .ok (.baload, 1) := by decide +kernel
theorem dJ2_getChar_3b067_49 : decode cJ2_getChar_3b067 49 = .ok (.sipush 255, 3) := by decide +kernel
theorem dJ2_getChar_3b067_52 : decode cJ2_getChar_3b067 52 = .ok (.iand, 1) := by decide +kernel
theorem dJ2_getChar_3b067_53 : decode cJ2_getChar_3b067 53 = .ok (.getstatic 63, 3) := by decide +kernel
theorem dJ2_getChar_3b067_56 : decode cJ2_getChar_3b067 56 = .ok (.ishl, 1) := by decide +kernel
theorem dJ2_getChar_3b067_57 : decode cJ2_getChar_3b067 57 = .ok (.ior, 1) := by decide +kernel
theorem dJ2_getChar_3b067_58 : decode cJ2_getChar_3b067 58 = .ok (.i2c, 1) := by decide +kernel
theorem dJ2_getChar_3b067_59 : decode cJ2_getChar_3b067 59 = .ok (.ireturn, 1) := by decide +kernel
theorem dJ2_length_9d52b_0 : decode cJ2_length_9d52b 0 = .ok (.aload_n 0, 1) := by decide +kernel
theorem dJ2_length_9d52b_1 : decode cJ2_length_9d52b 1 = .ok (.arraylength, 1) := by decide +kernel
theorem dJ2_length_9d52b_2 : decode cJ2_length_9d52b 2 = .ok (.iconst 1, 1) := by decide +kernel
theorem dJ2_length_9d52b_3 : decode cJ2_length_9d52b 3 = .ok (.ishr, 1) := by decide +kernel
theorem dJ2_length_9d52b_4 : decode cJ2_length_9d52b 4 = .ok (.ireturn, 1) := by decide +kernel
theorem dJ2_charAt_3b067_0 : decode cJ2_charAt_3b067 0 = .ok (.iload_n 1, 1) := by decide +kernel
theorem dJ2_charAt_3b067_1 : decode cJ2_charAt_3b067 1 = .ok (.aload_n 0, 1) := by decide +kernel
theorem dJ2_charAt_3b067_2 : decode cJ2_charAt_3b067 2 = .ok (.invokestatic 67, 3) := by decide +kernel
theorem dJ2_charAt_3b067_5 : decode cJ2_charAt_3b067 5 = .ok (.aload_n 0, 1) := by decide +kernel
theorem dJ2_charAt_3b067_6 : decode cJ2_charAt_3b067 6 = .ok (.iload_n 1, 1) := by decide +kernel
theorem dJ2_charAt_3b067_7 : decode cJ2_charAt_3b067 7 = .ok (.invokestatic 71, 3) := by decide +kernel
theorem dJ2_charAt_3b067_10 : decode cJ2_charAt_3b067 10 = .ok (.ireturn, 1) := by decide +kernel
theorem dJ2_checkIndex_2214a_0 : decode cJ2_checkIndex_2214a 0 = .ok (.iload_n 0, 1) := by decide +kernel
theorem dJ2_checkIndex_2214a_1 : decode cJ2_checkIndex_2214a 1 = .ok (.aload_n 1, 1) := by decide +kernel
theorem dJ2_checkIndex_2214a_2 : decode cJ2_checkIndex_2214a 2 = .ok (.invokestatic 48, 3) := by decide +kernel
theorem dJ2_checkIndex_2214a_5 : decode cJ2_checkIndex_2214a 5 = .ok (.invokestatic 414, 3) := by decide +kernel
theorem dJ2_checkIndex_2214a_8 : decode cJ2_checkIndex_2214a 8 = .ok (.return_, 1) := by decide +kernel
theorem dJ3_checkIndex_8e157_0 : decode cJ3_checkIndex_8e157 0 = .ok (.iload_n 0, 1) := by decide +kernel
theorem dJ3_checkIndex_8e157_1 : decode cJ3_checkIndex_8e157 1 = .ok (.ifCond .lt 8, 3) := by decide +kernel
theorem dJ3_checkIndex_8e157_4 : decode cJ3_checkIndex_8e157 4 = .ok (.iload_n 0, 1) := by decide +kernel
theorem dJ3_checkIndex_8e157_5 : decode cJ3_checkIndex_8e157 5 = .ok (.iload_n 1, 1) := by decide +kernel
theorem dJ3_checkIndex_8e157_6 : decode cJ3_checkIndex_8e157 6 = .ok (.if_icmp .lt 10, 3) := by decide +kernel
theorem dJ3_checkIndex_8e157_9 : decode cJ3_checkIndex_8e157 9 = .ok (.aload_n 2, 1) := by decide +kernel
theorem dJ3_checkIndex_8e157_10 : decode cJ3_checkIndex_8e157 10 = .ok (.iload_n 0, 1) := by decide +kernel
theorem dJ3_checkIndex_8e157_11 : decode cJ3_checkIndex_8e157 11 = .ok (.iload_n 1, 1) := by decide +kernel
theorem dJ3_checkIndex_8e157_12 : decode cJ3_checkIndex_8e157 12 = .ok (.invokestatic 95, 3) := by decide +kernel
theorem dJ3_checkIndex_8e157_15 : decode cJ3_checkIndex_8e157 15 = .ok (.athrow, 1) := by decide +kernel
theorem dJ3_checkIndex_8e157_16 : decode cJ3_checkIndex_8e157 16 = .ok (.iload_n 0, 1) := by decide +kernel
theorem dJ3_checkIndex_8e157_17 : decode cJ3_checkIndex_8e157 17 = .ok (.ireturn, 1) := by decide +kernel
theorem dL_law_0 : decode cL_law 0 = .ok (.new 7, 3) := by decide +kernel
theorem dL_law_3 : decode cL_law 3 = .ok (.dup, 1) := by decide +kernel
theorem dL_law_4 : decode cL_law 4 = .ok (.invokespecial 9, 3) := by decide +kernel
theorem dL_law_7 : decode cL_law 7 = .ok (.astore_n 1, 1) := by decide +kernel
theorem dL_law_8 : decode cL_law 8 = .ok (.new 10, 3) := by decide +kernel
theorem dL_law_11 : decode cL_law 11 = .ok (.dup, 1) := by decide +kernel
theorem dL_law_12 : decode cL_law 12 = .ok (.invokespecial 12, 3) := by decide +kernel
theorem dL_law_15 : decode cL_law 15 = .ok (.astore_n 2, 1) := by decide +kernel
theorem dL_law_16 : decode cL_law 16 = .ok (.iconst 0, 1) := by decide +kernel
theorem dL_law_17 : decode cL_law 17 = .ok (.istore_n 3, 1) := by decide +kernel
theorem dL_law_18 : decode cL_law 18 = .ok (.iload_n 3, 1) := by decide +kernel
theorem dL_law_19 : decode cL_law 19 = .ok (.aload_n 0, 1) := by decide +kernel
theorem dL_law_20 : decode cL_law 20 = .ok (.arraylength, 1) := by decide +kernel
theorem dL_law_21 : decode cL_law 21 = .ok (.bipush 6, 2) := by decide +kernel
theorem dL_law_23 : decode cL_law 23 = .ok (.isub, 1) := by decide +kernel
theorem dL_law_24 : decode cL_law 24 = .ok (.if_icmp .gt 2051, 3) := by decide +kernel
theorem dL_law_27 : decode cL_law 27 = .ok (.aload_n 0, 1) := by decide +kernel
theorem dL_law_28 : decode cL_law 28 = .ok (.iload_n 3, 1) := by decide +kernel
theorem dL_law_29 : decode cL_law 29 = .ok (.iaload, 1) := by decide +kernel
theorem dL_law_30 : decode cL_law 30 = .ok (.bipush 63, 2) := by decide +kernel
theorem dL_law_32 : decode cL_law 32 = .ok (.iand, 1) := by decide +kernel
theorem dL_law_33 : decode cL_law 33 = .ok (.tableswitch 2036 0 58 #[251, 294, 367, 430, 464, 487, 520, 553, 586, 619, 652, 685, 698, 711, 744, 793, 826, 859, 882, 915, 948, 991, 1014, 1057, 1080, 1103, 1126, 1169, 1202, 1245, 1288, 1311, 1334, 1357, 1380, 1403, 1436, 1459, 1482, 1515, 1558, 1581, 1614, 1637, 1670, 1703, 1727, 1760, 1783, 1806, 1839, 1862, 1895, 1918, 1941, 1964, 1987, 2000, 2013], 251) := by decide +kernel
theorem dL_law_284 : decode cL_law 284 = .ok (.aload_n 1, 1) := by decide +kernel
theorem dL_law_285 : decode cL_law 285 = .ok (.aload_n 0, 1) := by decide +kernel
theorem dL_law_286 : decode cL_law 286 = .ok (.iload_n 3, 1) := by decide +kernel
theorem dL_law_287 : decode cL_law 287 = .ok (.iconst 1, 1) := by decide +kernel
theorem dL_law_288 : decode cL_law 288 = .ok (.iadd, 1) := by decide +kernel
theorem dL_law_289 : decode cL_law 289 = .ok (.iaload, 1) := by decide +kernel
theorem dL_law_290 : decode cL_law 290 = .ok (.aload_n 0, 1) := by decide +kernel
theorem dL_law_291 : decode cL_law 291 = .ok (.iload_n 3, 1) := by decide +kernel
theorem dL_law_292 : decode cL_law 292 = .ok (.iconst 2, 1) := by decide +kernel
theorem dL_law_293 : decode cL_law 293 = .ok (.iadd, 1) := by decide +kernel
theorem dL_law_294 : decode cL_law 294 = .ok (.iaload, 1) := by decide +kernel
theorem dL_law_295 : decode cL_law 295 = .ok (.aload_n 0, 1) := by decide +kernel
theorem dL_law_296 : decode cL_law 296 = .ok (.iload_n 3, 1) := by decide +kernel
theorem dL_law_297 : decode cL_law 297 = .ok (.iconst 3, 1) := by decide +kernel
theorem dL_law_298 : decode cL_law 298 = .ok (.iadd, 1) := by decide +kernel
theorem dL_law_299 : decode cL_law 299 = .ok (.iaload, 1) := by decide +kernel
theorem dL_law_300 : decode cL_law 300 = .ok (.invokevirtual 13, 3) := by decide +kernel
theorem dL_law_303 : decode cL_law 303 = .ok (.aload_n 2, 1) := by decide +kernel
theorem dL_law_304 : decode cL_law 304 = .ok (.aload_n 0, 1) := by decide +kernel
theorem dL_law_305 : decode cL_law 305 = .ok (.iload_n 3, 1) := by decide +kernel
theorem dL_law_306 : decode cL_law 306 = .ok (.iconst 1, 1) := by decide +kernel
theorem dL_law_307 : decode cL_law 307 = .ok (.iadd, 1) := by decide +kernel
theorem dL_law_308 : decode cL_law 308 = .ok (.iaload, 1) := by decide +kernel
theorem dL_law_309 : decode cL_law 309 = .ok (.aload_n 0, 1) := by decide +kernel
theorem dL_law_310 : decode cL_law 310 = .ok (.iload_n 3, 1) := by decide +kernel
theorem dL_law_311 : decode cL_law 311 = .ok (.iconst 2, 1) := by decide +kernel
theorem dL_law_312 : decode cL_law 312 = .ok (.iadd, 1) := by decide +kernel
theorem dL_law_313 : decode cL_law 313 = .ok (.iaload, 1) := by decide +kernel
theorem dL_law_314 : decode cL_law 314 = .ok (.aload_n 0, 1) := by decide +kernel
theorem dL_law_315 : decode cL_law 315 = .ok (.iload_n 3, 1) := by decide +kernel
theorem dL_law_316 : decode cL_law 316 = .ok (.iconst 3, 1) := by decide +kernel
theorem dL_law_317 : decode cL_law 317 = .ok (.iadd, 1) := by decide +kernel
theorem dL_law_318 : decode cL_law 318 = .ok (.iaload, 1) := by decide +kernel
theorem dL_law_319 : decode cL_law 319 = .ok (.invokevirtual 17, 3) := by decide +kernel
theorem dL_law_322 : decode cL_law 322 = .ok (.if_icmp .eq 1747, 3) := by decide +kernel
theorem dL_law_325 : decode cL_law 325 = .ok (.iconst 0, 1) := by decide +kernel
theorem dL_law_326 : decode cL_law 326 = .ok (.ireturn, 1) := by decide +kernel
theorem dL_law_327 : decode cL_law 327 = .ok (.aload_n 1, 1) := by decide +kernel
theorem dL_law_328 : decode cL_law 328 = .ok (.aload_n 0, 1) := by decide +kernel
theorem dL_law_329 : decode cL_law 329 = .ok (.iload_n 3, 1) := by decide +kernel
theorem dL_law_330 : decode cL_law 330 = .ok (.iconst 1, 1) := by decide +kernel
theorem dL_law_331 : decode cL_law 331 = .ok (.iadd, 1) := by decide +kernel
theorem dL_law_332 : decode cL_law 332 = .ok (.iaload, 1) := by decide +kernel
theorem dL_law_333 : decode cL_law 333 = .ok (.aload_n 0, 1) := by decide +kernel
theorem dL_law_334 : decode cL_law 334 = .ok (.iload_n 3, 1) := by decide +kernel
theorem dL_law_335 : decode cL_law 335 = .ok (.iconst 2, 1) := by decide +kernel
theorem dL_law_336 : decode cL_law 336 = .ok (.iadd, 1) := by decide +kernel
theorem dL_law_337 : decode cL_law 337 = .ok (.iaload, 1) := by decide +kernel
theorem dL_law_338 : decode cL_law 338 = .ok (.aload_n 0, 1) := by decide +kernel
theorem dL_law_339 : decode cL_law 339 = .ok (.iload_n 3, 1) := by decide +kernel
theorem dL_law_340 : decode cL_law 340 = .ok (.iconst 3, 1) := by decide +kernel
theorem dL_law_341 : decode cL_law 341 = .ok (.iadd, 1) := by decide +kernel
theorem dL_law_342 : decode cL_law 342 = .ok (.iaload, 1) := by decide +kernel
theorem dL_law_343 : decode cL_law 343 = .ok (.i2l, 1) := by decide +kernel
theorem dL_law_344 : decode cL_law 344 = .ok (.bipush 32, 2) := by decide +kernel
theorem dL_law_346 : decode cL_law 346 = .ok (.lshl, 1) := by decide +kernel
theorem dL_law_347 : decode cL_law 347 = .ok (.aload_n 0, 1) := by decide +kernel
theorem dL_law_348 : decode cL_law 348 = .ok (.iload_n 3, 1) := by decide +kernel
theorem dL_law_349 : decode cL_law 349 = .ok (.iconst 4, 1) := by decide +kernel
theorem dL_law_350 : decode cL_law 350 = .ok (.iadd, 1) := by decide +kernel
theorem dL_law_351 : decode cL_law 351 = .ok (.iaload, 1) := by decide +kernel
theorem dL_law_352 : decode cL_law 352 = .ok (.i2l, 1) := by decide +kernel
theorem dL_law_353 : decode cL_law 353 = .ok (.ldc2_w 18, 3) := by decide +kernel
theorem dL_law_356 : decode cL_law 356 = .ok (.land, 1) := by decide +kernel
theorem dL_law_357 : decode cL_law 357 = .ok (.lor, 1) := by decide +kernel
theorem dL_law_358 : decode cL_law 358 = .ok (.invokevirtual 20, 3) := by decide +kernel
theorem dL_law_361 : decode cL_law 361 = .ok (.aload_n 2, 1) := by decide +kernel
theorem dL_law_362 : decode cL_law 362 = .ok (.aload_n 0, 1) := by decide +kernel
theorem dL_law_363 : decode cL_law 363 = .ok (.iload_n 3, 1) := by decide +kernel
theorem dL_law_364 : decode cL_law 364 = .ok (.iconst 1, 1) := by decide +kernel
theorem dL_law_365 : decode cL_law 365 = .ok (.iadd, 1) := by decide +kernel
theorem dL_law_366 : decode cL_law 366 = .ok (.iaload, 1) := by decide +kernel
theorem dL_law_367 : decode cL_law 367 = .ok (.aload_n 0, 1) := by decide +kernel
theorem dL_law_368 : decode cL_law 368 = .ok (.iload_n 3, 1) := by decide +kernel
theorem dL_law_369 : decode cL_law 369 = .ok (.iconst 2, 1) := by decide +kernel
theorem dL_law_370 : decode cL_law 370 = .ok (.iadd, 1) := by decide +kernel
theorem dL_law_371 : decode cL_law 371 = .ok (.iaload, 1) := by decide +kernel
theorem dL_law_372 : decode cL_law 372 = .ok (.aload_n 0, 1) := by decide +kernel
theorem dL_law_373 : decode cL_law 373 = .ok (.iload_n 3, 1) := by decide +kernel
theorem dL_law_374 : decode cL_law 374 = .ok (.iconst 3, 1) := by decide +kernel
theorem dL_law_375 : decode cL_law 375 = .ok (.iadd, 1) := by decide +kernel
theorem dL_law_376 : decode cL_law 376 = .ok (.iaload, 1) := by decide +kernel
theorem dL_law_377 : decode cL_law 377 = .ok (.i2l, 1) := by decide +kernel
theorem dL_law_378 : decode cL_law 378 = .ok (.bipush 32, 2) := by decide +kernel
theorem dL_law_380 : decode cL_law 380 = .ok (.lshl, 1) := by decide +kernel
theorem dL_law_381 : decode cL_law 381 = .ok (.aload_n 0, 1) := by decide +kernel
theorem dL_law_382 : decode cL_law 382 = .ok (.iload_n 3, 1) := by decide +kernel
theorem dL_law_383 : decode cL_law 383 = .ok (.iconst 4, 1) := by decide +kernel
theorem dL_law_384 : decode cL_law 384 = .ok (.iadd, 1) := by decide +kernel
theorem dL_law_385 : decode cL_law 385 = .ok (.iaload, 1) := by decide +kernel
theorem dL_law_386 : decode cL_law 386 = .ok (.i2l, 1) := by decide +kernel
theorem dL_law_387 : decode cL_law 387 = .ok (.ldc2_w 18, 3) := by decide +kernel
theorem dL_law_390 : decode cL_law 390 = .ok (.land, 1) := by decide +kernel
theorem dL_law_391 : decode cL_law 391 = .ok (.lor, 1) := by decide +kernel
theorem dL_law_392 : decode cL_law 392 = .ok (.invokevirtual 24, 3) := by decide +kernel
theorem dL_law_395 : decode cL_law 395 = .ok (.if_icmp .eq 1674, 3) := by decide +kernel
theorem dL_law_398 : decode cL_law 398 = .ok (.iconst 0, 1) := by decide +kernel
theorem dL_law_399 : decode cL_law 399 = .ok (.ireturn, 1) := by decide +kernel
theorem dL_law_400 : decode cL_law 400 = .ok (.aload_n 1, 1) := by decide +kernel
theorem dL_law_401 : decode cL_law 401 = .ok (.aload_n 0, 1) := by decide +kernel
theorem dL_law_402 : decode cL_law 402 = .ok (.iload_n 3, 1) := by decide +kernel
theorem dL_law_403 : decode cL_law 403 = .ok (.iconst 1, 1) := by decide +kernel
theorem dL_law_404 : decode cL_law 404 = .ok (.iadd, 1) := by decide +kernel
theorem dL_law_405 : decode cL_law 405 = .ok (.iaload, 1) := by decide +kernel
theorem dL_law_406 : decode cL_law 406 = .ok (.aload_n 0, 1) := by decide +kernel
theorem dL_law_407 : decode cL_law 407 = .ok (.iload_n 3, 1) := by decide +kernel
theorem dL_law_408 : decode cL_law 408 = .ok (.iconst 2, 1) := by decide +kernel
theorem dL_law_409 : decode cL_law 409 = .ok (.iadd, 1) := by decide +kernel
theorem dL_law_410 : decode cL_law 410 = .ok (.iaload, 1) := by decide +kernel
theorem dL_law_411 : decode cL_law 411 = .ok (.aload_n 0, 1) := by decide +kernel
theorem dL_law_412 : decode cL_law 412 = .ok (.iload_n 3, 1) := by decide +kernel
theorem dL_law_413 : decode cL_law 413 = .ok (.iconst 3, 1) := by decide +kernel
theorem dL_law_414 : decode cL_law 414 = .ok (.iadd, 1) := by decide +kernel
theorem dL_law_415 : decode cL_law 415 = .ok (.iaload, 1) := by decide +kernel
theorem dL_law_416 : decode cL_law 416 = .ok (.aload_n 0, 1) := by decide +kernel
theorem dL_law_417 : decode cL_law 417 = .ok (.iload_n 3, 1) := by decide +kernel
theorem dL_law_418 : decode cL_law 418 = .ok (.iconst 4, 1) := by decide +kernel
theorem dL_law_419 : decode cL_law 419 = .ok (.iadd, 1) := by decide +kernel
theorem dL_law_420 : decode cL_law 420 = .ok (.iaload, 1) := by decide +kernel
theorem dL_law_421 : decode cL_law 421 = .ok (.aload_n 0, 1) := by decide +kernel
theorem dL_law_422 : decode cL_law 422 = .ok (.iload_n 3, 1) := by decide +kernel
theorem dL_law_423 : decode cL_law 423 = .ok (.iconst 5, 1) := by decide +kernel
theorem dL_law_424 : decode cL_law 424 = .ok (.iadd, 1) := by decide +kernel
theorem dL_law_425 : decode cL_law 425 = .ok (.iaload, 1) := by decide +kernel
theorem dL_law_426 : decode cL_law 426 = .ok (.invokevirtual 25, 3) := by decide +kernel
theorem dL_law_429 : decode cL_law 429 = .ok (.aload_n 2, 1) := by decide +kernel
theorem dL_law_430 : decode cL_law 430 = .ok (.aload_n 0, 1) := by decide +kernel
theorem dL_law_431 : decode cL_law 431 = .ok (.iload_n 3, 1) := by decide +kernel
theorem dL_law_432 : decode cL_law 432 = .ok (.iconst 1, 1) := by decide +kernel
theorem dL_law_433 : decode cL_law 433 = .ok (.iadd, 1) := by decide +kernel
theorem dL_law_434 : decode cL_law 434 = .ok (.iaload, 1) := by decide +kernel
theorem dL_law_435 : decode cL_law 435 = .ok (.aload_n 0, 1) := by decide +kernel
theorem dL_law_436 : decode cL_law 436 = .ok (.iload_n 3, 1) := by decide +kernel
theorem dL_law_437 : decode cL_law 437 = .ok (.iconst 2, 1) := by decide +kernel
theorem dL_law_438 : decode cL_law 438 = .ok (.iadd, 1) := by decide +kernel
theorem dL_law_439 : decode cL_law 439 = .ok (.iaload, 1) := by decide +kernel
theorem dL_law_440 : decode cL_law 440 = .ok (.aload_n 0, 1) := by decide +kernel
theorem dL_law_441 : decode cL_law 441 = .ok (.iload_n 3, 1) := by decide +kernel
theorem dL_law_442 : decode cL_law 442 = .ok (.iconst 3, 1) := by decide +kernel
theorem dL_law_443 : decode cL_law 443 = .ok (.iadd, 1) := by decide +kernel
theorem dL_law_444 : decode cL_law 444 = .ok (.iaload, 1) := by decide +kernel
theorem dL_law_445 : decode cL_law 445 = .ok (.aload_n 0, 1) := by decide +kernel
theorem dL_law_446 : decode cL_law 446 = .ok (.iload_n 3, 1) := by decide +kernel
theorem dL_law_447 : decode cL_law 447 = .ok (.iconst 4, 1) := by decide +kernel
theorem dL_law_448 : decode cL_law 448 = .ok (.iadd, 1) := by decide +kernel
theorem dL_law_449 : decode cL_law 449 = .ok (.iaload, 1) := by decide +kernel
theorem dL_law_450 : decode cL_law 450 = .ok (.aload_n 0, 1) := by decide +kernel
theorem dL_law_451 : decode cL_law 451 = .ok (.iload_n 3, 1) := by decide +kernel
theorem dL_law_452 : decode cL_law 452 = .ok (.iconst 5, 1) := by decide +kernel
theorem dL_law_453 : decode cL_law 453 = .ok (.iadd, 1) := by decide +kernel
theorem dL_law_454 : decode cL_law 454 = .ok (.iaload, 1) := by decide +kernel
theorem dL_law_455 : decode cL_law 455 = .ok (.invokevirtual 29, 3) := by decide +kernel
theorem dL_law_458 : decode cL_law 458 = .ok (.if_icmp .eq 1611, 3) := by decide +kernel
theorem dL_law_461 : decode cL_law 461 = .ok (.iconst 0, 1) := by decide +kernel
theorem dL_law_462 : decode cL_law 462 = .ok (.ireturn, 1) := by decide +kernel
theorem dL_law_463 : decode cL_law 463 = .ok (.aload_n 1, 1) := by decide +kernel
theorem dL_law_464 : decode cL_law 464 = .ok (.aload_n 0, 1) := by decide +kernel
theorem dL_law_465 : decode cL_law 465 = .ok (.iload_n 3, 1) := by decide +kernel
theorem dL_law_466 : decode cL_law 466 = .ok (.iconst 1, 1) := by decide +kernel
theorem dL_law_467 : decode cL_law 467 = .ok (.iadd, 1) := by decide +kernel
theorem dL_law_468 : decode cL_law 468 = .ok (.iaload, 1) := by decide +kernel
theorem dL_law_469 : decode cL_law 469 = .ok (.aload_n 0, 1) := by decide +kernel
theorem dL_law_470 : decode cL_law 470 = .ok (.iload_n 3, 1) := by decide +kernel
theorem dL_law_471 : decode cL_law 471 = .ok (.iconst 2, 1) := by decide +kernel
theorem dL_law_472 : decode cL_law 472 = .ok (.iadd, 1) := by decide +kernel
theorem dL_law_473 : decode cL_law 473 = .ok (.iaload, 1) := by decide +kernel
theorem dL_law_474 : decode cL_law 474 = .ok (.invokevirtual 30, 3) := by decide +kernel
theorem dL_law_477 : decode cL_law 477 = .ok (.aload_n 2, 1) := by decide +kernel
theorem dL_law_478 : decode cL_law 478 = .ok (.aload_n 0, 1) := by decide +kernel
theorem dL_law_479 : decode cL_law 479 = .ok (.iload_n 3, 1) := by decide +kernel
theorem dL_law_480 : decode cL_law 480 = .ok (.iconst 1, 1) := by decide +kernel
theorem dL_law_481 : decode cL_law 481 = .ok (.iadd, 1) := by decide +kernel
theorem dL_law_482 : decode cL_law 482 = .ok (.iaload, 1) := by decide +kernel
theorem dL_law_483 : decode cL_law 483 = .ok (.aload_n 0, 1) := by decide +kernel
theorem dL_law_484 : decode cL_law 484 = .ok (.iload_n 3, 1) := by decide +kernel
theorem dL_law_485 : decode cL_law 485 = .ok (.iconst 2, 1) := by decide +kernel
theorem dL_law_486 : decode cL_law 486 = .ok (.iadd, 1) := by decide +kernel
theorem dL_law_487 : decode cL_law 487 = .ok (.iaload, 1) := by decide +kernel
theorem dL_law_488 : decode cL_law 488 = .ok (.invokevirtual 34, 3) := by decide +kernel
theorem dL_law_491 : decode cL_law 491 = .ok (.lcmp, 1) := by decide +kernel
theorem dL_law_492 : decode cL_law 492 = .ok (.ifCond .eq 1577, 3) := by decide +kernel
theorem dL_law_495 : decode cL_law 495 = .ok (.iconst 0, 1) := by decide +kernel
theorem dL_law_496 : decode cL_law 496 = .ok (.ireturn, 1) := by decide +kernel
theorem dL_law_497 : decode cL_law 497 = .ok (.aload_n 1, 1) := by decide +kernel
theorem dL_law_498 : decode cL_law 498 = .ok (.aload_n 0, 1) := by decide +kernel
theorem dL_law_499 : decode cL_law 499 = .ok (.iload_n 3, 1) := by decide +kernel
theorem dL_law_500 : decode cL_law 500 = .ok (.iconst 1, 1) := by decide +kernel
theorem dL_law_501 : decode cL_law 501 = .ok (.iadd, 1) := by decide +kernel
theorem dL_law_502 : decode cL_law 502 = .ok (.iaload, 1) := by decide +kernel
theorem dL_law_503 : decode cL_law 503 = .ok (.invokevirtual 35, 3) := by decide +kernel
theorem dL_law_506 : decode cL_law 506 = .ok (.aload_n 2, 1) := by decide +kernel
theorem dL_law_507 : decode cL_law 507 = .ok (.aload_n 0, 1) := by decide +kernel
theorem dL_law_508 : decode cL_law 508 = .ok (.iload_n 3, 1) := by decide +kernel
theorem dL_law_509 : decode cL_law 509 = .ok (.iconst 1, 1) := by decide +kernel
theorem dL_law_510 : decode cL_law 510 = .ok (.iadd, 1) := by decide +kernel
theorem dL_law_511 : decode cL_law 511 = .ok (.iaload, 1) := by decide +kernel
theorem dL_law_512 : decode cL_law 512 = .ok (.invokevirtual 39, 3) := by decide +kernel
theorem dL_law_515 : decode cL_law 515 = .ok (.if_icmp .eq 1554, 3) := by decide +kernel
theorem dL_law_518 : decode cL_law 518 = .ok (.iconst 0, 1) := by decide +kernel
theorem dL_law_519 : decode cL_law 519 = .ok (.ireturn, 1) := by decide +kernel
theorem dL_law_520 : decode cL_law 520 = .ok (.aload_n 1, 1) := by decide +kernel
theorem dL_law_521 : decode cL_law 521 = .ok (.aload_n 0, 1) := by decide +kernel
theorem dL_law_522 : decode cL_law 522 = .ok (.iload_n 3, 1) := by decide +kernel
theorem dL_law_523 : decode cL_law 523 = .ok (.iconst 1, 1) := by decide +kernel
theorem dL_law_524 : decode cL_law 524 = .ok (.iadd, 1) := by decide +kernel
theorem dL_law_525 : decode cL_law 525 = .ok (.iaload, 1) := by decide +kernel
theorem dL_law_526 : decode cL_law 526 = .ok (.aload_n 0, 1) := by decide +kernel
theorem dL_law_527 : decode cL_law 527 = .ok (.iload_n 3, 1) := by decide +kernel
theorem dL_law_528 : decode cL_law 528 = .ok (.iconst 2, 1) := by decide +kernel
theorem dL_law_529 : decode cL_law 529 = .ok (.iadd, 1) := by decide +kernel
theorem dL_law_530 : decode cL_law 530 = .ok (.iaload, 1) := by decide +kernel
theorem dL_law_531 : decode cL_law 531 = .ok (.invokevirtual 40, 3) := by decide +kernel
theorem dL_law_534 : decode cL_law 534 = .ok (.aload_n 2, 1) := by decide +kernel
theorem dL_law_535 : decode cL_law 535 = .ok (.aload_n 0, 1) := by decide +kernel
theorem dL_law_536 : decode cL_law 536 = .ok (.iload_n 3, 1) := by decide +kernel
theorem dL_law_537 : decode cL_law 537 = .ok (.iconst 1, 1) := by decide +kernel
theorem dL_law_538 : decode cL_law 538 = .ok (.iadd, 1) := by decide +kernel
theorem dL_law_539 : decode cL_law 539 = .ok (.iaload, 1) := by decide +kernel
theorem dL_law_540 : decode cL_law 540 = .ok (.aload_n 0, 1) := by decide +kernel
theorem dL_law_541 : decode cL_law 541 = .ok (.iload_n 3, 1) := by decide +kernel
theorem dL_law_542 : decode cL_law 542 = .ok (.iconst 2, 1) := by decide +kernel
theorem dL_law_543 : decode cL_law 543 = .ok (.iadd, 1) := by decide +kernel
theorem dL_law_544 : decode cL_law 544 = .ok (.iaload, 1) := by decide +kernel
theorem dL_law_545 : decode cL_law 545 = .ok (.invokevirtual 44, 3) := by decide +kernel
theorem dL_law_548 : decode cL_law 548 = .ok (.if_icmp .eq 1521, 3) := by decide +kernel
theorem dL_law_551 : decode cL_law 551 = .ok (.iconst 0, 1) := by decide +kernel
theorem dL_law_552 : decode cL_law 552 = .ok (.ireturn, 1) := by decide +kernel
theorem dL_law_553 : decode cL_law 553 = .ok (.aload_n 1, 1) := by decide +kernel
theorem dL_law_554 : decode cL_law 554 = .ok (.aload_n 0, 1) := by decide +kernel
theorem dL_law_555 : decode cL_law 555 = .ok (.iload_n 3, 1) := by decide +kernel
theorem dL_law_556 : decode cL_law 556 = .ok (.iconst 1, 1) := by decide +kernel
theorem dL_law_557 : decode cL_law 557 = .ok (.iadd, 1) := by decide +kernel
theorem dL_law_558 : decode cL_law 558 = .ok (.iaload, 1) := by decide +kernel
theorem dL_law_559 : decode cL_law 559 = .ok (.aload_n 0, 1) := by decide +kernel
theorem dL_law_560 : decode cL_law 560 = .ok (.iload_n 3, 1) := by decide +kernel
theorem dL_law_561 : decode cL_law 561 = .ok (.iconst 2, 1) := by decide +kernel
theorem dL_law_562 : decode cL_law 562 = .ok (.iadd, 1) := by decide +kernel
theorem dL_law_563 : decode cL_law 563 = .ok (.iaload, 1) := by decide +kernel
theorem dL_law_564 : decode cL_law 564 = .ok (.invokevirtual 45, 3) := by decide +kernel
theorem dL_law_567 : decode cL_law 567 = .ok (.aload_n 2, 1) := by decide +kernel
theorem dL_law_568 : decode cL_law 568 = .ok (.aload_n 0, 1) := by decide +kernel
theorem dL_law_569 : decode cL_law 569 = .ok (.iload_n 3, 1) := by decide +kernel
theorem dL_law_570 : decode cL_law 570 = .ok (.iconst 1, 1) := by decide +kernel
theorem dL_law_571 : decode cL_law 571 = .ok (.iadd, 1) := by decide +kernel
theorem dL_law_572 : decode cL_law 572 = .ok (.iaload, 1) := by decide +kernel
theorem dL_law_573 : decode cL_law 573 = .ok (.aload_n 0, 1) := by decide +kernel
theorem dL_law_574 : decode cL_law 574 = .ok (.iload_n 3, 1) := by decide +kernel
theorem dL_law_575 : decode cL_law 575 = .ok (.iconst 2, 1) := by decide +kernel
theorem dL_law_576 : decode cL_law 576 = .ok (.iadd, 1) := by decide +kernel
theorem dL_law_577 : decode cL_law 577 = .ok (.iaload, 1) := by decide +kernel
theorem dL_law_578 : decode cL_law 578 = .ok (.invokevirtual 48, 3) := by decide +kernel
theorem dL_law_581 : decode cL_law 581 = .ok (.if_icmp .eq 1488, 3) := by decide +kernel
theorem dL_law_584 : decode cL_law 584 = .ok (.iconst 0, 1) := by decide +kernel
theorem dL_law_585 : decode cL_law 585 = .ok (.ireturn, 1) := by decide +kernel
theorem dL_law_586 : decode cL_law 586 = .ok (.aload_n 1, 1) := by decide +kernel
theorem dL_law_587 : decode cL_law 587 = .ok (.aload_n 0, 1) := by decide +kernel
theorem dL_law_588 : decode cL_law 588 = .ok (.iload_n 3, 1) := by decide +kernel
theorem dL_law_589 : decode cL_law 589 = .ok (.iconst 1, 1) := by decide +kernel
theorem dL_law_590 : decode cL_law 590 = .ok (.iadd, 1) := by decide +kernel
theorem dL_law_591 : decode cL_law 591 = .ok (.iaload, 1) := by decide +kernel
theorem dL_law_592 : decode cL_law 592 = .ok (.aload_n 0, 1) := by decide +kernel
theorem dL_law_593 : decode cL_law 593 = .ok (.iload_n 3, 1) := by decide +kernel
theorem dL_law_594 : decode cL_law 594 = .ok (.iconst 2, 1) := by decide +kernel
theorem dL_law_595 : decode cL_law 595 = .ok (.iadd, 1) := by decide +kernel
theorem dL_law_596 : decode cL_law 596 = .ok (.iaload, 1) := by decide +kernel
theorem dL_law_597 : decode cL_law 597 = .ok (.invokevirtual 49, 3) := by decide +kernel
theorem dL_law_600 : decode cL_law 600 = .ok (.aload_n 2, 1) := by decide +kernel
theorem dL_law_601 : decode cL_law 601 = .ok (.aload_n 0, 1) := by decide +kernel
theorem dL_law_602 : decode cL_law 602 = .ok (.iload_n 3, 1) := by decide +kernel
theorem dL_law_603 : decode cL_law 603 = .ok (.iconst 1, 1) := by decide +kernel
theorem dL_law_604 : decode cL_law 604 = .ok (.iadd, 1) := by decide +kernel
theorem dL_law_605 : decode cL_law 605 = .ok (.iaload, 1) := by decide +kernel
theorem dL_law_606 : decode cL_law 606 = .ok (.aload_n 0, 1) := by decide +kernel
theorem dL_law_607 : decode cL_law 607 = .ok (.iload_n 3, 1) := by decide +kernel
theorem dL_law_608 : decode cL_law 608 = .ok (.iconst 2, 1) := by decide +kernel
theorem dL_law_609 : decode cL_law 609 = .ok (.iadd, 1) := by decide +kernel
theorem dL_law_610 : decode cL_law 610 = .ok (.iaload, 1) := by decide +kernel
theorem dL_law_611 : decode cL_law 611 = .ok (.invokevirtual 52, 3) := by decide +kernel
theorem dL_law_614 : decode cL_law 614 = .ok (.if_icmp .eq 1455, 3) := by decide +kernel
theorem dL_law_617 : decode cL_law 617 = .ok (.iconst 0, 1) := by decide +kernel
theorem dL_law_618 : decode cL_law 618 = .ok (.ireturn, 1) := by decide +kernel
theorem dL_law_619 : decode cL_law 619 = .ok (.aload_n 1, 1) := by decide +kernel
theorem dL_law_620 : decode cL_law 620 = .ok (.aload_n 0, 1) := by decide +kernel
theorem dL_law_621 : decode cL_law 621 = .ok (.iload_n 3, 1) := by decide +kernel
theorem dL_law_622 : decode cL_law 622 = .ok (.iconst 1, 1) := by decide +kernel
theorem dL_law_623 : decode cL_law 623 = .ok (.iadd, 1) := by decide +kernel
theorem dL_law_624 : decode cL_law 624 = .ok (.iaload, 1) := by decide +kernel
theorem dL_law_625 : decode cL_law 625 = .ok (.aload_n 0, 1) := by decide +kernel
theorem dL_law_626 : decode cL_law 626 = .ok (.iload_n 3, 1) := by decide +kernel
theorem dL_law_627 : decode cL_law 627 = .ok (.iconst 2, 1) := by decide +kernel
theorem dL_law_628 : decode cL_law 628 = .ok (.iadd, 1) := by decide +kernel
theorem dL_law_629 : decode cL_law 629 = .ok (.iaload, 1) := by decide +kernel
theorem dL_law_630 : decode cL_law 630 = .ok (.invokevirtual 53, 3) := by decide +kernel
theorem dL_law_633 : decode cL_law 633 = .ok (.aload_n 2, 1) := by decide +kernel
theorem dL_law_634 : decode cL_law 634 = .ok (.aload_n 0, 1) := by decide +kernel
theorem dL_law_635 : decode cL_law 635 = .ok (.iload_n 3, 1) := by decide +kernel
theorem dL_law_636 : decode cL_law 636 = .ok (.iconst 1, 1) := by decide +kernel
theorem dL_law_637 : decode cL_law 637 = .ok (.iadd, 1) := by decide +kernel
theorem dL_law_638 : decode cL_law 638 = .ok (.iaload, 1) := by decide +kernel
theorem dL_law_639 : decode cL_law 639 = .ok (.aload_n 0, 1) := by decide +kernel
theorem dL_law_640 : decode cL_law 640 = .ok (.iload_n 3, 1) := by decide +kernel
theorem dL_law_641 : decode cL_law 641 = .ok (.iconst 2, 1) := by decide +kernel
theorem dL_law_642 : decode cL_law 642 = .ok (.iadd, 1) := by decide +kernel
theorem dL_law_643 : decode cL_law 643 = .ok (.iaload, 1) := by decide +kernel
theorem dL_law_644 : decode cL_law 644 = .ok (.invokevirtual 56, 3) := by decide +kernel
theorem dL_law_647 : decode cL_law 647 = .ok (.if_icmp .eq 1422, 3) := by decide +kernel
theorem dL_law_650 : decode cL_law 650 = .ok (.iconst 0, 1) := by decide +kernel
theorem dL_law_651 : decode cL_law 651 = .ok (.ireturn, 1) := by decide +kernel
theorem dL_law_652 : decode cL_law 652 = .ok (.aload_n 1, 1) := by decide +kernel
theorem dL_law_653 : decode cL_law 653 = .ok (.aload_n 0, 1) := by decide +kernel
theorem dL_law_654 : decode cL_law 654 = .ok (.iload_n 3, 1) := by decide +kernel
theorem dL_law_655 : decode cL_law 655 = .ok (.iconst 1, 1) := by decide +kernel
theorem dL_law_656 : decode cL_law 656 = .ok (.iadd, 1) := by decide +kernel
theorem dL_law_657 : decode cL_law 657 = .ok (.iaload, 1) := by decide +kernel
theorem dL_law_658 : decode cL_law 658 = .ok (.aload_n 0, 1) := by decide +kernel
theorem dL_law_659 : decode cL_law 659 = .ok (.iload_n 3, 1) := by decide +kernel
theorem dL_law_660 : decode cL_law 660 = .ok (.iconst 2, 1) := by decide +kernel
theorem dL_law_661 : decode cL_law 661 = .ok (.iadd, 1) := by decide +kernel
theorem dL_law_662 : decode cL_law 662 = .ok (.iaload, 1) := by decide +kernel
theorem dL_law_663 : decode cL_law 663 = .ok (.invokevirtual 57, 3) := by decide +kernel
theorem dL_law_666 : decode cL_law 666 = .ok (.aload_n 2, 1) := by decide +kernel
theorem dL_law_667 : decode cL_law 667 = .ok (.aload_n 0, 1) := by decide +kernel
theorem dL_law_668 : decode cL_law 668 = .ok (.iload_n 3, 1) := by decide +kernel
theorem dL_law_669 : decode cL_law 669 = .ok (.iconst 1, 1) := by decide +kernel
theorem dL_law_670 : decode cL_law 670 = .ok (.iadd, 1) := by decide +kernel
theorem dL_law_671 : decode cL_law 671 = .ok (.iaload, 1) := by decide +kernel
theorem dL_law_672 : decode cL_law 672 = .ok (.aload_n 0, 1) := by decide +kernel
theorem dL_law_673 : decode cL_law 673 = .ok (.iload_n 3, 1) := by decide +kernel
theorem dL_law_674 : decode cL_law 674 = .ok (.iconst 2, 1) := by decide +kernel
theorem dL_law_675 : decode cL_law 675 = .ok (.iadd, 1) := by decide +kernel
theorem dL_law_676 : decode cL_law 676 = .ok (.iaload, 1) := by decide +kernel
theorem dL_law_677 : decode cL_law 677 = .ok (.invokevirtual 60, 3) := by decide +kernel
theorem dL_law_680 : decode cL_law 680 = .ok (.if_icmp .eq 1389, 3) := by decide +kernel
theorem dL_law_683 : decode cL_law 683 = .ok (.iconst 0, 1) := by decide +kernel
theorem dL_law_684 : decode cL_law 684 = .ok (.ireturn, 1) := by decide +kernel
theorem dL_law_685 : decode cL_law 685 = .ok (.aload_n 1, 1) := by decide +kernel
theorem dL_law_686 : decode cL_law 686 = .ok (.aload_n 0, 1) := by decide +kernel
theorem dL_law_687 : decode cL_law 687 = .ok (.iload_n 3, 1) := by decide +kernel
theorem dL_law_688 : decode cL_law 688 = .ok (.iconst 1, 1) := by decide +kernel
theorem dL_law_689 : decode cL_law 689 = .ok (.iadd, 1) := by decide +kernel
theorem dL_law_690 : decode cL_law 690 = .ok (.iaload, 1) := by decide +kernel
theorem dL_law_691 : decode cL_law 691 = .ok (.aload_n 0, 1) := by decide +kernel
theorem dL_law_692 : decode cL_law 692 = .ok (.iload_n 3, 1) := by decide +kernel
theorem dL_law_693 : decode cL_law 693 = .ok (.iconst 2, 1) := by decide +kernel
theorem dL_law_694 : decode cL_law 694 = .ok (.iadd, 1) := by decide +kernel
theorem dL_law_695 : decode cL_law 695 = .ok (.iaload, 1) := by decide +kernel
theorem dL_law_696 : decode cL_law 696 = .ok (.invokevirtual 61, 3) := by decide +kernel
theorem dL_law_699 : decode cL_law 699 = .ok (.aload_n 2, 1) := by decide +kernel
theorem dL_law_700 : decode cL_law 700 = .ok (.aload_n 0, 1) := by decide +kernel
theorem dL_law_701 : decode cL_law 701 = .ok (.iload_n 3, 1) := by decide +kernel
theorem dL_law_702 : decode cL_law 702 = .ok (.iconst 1, 1) := by decide +kernel
theorem dL_law_703 : decode cL_law 703 = .ok (.iadd, 1) := by decide +kernel
theorem dL_law_704 : decode cL_law 704 = .ok (.iaload, 1) := by decide +kernel
theorem dL_law_705 : decode cL_law 705 = .ok (.aload_n 0, 1) := by decide +kernel
theorem dL_law_706 : decode cL_law 706 = .ok (.iload_n 3, 1) := by decide +kernel
theorem dL_law_707 : decode cL_law 707 = .ok (.iconst 2, 1) := by decide +kernel
theorem dL_law_708 : decode cL_law 708 = .ok (.iadd, 1) := by decide +kernel
theorem dL_law_709 : decode cL_law 709 = .ok (.iaload, 1) := by decide +kernel
theorem dL_law_710 : decode cL_law 710 = .ok (.invokevirtual 64, 3) := by decide +kernel
theorem dL_law_713 : decode cL_law 713 = .ok (.if_icmp .eq 1356, 3) := by decide +kernel
theorem dL_law_716 : decode cL_law 716 = .ok (.iconst 0, 1) := by decide +kernel
theorem dL_law_717 : decode cL_law 717 = .ok (.ireturn, 1) := by decide +kernel
theorem dL_law_718 : decode cL_law 718 = .ok (.aload_n 1, 1) := by decide +kernel
theorem dL_law_719 : decode cL_law 719 = .ok (.invokevirtual 65, 3) := by decide +kernel
theorem dL_law_722 : decode cL_law 722 = .ok (.aload_n 2, 1) := by decide +kernel
theorem dL_law_723 : decode cL_law 723 = .ok (.invokevirtual 69, 3) := by decide +kernel
theorem dL_law_726 : decode cL_law 726 = .ok (.if_icmp .eq 1343, 3) := by decide +kernel
theorem dL_law_729 : decode cL_law 729 = .ok (.iconst 0, 1) := by decide +kernel
theorem dL_law_730 : decode cL_law 730 = .ok (.ireturn, 1) := by decide +kernel
theorem dL_law_731 : decode cL_law 731 = .ok (.aload_n 1, 1) := by decide +kernel
theorem dL_law_732 : decode cL_law 732 = .ok (.invokevirtual 70, 3) := by decide +kernel
theorem dL_law_735 : decode cL_law 735 = .ok (.aload_n 2, 1) := by decide +kernel
theorem dL_law_736 : decode cL_law 736 = .ok (.invokevirtual 73, 3) := by decide +kernel
theorem dL_law_739 : decode cL_law 739 = .ok (.if_icmp .eq 1330, 3) := by decide +kernel
theorem dL_law_742 : decode cL_law 742 = .ok (.iconst 0, 1) := by decide +kernel
theorem dL_law_743 : decode cL_law 743 = .ok (.ireturn, 1) := by decide +kernel
theorem dL_law_744 : decode cL_law 744 = .ok (.aload_n 1, 1) := by decide +kernel
theorem dL_law_745 : decode cL_law 745 = .ok (.aload_n 0, 1) := by decide +kernel
theorem dL_law_746 : decode cL_law 746 = .ok (.iload_n 3, 1) := by decide +kernel
theorem dL_law_747 : decode cL_law 747 = .ok (.iconst 1, 1) := by decide +kernel
theorem dL_law_748 : decode cL_law 748 = .ok (.iadd, 1) := by decide +kernel
theorem dL_law_749 : decode cL_law 749 = .ok (.iaload, 1) := by decide +kernel
theorem dL_law_750 : decode cL_law 750 = .ok (.aload_n 0, 1) := by decide +kernel
theorem dL_law_751 : decode cL_law 751 = .ok (.iload_n 3, 1) := by decide +kernel
theorem dL_law_752 : decode cL_law 752 = .ok (.iconst 2, 1) := by decide +kernel
theorem dL_law_753 : decode cL_law 753 = .ok (.iadd, 1) := by decide +kernel
theorem dL_law_754 : decode cL_law 754 = .ok (.iaload, 1) := by decide +kernel
theorem dL_law_755 : decode cL_law 755 = .ok (.invokevirtual 74, 3) := by decide +kernel
theorem dL_law_758 : decode cL_law 758 = .ok (.aload_n 2, 1) := by decide +kernel
theorem dL_law_759 : decode cL_law 759 = .ok (.aload_n 0, 1) := by decide +kernel
theorem dL_law_760 : decode cL_law 760 = .ok (.iload_n 3, 1) := by decide +kernel
theorem dL_law_761 : decode cL_law 761 = .ok (.iconst 1, 1) := by decide +kernel
theorem dL_law_762 : decode cL_law 762 = .ok (.iadd, 1) := by decide +kernel
theorem dL_law_763 : decode cL_law 763 = .ok (.iaload, 1) := by decide +kernel
theorem dL_law_764 : decode cL_law 764 = .ok (.aload_n 0, 1) := by decide +kernel
theorem dL_law_765 : decode cL_law 765 = .ok (.iload_n 3, 1) := by decide +kernel
theorem dL_law_766 : decode cL_law 766 = .ok (.iconst 2, 1) := by decide +kernel
theorem dL_law_767 : decode cL_law 767 = .ok (.iadd, 1) := by decide +kernel
theorem dL_law_768 : decode cL_law 768 = .ok (.iaload, 1) := by decide +kernel
theorem dL_law_769 : decode cL_law 769 = .ok (.invokevirtual 77, 3) := by decide +kernel
theorem dL_law_772 : decode cL_law 772 = .ok (.if_icmp .eq 1297, 3) := by decide +kernel
theorem dL_law_775 : decode cL_law 775 = .ok (.iconst 0, 1) := by decide +kernel
theorem dL_law_776 : decode cL_law 776 = .ok (.ireturn, 1) := by decide +kernel
theorem dL_law_777 : decode cL_law 777 = .ok (.aload_n 1, 1) := by decide +kernel
theorem dL_law_778 : decode cL_law 778 = .ok (.aload_n 0, 1) := by decide +kernel
theorem dL_law_779 : decode cL_law 779 = .ok (.iload_n 3, 1) := by decide +kernel
theorem dL_law_780 : decode cL_law 780 = .ok (.iconst 1, 1) := by decide +kernel
theorem dL_law_781 : decode cL_law 781 = .ok (.iadd, 1) := by decide +kernel
theorem dL_law_782 : decode cL_law 782 = .ok (.iaload, 1) := by decide +kernel
theorem dL_law_783 : decode cL_law 783 = .ok (.aload_n 0, 1) := by decide +kernel
theorem dL_law_784 : decode cL_law 784 = .ok (.iload_n 3, 1) := by decide +kernel
theorem dL_law_785 : decode cL_law 785 = .ok (.iconst 2, 1) := by decide +kernel
theorem dL_law_786 : decode cL_law 786 = .ok (.iadd, 1) := by decide +kernel
theorem dL_law_787 : decode cL_law 787 = .ok (.iaload, 1) := by decide +kernel
theorem dL_law_788 : decode cL_law 788 = .ok (.ifCond .eq 7, 3) := by decide +kernel
theorem dL_law_791 : decode cL_law 791 = .ok (.iconst 1, 1) := by decide +kernel
theorem dL_law_792 : decode cL_law 792 = .ok (.goto 4, 3) := by decide +kernel
theorem dL_law_795 : decode cL_law 795 = .ok (.iconst 0, 1) := by decide +kernel
theorem dL_law_796 : decode cL_law 796 = .ok (.invokevirtual 78, 3) := by decide +kernel
theorem dL_law_799 : decode cL_law 799 = .ok (.aload_n 2, 1) := by decide +kernel
theorem dL_law_800 : decode cL_law 800 = .ok (.aload_n 0, 1) := by decide +kernel
theorem dL_law_801 : decode cL_law 801 = .ok (.iload_n 3, 1) := by decide +kernel
theorem dL_law_802 : decode cL_law 802 = .ok (.iconst 1, 1) := by decide +kernel
theorem dL_law_803 : decode cL_law 803 = .ok (.iadd, 1) := by decide +kernel
theorem dL_law_804 : decode cL_law 804 = .ok (.iaload, 1) := by decide +kernel
theorem dL_law_805 : decode cL_law 805 = .ok (.aload_n 0, 1) := by decide +kernel
theorem dL_law_806 : decode cL_law 806 = .ok (.iload_n 3, 1) := by decide +kernel
theorem dL_law_807 : decode cL_law 807 = .ok (.iconst 2, 1) := by decide +kernel
theorem dL_law_808 : decode cL_law 808 = .ok (.iadd, 1) := by decide +kernel
theorem dL_law_809 : decode cL_law 809 = .ok (.iaload, 1) := by decide +kernel
theorem dL_law_810 : decode cL_law 810 = .ok (.ifCond .eq 7, 3) := by decide +kernel
theorem dL_law_813 : decode cL_law 813 = .ok (.iconst 1, 1) := by decide +kernel
theorem dL_law_814 : decode cL_law 814 = .ok (.goto 4, 3) := by decide +kernel
theorem dL_law_817 : decode cL_law 817 = .ok (.iconst 0, 1) := by decide +kernel
theorem dL_law_818 : decode cL_law 818 = .ok (.invokevirtual 82, 3) := by decide +kernel
theorem dL_law_821 : decode cL_law 821 = .ok (.if_icmp .eq 1248, 3) := by decide +kernel
theorem dL_law_824 : decode cL_law 824 = .ok (.iconst 0, 1) := by decide +kernel
theorem dL_law_825 : decode cL_law 825 = .ok (.ireturn, 1) := by decide +kernel
theorem dL_law_826 : decode cL_law 826 = .ok (.aload_n 1, 1) := by decide +kernel
theorem dL_law_827 : decode cL_law 827 = .ok (.aload_n 0, 1) := by decide +kernel
theorem dL_law_828 : decode cL_law 828 = .ok (.iload_n 3, 1) := by decide +kernel
theorem dL_law_829 : decode cL_law 829 = .ok (.iconst 1, 1) := by decide +kernel
theorem dL_law_830 : decode cL_law 830 = .ok (.iadd, 1) := by decide +kernel
theorem dL_law_831 : decode cL_law 831 = .ok (.iaload, 1) := by decide +kernel
theorem dL_law_832 : decode cL_law 832 = .ok (.aload_n 0, 1) := by decide +kernel
theorem dL_law_833 : decode cL_law 833 = .ok (.iload_n 3, 1) := by decide +kernel
theorem dL_law_834 : decode cL_law 834 = .ok (.iconst 2, 1) := by decide +kernel
theorem dL_law_835 : decode cL_law 835 = .ok (.iadd, 1) := by decide +kernel
theorem dL_law_836 : decode cL_law 836 = .ok (.iaload, 1) := by decide +kernel
theorem dL_law_837 : decode cL_law 837 = .ok (.invokevirtual 83, 3) := by decide +kernel
theorem dL_law_840 : decode cL_law 840 = .ok (.aload_n 2, 1) := by decide +kernel
theorem dL_law_841 : decode cL_law 841 = .ok (.aload_n 0, 1) := by decide +kernel
theorem dL_law_842 : decode cL_law 842 = .ok (.iload_n 3, 1) := by decide +kernel
theorem dL_law_843 : decode cL_law 843 = .ok (.iconst 1, 1) := by decide +kernel
theorem dL_law_844 : decode cL_law 844 = .ok (.iadd, 1) := by decide +kernel
theorem dL_law_845 : decode cL_law 845 = .ok (.iaload, 1) := by decide +kernel
theorem dL_law_846 : decode cL_law 846 = .ok (.aload_n 0, 1) := by decide +kernel
theorem dL_law_847 : decode cL_law 847 = .ok (.iload_n 3, 1) := by decide +kernel
theorem dL_law_848 : decode cL_law 848 = .ok (.iconst 2, 1) := by decide +kernel
theorem dL_law_849 : decode cL_law 849 = .ok (.iadd, 1) := by decide +kernel
theorem dL_law_850 : decode cL_law 850 = .ok (.iaload, 1) := by decide +kernel
theorem dL_law_851 : decode cL_law 851 = .ok (.invokevirtual 86, 3) := by decide +kernel
theorem dL_law_854 : decode cL_law 854 = .ok (.if_icmp .eq 1215, 3) := by decide +kernel
theorem dL_law_857 : decode cL_law 857 = .ok (.iconst 0, 1) := by decide +kernel
theorem dL_law_858 : decode cL_law 858 = .ok (.ireturn, 1) := by decide +kernel
theorem dL_law_859 : decode cL_law 859 = .ok (.aload_n 1, 1) := by decide +kernel
theorem dL_law_860 : decode cL_law 860 = .ok (.aload_n 0, 1) := by decide +kernel
theorem dL_law_861 : decode cL_law 861 = .ok (.iload_n 3, 1) := by decide +kernel
theorem dL_law_862 : decode cL_law 862 = .ok (.iconst 1, 1) := by decide +kernel
theorem dL_law_863 : decode cL_law 863 = .ok (.iadd, 1) := by decide +kernel
theorem dL_law_864 : decode cL_law 864 = .ok (.iaload, 1) := by decide +kernel
theorem dL_law_865 : decode cL_law 865 = .ok (.aload_n 0, 1) := by decide +kernel
theorem dL_law_866 : decode cL_law 866 = .ok (.iload_n 3, 1) := by decide +kernel
theorem dL_law_867 : decode cL_law 867 = .ok (.iconst 2, 1) := by decide +kernel
theorem dL_law_868 : decode cL_law 868 = .ok (.iadd, 1) := by decide +kernel
theorem dL_law_869 : decode cL_law 869 = .ok (.iaload, 1) := by decide +kernel
theorem dL_law_870 : decode cL_law 870 = .ok (.invokevirtual 87, 3) := by decide +kernel
theorem dL_law_873 : decode cL_law 873 = .ok (.aload_n 2, 1) := by decide +kernel
theorem dL_law_874 : decode cL_law 874 = .ok (.aload_n 0, 1) := by decide +kernel
theorem dL_law_875 : decode cL_law 875 = .ok (.iload_n 3, 1) := by decide +kernel
theorem dL_law_876 : decode cL_law 876 = .ok (.iconst 1, 1) := by decide +kernel
theorem dL_law_877 : decode cL_law 877 = .ok (.iadd, 1) := by decide +kernel
theorem dL_law_878 : decode cL_law 878 = .ok (.iaload, 1) := by decide +kernel
theorem dL_law_879 : decode cL_law 879 = .ok (.aload_n 0, 1) := by decide +kernel
theorem dL_law_880 : decode cL_law 880 = .ok (.iload_n 3, 1) := by decide +kernel
theorem dL_law_881 : decode cL_law 881 = .ok (.iconst 2, 1) := by decide +kernel
theorem dL_law_882 : decode cL_law 882 = .ok (.iadd, 1) := by decide +kernel
theorem dL_law_883 : decode cL_law 883 = .ok (.iaload, 1) := by decide +kernel
theorem dL_law_884 : decode cL_law 884 = .ok (.invokevirtual 90, 3) := by decide +kernel
theorem dL_law_887 : decode cL_law 887 = .ok (.if_icmp .eq 1182, 3) := by decide +kernel
theorem dL_law_890 : decode cL_law 890 = .ok (.iconst 0, 1) := by decide +kernel
theorem dL_law_891 : decode cL_law 891 = .ok (.ireturn, 1) := by decide +kernel
theorem dL_law_892 : decode cL_law 892 = .ok (.aload_n 1, 1) := by decide +kernel
theorem dL_law_893 : decode cL_law 893 = .ok (.aload_n 0, 1) := by decide +kernel
theorem dL_law_894 : decode cL_law 894 = .ok (.iload_n 3, 1) := by decide +kernel
theorem dL_law_895 : decode cL_law 895 = .ok (.iconst 1, 1) := by decide +kernel
theorem dL_law_896 : decode cL_law 896 = .ok (.iadd, 1) := by decide +kernel
theorem dL_law_897 : decode cL_law 897 = .ok (.iaload, 1) := by decide +kernel
theorem dL_law_898 : decode cL_law 898 = .ok (.invokevirtual 91, 3) := by decide +kernel
theorem dL_law_901 : decode cL_law 901 = .ok (.aload_n 2, 1) := by decide +kernel
theorem dL_law_902 : decode cL_law 902 = .ok (.aload_n 0, 1) := by decide +kernel
theorem dL_law_903 : decode cL_law 903 = .ok (.iload_n 3, 1) := by decide +kernel
theorem dL_law_904 : decode cL_law 904 = .ok (.iconst 1, 1) := by decide +kernel
theorem dL_law_905 : decode cL_law 905 = .ok (.iadd, 1) := by decide +kernel
theorem dL_law_906 : decode cL_law 906 = .ok (.iaload, 1) := by decide +kernel
theorem dL_law_907 : decode cL_law 907 = .ok (.invokevirtual 94, 3) := by decide +kernel
theorem dL_law_910 : decode cL_law 910 = .ok (.if_icmp .eq 1159, 3) := by decide +kernel
theorem dL_law_913 : decode cL_law 913 = .ok (.iconst 0, 1) := by decide +kernel
theorem dL_law_914 : decode cL_law 914 = .ok (.ireturn, 1) := by decide +kernel
theorem dL_law_915 : decode cL_law 915 = .ok (.aload_n 1, 1) := by decide +kernel
theorem dL_law_916 : decode cL_law 916 = .ok (.aload_n 0, 1) := by decide +kernel
theorem dL_law_917 : decode cL_law 917 = .ok (.iload_n 3, 1) := by decide +kernel
theorem dL_law_918 : decode cL_law 918 = .ok (.iconst 1, 1) := by decide +kernel
theorem dL_law_919 : decode cL_law 919 = .ok (.iadd, 1) := by decide +kernel
theorem dL_law_920 : decode cL_law 920 = .ok (.iaload, 1) := by decide +kernel
theorem dL_law_921 : decode cL_law 921 = .ok (.aload_n 0, 1) := by decide +kernel
theorem dL_law_922 : decode cL_law 922 = .ok (.iload_n 3, 1) := by decide +kernel
theorem dL_law_923 : decode cL_law 923 = .ok (.iconst 2, 1) := by decide +kernel
theorem dL_law_924 : decode cL_law 924 = .ok (.iadd, 1) := by decide +kernel
theorem dL_law_925 : decode cL_law 925 = .ok (.iaload, 1) := by decide +kernel
theorem dL_law_926 : decode cL_law 926 = .ok (.invokevirtual 95, 3) := by decide +kernel
theorem dL_law_929 : decode cL_law 929 = .ok (.aload_n 2, 1) := by decide +kernel
theorem dL_law_930 : decode cL_law 930 = .ok (.aload_n 0, 1) := by decide +kernel
theorem dL_law_931 : decode cL_law 931 = .ok (.iload_n 3, 1) := by decide +kernel
theorem dL_law_932 : decode cL_law 932 = .ok (.iconst 1, 1) := by decide +kernel
theorem dL_law_933 : decode cL_law 933 = .ok (.iadd, 1) := by decide +kernel
theorem dL_law_934 : decode cL_law 934 = .ok (.iaload, 1) := by decide +kernel
theorem dL_law_935 : decode cL_law 935 = .ok (.aload_n 0, 1) := by decide +kernel
theorem dL_law_936 : decode cL_law 936 = .ok (.iload_n 3, 1) := by decide +kernel
theorem dL_law_937 : decode cL_law 937 = .ok (.iconst 2, 1) := by decide +kernel
theorem dL_law_938 : decode cL_law 938 = .ok (.iadd, 1) := by decide +kernel
theorem dL_law_939 : decode cL_law 939 = .ok (.iaload, 1) := by decide +kernel
theorem dL_law_940 : decode cL_law 940 = .ok (.invokevirtual 98, 3) := by decide +kernel
theorem dL_law_943 : decode cL_law 943 = .ok (.if_icmp .eq 1126, 3) := by decide +kernel
theorem dL_law_946 : decode cL_law 946 = .ok (.iconst 0, 1) := by decide +kernel
theorem dL_law_947 : decode cL_law 947 = .ok (.ireturn, 1) := by decide +kernel
theorem dL_law_948 : decode cL_law 948 = .ok (.aload_n 1, 1) := by decide +kernel
theorem dL_law_949 : decode cL_law 949 = .ok (.aload_n 0, 1) := by decide +kernel
theorem dL_law_950 : decode cL_law 950 = .ok (.iload_n 3, 1) := by decide +kernel
theorem dL_law_951 : decode cL_law 951 = .ok (.iconst 1, 1) := by decide +kernel
theorem dL_law_952 : decode cL_law 952 = .ok (.iadd, 1) := by decide +kernel
theorem dL_law_953 : decode cL_law 953 = .ok (.iaload, 1) := by decide +kernel
theorem dL_law_954 : decode cL_law 954 = .ok (.aload_n 0, 1) := by decide +kernel
theorem dL_law_955 : decode cL_law 955 = .ok (.iload_n 3, 1) := by decide +kernel
theorem dL_law_956 : decode cL_law 956 = .ok (.iconst 2, 1) := by decide +kernel
theorem dL_law_957 : decode cL_law 957 = .ok (.iadd, 1) := by decide +kernel
theorem dL_law_958 : decode cL_law 958 = .ok (.iaload, 1) := by decide +kernel
theorem dL_law_959 : decode cL_law 959 = .ok (.invokevirtual 99, 3) := by decide +kernel
theorem dL_law_962 : decode cL_law 962 = .ok (.aload_n 2, 1) := by decide +kernel
theorem dL_law_963 : decode cL_law 963 = .ok (.aload_n 0, 1) := by decide +kernel
theorem dL_law_964 : decode cL_law 964 = .ok (.iload_n 3, 1) := by decide +kernel
theorem dL_law_965 : decode cL_law 965 = .ok (.iconst 1, 1) := by decide +kernel
theorem dL_law_966 : decode cL_law 966 = .ok (.iadd, 1) := by decide +kernel
theorem dL_law_967 : decode cL_law 967 = .ok (.iaload, 1) := by decide +kernel
theorem dL_law_968 : decode cL_law 968 = .ok (.aload_n 0, 1) := by decide +kernel
theorem dL_law_969 : decode cL_law 969 = .ok (.iload_n 3, 1) := by decide +kernel
theorem dL_law_970 : decode cL_law 970 = .ok (.iconst 2, 1) := by decide +kernel
theorem dL_law_971 : decode cL_law 971 = .ok (.iadd, 1) := by decide +kernel
theorem dL_law_972 : decode cL_law 972 = .ok (.iaload, 1) := by decide +kernel
theorem dL_law_973 : decode cL_law 973 = .ok (.invokevirtual 102, 3) := by decide +kernel
theorem dL_law_976 : decode cL_law 976 = .ok (.if_icmp .eq 1093, 3) := by decide +kernel
theorem dL_law_979 : decode cL_law 979 = .ok (.iconst 0, 1) := by decide +kernel
theorem dL_law_980 : decode cL_law 980 = .ok (.ireturn, 1) := by decide +kernel
theorem dL_law_981 : decode cL_law 981 = .ok (.aload_n 1, 1) := by decide +kernel
theorem dL_law_982 : decode cL_law 982 = .ok (.aload_n 0, 1) := by decide +kernel
theorem dL_law_983 : decode cL_law 983 = .ok (.iload_n 3, 1) := by decide +kernel
theorem dL_law_984 : decode cL_law 984 = .ok (.iconst 1, 1) := by decide +kernel
theorem dL_law_985 : decode cL_law 985 = .ok (.iadd, 1) := by decide +kernel
theorem dL_law_986 : decode cL_law 986 = .ok (.iaload, 1) := by decide +kernel
theorem dL_law_987 : decode cL_law 987 = .ok (.aload_n 0, 1) := by decide +kernel
theorem dL_law_988 : decode cL_law 988 = .ok (.iload_n 3, 1) := by decide +kernel
theorem dL_law_989 : decode cL_law 989 = .ok (.iconst 2, 1) := by decide +kernel
theorem dL_law_990 : decode cL_law 990 = .ok (.iadd, 1) := by decide +kernel
theorem dL_law_991 : decode cL_law 991 = .ok (.iaload, 1) := by decide +kernel
theorem dL_law_992 : decode cL_law 992 = .ok (.aload_n 0, 1) := by decide +kernel
theorem dL_law_993 : decode cL_law 993 = .ok (.iload_n 3, 1) := by decide +kernel
theorem dL_law_994 : decode cL_law 994 = .ok (.iconst 3, 1) := by decide +kernel
theorem dL_law_995 : decode cL_law 995 = .ok (.iadd, 1) := by decide +kernel
theorem dL_law_996 : decode cL_law 996 = .ok (.iaload, 1) := by decide +kernel
theorem dL_law_997 : decode cL_law 997 = .ok (.invokevirtual 103, 3) := by decide +kernel
theorem dL_law_1000 : decode cL_law 1000 = .ok (.aload_n 2, 1) := by decide +kernel
theorem dL_law_1001 : decode cL_law 1001 = .ok (.aload_n 0, 1) := by decide +kernel
theorem dL_law_1002 : decode cL_law 1002 = .ok (.iload_n 3, 1) := by decide +kernel
theorem dL_law_1003 : decode cL_law 1003 = .ok (.iconst 1, 1) := by decide +kernel
theorem dL_law_1004 : decode cL_law 1004 = .ok (.iadd, 1) := by decide +kernel
theorem dL_law_1005 : decode cL_law 1005 = .ok (.iaload, 1) := by decide +kernel
theorem dL_law_1006 : decode cL_law 1006 = .ok (.aload_n 0, 1) := by decide +kernel
theorem dL_law_1007 : decode cL_law 1007 = .ok (.iload_n 3, 1) := by decide +kernel
theorem dL_law_1008 : decode cL_law 1008 = .ok (.iconst 2, 1) := by decide +kernel
theorem dL_law_1009 : decode cL_law 1009 = .ok (.iadd, 1) := by decide +kernel
theorem dL_law_1010 : decode cL_law 1010 = .ok (.iaload, 1) := by decide +kernel
theorem dL_law_1011 : decode cL_law 1011 = .ok (.aload_n 0, 1) := by decide +kernel
theorem dL_law_1012 : decode cL_law 1012 = .ok (.iload_n 3, 1) := by decide +kernel
theorem dL_law_1013 : decode cL_law 1013 = .ok (.iconst 3, 1) := by decide +kernel
theorem dL_law_1014 : decode cL_law 1014 = .ok (.iadd, 1) := by decide +kernel
theorem dL_law_1015 : decode cL_law 1015 = .ok (.iaload, 1) := by decide +kernel
theorem dL_law_1016 : decode cL_law 1016 = .ok (.invokevirtual 106, 3) := by decide +kernel
theorem dL_law_1019 : decode cL_law 1019 = .ok (.if_icmp .eq 1050, 3) := by decide +kernel
theorem dL_law_1022 : decode cL_law 1022 = .ok (.iconst 0, 1) := by decide +kernel
theorem dL_law_1023 : decode cL_law 1023 = .ok (.ireturn, 1) := by decide +kernel
theorem dL_law_1024 : decode cL_law 1024 = .ok (.aload_n 1, 1) := by decide +kernel
theorem dL_law_1025 : decode cL_law 1025 = .ok (.aload_n 0, 1) := by decide +kernel
theorem dL_law_1026 : decode cL_law 1026 = .ok (.iload_n 3, 1) := by decide +kernel
theorem dL_law_1027 : decode cL_law 1027 = .ok (.iconst 1, 1) := by decide +kernel
theorem dL_law_1028 : decode cL_law 1028 = .ok (.iadd, 1) := by decide +kernel
theorem dL_law_1029 : decode cL_law 1029 = .ok (.iaload, 1) := by decide +kernel
theorem dL_law_1030 : decode cL_law 1030 = .ok (.invokevirtual 107, 3) := by decide +kernel
theorem dL_law_1033 : decode cL_law 1033 = .ok (.aload_n 2, 1) := by decide +kernel
theorem dL_law_1034 : decode cL_law 1034 = .ok (.aload_n 0, 1) := by decide +kernel
theorem dL_law_1035 : decode cL_law 1035 = .ok (.iload_n 3, 1) := by decide +kernel
theorem dL_law_1036 : decode cL_law 1036 = .ok (.iconst 1, 1) := by decide +kernel
theorem dL_law_1037 : decode cL_law 1037 = .ok (.iadd, 1) := by decide +kernel
theorem dL_law_1038 : decode cL_law 1038 = .ok (.iaload, 1) := by decide +kernel
theorem dL_law_1039 : decode cL_law 1039 = .ok (.invokevirtual 110, 3) := by decide +kernel
theorem dL_law_1042 : decode cL_law 1042 = .ok (.if_icmp .eq 1027, 3) := by decide +kernel
theorem dL_law_1045 : decode cL_law 1045 = .ok (.iconst 0, 1) := by decide +kernel
theorem dL_law_1046 : decode cL_law 1046 = .ok (.ireturn, 1) := by decide +kernel
theorem dL_law_1047 : decode cL_law 1047 = .ok (.aload_n 1, 1) := by decide +kernel
theorem dL_law_1048 : decode cL_law 1048 = .ok (.aload_n 0, 1) := by decide +kernel
theorem dL_law_1049 : decode cL_law 1049 = .ok (.iload_n 3, 1) := by decide +kernel
theorem dL_law_1050 : decode cL_law 1050 = .ok (.iconst 1, 1) := by decide +kernel
theorem dL_law_1051 : decode cL_law 1051 = .ok (.iadd, 1) := by decide +kernel
theorem dL_law_1052 : decode cL_law 1052 = .ok (.iaload, 1) := by decide +kernel
theorem dL_law_1053 : decode cL_law 1053 = .ok (.aload_n 0, 1) := by decide +kernel
theorem dL_law_1054 : decode cL_law 1054 = .ok (.iload_n 3, 1) := by decide +kernel
theorem dL_law_1055 : decode cL_law 1055 = .ok (.iconst 2, 1) := by decide +kernel
theorem dL_law_1056 : decode cL_law 1056 = .ok (.iadd, 1) := by decide +kernel
theorem dL_law_1057 : decode cL_law 1057 = .ok (.iaload, 1) := by decide +kernel
theorem dL_law_1058 : decode cL_law 1058 = .ok (.aload_n 0, 1) := by decide +kernel
theorem dL_law_1059 : decode cL_law 1059 = .ok (.iload_n 3, 1) := by decide +kernel
theorem dL_law_1060 : decode cL_law 1060 = .ok (.iconst 3, 1) := by decide +kernel
theorem dL_law_1061 : decode cL_law 1061 = .ok (.iadd, 1) := by decide +kernel
theorem dL_law_1062 : decode cL_law 1062 = .ok (.iaload, 1) := by decide +kernel
theorem dL_law_1063 : decode cL_law 1063 = .ok (.invokevirtual 111, 3) := by decide +kernel
theorem dL_law_1066 : decode cL_law 1066 = .ok (.aload_n 2, 1) := by decide +kernel
theorem dL_law_1067 : decode cL_law 1067 = .ok (.aload_n 0, 1) := by decide +kernel
theorem dL_law_1068 : decode cL_law 1068 = .ok (.iload_n 3, 1) := by decide +kernel
theorem dL_law_1069 : decode cL_law 1069 = .ok (.iconst 1, 1) := by decide +kernel
theorem dL_law_1070 : decode cL_law 1070 = .ok (.iadd, 1) := by decide +kernel
theorem dL_law_1071 : decode cL_law 1071 = .ok (.iaload, 1) := by decide +kernel
theorem dL_law_1072 : decode cL_law 1072 = .ok (.aload_n 0, 1) := by decide +kernel
theorem dL_law_1073 : decode cL_law 1073 = .ok (.iload_n 3, 1) := by decide +kernel
theorem dL_law_1074 : decode cL_law 1074 = .ok (.iconst 2, 1) := by decide +kernel
theorem dL_law_1075 : decode cL_law 1075 = .ok (.iadd, 1) := by decide +kernel
theorem dL_law_1076 : decode cL_law 1076 = .ok (.iaload, 1) := by decide +kernel
theorem dL_law_1077 : decode cL_law 1077 = .ok (.aload_n 0, 1) := by decide +kernel
theorem dL_law_1078 : decode cL_law 1078 = .ok (.iload_n 3, 1) := by decide +kernel
theorem dL_law_1079 : decode cL_law 1079 = .ok (.iconst 3, 1) := by decide +kernel
theorem dL_law_1080 : decode cL_law 1080 = .ok (.iadd, 1) := by decide +kernel
theorem dL_law_1081 : decode cL_law 1081 = .ok (.iaload, 1) := by decide +kernel
theorem dL_law_1082 : decode cL_law 1082 = .ok (.invokevirtual 114, 3) := by decide +kernel
theorem dL_law_1085 : decode cL_law 1085 = .ok (.if_icmp .eq 984, 3) := by decide +kernel
theorem dL_law_1088 : decode cL_law 1088 = .ok (.iconst 0, 1) := by decide +kernel
theorem dL_law_1089 : decode cL_law 1089 = .ok (.ireturn, 1) := by decide +kernel
theorem dL_law_1090 : decode cL_law 1090 = .ok (.aload_n 1, 1) := by decide +kernel
theorem dL_law_1091 : decode cL_law 1091 = .ok (.aload_n 0, 1) := by decide +kernel
theorem dL_law_1092 : decode cL_law 1092 = .ok (.iload_n 3, 1) := by decide +kernel
theorem dL_law_1093 : decode cL_law 1093 = .ok (.iconst 1, 1) := by decide +kernel
theorem dL_law_1094 : decode cL_law 1094 = .ok (.iadd, 1) := by decide +kernel
theorem dL_law_1095 : decode cL_law 1095 = .ok (.iaload, 1) := by decide +kernel
theorem dL_law_1096 : decode cL_law 1096 = .ok (.invokevirtual 115, 3) := by decide +kernel
theorem dL_law_1099 : decode cL_law 1099 = .ok (.aload_n 2, 1) := by decide +kernel
theorem dL_law_1100 : decode cL_law 1100 = .ok (.aload_n 0, 1) := by decide +kernel
theorem dL_law_1101 : decode cL_law 1101 = .ok (.iload_n 3, 1) := by decide +kernel
theorem dL_law_1102 : decode cL_law 1102 = .ok (.iconst 1, 1) := by decide +kernel
theorem dL_law_1103 : decode cL_law 1103 = .ok (.iadd, 1) := by decide +kernel
theorem dL_law_1104 : decode cL_law 1104 = .ok (.iaload, 1) := by decide +kernel
theorem dL_law_1105 : decode cL_law 1105 = .ok (.invokevirtual 118, 3) := by decide +kernel
theorem dL_law_1108 : decode cL_law 1108 = .ok (.if_icmp .eq 961, 3) := by decide +kernel
theorem dL_law_1111 : decode cL_law 1111 = .ok (.iconst 0, 1) := by decide +kernel
theorem dL_law_1112 : decode cL_law 1112 = .ok (.ireturn, 1) := by decide +kernel
theorem dL_law_1113 : decode cL_law 1113 = .ok (.aload_n 1, 1) := by decide +kernel
theorem dL_law_1114 : decode cL_law 1114 = .ok (.aload_n 0, 1) := by decide +kernel
theorem dL_law_1115 : decode cL_law 1115 = .ok (.iload_n 3, 1) := by decide +kernel
theorem dL_law_1116 : decode cL_law 1116 = .ok (.iconst 1, 1) := by decide +kernel
theorem dL_law_1117 : decode cL_law 1117 = .ok (.iadd, 1) := by decide +kernel
theorem dL_law_1118 : decode cL_law 1118 = .ok (.iaload, 1) := by decide +kernel
theorem dL_law_1119 : decode cL_law 1119 = .ok (.invokevirtual 119, 3) := by decide +kernel
theorem dL_law_1122 : decode cL_law 1122 = .ok (.aload_n 2, 1) := by decide +kernel
theorem dL_law_1123 : decode cL_law 1123 = .ok (.aload_n 0, 1) := by decide +kernel
theorem dL_law_1124 : decode cL_law 1124 = .ok (.iload_n 3, 1) := by decide +kernel
theorem dL_law_1125 : decode cL_law 1125 = .ok (.iconst 1, 1) := by decide +kernel
theorem dL_law_1126 : decode cL_law 1126 = .ok (.iadd, 1) := by decide +kernel
theorem dL_law_1127 : decode cL_law 1127 = .ok (.iaload, 1) := by decide +kernel
theorem dL_law_1128 : decode cL_law 1128 = .ok (.invokevirtual 122, 3) := by decide +kernel
theorem dL_law_1131 : decode cL_law 1131 = .ok (.if_icmp .eq 938, 3) := by decide +kernel
theorem dL_law_1134 : decode cL_law 1134 = .ok (.iconst 0, 1) := by decide +kernel
theorem dL_law_1135 : decode cL_law 1135 = .ok (.ireturn, 1) := by decide +kernel
theorem dL_law_1136 : decode cL_law 1136 = .ok (.aload_n 1, 1) := by decide +kernel
theorem dL_law_1137 : decode cL_law 1137 = .ok (.aload_n 0, 1) := by decide +kernel
theorem dL_law_1138 : decode cL_law 1138 = .ok (.iload_n 3, 1) := by decide +kernel
theorem dL_law_1139 : decode cL_law 1139 = .ok (.iconst 1, 1) := by decide +kernel
theorem dL_law_1140 : decode cL_law 1140 = .ok (.iadd, 1) := by decide +kernel
theorem dL_law_1141 : decode cL_law 1141 = .ok (.iaload, 1) := by decide +kernel
theorem dL_law_1142 : decode cL_law 1142 = .ok (.invokevirtual 123, 3) := by decide +kernel
theorem dL_law_1145 : decode cL_law 1145 = .ok (.aload_n 2, 1) := by decide +kernel
theorem dL_law_1146 : decode cL_law 1146 = .ok (.aload_n 0, 1) := by decide +kernel
theorem dL_law_1147 : decode cL_law 1147 = .ok (.iload_n 3, 1) := by decide +kernel
theorem dL_law_1148 : decode cL_law 1148 = .ok (.iconst 1, 1) := by decide +kernel
theorem dL_law_1149 : decode cL_law 1149 = .ok (.iadd, 1) := by decide +kernel
theorem dL_law_1150 : decode cL_law 1150 = .ok (.iaload, 1) := by decide +kernel
theorem dL_law_1151 : decode cL_law 1151 = .ok (.invokevirtual 126, 3) := by decide +kernel
theorem dL_law_1154 : decode cL_law 1154 = .ok (.if_icmp .eq 915, 3) := by decide +kernel
theorem dL_law_1157 : decode cL_law 1157 = .ok (.iconst 0, 1) := by decide +kernel
theorem dL_law_1158 : decode cL_law 1158 = .ok (.ireturn, 1) := by decide +kernel
theorem dL_law_1159 : decode cL_law 1159 = .ok (.aload_n 1, 1) := by decide +kernel
theorem dL_law_1160 : decode cL_law 1160 = .ok (.aload_n 0, 1) := by decide +kernel
theorem dL_law_1161 : decode cL_law 1161 = .ok (.iload_n 3, 1) := by decide +kernel
theorem dL_law_1162 : decode cL_law 1162 = .ok (.iconst 1, 1) := by decide +kernel
theorem dL_law_1163 : decode cL_law 1163 = .ok (.iadd, 1) := by decide +kernel
theorem dL_law_1164 : decode cL_law 1164 = .ok (.iaload, 1) := by decide +kernel
theorem dL_law_1165 : decode cL_law 1165 = .ok (.aload_n 0, 1) := by decide +kernel
theorem dL_law_1166 : decode cL_law 1166 = .ok (.iload_n 3, 1) := by decide +kernel
theorem dL_law_1167 : decode cL_law 1167 = .ok (.iconst 2, 1) := by decide +kernel
theorem dL_law_1168 : decode cL_law 1168 = .ok (.iadd, 1) := by decide +kernel
theorem dL_law_1169 : decode cL_law 1169 = .ok (.iaload, 1) := by decide +kernel
theorem dL_law_1170 : decode cL_law 1170 = .ok (.aload_n 0, 1) := by decide +kernel
theorem dL_law_1171 : decode cL_law 1171 = .ok (.iload_n 3, 1) := by decide +kernel
theorem dL_law_1172 : decode cL_law 1172 = .ok (.iconst 3, 1) := by decide +kernel
theorem dL_law_1173 : decode cL_law 1173 = .ok (.iadd, 1) := by decide +kernel
theorem dL_law_1174 : decode cL_law 1174 = .ok (.iaload, 1) := by decide +kernel
theorem dL_law_1175 : decode cL_law 1175 = .ok (.invokevirtual 127, 3) := by decide +kernel
theorem dL_law_1178 : decode cL_law 1178 = .ok (.aload_n 2, 1) := by decide +kernel
theorem dL_law_1179 : decode cL_law 1179 = .ok (.aload_n 0, 1) := by decide +kernel
theorem dL_law_1180 : decode cL_law 1180 = .ok (.iload_n 3, 1) := by decide +kernel
theorem dL_law_1181 : decode cL_law 1181 = .ok (.iconst 1, 1) := by decide +kernel
theorem dL_law_1182 : decode cL_law 1182 = .ok (.iadd, 1) := by decide +kernel
theorem dL_law_1183 : decode cL_law 1183 = .ok (.iaload, 1) := by decide +kernel
theorem dL_law_1184 : decode cL_law 1184 = .ok (.aload_n 0, 1) := by decide +kernel
theorem dL_law_1185 : decode cL_law 1185 = .ok (.iload_n 3, 1) := by decide +kernel
theorem dL_law_1186 : decode cL_law 1186 = .ok (.iconst 2, 1) := by decide +kernel
theorem dL_law_1187 : decode cL_law 1187 = .ok (.iadd, 1) := by decide +kernel
theorem dL_law_1188 : decode cL_law 1188 = .ok (.iaload, 1) := by decide +kernel
theorem dL_law_1189 : decode cL_law 1189 = .ok (.aload_n 0, 1) := by decide +kernel
theorem dL_law_1190 : decode cL_law 1190 = .ok (.iload_n 3, 1) := by decide +kernel
theorem dL_law_1191 : decode cL_law 1191 = .ok (.iconst 3, 1) := by decide +kernel
theorem dL_law_1192 : decode cL_law 1192 = .ok (.iadd, 1) := by decide +kernel
theorem dL_law_1193 : decode cL_law 1193 = .ok (.iaload, 1) := by decide +kernel
theorem dL_law_1194 : decode cL_law 1194 = .ok (.invokevirtual 130, 3) := by decide +kernel
theorem dL_law_1197 : decode cL_law 1197 = .ok (.if_icmp .eq 872, 3) := by decide +kernel
theorem dL_law_1200 : decode cL_law 1200 = .ok (.iconst 0, 1) := by decide +kernel
theorem dL_law_1201 : decode cL_law 1201 = .ok (.ireturn, 1) := by decide +kernel
theorem dL_law_1202 : decode cL_law 1202 = .ok (.aload_n 1, 1) := by decide +kernel
theorem dL_law_1203 : decode cL_law 1203 = .ok (.aload_n 0, 1) := by decide +kernel
theorem dL_law_1204 : decode cL_law 1204 = .ok (.iload_n 3, 1) := by decide +kernel
theorem dL_law_1205 : decode cL_law 1205 = .ok (.iconst 1, 1) := by decide +kernel
theorem dL_law_1206 : decode cL_law 1206 = .ok (.iadd, 1) := by decide +kernel
theorem dL_law_1207 : decode cL_law 1207 = .ok (.iaload, 1) := by decide +kernel
theorem dL_law_1208 : decode cL_law 1208 = .ok (.aload_n 0, 1) := by decide +kernel
theorem dL_law_1209 : decode cL_law 1209 = .ok (.iload_n 3, 1) := by decide +kernel
theorem dL_law_1210 : decode cL_law 1210 = .ok (.iconst 2, 1) := by decide +kernel
theorem dL_law_1211 : decode cL_law 1211 = .ok (.iadd, 1) := by decide +kernel
theorem dL_law_1212 : decode cL_law 1212 = .ok (.iaload, 1) := by decide +kernel
theorem dL_law_1213 : decode cL_law 1213 = .ok (.invokevirtual 131, 3) := by decide +kernel
theorem dL_law_1216 : decode cL_law 1216 = .ok (.aload_n 2, 1) := by decide +kernel
theorem dL_law_1217 : decode cL_law 1217 = .ok (.aload_n 0, 1) := by decide +kernel
theorem dL_law_1218 : decode cL_law 1218 = .ok (.iload_n 3, 1) := by decide +kernel
theorem dL_law_1219 : decode cL_law 1219 = .ok (.iconst 1, 1) := by decide +kernel
theorem dL_law_1220 : decode cL_law 1220 = .ok (.iadd, 1) := by decide +kernel
theorem dL_law_1221 : decode cL_law 1221 = .ok (.iaload, 1) := by decide +kernel
theorem dL_law_1222 : decode cL_law 1222 = .ok (.aload_n 0, 1) := by decide +kernel
theorem dL_law_1223 : decode cL_law 1223 = .ok (.iload_n 3, 1) := by decide +kernel
theorem dL_law_1224 : decode cL_law 1224 = .ok (.iconst 2, 1) := by decide +kernel
theorem dL_law_1225 : decode cL_law 1225 = .ok (.iadd, 1) := by decide +kernel
theorem dL_law_1226 : decode cL_law 1226 = .ok (.iaload, 1) := by decide +kernel
theorem dL_law_1227 : decode cL_law 1227 = .ok (.invokevirtual 134, 3) := by decide +kernel
theorem dL_law_1230 : decode cL_law 1230 = .ok (.if_icmp .eq 839, 3) := by decide +kernel
theorem dL_law_1233 : decode cL_law 1233 = .ok (.iconst 0, 1) := by decide +kernel
theorem dL_law_1234 : decode cL_law 1234 = .ok (.ireturn, 1) := by decide +kernel
theorem dL_law_1235 : decode cL_law 1235 = .ok (.aload_n 1, 1) := by decide +kernel
theorem dL_law_1236 : decode cL_law 1236 = .ok (.aload_n 0, 1) := by decide +kernel
theorem dL_law_1237 : decode cL_law 1237 = .ok (.iload_n 3, 1) := by decide +kernel
theorem dL_law_1238 : decode cL_law 1238 = .ok (.iconst 1, 1) := by decide +kernel
theorem dL_law_1239 : decode cL_law 1239 = .ok (.iadd, 1) := by decide +kernel
theorem dL_law_1240 : decode cL_law 1240 = .ok (.iaload, 1) := by decide +kernel
theorem dL_law_1241 : decode cL_law 1241 = .ok (.aload_n 0, 1) := by decide +kernel
theorem dL_law_1242 : decode cL_law 1242 = .ok (.iload_n 3, 1) := by decide +kernel
theorem dL_law_1243 : decode cL_law 1243 = .ok (.iconst 2, 1) := by decide +kernel
theorem dL_law_1244 : decode cL_law 1244 = .ok (.iadd, 1) := by decide +kernel
theorem dL_law_1245 : decode cL_law 1245 = .ok (.iaload, 1) := by decide +kernel
theorem dL_law_1246 : decode cL_law 1246 = .ok (.aload_n 0, 1) := by decide +kernel
theorem dL_law_1247 : decode cL_law 1247 = .ok (.iload_n 3, 1) := by decide +kernel
theorem dL_law_1248 : decode cL_law 1248 = .ok (.iconst 3, 1) := by decide +kernel
theorem dL_law_1249 : decode cL_law 1249 = .ok (.iadd, 1) := by decide +kernel
theorem dL_law_1250 : decode cL_law 1250 = .ok (.iaload, 1) := by decide +kernel
theorem dL_law_1251 : decode cL_law 1251 = .ok (.invokevirtual 135, 3) := by decide +kernel
theorem dL_law_1254 : decode cL_law 1254 = .ok (.aload_n 2, 1) := by decide +kernel
theorem dL_law_1255 : decode cL_law 1255 = .ok (.aload_n 0, 1) := by decide +kernel
theorem dL_law_1256 : decode cL_law 1256 = .ok (.iload_n 3, 1) := by decide +kernel
theorem dL_law_1257 : decode cL_law 1257 = .ok (.iconst 1, 1) := by decide +kernel
theorem dL_law_1258 : decode cL_law 1258 = .ok (.iadd, 1) := by decide +kernel
theorem dL_law_1259 : decode cL_law 1259 = .ok (.iaload, 1) := by decide +kernel
theorem dL_law_1260 : decode cL_law 1260 = .ok (.aload_n 0, 1) := by decide +kernel
theorem dL_law_1261 : decode cL_law 1261 = .ok (.iload_n 3, 1) := by decide +kernel
theorem dL_law_1262 : decode cL_law 1262 = .ok (.iconst 2, 1) := by decide +kernel
theorem dL_law_1263 : decode cL_law 1263 = .ok (.iadd, 1) := by decide +kernel
theorem dL_law_1264 : decode cL_law 1264 = .ok (.iaload, 1) := by decide +kernel
theorem dL_law_1265 : decode cL_law 1265 = .ok (.aload_n 0, 1) := by decide +kernel
theorem dL_law_1266 : decode cL_law 1266 = .ok (.iload_n 3, 1) := by decide +kernel
theorem dL_law_1267 : decode cL_law 1267 = .ok (.iconst 3, 1) := by decide +kernel
theorem dL_law_1268 : decode cL_law 1268 = .ok (.iadd, 1) := by decide +kernel
theorem dL_law_1269 : decode cL_law 1269 = .ok (.iaload, 1) := by decide +kernel
theorem dL_law_1270 : decode cL_law 1270 = .ok (.invokevirtual 138, 3) := by decide +kernel
theorem dL_law_1273 : decode cL_law 1273 = .ok (.if_icmp .eq 796, 3) := by decide +kernel
theorem dL_law_1276 : decode cL_law 1276 = .ok (.iconst 0, 1) := by decide +kernel
theorem dL_law_1277 : decode cL_law 1277 = .ok (.ireturn, 1) := by decide +kernel
theorem dL_law_1278 : decode cL_law 1278 = .ok (.aload_n 1, 1) := by decide +kernel
theorem dL_law_1279 : decode cL_law 1279 = .ok (.aload_n 0, 1) := by decide +kernel
theorem dL_law_1280 : decode cL_law 1280 = .ok (.iload_n 3, 1) := by decide +kernel
theorem dL_law_1281 : decode cL_law 1281 = .ok (.iconst 1, 1) := by decide +kernel
theorem dL_law_1282 : decode cL_law 1282 = .ok (.iadd, 1) := by decide +kernel
theorem dL_law_1283 : decode cL_law 1283 = .ok (.iaload, 1) := by decide +kernel
theorem dL_law_1284 : decode cL_law 1284 = .ok (.aload_n 0, 1) := by decide +kernel
theorem dL_law_1285 : decode cL_law 1285 = .ok (.iload_n 3, 1) := by decide +kernel
theorem dL_law_1286 : decode cL_law 1286 = .ok (.iconst 2, 1) := by decide +kernel
theorem dL_law_1287 : decode cL_law 1287 = .ok (.iadd, 1) := by decide +kernel
theorem dL_law_1288 : decode cL_law 1288 = .ok (.iaload, 1) := by decide +kernel
theorem dL_law_1289 : decode cL_law 1289 = .ok (.aload_n 0, 1) := by decide +kernel
theorem dL_law_1290 : decode cL_law 1290 = .ok (.iload_n 3, 1) := by decide +kernel
theorem dL_law_1291 : decode cL_law 1291 = .ok (.iconst 3, 1) := by decide +kernel
theorem dL_law_1292 : decode cL_law 1292 = .ok (.iadd, 1) := by decide +kernel
theorem dL_law_1293 : decode cL_law 1293 = .ok (.iaload, 1) := by decide +kernel
theorem dL_law_1294 : decode cL_law 1294 = .ok (.invokevirtual 139, 3) := by decide +kernel
theorem dL_law_1297 : decode cL_law 1297 = .ok (.aload_n 2, 1) := by decide +kernel
theorem dL_law_1298 : decode cL_law 1298 = .ok (.aload_n 0, 1) := by decide +kernel
theorem dL_law_1299 : decode cL_law 1299 = .ok (.iload_n 3, 1) := by decide +kernel
theorem dL_law_1300 : decode cL_law 1300 = .ok (.iconst 1, 1) := by decide +kernel
theorem dL_law_1301 : decode cL_law 1301 = .ok (.iadd, 1) := by decide +kernel
theorem dL_law_1302 : decode cL_law 1302 = .ok (.iaload, 1) := by decide +kernel
theorem dL_law_1303 : decode cL_law 1303 = .ok (.aload_n 0, 1) := by decide +kernel
theorem dL_law_1304 : decode cL_law 1304 = .ok (.iload_n 3, 1) := by decide +kernel
theorem dL_law_1305 : decode cL_law 1305 = .ok (.iconst 2, 1) := by decide +kernel
theorem dL_law_1306 : decode cL_law 1306 = .ok (.iadd, 1) := by decide +kernel
theorem dL_law_1307 : decode cL_law 1307 = .ok (.iaload, 1) := by decide +kernel
theorem dL_law_1308 : decode cL_law 1308 = .ok (.aload_n 0, 1) := by decide +kernel
theorem dL_law_1309 : decode cL_law 1309 = .ok (.iload_n 3, 1) := by decide +kernel
theorem dL_law_1310 : decode cL_law 1310 = .ok (.iconst 3, 1) := by decide +kernel
theorem dL_law_1311 : decode cL_law 1311 = .ok (.iadd, 1) := by decide +kernel
theorem dL_law_1312 : decode cL_law 1312 = .ok (.iaload, 1) := by decide +kernel
theorem dL_law_1313 : decode cL_law 1313 = .ok (.invokevirtual 142, 3) := by decide +kernel
theorem dL_law_1316 : decode cL_law 1316 = .ok (.if_icmp .eq 753, 3) := by decide +kernel
theorem dL_law_1319 : decode cL_law 1319 = .ok (.iconst 0, 1) := by decide +kernel
theorem dL_law_1320 : decode cL_law 1320 = .ok (.ireturn, 1) := by decide +kernel
theorem dL_law_1321 : decode cL_law 1321 = .ok (.aload_n 1, 1) := by decide +kernel
theorem dL_law_1322 : decode cL_law 1322 = .ok (.aload_n 0, 1) := by decide +kernel
theorem dL_law_1323 : decode cL_law 1323 = .ok (.iload_n 3, 1) := by decide +kernel
theorem dL_law_1324 : decode cL_law 1324 = .ok (.iconst 1, 1) := by decide +kernel
theorem dL_law_1325 : decode cL_law 1325 = .ok (.iadd, 1) := by decide +kernel
theorem dL_law_1326 : decode cL_law 1326 = .ok (.iaload, 1) := by decide +kernel
theorem dL_law_1327 : decode cL_law 1327 = .ok (.invokevirtual 143, 3) := by decide +kernel
theorem dL_law_1330 : decode cL_law 1330 = .ok (.aload_n 2, 1) := by decide +kernel
theorem dL_law_1331 : decode cL_law 1331 = .ok (.aload_n 0, 1) := by decide +kernel
theorem dL_law_1332 : decode cL_law 1332 = .ok (.iload_n 3, 1) := by decide +kernel
theorem dL_law_1333 : decode cL_law 1333 = .ok (.iconst 1, 1) := by decide +kernel
theorem dL_law_1334 : decode cL_law 1334 = .ok (.iadd, 1) := by decide +kernel
theorem dL_law_1335 : decode cL_law 1335 = .ok (.iaload, 1) := by decide +kernel
theorem dL_law_1336 : decode cL_law 1336 = .ok (.invokevirtual 146, 3) := by decide +kernel
theorem dL_law_1339 : decode cL_law 1339 = .ok (.if_icmp .eq 730, 3) := by decide +kernel
theorem dL_law_1342 : decode cL_law 1342 = .ok (.iconst 0, 1) := by decide +kernel
theorem dL_law_1343 : decode cL_law 1343 = .ok (.ireturn, 1) := by decide +kernel
theorem dL_law_1344 : decode cL_law 1344 = .ok (.aload_n 1, 1) := by decide +kernel
theorem dL_law_1345 : decode cL_law 1345 = .ok (.aload_n 0, 1) := by decide +kernel
theorem dL_law_1346 : decode cL_law 1346 = .ok (.iload_n 3, 1) := by decide +kernel
theorem dL_law_1347 : decode cL_law 1347 = .ok (.iconst 1, 1) := by decide +kernel
theorem dL_law_1348 : decode cL_law 1348 = .ok (.iadd, 1) := by decide +kernel
theorem dL_law_1349 : decode cL_law 1349 = .ok (.iaload, 1) := by decide +kernel
theorem dL_law_1350 : decode cL_law 1350 = .ok (.invokevirtual 147, 3) := by decide +kernel
theorem dL_law_1353 : decode cL_law 1353 = .ok (.aload_n 2, 1) := by decide +kernel
theorem dL_law_1354 : decode cL_law 1354 = .ok (.aload_n 0, 1) := by decide +kernel
theorem dL_law_1355 : decode cL_law 1355 = .ok (.iload_n 3, 1) := by decide +kernel
theorem dL_law_1356 : decode cL_law 1356 = .ok (.iconst 1, 1) := by decide +kernel
theorem dL_law_1357 : decode cL_law 1357 = .ok (.iadd, 1) := by decide +kernel
theorem dL_law_1358 : decode cL_law 1358 = .ok (.iaload, 1) := by decide +kernel
theorem dL_law_1359 : decode cL_law 1359 = .ok (.invokevirtual 150, 3) := by decide +kernel
theorem dL_law_1362 : decode cL_law 1362 = .ok (.if_icmp .eq 707, 3) := by decide +kernel
theorem dL_law_1365 : decode cL_law 1365 = .ok (.iconst 0, 1) := by decide +kernel
theorem dL_law_1366 : decode cL_law 1366 = .ok (.ireturn, 1) := by decide +kernel
theorem dL_law_1367 : decode cL_law 1367 = .ok (.aload_n 1, 1) := by decide +kernel
theorem dL_law_1368 : decode cL_law 1368 = .ok (.aload_n 0, 1) := by decide +kernel
theorem dL_law_1369 : decode cL_law 1369 = .ok (.iload_n 3, 1) := by decide +kernel
theorem dL_law_1370 : decode cL_law 1370 = .ok (.iconst 1, 1) := by decide +kernel
theorem dL_law_1371 : decode cL_law 1371 = .ok (.iadd, 1) := by decide +kernel
theorem dL_law_1372 : decode cL_law 1372 = .ok (.iaload, 1) := by decide +kernel
theorem dL_law_1373 : decode cL_law 1373 = .ok (.invokevirtual 151, 3) := by decide +kernel
theorem dL_law_1376 : decode cL_law 1376 = .ok (.aload_n 2, 1) := by decide +kernel
theorem dL_law_1377 : decode cL_law 1377 = .ok (.aload_n 0, 1) := by decide +kernel
theorem dL_law_1378 : decode cL_law 1378 = .ok (.iload_n 3, 1) := by decide +kernel
theorem dL_law_1379 : decode cL_law 1379 = .ok (.iconst 1, 1) := by decide +kernel
theorem dL_law_1380 : decode cL_law 1380 = .ok (.iadd, 1) := by decide +kernel
theorem dL_law_1381 : decode cL_law 1381 = .ok (.iaload, 1) := by decide +kernel
theorem dL_law_1382 : decode cL_law 1382 = .ok (.invokevirtual 154, 3) := by decide +kernel
theorem dL_law_1385 : decode cL_law 1385 = .ok (.if_icmp .eq 684, 3) := by decide +kernel
theorem dL_law_1388 : decode cL_law 1388 = .ok (.iconst 0, 1) := by decide +kernel
theorem dL_law_1389 : decode cL_law 1389 = .ok (.ireturn, 1) := by decide +kernel
theorem dL_law_1390 : decode cL_law 1390 = .ok (.aload_n 1, 1) := by decide +kernel
theorem dL_law_1391 : decode cL_law 1391 = .ok (.aload_n 0, 1) := by decide +kernel
theorem dL_law_1392 : decode cL_law 1392 = .ok (.iload_n 3, 1) := by decide +kernel
theorem dL_law_1393 : decode cL_law 1393 = .ok (.iconst 1, 1) := by decide +kernel
theorem dL_law_1394 : decode cL_law 1394 = .ok (.iadd, 1) := by decide +kernel
theorem dL_law_1395 : decode cL_law 1395 = .ok (.iaload, 1) := by decide +kernel
theorem dL_law_1396 : decode cL_law 1396 = .ok (.invokevirtual 155, 3) := by decide +kernel
theorem dL_law_1399 : decode cL_law 1399 = .ok (.aload_n 2, 1) := by decide +kernel
theorem dL_law_1400 : decode cL_law 1400 = .ok (.aload_n 0, 1) := by decide +kernel
theorem dL_law_1401 : decode cL_law 1401 = .ok (.iload_n 3, 1) := by decide +kernel
theorem dL_law_1402 : decode cL_law 1402 = .ok (.iconst 1, 1) := by decide +kernel
theorem dL_law_1403 : decode cL_law 1403 = .ok (.iadd, 1) := by decide +kernel
theorem dL_law_1404 : decode cL_law 1404 = .ok (.iaload, 1) := by decide +kernel
theorem dL_law_1405 : decode cL_law 1405 = .ok (.invokevirtual 158, 3) := by decide +kernel
theorem dL_law_1408 : decode cL_law 1408 = .ok (.if_icmp .eq 661, 3) := by decide +kernel
theorem dL_law_1411 : decode cL_law 1411 = .ok (.iconst 0, 1) := by decide +kernel
theorem dL_law_1412 : decode cL_law 1412 = .ok (.ireturn, 1) := by decide +kernel
theorem dL_law_1413 : decode cL_law 1413 = .ok (.aload_n 1, 1) := by decide +kernel
theorem dL_law_1414 : decode cL_law 1414 = .ok (.aload_n 0, 1) := by decide +kernel
theorem dL_law_1415 : decode cL_law 1415 = .ok (.iload_n 3, 1) := by decide +kernel
theorem dL_law_1416 : decode cL_law 1416 = .ok (.iconst 1, 1) := by decide +kernel
theorem dL_law_1417 : decode cL_law 1417 = .ok (.iadd, 1) := by decide +kernel
theorem dL_law_1418 : decode cL_law 1418 = .ok (.iaload, 1) := by decide +kernel
theorem dL_law_1419 : decode cL_law 1419 = .ok (.invokevirtual 159, 3) := by decide +kernel
theorem dL_law_1422 : decode cL_law 1422 = .ok (.aload_n 2, 1) := by decide +kernel
theorem dL_law_1423 : decode cL_law 1423 = .ok (.aload_n 0, 1) := by decide +kernel
theorem dL_law_1424 : decode cL_law 1424 = .ok (.iload_n 3, 1) := by decide +kernel
theorem dL_law_1425 : decode cL_law 1425 = .ok (.iconst 1, 1) := by decide +kernel
theorem dL_law_1426 : decode cL_law 1426 = .ok (.iadd, 1) := by decide +kernel
theorem dL_law_1427 : decode cL_law 1427 = .ok (.iaload, 1) := by decide +kernel
theorem dL_law_1428 : decode cL_law 1428 = .ok (.invokevirtual 162, 3) := by decide +kernel
theorem dL_law_1431 : decode cL_law 1431 = .ok (.if_icmp .eq 638, 3) := by decide +kernel
theorem dL_law_1434 : decode cL_law 1434 = .ok (.iconst 0, 1) := by decide +kernel
theorem dL_law_1435 : decode cL_law 1435 = .ok (.ireturn, 1) := by decide +kernel
theorem dL_law_1436 : decode cL_law 1436 = .ok (.aload_n 1, 1) := by decide +kernel
theorem dL_law_1437 : decode cL_law 1437 = .ok (.aload_n 0, 1) := by decide +kernel
theorem dL_law_1438 : decode cL_law 1438 = .ok (.iload_n 3, 1) := by decide +kernel
theorem dL_law_1439 : decode cL_law 1439 = .ok (.iconst 1, 1) := by decide +kernel
theorem dL_law_1440 : decode cL_law 1440 = .ok (.iadd, 1) := by decide +kernel
theorem dL_law_1441 : decode cL_law 1441 = .ok (.iaload, 1) := by decide +kernel
theorem dL_law_1442 : decode cL_law 1442 = .ok (.aload_n 0, 1) := by decide +kernel
theorem dL_law_1443 : decode cL_law 1443 = .ok (.iload_n 3, 1) := by decide +kernel
theorem dL_law_1444 : decode cL_law 1444 = .ok (.iconst 2, 1) := by decide +kernel
theorem dL_law_1445 : decode cL_law 1445 = .ok (.iadd, 1) := by decide +kernel
theorem dL_law_1446 : decode cL_law 1446 = .ok (.iaload, 1) := by decide +kernel
theorem dL_law_1447 : decode cL_law 1447 = .ok (.invokevirtual 163, 3) := by decide +kernel
theorem dL_law_1450 : decode cL_law 1450 = .ok (.aload_n 2, 1) := by decide +kernel
theorem dL_law_1451 : decode cL_law 1451 = .ok (.aload_n 0, 1) := by decide +kernel
theorem dL_law_1452 : decode cL_law 1452 = .ok (.iload_n 3, 1) := by decide +kernel
theorem dL_law_1453 : decode cL_law 1453 = .ok (.iconst 1, 1) := by decide +kernel
theorem dL_law_1454 : decode cL_law 1454 = .ok (.iadd, 1) := by decide +kernel
theorem dL_law_1455 : decode cL_law 1455 = .ok (.iaload, 1) := by decide +kernel
theorem dL_law_1456 : decode cL_law 1456 = .ok (.aload_n 0, 1) := by decide +kernel
theorem dL_law_1457 : decode cL_law 1457 = .ok (.iload_n 3, 1) := by decide +kernel
theorem dL_law_1458 : decode cL_law 1458 = .ok (.iconst 2, 1) := by decide +kernel
theorem dL_law_1459 : decode cL_law 1459 = .ok (.iadd, 1) := by decide +kernel
theorem dL_law_1460 : decode cL_law 1460 = .ok (.iaload, 1) := by decide +kernel
theorem dL_law_1461 : decode cL_law 1461 = .ok (.invokevirtual 166, 3) := by decide +kernel
theorem dL_law_1464 : decode cL_law 1464 = .ok (.if_icmp .eq 605, 3) := by decide +kernel
theorem dL_law_1467 : decode cL_law 1467 = .ok (.iconst 0, 1) := by decide +kernel
theorem dL_law_1468 : decode cL_law 1468 = .ok (.ireturn, 1) := by decide +kernel
theorem dL_law_1469 : decode cL_law 1469 = .ok (.aload_n 1, 1) := by decide +kernel
theorem dL_law_1470 : decode cL_law 1470 = .ok (.aload_n 0, 1) := by decide +kernel
theorem dL_law_1471 : decode cL_law 1471 = .ok (.iload_n 3, 1) := by decide +kernel
theorem dL_law_1472 : decode cL_law 1472 = .ok (.iconst 1, 1) := by decide +kernel
theorem dL_law_1473 : decode cL_law 1473 = .ok (.iadd, 1) := by decide +kernel
theorem dL_law_1474 : decode cL_law 1474 = .ok (.iaload, 1) := by decide +kernel
theorem dL_law_1475 : decode cL_law 1475 = .ok (.invokevirtual 167, 3) := by decide +kernel
theorem dL_law_1478 : decode cL_law 1478 = .ok (.aload_n 2, 1) := by decide +kernel
theorem dL_law_1479 : decode cL_law 1479 = .ok (.aload_n 0, 1) := by decide +kernel
theorem dL_law_1480 : decode cL_law 1480 = .ok (.iload_n 3, 1) := by decide +kernel
theorem dL_law_1481 : decode cL_law 1481 = .ok (.iconst 1, 1) := by decide +kernel
theorem dL_law_1482 : decode cL_law 1482 = .ok (.iadd, 1) := by decide +kernel
theorem dL_law_1483 : decode cL_law 1483 = .ok (.iaload, 1) := by decide +kernel
theorem dL_law_1484 : decode cL_law 1484 = .ok (.invokevirtual 170, 3) := by decide +kernel
theorem dL_law_1487 : decode cL_law 1487 = .ok (.if_icmp .eq 582, 3) := by decide +kernel
theorem dL_law_1490 : decode cL_law 1490 = .ok (.iconst 0, 1) := by decide +kernel
theorem dL_law_1491 : decode cL_law 1491 = .ok (.ireturn, 1) := by decide +kernel
theorem dL_law_1492 : decode cL_law 1492 = .ok (.aload_n 1, 1) := by decide +kernel
theorem dL_law_1493 : decode cL_law 1493 = .ok (.aload_n 0, 1) := by decide +kernel
theorem dL_law_1494 : decode cL_law 1494 = .ok (.iload_n 3, 1) := by decide +kernel
theorem dL_law_1495 : decode cL_law 1495 = .ok (.iconst 1, 1) := by decide +kernel
theorem dL_law_1496 : decode cL_law 1496 = .ok (.iadd, 1) := by decide +kernel
theorem dL_law_1497 : decode cL_law 1497 = .ok (.iaload, 1) := by decide +kernel
theorem dL_law_1498 : decode cL_law 1498 = .ok (.invokevirtual 171, 3) := by decide +kernel
theorem dL_law_1501 : decode cL_law 1501 = .ok (.aload_n 2, 1) := by decide +kernel
theorem dL_law_1502 : decode cL_law 1502 = .ok (.aload_n 0, 1) := by decide +kernel
theorem dL_law_1503 : decode cL_law 1503 = .ok (.iload_n 3, 1) := by decide +kernel
theorem dL_law_1504 : decode cL_law 1504 = .ok (.iconst 1, 1) := by decide +kernel
theorem dL_law_1505 : decode cL_law 1505 = .ok (.iadd, 1) := by decide +kernel
theorem dL_law_1506 : decode cL_law 1506 = .ok (.iaload, 1) := by decide +kernel
theorem dL_law_1507 : decode cL_law 1507 = .ok (.invokevirtual 174, 3) := by decide +kernel
theorem dL_law_1510 : decode cL_law 1510 = .ok (.if_icmp .eq 559, 3) := by decide +kernel
theorem dL_law_1513 : decode cL_law 1513 = .ok (.iconst 0, 1) := by decide +kernel
theorem dL_law_1514 : decode cL_law 1514 = .ok (.ireturn, 1) := by decide +kernel
theorem dL_law_1515 : decode cL_law 1515 = .ok (.aload_n 1, 1) := by decide +kernel
theorem dL_law_1516 : decode cL_law 1516 = .ok (.aload_n 0, 1) := by decide +kernel
theorem dL_law_1517 : decode cL_law 1517 = .ok (.iload_n 3, 1) := by decide +kernel
theorem dL_law_1518 : decode cL_law 1518 = .ok (.iconst 1, 1) := by decide +kernel
theorem dL_law_1519 : decode cL_law 1519 = .ok (.iadd, 1) := by decide +kernel
theorem dL_law_1520 : decode cL_law 1520 = .ok (.iaload, 1) := by decide +kernel
theorem dL_law_1521 : decode cL_law 1521 = .ok (.aload_n 0, 1) := by decide +kernel
theorem dL_law_1522 : decode cL_law 1522 = .ok (.iload_n 3, 1) := by decide +kernel
theorem dL_law_1523 : decode cL_law 1523 = .ok (.iconst 2, 1) := by decide +kernel
theorem dL_law_1524 : decode cL_law 1524 = .ok (.iadd, 1) := by decide +kernel
theorem dL_law_1525 : decode cL_law 1525 = .ok (.iaload, 1) := by decide +kernel
theorem dL_law_1526 : decode cL_law 1526 = .ok (.invokevirtual 175, 3) := by decide +kernel
theorem dL_law_1529 : decode cL_law 1529 = .ok (.aload_n 2, 1) := by decide +kernel
theorem dL_law_1530 : decode cL_law 1530 = .ok (.aload_n 0, 1) := by decide +kernel
theorem dL_law_1531 : decode cL_law 1531 = .ok (.iload_n 3, 1) := by decide +kernel
theorem dL_law_1532 : decode cL_law 1532 = .ok (.iconst 1, 1) := by decide +kernel
theorem dL_law_1533 : decode cL_law 1533 = .ok (.iadd, 1) := by decide +kernel
theorem dL_law_1534 : decode cL_law 1534 = .ok (.iaload, 1) := by decide +kernel
theorem dL_law_1535 : decode cL_law 1535 = .ok (.aload_n 0, 1) := by decide +kernel
theorem dL_law_1536 : decode cL_law 1536 = .ok (.iload_n 3, 1) := by decide +kernel
theorem dL_law_1537 : decode cL_law 1537 = .ok (.iconst 2, 1) := by decide +kernel
theorem dL_law_1538 : decode cL_law 1538 = .ok (.iadd, 1) := by decide +kernel
theorem dL_law_1539 : decode cL_law 1539 = .ok (.iaload, 1) := by decide +kernel
theorem dL_law_1540 : decode cL_law 1540 = .ok (.invokevirtual 178, 3) := by decide +kernel
theorem dL_law_1543 : decode cL_law 1543 = .ok (.if_icmp .eq 526, 3) := by decide +kernel
theorem dL_law_1546 : decode cL_law 1546 = .ok (.iconst 0, 1) := by decide +kernel
theorem dL_law_1547 : decode cL_law 1547 = .ok (.ireturn, 1) := by decide +kernel
theorem dL_law_1548 : decode cL_law 1548 = .ok (.aload_n 1, 1) := by decide +kernel
theorem dL_law_1549 : decode cL_law 1549 = .ok (.aload_n 0, 1) := by decide +kernel
theorem dL_law_1550 : decode cL_law 1550 = .ok (.iload_n 3, 1) := by decide +kernel
theorem dL_law_1551 : decode cL_law 1551 = .ok (.iconst 1, 1) := by decide +kernel
theorem dL_law_1552 : decode cL_law 1552 = .ok (.iadd, 1) := by decide +kernel
theorem dL_law_1553 : decode cL_law 1553 = .ok (.iaload, 1) := by decide +kernel
theorem dL_law_1554 : decode cL_law 1554 = .ok (.aload_n 0, 1) := by decide +kernel
theorem dL_law_1555 : decode cL_law 1555 = .ok (.iload_n 3, 1) := by decide +kernel
theorem dL_law_1556 : decode cL_law 1556 = .ok (.iconst 2, 1) := by decide +kernel
theorem dL_law_1557 : decode cL_law 1557 = .ok (.iadd, 1) := by decide +kernel
theorem dL_law_1558 : decode cL_law 1558 = .ok (.iaload, 1) := by decide +kernel
theorem dL_law_1559 : decode cL_law 1559 = .ok (.aload_n 0, 1) := by decide +kernel
theorem dL_law_1560 : decode cL_law 1560 = .ok (.iload_n 3, 1) := by decide +kernel
theorem dL_law_1561 : decode cL_law 1561 = .ok (.iconst 3, 1) := by decide +kernel
theorem dL_law_1562 : decode cL_law 1562 = .ok (.iadd, 1) := by decide +kernel
theorem dL_law_1563 : decode cL_law 1563 = .ok (.iaload, 1) := by decide +kernel
theorem dL_law_1564 : decode cL_law 1564 = .ok (.invokevirtual 179, 3) := by decide +kernel
theorem dL_law_1567 : decode cL_law 1567 = .ok (.aload_n 2, 1) := by decide +kernel
theorem dL_law_1568 : decode cL_law 1568 = .ok (.aload_n 0, 1) := by decide +kernel
theorem dL_law_1569 : decode cL_law 1569 = .ok (.iload_n 3, 1) := by decide +kernel
theorem dL_law_1570 : decode cL_law 1570 = .ok (.iconst 1, 1) := by decide +kernel
theorem dL_law_1571 : decode cL_law 1571 = .ok (.iadd, 1) := by decide +kernel
theorem dL_law_1572 : decode cL_law 1572 = .ok (.iaload, 1) := by decide +kernel
theorem dL_law_1573 : decode cL_law 1573 = .ok (.aload_n 0, 1) := by decide +kernel
theorem dL_law_1574 : decode cL_law 1574 = .ok (.iload_n 3, 1) := by decide +kernel
theorem dL_law_1575 : decode cL_law 1575 = .ok (.iconst 2, 1) := by decide +kernel
theorem dL_law_1576 : decode cL_law 1576 = .ok (.iadd, 1) := by decide +kernel
theorem dL_law_1577 : decode cL_law 1577 = .ok (.iaload, 1) := by decide +kernel
theorem dL_law_1578 : decode cL_law 1578 = .ok (.aload_n 0, 1) := by decide +kernel
theorem dL_law_1579 : decode cL_law 1579 = .ok (.iload_n 3, 1) := by decide +kernel
theorem dL_law_1580 : decode cL_law 1580 = .ok (.iconst 3, 1) := by decide +kernel
theorem dL_law_1581 : decode cL_law 1581 = .ok (.iadd, 1) := by decide +kernel
theorem dL_law_1582 : decode cL_law 1582 = .ok (.iaload, 1) := by decide +kernel
theorem dL_law_1583 : decode cL_law 1583 = .ok (.invokevirtual 182, 3) := by decide +kernel
theorem dL_law_1586 : decode cL_law 1586 = .ok (.if_icmp .eq 483, 3) := by decide +kernel
theorem dL_law_1589 : decode cL_law 1589 = .ok (.iconst 0, 1) := by decide +kernel
theorem dL_law_1590 : decode cL_law 1590 = .ok (.ireturn, 1) := by decide +kernel
theorem dL_law_1591 : decode cL_law 1591 = .ok (.aload_n 1, 1) := by decide +kernel
theorem dL_law_1592 : decode cL_law 1592 = .ok (.aload_n 0, 1) := by decide +kernel
theorem dL_law_1593 : decode cL_law 1593 = .ok (.iload_n 3, 1) := by decide +kernel
theorem dL_law_1594 : decode cL_law 1594 = .ok (.iconst 1, 1) := by decide +kernel
theorem dL_law_1595 : decode cL_law 1595 = .ok (.iadd, 1) := by decide +kernel
theorem dL_law_1596 : decode cL_law 1596 = .ok (.iaload, 1) := by decide +kernel
theorem dL_law_1597 : decode cL_law 1597 = .ok (.invokevirtual 183, 3) := by decide +kernel
theorem dL_law_1600 : decode cL_law 1600 = .ok (.aload_n 2, 1) := by decide +kernel
theorem dL_law_1601 : decode cL_law 1601 = .ok (.aload_n 0, 1) := by decide +kernel
theorem dL_law_1602 : decode cL_law 1602 = .ok (.iload_n 3, 1) := by decide +kernel
theorem dL_law_1603 : decode cL_law 1603 = .ok (.iconst 1, 1) := by decide +kernel
theorem dL_law_1604 : decode cL_law 1604 = .ok (.iadd, 1) := by decide +kernel
theorem dL_law_1605 : decode cL_law 1605 = .ok (.iaload, 1) := by decide +kernel
theorem dL_law_1606 : decode cL_law 1606 = .ok (.invokevirtual 186, 3) := by decide +kernel
theorem dL_law_1609 : decode cL_law 1609 = .ok (.if_icmp .eq 460, 3) := by decide +kernel
theorem dL_law_1612 : decode cL_law 1612 = .ok (.iconst 0, 1) := by decide +kernel
theorem dL_law_1613 : decode cL_law 1613 = .ok (.ireturn, 1) := by decide +kernel
theorem dL_law_1614 : decode cL_law 1614 = .ok (.aload_n 1, 1) := by decide +kernel
theorem dL_law_1615 : decode cL_law 1615 = .ok (.aload_n 0, 1) := by decide +kernel
theorem dL_law_1616 : decode cL_law 1616 = .ok (.iload_n 3, 1) := by decide +kernel
theorem dL_law_1617 : decode cL_law 1617 = .ok (.iconst 1, 1) := by decide +kernel
theorem dL_law_1618 : decode cL_law 1618 = .ok (.iadd, 1) := by decide +kernel
theorem dL_law_1619 : decode cL_law 1619 = .ok (.iaload, 1) := by decide +kernel
theorem dL_law_1620 : decode cL_law 1620 = .ok (.aload_n 0, 1) := by decide +kernel
theorem dL_law_1621 : decode cL_law 1621 = .ok (.iload_n 3, 1) := by decide +kernel
theorem dL_law_1622 : decode cL_law 1622 = .ok (.iconst 2, 1) := by decide +kernel
theorem dL_law_1623 : decode cL_law 1623 = .ok (.iadd, 1) := by decide +kernel
theorem dL_law_1624 : decode cL_law 1624 = .ok (.iaload, 1) := by decide +kernel
theorem dL_law_1625 : decode cL_law 1625 = .ok (.invokevirtual 187, 3) := by decide +kernel
theorem dL_law_1628 : decode cL_law 1628 = .ok (.aload_n 2, 1) := by decide +kernel
theorem dL_law_1629 : decode cL_law 1629 = .ok (.aload_n 0, 1) := by decide +kernel
theorem dL_law_1630 : decode cL_law 1630 = .ok (.iload_n 3, 1) := by decide +kernel
theorem dL_law_1631 : decode cL_law 1631 = .ok (.iconst 1, 1) := by decide +kernel
theorem dL_law_1632 : decode cL_law 1632 = .ok (.iadd, 1) := by decide +kernel
theorem dL_law_1633 : decode cL_law 1633 = .ok (.iaload, 1) := by decide +kernel
theorem dL_law_1634 : decode cL_law 1634 = .ok (.aload_n 0, 1) := by decide +kernel
theorem dL_law_1635 : decode cL_law 1635 = .ok (.iload_n 3, 1) := by decide +kernel
theorem dL_law_1636 : decode cL_law 1636 = .ok (.iconst 2, 1) := by decide +kernel
theorem dL_law_1637 : decode cL_law 1637 = .ok (.iadd, 1) := by decide +kernel
theorem dL_law_1638 : decode cL_law 1638 = .ok (.iaload, 1) := by decide +kernel
theorem dL_law_1639 : decode cL_law 1639 = .ok (.invokevirtual 190, 3) := by decide +kernel
theorem dL_law_1642 : decode cL_law 1642 = .ok (.if_icmp .eq 427, 3) := by decide +kernel
theorem dL_law_1645 : decode cL_law 1645 = .ok (.iconst 0, 1) := by decide +kernel
theorem dL_law_1646 : decode cL_law 1646 = .ok (.ireturn, 1) := by decide +kernel
theorem dL_law_1647 : decode cL_law 1647 = .ok (.aload_n 1, 1) := by decide +kernel
theorem dL_law_1648 : decode cL_law 1648 = .ok (.aload_n 0, 1) := by decide +kernel
theorem dL_law_1649 : decode cL_law 1649 = .ok (.iload_n 3, 1) := by decide +kernel
theorem dL_law_1650 : decode cL_law 1650 = .ok (.iconst 1, 1) := by decide +kernel
theorem dL_law_1651 : decode cL_law 1651 = .ok (.iadd, 1) := by decide +kernel
theorem dL_law_1652 : decode cL_law 1652 = .ok (.iaload, 1) := by decide +kernel
theorem dL_law_1653 : decode cL_law 1653 = .ok (.invokevirtual 191, 3) := by decide +kernel
theorem dL_law_1656 : decode cL_law 1656 = .ok (.aload_n 2, 1) := by decide +kernel
theorem dL_law_1657 : decode cL_law 1657 = .ok (.aload_n 0, 1) := by decide +kernel
theorem dL_law_1658 : decode cL_law 1658 = .ok (.iload_n 3, 1) := by decide +kernel
theorem dL_law_1659 : decode cL_law 1659 = .ok (.iconst 1, 1) := by decide +kernel
theorem dL_law_1660 : decode cL_law 1660 = .ok (.iadd, 1) := by decide +kernel
theorem dL_law_1661 : decode cL_law 1661 = .ok (.iaload, 1) := by decide +kernel
theorem dL_law_1662 : decode cL_law 1662 = .ok (.invokevirtual 194, 3) := by decide +kernel
theorem dL_law_1665 : decode cL_law 1665 = .ok (.if_icmp .eq 404, 3) := by decide +kernel
theorem dL_law_1668 : decode cL_law 1668 = .ok (.iconst 0, 1) := by decide +kernel
theorem dL_law_1669 : decode cL_law 1669 = .ok (.ireturn, 1) := by decide +kernel
theorem dL_law_1670 : decode cL_law 1670 = .ok (.aload_n 1, 1) := by decide +kernel
theorem dL_law_1671 : decode cL_law 1671 = .ok (.aload_n 0, 1) := by decide +kernel
theorem dL_law_1672 : decode cL_law 1672 = .ok (.iload_n 3, 1) := by decide +kernel
theorem dL_law_1673 : decode cL_law 1673 = .ok (.iconst 1, 1) := by decide +kernel
theorem dL_law_1674 : decode cL_law 1674 = .ok (.iadd, 1) := by decide +kernel
theorem dL_law_1675 : decode cL_law 1675 = .ok (.iaload, 1) := by decide +kernel
theorem dL_law_1676 : decode cL_law 1676 = .ok (.aload_n 0, 1) := by decide +kernel
theorem dL_law_1677 : decode cL_law 1677 = .ok (.iload_n 3, 1) := by decide +kernel
theorem dL_law_1678 : decode cL_law 1678 = .ok (.iconst 2, 1) := by decide +kernel
theorem dL_law_1679 : decode cL_law 1679 = .ok (.iadd, 1) := by decide +kernel
theorem dL_law_1680 : decode cL_law 1680 = .ok (.iaload, 1) := by decide +kernel
theorem dL_law_1681 : decode cL_law 1681 = .ok (.invokevirtual 195, 3) := by decide +kernel
theorem dL_law_1684 : decode cL_law 1684 = .ok (.aload_n 2, 1) := by decide +kernel
theorem dL_law_1685 : decode cL_law 1685 = .ok (.aload_n 0, 1) := by decide +kernel
theorem dL_law_1686 : decode cL_law 1686 = .ok (.iload_n 3, 1) := by decide +kernel
theorem dL_law_1687 : decode cL_law 1687 = .ok (.iconst 1, 1) := by decide +kernel
theorem dL_law_1688 : decode cL_law 1688 = .ok (.iadd, 1) := by decide +kernel
theorem dL_law_1689 : decode cL_law 1689 = .ok (.iaload, 1) := by decide +kernel
theorem dL_law_1690 : decode cL_law 1690 = .ok (.aload_n 0, 1) := by decide +kernel
theorem dL_law_1691 : decode cL_law 1691 = .ok (.iload_n 3, 1) := by decide +kernel
theorem dL_law_1692 : decode cL_law 1692 = .ok (.iconst 2, 1) := by decide +kernel
theorem dL_law_1693 : decode cL_law 1693 = .ok (.iadd, 1) := by decide +kernel
theorem dL_law_1694 : decode cL_law 1694 = .ok (.iaload, 1) := by decide +kernel
theorem dL_law_1695 : decode cL_law 1695 = .ok (.invokevirtual 198, 3) := by decide +kernel
theorem dL_law_1698 : decode cL_law 1698 = .ok (.if_icmp .eq 371, 3) := by decide +kernel
theorem dL_law_1701 : decode cL_law 1701 = .ok (.iconst 0, 1) := by decide +kernel
theorem dL_law_1702 : decode cL_law 1702 = .ok (.ireturn, 1) := by decide +kernel
theorem dL_law_1703 : decode cL_law 1703 = .ok (.aload_n 1, 1) := by decide +kernel
theorem dL_law_1704 : decode cL_law 1704 = .ok (.aload_n 0, 1) := by decide +kernel
theorem dL_law_1705 : decode cL_law 1705 = .ok (.iload_n 3, 1) := by decide +kernel
theorem dL_law_1706 : decode cL_law 1706 = .ok (.iconst 1, 1) := by decide +kernel
theorem dL_law_1707 : decode cL_law 1707 = .ok (.iadd, 1) := by decide +kernel
theorem dL_law_1708 : decode cL_law 1708 = .ok (.iaload, 1) := by decide +kernel
theorem dL_law_1709 : decode cL_law 1709 = .ok (.aload_n 0, 1) := by decide +kernel
theorem dL_law_1710 : decode cL_law 1710 = .ok (.iload_n 3, 1) := by decide +kernel
theorem dL_law_1711 : decode cL_law 1711 = .ok (.iconst 2, 1) := by decide +kernel
theorem dL_law_1712 : decode cL_law 1712 = .ok (.iadd, 1) := by decide +kernel
theorem dL_law_1713 : decode cL_law 1713 = .ok (.iaload, 1) := by decide +kernel
theorem dL_law_1714 : decode cL_law 1714 = .ok (.invokevirtual 199, 3) := by decide +kernel
theorem dL_law_1717 : decode cL_law 1717 = .ok (.aload_n 2, 1) := by decide +kernel
theorem dL_law_1718 : decode cL_law 1718 = .ok (.aload_n 0, 1) := by decide +kernel
theorem dL_law_1719 : decode cL_law 1719 = .ok (.iload_n 3, 1) := by decide +kernel
theorem dL_law_1720 : decode cL_law 1720 = .ok (.iconst 1, 1) := by decide +kernel
theorem dL_law_1721 : decode cL_law 1721 = .ok (.iadd, 1) := by decide +kernel
theorem dL_law_1722 : decode cL_law 1722 = .ok (.iaload, 1) := by decide +kernel
theorem dL_law_1723 : decode cL_law 1723 = .ok (.aload_n 0, 1) := by decide +kernel
theorem dL_law_1724 : decode cL_law 1724 = .ok (.iload_n 3, 1) := by decide +kernel
theorem dL_law_1725 : decode cL_law 1725 = .ok (.iconst 2, 1) := by decide +kernel
theorem dL_law_1726 : decode cL_law 1726 = .ok (.iadd, 1) := by decide +kernel
theorem dL_law_1727 : decode cL_law 1727 = .ok (.iaload, 1) := by decide +kernel
theorem dL_law_1728 : decode cL_law 1728 = .ok (.invokevirtual 202, 3) := by decide +kernel
theorem dL_law_1731 : decode cL_law 1731 = .ok (.if_icmp .eq 338, 3) := by decide +kernel
theorem dL_law_1734 : decode cL_law 1734 = .ok (.iconst 0, 1) := by decide +kernel
theorem dL_law_1735 : decode cL_law 1735 = .ok (.ireturn, 1) := by decide +kernel
theorem dL_law_1736 : decode cL_law 1736 = .ok (.aload_n 1, 1) := by decide +kernel
theorem dL_law_1737 : decode cL_law 1737 = .ok (.aload_n 0, 1) := by decide +kernel
theorem dL_law_1738 : decode cL_law 1738 = .ok (.iload_n 3, 1) := by decide +kernel
theorem dL_law_1739 : decode cL_law 1739 = .ok (.iconst 1, 1) := by decide +kernel
theorem dL_law_1740 : decode cL_law 1740 = .ok (.iadd, 1) := by decide +kernel
theorem dL_law_1741 : decode cL_law 1741 = .ok (.iaload, 1) := by decide +kernel
theorem dL_law_1742 : decode cL_law 1742 = .ok (.invokevirtual 203, 3) := by decide +kernel
theorem dL_law_1745 : decode cL_law 1745 = .ok (.aload_n 2, 1) := by decide +kernel
theorem dL_law_1746 : decode cL_law 1746 = .ok (.aload_n 0, 1) := by decide +kernel
theorem dL_law_1747 : decode cL_law 1747 = .ok (.iload_n 3, 1) := by decide +kernel
theorem dL_law_1748 : decode cL_law 1748 = .ok (.iconst 1, 1) := by decide +kernel
theorem dL_law_1749 : decode cL_law 1749 = .ok (.iadd, 1) := by decide +kernel
theorem dL_law_1750 : decode cL_law 1750 = .ok (.iaload, 1) := by decide +kernel
theorem dL_law_1751 : decode cL_law 1751 = .ok (.invokevirtual 207, 3) := by decide +kernel
theorem dL_law_1754 : decode cL_law 1754 = .ok (.lcmp, 1) := by decide +kernel
theorem dL_law_1755 : decode cL_law 1755 = .ok (.ifCond .eq 314, 3) := by decide +kernel
theorem dL_law_1758 : decode cL_law 1758 = .ok (.iconst 0, 1) := by decide +kernel
theorem dL_law_1759 : decode cL_law 1759 = .ok (.ireturn, 1) := by decide +kernel
theorem dL_law_1760 : decode cL_law 1760 = .ok (.aload_n 1, 1) := by decide +kernel
theorem dL_law_1761 : decode cL_law 1761 = .ok (.aload_n 0, 1) := by decide +kernel
theorem dL_law_1762 : decode cL_law 1762 = .ok (.iload_n 3, 1) := by decide +kernel
theorem dL_law_1763 : decode cL_law 1763 = .ok (.iconst 1, 1) := by decide +kernel
theorem dL_law_1764 : decode cL_law 1764 = .ok (.iadd, 1) := by decide +kernel
theorem dL_law_1765 : decode cL_law 1765 = .ok (.iaload, 1) := by decide +kernel
theorem dL_law_1766 : decode cL_law 1766 = .ok (.aload_n 0, 1) := by decide +kernel
theorem dL_law_1767 : decode cL_law 1767 = .ok (.iload_n 3, 1) := by decide +kernel
theorem dL_law_1768 : decode cL_law 1768 = .ok (.iconst 2, 1) := by decide +kernel
theorem dL_law_1769 : decode cL_law 1769 = .ok (.iadd, 1) := by decide +kernel
theorem dL_law_1770 : decode cL_law 1770 = .ok (.iaload, 1) := by decide +kernel
theorem dL_law_1771 : decode cL_law 1771 = .ok (.invokevirtual 208, 3) := by decide +kernel
theorem dL_law_1774 : decode cL_law 1774 = .ok (.aload_n 2, 1) := by decide +kernel
theorem dL_law_1775 : decode cL_law 1775 = .ok (.aload_n 0, 1) := by decide +kernel
theorem dL_law_1776 : decode cL_law 1776 = .ok (.iload_n 3, 1) := by decide +kernel
theorem dL_law_1777 : decode cL_law 1777 = .ok (.iconst 1, 1) := by decide +kernel
theorem dL_law_1778 : decode cL_law 1778 = .ok (.iadd, 1) := by decide +kernel
theorem dL_law_1779 : decode cL_law 1779 = .ok (.iaload, 1) := by decide +kernel
theorem dL_law_1780 : decode cL_law 1780 = .ok (.aload_n 0, 1) := by decide +kernel
theorem dL_law_1781 : decode cL_law 1781 = .ok (.iload_n 3, 1) := by decide +kernel
theorem dL_law_1782 : decode cL_law 1782 = .ok (.iconst 2, 1) := by decide +kernel
theorem dL_law_1783 : decode cL_law 1783 = .ok (.iadd, 1) := by decide +kernel
theorem dL_law_1784 : decode cL_law 1784 = .ok (.iaload, 1) := by decide +kernel
theorem dL_law_1785 : decode cL_law 1785 = .ok (.invokevirtual 211, 3) := by decide +kernel
theorem dL_law_1788 : decode cL_law 1788 = .ok (.if_icmp .eq 281, 3) := by decide +kernel
theorem dL_law_1791 : decode cL_law 1791 = .ok (.iconst 0, 1) := by decide +kernel
theorem dL_law_1792 : decode cL_law 1792 = .ok (.ireturn, 1) := by decide +kernel
theorem dL_law_1793 : decode cL_law 1793 = .ok (.aload_n 1, 1) := by decide +kernel
theorem dL_law_1794 : decode cL_law 1794 = .ok (.aload_n 0, 1) := by decide +kernel
theorem dL_law_1795 : decode cL_law 1795 = .ok (.iload_n 3, 1) := by decide +kernel
theorem dL_law_1796 : decode cL_law 1796 = .ok (.iconst 1, 1) := by decide +kernel
theorem dL_law_1797 : decode cL_law 1797 = .ok (.iadd, 1) := by decide +kernel
theorem dL_law_1798 : decode cL_law 1798 = .ok (.iaload, 1) := by decide +kernel
theorem dL_law_1799 : decode cL_law 1799 = .ok (.invokevirtual 212, 3) := by decide +kernel
theorem dL_law_1802 : decode cL_law 1802 = .ok (.aload_n 2, 1) := by decide +kernel
theorem dL_law_1803 : decode cL_law 1803 = .ok (.aload_n 0, 1) := by decide +kernel
theorem dL_law_1804 : decode cL_law 1804 = .ok (.iload_n 3, 1) := by decide +kernel
theorem dL_law_1805 : decode cL_law 1805 = .ok (.iconst 1, 1) := by decide +kernel
theorem dL_law_1806 : decode cL_law 1806 = .ok (.iadd, 1) := by decide +kernel
theorem dL_law_1807 : decode cL_law 1807 = .ok (.iaload, 1) := by decide +kernel
theorem dL_law_1808 : decode cL_law 1808 = .ok (.invokevirtual 215, 3) := by decide +kernel
theorem dL_law_1811 : decode cL_law 1811 = .ok (.if_icmp .eq 258, 3) := by decide +kernel
theorem dL_law_1814 : decode cL_law 1814 = .ok (.iconst 0, 1) := by decide +kernel
theorem dL_law_1815 : decode cL_law 1815 = .ok (.ireturn, 1) := by decide +kernel
theorem dL_law_1816 : decode cL_law 1816 = .ok (.aload_n 1, 1) := by decide +kernel
theorem dL_law_1817 : decode cL_law 1817 = .ok (.aload_n 0, 1) := by decide +kernel
theorem dL_law_1818 : decode cL_law 1818 = .ok (.iload_n 3, 1) := by decide +kernel
theorem dL_law_1819 : decode cL_law 1819 = .ok (.iconst 1, 1) := by decide +kernel
theorem dL_law_1820 : decode cL_law 1820 = .ok (.iadd, 1) := by decide +kernel
theorem dL_law_1821 : decode cL_law 1821 = .ok (.iaload, 1) := by decide +kernel
theorem dL_law_1822 : decode cL_law 1822 = .ok (.invokevirtual 216, 3) := by decide +kernel
theorem dL_law_1825 : decode cL_law 1825 = .ok (.aload_n 2, 1) := by decide +kernel
theorem dL_law_1826 : decode cL_law 1826 = .ok (.aload_n 0, 1) := by decide +kernel
theorem dL_law_1827 : decode cL_law 1827 = .ok (.iload_n 3, 1) := by decide +kernel
theorem dL_law_1828 : decode cL_law 1828 = .ok (.iconst 1, 1) := by decide +kernel
theorem dL_law_1829 : decode cL_law 1829 = .ok (.iadd, 1) := by decide +kernel
theorem dL_law_1830 : decode cL_law 1830 = .ok (.iaload, 1) := by decide +kernel
theorem dL_law_1831 : decode cL_law 1831 = .ok (.invokevirtual 219, 3) := by decide +kernel
theorem dL_law_1834 : decode cL_law 1834 = .ok (.if_icmp .eq 235, 3) := by decide +kernel
theorem dL_law_1837 : decode cL_law 1837 = .ok (.iconst 0, 1) := by decide +kernel
theorem dL_law_1838 : decode cL_law 1838 = .ok (.ireturn, 1) := by decide +kernel
theorem dL_law_1839 : decode cL_law 1839 = .ok (.aload_n 1, 1) := by decide +kernel
theorem dL_law_1840 : decode cL_law 1840 = .ok (.aload_n 0, 1) := by decide +kernel
theorem dL_law_1841 : decode cL_law 1841 = .ok (.iload_n 3, 1) := by decide +kernel
theorem dL_law_1842 : decode cL_law 1842 = .ok (.iconst 1, 1) := by decide +kernel
theorem dL_law_1843 : decode cL_law 1843 = .ok (.iadd, 1) := by decide +kernel
theorem dL_law_1844 : decode cL_law 1844 = .ok (.iaload, 1) := by decide +kernel
theorem dL_law_1845 : decode cL_law 1845 = .ok (.aload_n 0, 1) := by decide +kernel
theorem dL_law_1846 : decode cL_law 1846 = .ok (.iload_n 3, 1) := by decide +kernel
theorem dL_law_1847 : decode cL_law 1847 = .ok (.iconst 2, 1) := by decide +kernel
theorem dL_law_1848 : decode cL_law 1848 = .ok (.iadd, 1) := by decide +kernel
theorem dL_law_1849 : decode cL_law 1849 = .ok (.iaload, 1) := by decide +kernel
theorem dL_law_1850 : decode cL_law 1850 = .ok (.invokevirtual 220, 3) := by decide +kernel
theorem dL_law_1853 : decode cL_law 1853 = .ok (.aload_n 2, 1) := by decide +kernel
theorem dL_law_1854 : decode cL_law 1854 = .ok (.aload_n 0, 1) := by decide +kernel
theorem dL_law_1855 : decode cL_law 1855 = .ok (.iload_n 3, 1) := by decide +kernel
theorem dL_law_1856 : decode cL_law 1856 = .ok (.iconst 1, 1) := by decide +kernel
theorem dL_law_1857 : decode cL_law 1857 = .ok (.iadd, 1) := by decide +kernel
theorem dL_law_1858 : decode cL_law 1858 = .ok (.iaload, 1) := by decide +kernel
theorem dL_law_1859 : decode cL_law 1859 = .ok (.aload_n 0, 1) := by decide +kernel
theorem dL_law_1860 : decode cL_law 1860 = .ok (.iload_n 3, 1) := by decide +kernel
theorem dL_law_1861 : decode cL_law 1861 = .ok (.iconst 2, 1) := by decide +kernel
theorem dL_law_1862 : decode cL_law 1862 = .ok (.iadd, 1) := by decide +kernel
theorem dL_law_1863 : decode cL_law 1863 = .ok (.iaload, 1) := by decide +kernel
theorem dL_law_1864 : decode cL_law 1864 = .ok (.invokevirtual 223, 3) := by decide +kernel
theorem dL_law_1867 : decode cL_law 1867 = .ok (.if_icmp .eq 202, 3) := by decide +kernel
theorem dL_law_1870 : decode cL_law 1870 = .ok (.iconst 0, 1) := by decide +kernel
theorem dL_law_1871 : decode cL_law 1871 = .ok (.ireturn, 1) := by decide +kernel
theorem dL_law_1872 : decode cL_law 1872 = .ok (.aload_n 1, 1) := by decide +kernel
theorem dL_law_1873 : decode cL_law 1873 = .ok (.aload_n 0, 1) := by decide +kernel
theorem dL_law_1874 : decode cL_law 1874 = .ok (.iload_n 3, 1) := by decide +kernel
theorem dL_law_1875 : decode cL_law 1875 = .ok (.iconst 1, 1) := by decide +kernel
theorem dL_law_1876 : decode cL_law 1876 = .ok (.iadd, 1) := by decide +kernel
theorem dL_law_1877 : decode cL_law 1877 = .ok (.iaload, 1) := by decide +kernel
theorem dL_law_1878 : decode cL_law 1878 = .ok (.invokevirtual 224, 3) := by decide +kernel
theorem dL_law_1881 : decode cL_law 1881 = .ok (.aload_n 2, 1) := by decide +kernel
theorem dL_law_1882 : decode cL_law 1882 = .ok (.aload_n 0, 1) := by decide +kernel
theorem dL_law_1883 : decode cL_law 1883 = .ok (.iload_n 3, 1) := by decide +kernel
theorem dL_law_1884 : decode cL_law 1884 = .ok (.iconst 1, 1) := by decide +kernel
theorem dL_law_1885 : decode cL_law 1885 = .ok (.iadd, 1) := by decide +kernel
theorem dL_law_1886 : decode cL_law 1886 = .ok (.iaload, 1) := by decide +kernel
theorem dL_law_1887 : decode cL_law 1887 = .ok (.invokevirtual 227, 3) := by decide +kernel
theorem dL_law_1890 : decode cL_law 1890 = .ok (.if_icmp .eq 179, 3) := by decide +kernel
theorem dL_law_1893 : decode cL_law 1893 = .ok (.iconst 0, 1) := by decide +kernel
theorem dL_law_1894 : decode cL_law 1894 = .ok (.ireturn, 1) := by decide +kernel
theorem dL_law_1895 : decode cL_law 1895 = .ok (.aload_n 1, 1) := by decide +kernel
theorem dL_law_1896 : decode cL_law 1896 = .ok (.aload_n 0, 1) := by decide +kernel
theorem dL_law_1897 : decode cL_law 1897 = .ok (.iload_n 3, 1) := by decide +kernel
theorem dL_law_1898 : decode cL_law 1898 = .ok (.iconst 1, 1) := by decide +kernel
theorem dL_law_1899 : decode cL_law 1899 = .ok (.iadd, 1) := by decide +kernel
theorem dL_law_1900 : decode cL_law 1900 = .ok (.iaload, 1) := by decide +kernel
theorem dL_law_1901 : decode cL_law 1901 = .ok (.aload_n 0, 1) := by decide +kernel
theorem dL_law_1902 : decode cL_law 1902 = .ok (.iload_n 3, 1) := by decide +kernel
theorem dL_law_1903 : decode cL_law 1903 = .ok (.iconst 2, 1) := by decide +kernel
theorem dL_law_1904 : decode cL_law 1904 = .ok (.iadd, 1) := by decide +kernel
theorem dL_law_1905 : decode cL_law 1905 = .ok (.iaload, 1) := by decide +kernel
theorem dL_law_1906 : decode cL_law 1906 = .ok (.invokevirtual 228, 3) := by decide +kernel
theorem dL_law_1909 : decode cL_law 1909 = .ok (.aload_n 2, 1) := by decide +kernel
theorem dL_law_1910 : decode cL_law 1910 = .ok (.aload_n 0, 1) := by decide +kernel
theorem dL_law_1911 : decode cL_law 1911 = .ok (.iload_n 3, 1) := by decide +kernel
theorem dL_law_1912 : decode cL_law 1912 = .ok (.iconst 1, 1) := by decide +kernel
theorem dL_law_1913 : decode cL_law 1913 = .ok (.iadd, 1) := by decide +kernel
theorem dL_law_1914 : decode cL_law 1914 = .ok (.iaload, 1) := by decide +kernel
theorem dL_law_1915 : decode cL_law 1915 = .ok (.aload_n 0, 1) := by decide +kernel
theorem dL_law_1916 : decode cL_law 1916 = .ok (.iload_n 3, 1) := by decide +kernel
theorem dL_law_1917 : decode cL_law 1917 = .ok (.iconst 2, 1) := by decide +kernel
theorem dL_law_1918 : decode cL_law 1918 = .ok (.iadd, 1) := by decide +kernel
theorem dL_law_1919 : decode cL_law 1919 = .ok (.iaload, 1) := by decide +kernel
theorem dL_law_1920 : decode cL_law 1920 = .ok (.invokevirtual 231, 3) := by decide +kernel
theorem dL_law_1923 : decode cL_law 1923 = .ok (.if_icmp .eq 146, 3) := by decide +kernel
theorem dL_law_1926 : decode cL_law 1926 = .ok (.iconst 0, 1) := by decide +kernel
theorem dL_law_1927 : decode cL_law 1927 = .ok (.ireturn, 1) := by decide +kernel
theorem dL_law_1928 : decode cL_law 1928 = .ok (.aload_n 1, 1) := by decide +kernel
theorem dL_law_1929 : decode cL_law 1929 = .ok (.aload_n 0, 1) := by decide +kernel
theorem dL_law_1930 : decode cL_law 1930 = .ok (.iload_n 3, 1) := by decide +kernel
theorem dL_law_1931 : decode cL_law 1931 = .ok (.iconst 1, 1) := by decide +kernel
theorem dL_law_1932 : decode cL_law 1932 = .ok (.iadd, 1) := by decide +kernel
theorem dL_law_1933 : decode cL_law 1933 = .ok (.iaload, 1) := by decide +kernel
theorem dL_law_1934 : decode cL_law 1934 = .ok (.invokevirtual 232, 3) := by decide +kernel
theorem dL_law_1937 : decode cL_law 1937 = .ok (.aload_n 2, 1) := by decide +kernel
theorem dL_law_1938 : decode cL_law 1938 = .ok (.aload_n 0, 1) := by decide +kernel
theorem dL_law_1939 : decode cL_law 1939 = .ok (.iload_n 3, 1) := by decide +kernel
theorem dL_law_1940 : decode cL_law 1940 = .ok (.iconst 1, 1) := by decide +kernel
theorem dL_law_1941 : decode cL_law 1941 = .ok (.iadd, 1) := by decide +kernel
theorem dL_law_1942 : decode cL_law 1942 = .ok (.iaload, 1) := by decide +kernel
theorem dL_law_1943 : decode cL_law 1943 = .ok (.invokevirtual 235, 3) := by decide +kernel
theorem dL_law_1946 : decode cL_law 1946 = .ok (.if_icmp .eq 123, 3) := by decide +kernel
theorem dL_law_1949 : decode cL_law 1949 = .ok (.iconst 0, 1) := by decide +kernel
theorem dL_law_1950 : decode cL_law 1950 = .ok (.ireturn, 1) := by decide +kernel
theorem dL_law_1951 : decode cL_law 1951 = .ok (.aload_n 1, 1) := by decide +kernel
theorem dL_law_1952 : decode cL_law 1952 = .ok (.aload_n 0, 1) := by decide +kernel
theorem dL_law_1953 : decode cL_law 1953 = .ok (.iload_n 3, 1) := by decide +kernel
theorem dL_law_1954 : decode cL_law 1954 = .ok (.iconst 1, 1) := by decide +kernel
theorem dL_law_1955 : decode cL_law 1955 = .ok (.iadd, 1) := by decide +kernel
theorem dL_law_1956 : decode cL_law 1956 = .ok (.iaload, 1) := by decide +kernel
theorem dL_law_1957 : decode cL_law 1957 = .ok (.invokevirtual 236, 3) := by decide +kernel
theorem dL_law_1960 : decode cL_law 1960 = .ok (.aload_n 2, 1) := by decide +kernel
theorem dL_law_1961 : decode cL_law 1961 = .ok (.aload_n 0, 1) := by decide +kernel
theorem dL_law_1962 : decode cL_law 1962 = .ok (.iload_n 3, 1) := by decide +kernel
theorem dL_law_1963 : decode cL_law 1963 = .ok (.iconst 1, 1) := by decide +kernel
theorem dL_law_1964 : decode cL_law 1964 = .ok (.iadd, 1) := by decide +kernel
theorem dL_law_1965 : decode cL_law 1965 = .ok (.iaload, 1) := by decide +kernel
theorem dL_law_1966 : decode cL_law 1966 = .ok (.invokevirtual 239, 3) := by decide +kernel
theorem dL_law_1969 : decode cL_law 1969 = .ok (.if_icmp .eq 100, 3) := by decide +kernel
theorem dL_law_1972 : decode cL_law 1972 = .ok (.iconst 0, 1) := by decide +kernel
theorem dL_law_1973 : decode cL_law 1973 = .ok (.ireturn, 1) := by decide +kernel
theorem dL_law_1974 : decode cL_law 1974 = .ok (.aload_n 1, 1) := by decide +kernel
theorem dL_law_1975 : decode cL_law 1975 = .ok (.aload_n 0, 1) := by decide +kernel
theorem dL_law_1976 : decode cL_law 1976 = .ok (.iload_n 3, 1) := by decide +kernel
theorem dL_law_1977 : decode cL_law 1977 = .ok (.iconst 1, 1) := by decide +kernel
theorem dL_law_1978 : decode cL_law 1978 = .ok (.iadd, 1) := by decide +kernel
theorem dL_law_1979 : decode cL_law 1979 = .ok (.iaload, 1) := by decide +kernel
theorem dL_law_1980 : decode cL_law 1980 = .ok (.invokevirtual 240, 3) := by decide +kernel
theorem dL_law_1983 : decode cL_law 1983 = .ok (.aload_n 2, 1) := by decide +kernel
theorem dL_law_1984 : decode cL_law 1984 = .ok (.aload_n 0, 1) := by decide +kernel
theorem dL_law_1985 : decode cL_law 1985 = .ok (.iload_n 3, 1) := by decide +kernel
theorem dL_law_1986 : decode cL_law 1986 = .ok (.iconst 1, 1) := by decide +kernel
theorem dL_law_1987 : decode cL_law 1987 = .ok (.iadd, 1) := by decide +kernel
theorem dL_law_1988 : decode cL_law 1988 = .ok (.iaload, 1) := by decide +kernel
theorem dL_law_1989 : decode cL_law 1989 = .ok (.invokevirtual 243, 3) := by decide +kernel
theorem dL_law_1992 : decode cL_law 1992 = .ok (.if_icmp .eq 77, 3) := by decide +kernel
theorem dL_law_1995 : decode cL_law 1995 = .ok (.iconst 0, 1) := by decide +kernel
theorem dL_law_1996 : decode cL_law 1996 = .ok (.ireturn, 1) := by decide +kernel
theorem dL_law_1997 : decode cL_law 1997 = .ok (.aload_n 1, 1) := by decide +kernel
theorem dL_law_1998 : decode cL_law 1998 = .ok (.aload_n 0, 1) := by decide +kernel
theorem dL_law_1999 : decode cL_law 1999 = .ok (.iload_n 3, 1) := by decide +kernel
theorem dL_law_2000 : decode cL_law 2000 = .ok (.iconst 1, 1) := by decide +kernel
theorem dL_law_2001 : decode cL_law 2001 = .ok (.iadd, 1) := by decide +kernel
theorem dL_law_2002 : decode cL_law 2002 = .ok (.iaload, 1) := by decide +kernel
theorem dL_law_2003 : decode cL_law 2003 = .ok (.invokevirtual 244, 3) := by decide +kernel
theorem dL_law_2006 : decode cL_law 2006 = .ok (.aload_n 2, 1) := by decide +kernel
theorem dL_law_2007 : decode cL_law 2007 = .ok (.aload_n 0, 1) := by decide +kernel
theorem dL_law_2008 : decode cL_law 2008 = .ok (.iload_n 3, 1) := by decide +kernel
theorem dL_law_2009 : decode cL_law 2009 = .ok (.iconst 1, 1) := by decide +kernel
theorem dL_law_2010 : decode cL_law 2010 = .ok (.iadd, 1) := by decide +kernel
theorem dL_law_2011 : decode cL_law 2011 = .ok (.iaload, 1) := by decide +kernel
theorem dL_law_2012 : decode cL_law 2012 = .ok (.invokevirtual 247, 3) := by decide +kernel
theorem dL_law_2015 : decode cL_law 2015 = .ok (.if_icmp .eq 54, 3) := by decide +kernel
theorem dL_law_2018 : decode cL_law 2018 = .ok (.iconst 0, 1) := by decide +kernel
theorem dL_law_2019 : decode cL_law 2019 = .ok (.ireturn, 1) := by decide +kernel
theorem dL_law_2020 : decode cL_law 2020 = .ok (.aload_n 1, 1) := by decide +kernel
theorem dL_law_2021 : decode cL_law 2021 = .ok (.invokevirtual 248, 3) := by decide +kernel
theorem dL_law_2024 : decode cL_law 2024 = .ok (.aload_n 2, 1) := by decide +kernel
theorem dL_law_2025 : decode cL_law 2025 = .ok (.invokevirtual 251, 3) := by decide +kernel
theorem dL_law_2028 : decode cL_law 2028 = .ok (.if_icmp .eq 41, 3) := by decide +kernel
theorem dL_law_2031 : decode cL_law 2031 = .ok (.iconst 0, 1) := by decide +kernel
theorem dL_law_2032 : decode cL_law 2032 = .ok (.ireturn, 1) := by decide +kernel
theorem dL_law_2033 : decode cL_law 2033 = .ok (.aload_n 1, 1) := by decide +kernel
theorem dL_law_2034 : decode cL_law 2034 = .ok (.invokevirtual 252, 3) := by decide +kernel
theorem dL_law_2037 : decode cL_law 2037 = .ok (.aload_n 2, 1) := by decide +kernel
theorem dL_law_2038 : decode cL_law 2038 = .ok (.invokevirtual 255, 3) := by decide +kernel
theorem dL_law_2041 : decode cL_law 2041 = .ok (.if_icmp .eq 28, 3) := by decide +kernel
theorem dL_law_2044 : decode cL_law 2044 = .ok (.iconst 0, 1) := by decide +kernel
theorem dL_law_2045 : decode cL_law 2045 = .ok (.ireturn, 1) := by decide +kernel
theorem dL_law_2046 : decode cL_law 2046 = .ok (.aload_n 1, 1) := by decide +kernel
theorem dL_law_2047 : decode cL_law 2047 = .ok (.aload_n 0, 1) := by decide +kernel
theorem dL_law_2048 : decode cL_law 2048 = .ok (.iload_n 3, 1) := by decide +kernel
theorem dL_law_2049 : decode cL_law 2049 = .ok (.iconst 1, 1) := by decide +kernel
theorem dL_law_2050 : decode cL_law 2050 = .ok (.iadd, 1) := by decide +kernel
theorem dL_law_2051 : decode cL_law 2051 = .ok (.iaload, 1) := by decide +kernel
theorem dL_law_2052 : decode cL_law 2052 = .ok (.invokevirtual 256, 3) := by decide +kernel
theorem dL_law_2055 : decode cL_law 2055 = .ok (.aload_n 2, 1) := by decide +kernel
theorem dL_law_2056 : decode cL_law 2056 = .ok (.aload_n 0, 1) := by decide +kernel
theorem dL_law_2057 : decode cL_law 2057 = .ok (.iload_n 3, 1) := by decide +kernel
theorem dL_law_2058 : decode cL_law 2058 = .ok (.iconst 1, 1) := by decide +kernel
theorem dL_law_2059 : decode cL_law 2059 = .ok (.iadd, 1) := by decide +kernel
theorem dL_law_2060 : decode cL_law 2060 = .ok (.iaload, 1) := by decide +kernel
theorem dL_law_2061 : decode cL_law 2061 = .ok (.invokevirtual 259, 3) := by decide +kernel
theorem dL_law_2064 : decode cL_law 2064 = .ok (.if_icmp .eq 5, 3) := by decide +kernel
theorem dL_law_2067 : decode cL_law 2067 = .ok (.iconst 0, 1) := by decide +kernel
theorem dL_law_2068 : decode cL_law 2068 = .ok (.ireturn, 1) := by decide +kernel
theorem dL_law_2069 : decode cL_law 2069 = .ok (.iinc 3 6, 3) := by decide +kernel
theorem dL_law_2072 : decode cL_law 2072 = .ok (.goto (-2054), 3) := by decide +kernel
theorem dL_law_2075 : decode cL_law 2075 = .ok (.iconst 1, 1) := by decide +kernel
theorem dL_law_2076 : decode cL_law 2076 = .ok (.ireturn, 1) := by decide +kernel
